def f_L_law_J752 (xs : Nat → Int32) (L : Nat) (vl : Nat → Int32) (hs : Nat → Int32) (isz : Nat → Int32) (igd : Nat → Int32) (iup : Nat → Int32) (idn : Nat → Int32) (osz : Nat → Int32) (ogd : Nat → Int32) (oup : Nat → Int32) (odn : Nat → Int32) (dep : Nat → Int32) (rsz : Int32) (lgd : Nat → Int32) (llf : Nat → Int64) (ldb : Nat → Int64) (ldy : Nat → Int32) (lsz : Int32) (lti : Int64) (pgd : Nat → Int32) (plf : Nat → Int64) (pun : Nat → Int32) (psz : Int32) (bgd : Nat → Int32) (bam : Nat → Int64) (bwt : Nat → Int64) (bsh : Nat → Int64) (brm : Nat → Int64) (bsz : Int32) (cab : Nat → Int64) (cbl : Nat → Int64) (tod : Int32) (imp : Int64) (dis : Int64) (owe : Int64) (itr : Int64) (out : Nat → Int64) (mth : Int32) (mlo : Int32) (mre : Int32) (mpr : Int32) (mto : Int32) (mim : Int64) (mdi : Int64) (mow : Int64) (mit : Int64) (mvl : Nat → Int32) (mhs : Nat → Int32) (mns : Nat → Int32) (mby : Nat → Int32) (mng : Nat → Int32) (mnu : Nat → Int32) (mnd : Nat → Int32) (mbg : Nat → Int32) (mbu : Nat → Int32) (mbd : Nat → Int32) (mlg : Nat → Int32) (mly : Nat → Int32) (mll : Nat → Int64) (mld : Nat → Int64) (mpg : Nat → Int32) (mpu : Nat → Int32) (mpl : Nat → Int64) (mtd : Int64) (mti : Int64) (mwt : Nat → Int64) (mch : Nat → Int64) (x4 : Int32) (k23 : (Nat → Int32) → (Nat → Int32) → (Nat → Int32) → (Nat → Int32) → (Nat → Int32) → (Nat → Int32) → (Nat → Int32) → (Nat → Int32) → (Nat → Int32) → (Nat → Int32) → (Nat → Int32) → (Int32) → (Nat → Int32) → (Nat → Int64) → (Nat → Int64) → (Nat → Int32) → (Int32) → (Int64) → (Nat → Int32) → (Nat → Int64) → (Nat → Int32) → (Int32) → (Nat → Int32) → (Nat → Int64) → (Nat → Int64) → (Nat → Int64) → (Nat → Int64) → (Int32) → (Nat → Int64) → (Nat → Int64) → (Int32) → (Int64) → (Int64) → (Int64) → (Int64) → (Nat → Int64) → (Int32) → (Int32) → (Int32) → (Int32) → (Int32) → (Int64) → (Int64) → (Int64) → (Int64) → (Nat → Int32) → (Nat → Int32) → (Nat → Int32) → (Nat → Int32) → (Nat → Int32) → (Nat → Int32) → (Nat → Int32) → (Nat → Int32) → (Nat → Int32) → (Nat → Int32) → (Nat → Int32) → (Nat → Int32) → (Nat → Int64) → (Nat → Int64) → (Nat → Int32) → (Nat → Int32) → (Nat → Int64) → (Int64) → (Int64) → (Nat → Int64) → (Nat → Int64) → Int32 → Option Unit) : Option Unit :=
  ck (x4 + (1 : Int32)) L <|
  (f_X6_day tod (xs (x4 + (1 : Int32)).toNatClampNeg)).bind fun o2 =>
  ck (x4 + (1 : Int32)) L <|
  (f_X7_day mth mto (xs (x4 + (1 : Int32)).toNatClampNeg)).bind fun o5 =>
  if o2.1 = o5.1 then
    k23 vl hs isz igd iup idn osz ogd oup odn dep rsz lgd llf ldb ldy lsz lti pgd plf pun psz bgd bam bwt bsh brm bsz cab cbl o2.2 imp dis owe itr out o5.2.1 mlo mre mpr o5.2.2 mim mdi mow mit mvl mhs mns mby mng mnu mnd mbg mbu mbd mlg mly mll mld mpg mpu mpl mtd mti mwt mch (x4 + 5)
  else
    none
set_option maxHeartbeats 8000000 in
set_option maxRecDepth 100000 in
theorem w_L_law_J752 {p : Program} {l : Launch} {e : Env} {s : State} {m : MethodId} {below : List Frame} {meth : Method} {c : Code} {D : va_G} {cI cJ cZ : ClassId} {a b : Nat → Nat} {q bs L : Nat} {xs : Nat → Int32} {vl : Nat → Int32} {hs : Nat → Int32} {isz : Nat → Int32} {igd : Nat → Int32} {iup : Nat → Int32} {idn : Nat → Int32} {osz : Nat → Int32} {ogd : Nat → Int32} {oup : Nat → Int32} {odn : Nat → Int32} {dep : Nat → Int32} {rsz : Int32} {lgd : Nat → Int32} {llf : Nat → Int64} {ldb : Nat → Int64} {ldy : Nat → Int32} {lsz : Int32} {lti : Int64} {pgd : Nat → Int32} {plf : Nat → Int64} {pun : Nat → Int32} {psz : Int32} {bgd : Nat → Int32} {bam : Nat → Int64} {bwt : Nat → Int64} {bsh : Nat → Int64} {brm : Nat → Int64} {bsz : Int32} {cab : Nat → Int64} {cbl : Nat → Int64} {tod : Int32} {imp : Int64} {dis : Int64} {owe : Int64} {itr : Int64} {out : Nat → Int64} {mth : Int32} {mlo : Int32} {mre : Int32} {mpr : Int32} {mto : Int32} {mim : Int64} {mdi : Int64} {mow : Int64} {mit : Int64} {mvl : Nat → Int32} {mhs : Nat → Int32} {mns : Nat → Int32} {mby : Nat → Int32} {mng : Nat → Int32} {mnu : Nat → Int32} {mnd : Nat → Int32} {mbg : Nat → Int32} {mbu : Nat → Int32} {mbd : Nat → Int32} {mlg : Nat → Int32} {mly : Nat → Int32} {mll : Nat → Int64} {mld : Nat → Int64} {mpg : Nat → Int32} {mpu : Nat → Int32} {mpl : Nat → Int64} {mtd : Int64} {mti : Int64} {mwt : Nat → Int64} {mch : Nat → Int64} {j : Nat} {x4 : Int32} (C : gC p s m #[Value.ref bs] meth c cL_law 8 ret wsL_law RL (fun z : Nat => s.heap.size ≤ z)) (hV : gV l s (fun z : Nat => s.heap.size ≤ z)) (hX : va_X bs L xs s s.heap) (hbl : bs < s.heap.size) (hj : j + 1 ≤ 514) {k23 : (Nat → Int32) → (Nat → Int32) → (Nat → Int32) → (Nat → Int32) → (Nat → Int32) → (Nat → Int32) → (Nat → Int32) → (Nat → Int32) → (Nat → Int32) → (Nat → Int32) → (Nat → Int32) → (Int32) → (Nat → Int32) → (Nat → Int64) → (Nat → Int64) → (Nat → Int32) → (Int32) → (Int64) → (Nat → Int32) → (Nat → Int64) → (Nat → Int32) → (Int32) → (Nat → Int32) → (Nat → Int64) → (Nat → Int64) → (Nat → Int64) → (Nat → Int64) → (Int32) → (Nat → Int64) → (Nat → Int64) → (Int32) → (Int64) → (Int64) → (Int64) → (Int64) → (Nat → Int64) → (Int32) → (Int32) → (Int32) → (Int32) → (Int32) → (Int64) → (Int64) → (Int64) → (Int64) → (Nat → Int32) → (Nat → Int32) → (Nat → Int32) → (Nat → Int32) → (Nat → Int32) → (Nat → Int32) → (Nat → Int32) → (Nat → Int32) → (Nat → Int32) → (Nat → Int32) → (Nat → Int32) → (Nat → Int32) → (Nat → Int64) → (Nat → Int64) → (Nat → Int32) → (Nat → Int32) → (Nat → Int64) → (Int64) → (Int64) → (Nat → Int64) → (Nat → Int64) → Int32 → Option Unit} (hk23 : ∀ (vl : Nat → Int32) (hs : Nat → Int32) (isz : Nat → Int32) (igd : Nat → Int32) (iup : Nat → Int32) (idn : Nat → Int32) (osz : Nat → Int32) (ogd : Nat → Int32) (oup : Nat → Int32) (odn : Nat → Int32) (dep : Nat → Int32) (rsz : Int32) (lgd : Nat → Int32) (llf : Nat → Int64) (ldb : Nat → Int64) (ldy : Nat → Int32) (lsz : Int32) (lti : Int64) (pgd : Nat → Int32) (plf : Nat → Int64) (pun : Nat → Int32) (psz : Int32) (bgd : Nat → Int32) (bam : Nat → Int64) (bwt : Nat → Int64) (bsh : Nat → Int64) (brm : Nat → Int64) (bsz : Int32) (cab : Nat → Int64) (cbl : Nat → Int64) (tod : Int32) (imp : Int64) (dis : Int64) (owe : Int64) (itr : Int64) (out : Nat → Int64) (mth : Int32) (mlo : Int32) (mre : Int32) (mpr : Int32) (mto : Int32) (mim : Int64) (mdi : Int64) (mow : Int64) (mit : Int64) (mvl : Nat → Int32) (mhs : Nat → Int32) (mns : Nat → Int32) (mby : Nat → Int32) (mng : Nat → Int32) (mnu : Nat → Int32) (mnd : Nat → Int32) (mbg : Nat → Int32) (mbu : Nat → Int32) (mbd : Nat → Int32) (mlg : Nat → Int32) (mly : Nat → Int32) (mll : Nat → Int64) (mld : Nat → Int64) (mpg : Nat → Int32) (mpu : Nat → Int32) (mpl : Nat → Int64) (mtd : Int64) (mti : Int64) (mwt : Nat → Int64) (mch : Nat → Int64) (x4 : Int32) (H : Heap) (locs : List Loc) (ls : Array Slot), vE s (fun z : Nat => s.heap.size ≤ z) D (gT cI cJ cZ) (((cW a cI cJ cZ vl hs isz igd iup idn osz ogd oup odn dep rsz lgd llf ldb ldy lsz lti pgd plf pun psz bgd bam bwt bsh brm bsz cab cbl tod imp dis owe itr) ++ [(q, .inl (cJ, 1, .inr (.inl out)))]) ++ (mW b cI cJ cZ mth mlo mre mpr mto mim mdi mow mit mvl mhs mns mby mng mnu mnd mbg mbu mbd mlg mly mll mld mpg mpu mpl mtd mti mwt mch)) H locs → lv_has ls 8 [(0, .ref bs), (1, .ref (a 0)), (2, .ref (b 0)), (3, .ref q), (4, .int x4)] → k23 vl hs isz igd iup idn osz ogd oup odn dep rsz lgd llf ldb ldy lsz lti pgd plf pun psz bgd bam bwt bsh brm bsz cab cbl tod imp dis owe itr out mth mlo mre mpr mto mim mdi mow mit mvl mhs mns mby mng mnu mnd mbg mbu mbd mlg mly mll mld mpg mpu mpl mtd mti mwt mch x4 = some () → W p l e room_1 s m #[Value.ref bs] below meth c H locs (54 + (j + 1)) (2581 + 6 * (j + 1)) (lw_Z below #[Value.ref bs] s) (F0 m 23 ls [])) {H : Heap} {locs : List Loc} {ls : Array Slot} (E : vE s (fun z : Nat => s.heap.size ≤ z) D (gT cI cJ cZ) (((cW a cI cJ cZ vl hs isz igd iup idn osz ogd oup odn dep rsz lgd llf ldb ldy lsz lti pgd plf pun psz bgd bam bwt bsh brm bsz cab cbl tod imp dis owe itr) ++ [(q, .inl (cJ, 1, .inr (.inl out)))]) ++ (mW b cI cJ cZ mth mlo mre mpr mto mim mdi mow mit mvl mhs mns mby mng mnu mnd mbg mbu mbd mlg mly mll mld mpg mpu mpl mtd mti mwt mch)) H locs) (hl : lv_has ls 8 [(0, .ref bs), (1, .ref (a 0)), (2, .ref (b 0)), (3, .ref q), (4, .int x4)]) (hf : f_L_law_J752 xs L vl hs isz igd iup idn osz ogd oup odn dep rsz lgd llf ldb ldy lsz lti pgd plf pun psz bgd bam bwt bsh brm bsz cab cbl tod imp dis owe itr out mth mlo mre mpr mto mim mdi mow mit mvl mhs mns mby mng mnu mnd mbg mbu mbd mlg mly mll mld mpg mpu mpl mtd mti mwt mch x4 k23 = some ()) : W p l e room_1 s m #[Value.ref bs] below meth c H locs (54 + j) (2581 + 6 * j) (lw_Z below #[Value.ref bs] s) (F0 m 752 ls []) := by
  obtain ⟨hx, hb, hr, hml, hown, hts, hlocks, hN, hA⟩ := id C
  have hl0 : l.stackTraces = false := hV.1
  have hbA : ¬ (fun z : Nat => s.heap.size ≤ z) bs := Nat.not_le.mpr hbl
  rw [f_L_law_J752] at hf
  refine lv_aload_n hx hb dL_law_752 rfl (lv_at hl 1 rfl) ?_
  refine lv_aload_n hx hb dL_law_753 rfl (lv_at hl 0 rfl) ?_
  refine lv_iload hx hb dL_law_754 (lv_at hl 4 rfl) ?_
  refine lv_iconst (v := 1) hx hb dL_law_756 (by decide) ?_
  refine lv_iadd hx hb dL_law_757 ?_
  obtain ⟨h1, hf⟩ := ck_some hf
  refine va_sld hx hb hX hbl hbA E.2.2.2 h1 dL_law_758 ?_
  obtain ⟨o2, e3, hf⟩ := bd_some hf
  refine g_calliF (wc := (cW a cI cJ cZ vl hs isz igd iup idn osz ogd oup odn dep rsz lgd llf ldb ldy lsz lti pgd plf pun psz bgd bam bwt bsh brm bsz cab cbl tod imp dis owe itr)) (wc' := (cW a cI cJ cZ vl hs isz igd iup idn osz ogd oup odn dep rsz lgd llf ldb ldy lsz lti pgd plf pun psz bgd bam bwt bsh brm bsz cab cbl o2.2 imp dis owe itr)) (wr := ([(q, .inl (cJ, 1, .inr (.inl out)))] ++ (mW b cI cJ cZ mth mlo mre mpr mto mim mdi mow mit mvl mhs mns mby mng mnu mnd mbg mbu mbd mlg mly mll mld mpg mpu mpl mtd mti mwt mch))) C (vE_as E) (g_runV (As := [.int (xs (x4 + (1 : Int32)).toNatClampNeg)]) (rest := []) C (vE_left (vE_as E)) (c_X6_day e3) (cwV 1 hts gL_law_X6_day rfl rfl rfl ⟨rfl, hd_X6_day⟩ ⟨(Nat.le_of_ble_eq_true rfl), (Nat.le_of_ble_eq_true rfl)⟩) (q0 := 0) (ci := 6) rfl rfl rfl rfl hl.1 rfl (Nat.le_of_ble_eq_true rfl) dL_law_759 ⟨show 54 + j + 0 ≤ 1090 by omega, show 2581 + 6 * j + 0 ≤ 10845 by omega⟩) (fun H locs E => ?_)
  replace E := vE_sa E
  refine lv_aload_n hx hb dL_law_762 rfl (lv_at hl 2 rfl) ?_
  refine lv_aload_n hx hb dL_law_763 rfl (lv_at hl 0 rfl) ?_
  refine lv_iload hx hb dL_law_764 (lv_at hl 4 rfl) ?_
  refine lv_iconst (v := 1) hx hb dL_law_766 (by decide) ?_
  refine lv_iadd hx hb dL_law_767 ?_
  obtain ⟨h4, hf⟩ := ck_some hf
  refine va_sld hx hb hX hbl hbA E.2.2.2 h4 dL_law_768 ?_
  obtain ⟨o5, e6, hf⟩ := bd_some hf
  refine g_calliF (wc := (mW b cI cJ cZ mth mlo mre mpr mto mim mdi mow mit mvl mhs mns mby mng mnu mnd mbg mbu mbd mlg mly mll mld mpg mpu mpl mtd mti mwt mch)) (wc' := (mW b cI cJ cZ o5.2.1 mlo mre mpr o5.2.2 mim mdi mow mit mvl mhs mns mby mng mnu mnd mbg mbu mbd mlg mly mll mld mpg mpu mpl mtd mti mwt mch)) (wr := ((cW a cI cJ cZ vl hs isz igd iup idn osz ogd oup odn dep rsz lgd llf ldb ldy lsz lti pgd plf pun psz bgd bam bwt bsh brm bsz cab cbl o2.2 imp dis owe itr) ++ [(q, .inl (cJ, 1, .inr (.inl out)))])) C (vE_swap E) (g_runV (As := [.int (xs (x4 + (1 : Int32)).toNatClampNeg)]) (rest := [.int o2.1]) C (vE_left (vE_swap E)) (c_X7_day e6) (cwV 1 hts gL_law_X7_day rfl rfl rfl ⟨rfl, hd_X7_day⟩ ⟨(Nat.le_of_ble_eq_true rfl), (Nat.le_of_ble_eq_true rfl)⟩) (q0 := 0) (ci := 7) rfl rfl rfl rfl hl.1 rfl (Nat.le_of_ble_eq_true rfl) dL_law_769 ⟨show 54 + j + 0 ≤ 1090 by omega, show 2581 + 6 * j + 0 ≤ 10845 by omega⟩) (fun H locs E => ?_)
  replace E := vE_swap E
  refine lv_icmp_eq (tgt := 1108) hx hb dL_law_772 (by decide) (fun c7 => ?_) (fun c7 => ?_)
  · rw [if_pos c7] at hf
    refine lv_iinc (v := (x4 + 5)) (lv' := [(4, .int (x4 + 5)), (0, .ref bs), (1, .ref (a 0)), (2, .ref (b 0)), (3, .ref q)]) hx hb dL_law_1108 hl (k := 4) rfl rfl (by decide) rfl (fun ls hl => ?_)
    refine lv_goto (tgt := 23) hx hb dL_law_1111 (by decide) ?_
    refine W.widen (k := 54 + (j + 1)) (n := 2581 + 6 * (j + 1)) (by omega) (by omega) ?_
    exact hk23 vl hs isz igd iup idn osz ogd oup odn dep rsz lgd llf ldb ldy lsz lti pgd plf pun psz bgd bam bwt bsh brm bsz cab cbl o2.2 imp dis owe itr out o5.2.1 mlo mre mpr o5.2.2 mim mdi mow mit mvl mhs mns mby mng mnu mnd mbg mbu mbd mlg mly mll mld mpg mpu mpl mtd mti mwt mch (x4 + 5) _ _ _ E (lv_sub hl [1, 2, 3, 4, 0] rfl) hf
  · rw [if_neg c7] at hf
    refine lv_iconst (v := 0) hx hb dL_law_775 (by decide) ?_
    cases hf
def f_L_law_J672 (xs : Nat → Int32) (L : Nat) (vl : Nat → Int32) (hs : Nat → Int32) (isz : Nat → Int32) (igd : Nat → Int32) (iup : Nat → Int32) (idn : Nat → Int32) (osz : Nat → Int32) (ogd : Nat → Int32) (oup : Nat → Int32) (odn : Nat → Int32) (dep : Nat → Int32) (rsz : Int32) (lgd : Nat → Int32) (llf : Nat → Int64) (ldb : Nat → Int64) (ldy : Nat → Int32) (lsz : Int32) (lti : Int64) (pgd : Nat → Int32) (plf : Nat → Int64) (pun : Nat → Int32) (psz : Int32) (bgd : Nat → Int32) (bam : Nat → Int64) (bwt : Nat → Int64) (bsh : Nat → Int64) (brm : Nat → Int64) (bsz : Int32) (cab : Nat → Int64) (cbl : Nat → Int64) (tod : Int32) (imp : Int64) (dis : Int64) (owe : Int64) (itr : Int64) (out : Nat → Int64) (mth : Int32) (mlo : Int32) (mre : Int32) (mpr : Int32) (mto : Int32) (mim : Int64) (mdi : Int64) (mow : Int64) (mit : Int64) (mvl : Nat → Int32) (mhs : Nat → Int32) (mns : Nat → Int32) (mby : Nat → Int32) (mng : Nat → Int32) (mnu : Nat → Int32) (mnd : Nat → Int32) (mbg : Nat → Int32) (mbu : Nat → Int32) (mbd : Nat → Int32) (mlg : Nat → Int32) (mly : Nat → Int32) (mll : Nat → Int64) (mld : Nat → Int64) (mpg : Nat → Int32) (mpu : Nat → Int32) (mpl : Nat → Int64) (mtd : Int64) (mti : Int64) (mwt : Nat → Int64) (mch : Nat → Int64) (x4 : Int32) (k23 : (Nat → Int32) → (Nat → Int32) → (Nat → Int32) → (Nat → Int32) → (Nat → Int32) → (Nat → Int32) → (Nat → Int32) → (Nat → Int32) → (Nat → Int32) → (Nat → Int32) → (Nat → Int32) → (Int32) → (Nat → Int32) → (Nat → Int64) → (Nat → Int64) → (Nat → Int32) → (Int32) → (Int64) → (Nat → Int32) → (Nat → Int64) → (Nat → Int32) → (Int32) → (Nat → Int32) → (Nat → Int64) → (Nat → Int64) → (Nat → Int64) → (Nat → Int64) → (Int32) → (Nat → Int64) → (Nat → Int64) → (Int32) → (Int64) → (Int64) → (Int64) → (Int64) → (Nat → Int64) → (Int32) → (Int32) → (Int32) → (Int32) → (Int32) → (Int64) → (Int64) → (Int64) → (Int64) → (Nat → Int32) → (Nat → Int32) → (Nat → Int32) → (Nat → Int32) → (Nat → Int32) → (Nat → Int32) → (Nat → Int32) → (Nat → Int32) → (Nat → Int32) → (Nat → Int32) → (Nat → Int32) → (Nat → Int32) → (Nat → Int64) → (Nat → Int64) → (Nat → Int32) → (Nat → Int32) → (Nat → Int64) → (Int64) → (Int64) → (Nat → Int64) → (Nat → Int64) → Int32 → Option Unit) : Option Unit :=
  ck (x4 + (1 : Int32)) L <|
  ck (x4 + (2 : Int32)) L <|
  ck (x4 + (3 : Int32)) L <|
  (f_L_prior pgd plf pun psz (xs (x4 + (1 : Int32)).toNatClampNeg) (xs (x4 + (2 : Int32)).toNatClampNeg) (xs (x4 + (3 : Int32)).toNatClampNeg) out).bind fun o4 =>
  ck (x4 + (1 : Int32)) L <|
  ck (x4 + (2 : Int32)) L <|
  ck (x4 + (3 : Int32)) L <|
  (f_X7_prior mth mpr mpg mpu mpl (xs (x4 + (1 : Int32)).toNatClampNeg) (xs (x4 + (2 : Int32)).toNatClampNeg) (xs (x4 + (3 : Int32)).toNatClampNeg)).bind fun o9 =>
  (f_X7_thrown o9.2.1).bind fun o11 =>
  if o11 = o4.1 then
    if o4.1 = 0 then
      ck (0 : Int32) 1 <|
      if (lg_cmp (o4.2.2.2.2.2 (0 : Int32).toNatClampNeg) o9.1.toInt64) = 0 then
        k23 vl hs isz igd iup idn osz ogd oup odn dep rsz lgd llf ldb ldy lsz lti o4.2.1 o4.2.2.1 o4.2.2.2.1 o4.2.2.2.2.1 bgd bam bwt bsh brm bsz cab cbl tod imp dis owe itr o4.2.2.2.2.2 o9.2.1 mlo mre o9.2.2.1 mto mim mdi mow mit mvl mhs mns mby mng mnu mnd mbg mbu mbd mlg mly mll mld o9.2.2.2.1 o9.2.2.2.2.1 o9.2.2.2.2.2 mtd mti mwt mch (x4 + 5)
      else
        none
    else
      k23 vl hs isz igd iup idn osz ogd oup odn dep rsz lgd llf ldb ldy lsz lti o4.2.1 o4.2.2.1 o4.2.2.2.1 o4.2.2.2.2.1 bgd bam bwt bsh brm bsz cab cbl tod imp dis owe itr o4.2.2.2.2.2 o9.2.1 mlo mre o9.2.2.1 mto mim mdi mow mit mvl mhs mns mby mng mnu mnd mbg mbu mbd mlg mly mll mld o9.2.2.2.1 o9.2.2.2.2.1 o9.2.2.2.2.2 mtd mti mwt mch (x4 + 5)
  else
    none
set_option maxHeartbeats 8000000 in
set_option maxRecDepth 100000 in
theorem w_L_law_J672 {p : Program} {l : Launch} {e : Env} {s : State} {m : MethodId} {below : List Frame} {meth : Method} {c : Code} {D : va_G} {cI cJ cZ : ClassId} {a b : Nat → Nat} {q bs L : Nat} {xs : Nat → Int32} {vl : Nat → Int32} {hs : Nat → Int32} {isz : Nat → Int32} {igd : Nat → Int32} {iup : Nat → Int32} {idn : Nat → Int32} {osz : Nat → Int32} {ogd : Nat → Int32} {oup : Nat → Int32} {odn : Nat → Int32} {dep : Nat → Int32} {rsz : Int32} {lgd : Nat → Int32} {llf : Nat → Int64} {ldb : Nat → Int64} {ldy : Nat → Int32} {lsz : Int32} {lti : Int64} {pgd : Nat → Int32} {plf : Nat → Int64} {pun : Nat → Int32} {psz : Int32} {bgd : Nat → Int32} {bam : Nat → Int64} {bwt : Nat → Int64} {bsh : Nat → Int64} {brm : Nat → Int64} {bsz : Int32} {cab : Nat → Int64} {cbl : Nat → Int64} {tod : Int32} {imp : Int64} {dis : Int64} {owe : Int64} {itr : Int64} {out : Nat → Int64} {mth : Int32} {mlo : Int32} {mre : Int32} {mpr : Int32} {mto : Int32} {mim : Int64} {mdi : Int64} {mow : Int64} {mit : Int64} {mvl : Nat → Int32} {mhs : Nat → Int32} {mns : Nat → Int32} {mby : Nat → Int32} {mng : Nat → Int32} {mnu : Nat → Int32} {mnd : Nat → Int32} {mbg : Nat → Int32} {mbu : Nat → Int32} {mbd : Nat → Int32} {mlg : Nat → Int32} {mly : Nat → Int32} {mll : Nat → Int64} {mld : Nat → Int64} {mpg : Nat → Int32} {mpu : Nat → Int32} {mpl : Nat → Int64} {mtd : Int64} {mti : Int64} {mwt : Nat → Int64} {mch : Nat → Int64} {j : Nat} {x4 : Int32} (C : gC p s m #[Value.ref bs] meth c cL_law 8 ret wsL_law RL (fun z : Nat => s.heap.size ≤ z)) (hV : gV l s (fun z : Nat => s.heap.size ≤ z)) (hX : va_X bs L xs s s.heap) (hbl : bs < s.heap.size) (hj : j + 1 ≤ 514) {k23 : (Nat → Int32) → (Nat → Int32) → (Nat → Int32) → (Nat → Int32) → (Nat → Int32) → (Nat → Int32) → (Nat → Int32) → (Nat → Int32) → (Nat → Int32) → (Nat → Int32) → (Nat → Int32) → (Int32) → (Nat → Int32) → (Nat → Int64) → (Nat → Int64) → (Nat → Int32) → (Int32) → (Int64) → (Nat → Int32) → (Nat → Int64) → (Nat → Int32) → (Int32) → (Nat → Int32) → (Nat → Int64) → (Nat → Int64) → (Nat → Int64) → (Nat → Int64) → (Int32) → (Nat → Int64) → (Nat → Int64) → (Int32) → (Int64) → (Int64) → (Int64) → (Int64) → (Nat → Int64) → (Int32) → (Int32) → (Int32) → (Int32) → (Int32) → (Int64) → (Int64) → (Int64) → (Int64) → (Nat → Int32) → (Nat → Int32) → (Nat → Int32) → (Nat → Int32) → (Nat → Int32) → (Nat → Int32) → (Nat → Int32) → (Nat → Int32) → (Nat → Int32) → (Nat → Int32) → (Nat → Int32) → (Nat → Int32) → (Nat → Int64) → (Nat → Int64) → (Nat → Int32) → (Nat → Int32) → (Nat → Int64) → (Int64) → (Int64) → (Nat → Int64) → (Nat → Int64) → Int32 → Option Unit} (hk23 : ∀ (vl : Nat → Int32) (hs : Nat → Int32) (isz : Nat → Int32) (igd : Nat → Int32) (iup : Nat → Int32) (idn : Nat → Int32) (osz : Nat → Int32) (ogd : Nat → Int32) (oup : Nat → Int32) (odn : Nat → Int32) (dep : Nat → Int32) (rsz : Int32) (lgd : Nat → Int32) (llf : Nat → Int64) (ldb : Nat → Int64) (ldy : Nat → Int32) (lsz : Int32) (lti : Int64) (pgd : Nat → Int32) (plf : Nat → Int64) (pun : Nat → Int32) (psz : Int32) (bgd : Nat → Int32) (bam : Nat → Int64) (bwt : Nat → Int64) (bsh : Nat → Int64) (brm : Nat → Int64) (bsz : Int32) (cab : Nat → Int64) (cbl : Nat → Int64) (tod : Int32) (imp : Int64) (dis : Int64) (owe : Int64) (itr : Int64) (out : Nat → Int64) (mth : Int32) (mlo : Int32) (mre : Int32) (mpr : Int32) (mto : Int32) (mim : Int64) (mdi : Int64) (mow : Int64) (mit : Int64) (mvl : Nat → Int32) (mhs : Nat → Int32) (mns : Nat → Int32) (mby : Nat → Int32) (mng : Nat → Int32) (mnu : Nat → Int32) (mnd : Nat → Int32) (mbg : Nat → Int32) (mbu : Nat → Int32) (mbd : Nat → Int32) (mlg : Nat → Int32) (mly : Nat → Int32) (mll : Nat → Int64) (mld : Nat → Int64) (mpg : Nat → Int32) (mpu : Nat → Int32) (mpl : Nat → Int64) (mtd : Int64) (mti : Int64) (mwt : Nat → Int64) (mch : Nat → Int64) (x4 : Int32) (H : Heap) (locs : List Loc) (ls : Array Slot), vE s (fun z : Nat => s.heap.size ≤ z) D (gT cI cJ cZ) (((cW a cI cJ cZ vl hs isz igd iup idn osz ogd oup odn dep rsz lgd llf ldb ldy lsz lti pgd plf pun psz bgd bam bwt bsh brm bsz cab cbl tod imp dis owe itr) ++ [(q, .inl (cJ, 1, .inr (.inl out)))]) ++ (mW b cI cJ cZ mth mlo mre mpr mto mim mdi mow mit mvl mhs mns mby mng mnu mnd mbg mbu mbd mlg mly mll mld mpg mpu mpl mtd mti mwt mch)) H locs → lv_has ls 8 [(0, .ref bs), (1, .ref (a 0)), (2, .ref (b 0)), (3, .ref q), (4, .int x4)] → k23 vl hs isz igd iup idn osz ogd oup odn dep rsz lgd llf ldb ldy lsz lti pgd plf pun psz bgd bam bwt bsh brm bsz cab cbl tod imp dis owe itr out mth mlo mre mpr mto mim mdi mow mit mvl mhs mns mby mng mnu mnd mbg mbu mbd mlg mly mll mld mpg mpu mpl mtd mti mwt mch x4 = some () → W p l e room_1 s m #[Value.ref bs] below meth c H locs (54 + (j + 1)) (2581 + 6 * (j + 1)) (lw_Z below #[Value.ref bs] s) (F0 m 23 ls [])) {H : Heap} {locs : List Loc} {ls : Array Slot} (E : vE s (fun z : Nat => s.heap.size ≤ z) D (gT cI cJ cZ) (((cW a cI cJ cZ vl hs isz igd iup idn osz ogd oup odn dep rsz lgd llf ldb ldy lsz lti pgd plf pun psz bgd bam bwt bsh brm bsz cab cbl tod imp dis owe itr) ++ [(q, .inl (cJ, 1, .inr (.inl out)))]) ++ (mW b cI cJ cZ mth mlo mre mpr mto mim mdi mow mit mvl mhs mns mby mng mnu mnd mbg mbu mbd mlg mly mll mld mpg mpu mpl mtd mti mwt mch)) H locs) (hl : lv_has ls 8 [(0, .ref bs), (1, .ref (a 0)), (2, .ref (b 0)), (3, .ref q), (4, .int x4)]) (hf : f_L_law_J672 xs L vl hs isz igd iup idn osz ogd oup odn dep rsz lgd llf ldb ldy lsz lti pgd plf pun psz bgd bam bwt bsh brm bsz cab cbl tod imp dis owe itr out mth mlo mre mpr mto mim mdi mow mit mvl mhs mns mby mng mnu mnd mbg mbu mbd mlg mly mll mld mpg mpu mpl mtd mti mwt mch x4 k23 = some ()) : W p l e room_1 s m #[Value.ref bs] below meth c H locs (54 + j) (2581 + 6 * j) (lw_Z below #[Value.ref bs] s) (F0 m 672 ls []) := by
  obtain ⟨hx, hb, hr, hml, hown, hts, hlocks, hN, hA⟩ := id C
  have hl0 : l.stackTraces = false := hV.1
  have hbA : ¬ (fun z : Nat => s.heap.size ≤ z) bs := Nat.not_le.mpr hbl
  rw [f_L_law_J672] at hf
  refine lv_aload_n hx hb dL_law_672 rfl (lv_at hl 1 rfl) ?_
  refine lv_aload_n hx hb dL_law_673 rfl (lv_at hl 0 rfl) ?_
  refine lv_iload hx hb dL_law_674 (lv_at hl 4 rfl) ?_
  refine lv_iconst (v := 1) hx hb dL_law_676 (by decide) ?_
  refine lv_iadd hx hb dL_law_677 ?_
  obtain ⟨h1, hf⟩ := ck_some hf
  refine va_sld hx hb hX hbl hbA E.2.2.2 h1 dL_law_678 ?_
  refine lv_aload_n hx hb dL_law_679 rfl (lv_at hl 0 rfl) ?_
  refine lv_iload hx hb dL_law_680 (lv_at hl 4 rfl) ?_
  refine lv_iconst (v := 2) hx hb dL_law_682 (by decide) ?_
  refine lv_iadd hx hb dL_law_683 ?_
  obtain ⟨h2, hf⟩ := ck_some hf
  refine va_sld hx hb hX hbl hbA E.2.2.2 h2 dL_law_684 ?_
  refine lv_aload_n hx hb dL_law_685 rfl (lv_at hl 0 rfl) ?_
  refine lv_iload hx hb dL_law_686 (lv_at hl 4 rfl) ?_
  refine lv_iconst (v := 3) hx hb dL_law_688 (by decide) ?_
  refine lv_iadd hx hb dL_law_689 ?_
  obtain ⟨h3, hf⟩ := ck_some hf
  refine va_sld hx hb hX hbl hbA E.2.2.2 h3 dL_law_690 ?_
  refine lv_aload_n hx hb dL_law_691 rfl (lv_at hl 3 rfl) ?_
  obtain ⟨o4, e5, hf⟩ := bd_some hf
  refine g_calliW (wc := ((cW a cI cJ cZ vl hs isz igd iup idn osz ogd oup odn dep rsz lgd llf ldb ldy lsz lti pgd plf pun psz bgd bam bwt bsh brm bsz cab cbl tod imp dis owe itr) ++ [(q, .inl (cJ, 1, .inr (.inl out)))])) (wc' := ((cW a cI cJ cZ vl hs isz igd iup idn osz ogd oup odn dep rsz lgd llf ldb ldy lsz lti o4.2.1 o4.2.2.1 o4.2.2.2.1 o4.2.2.2.2.1 bgd bam bwt bsh brm bsz cab cbl tod imp dis owe itr) ++ [(q, .inl (cJ, 1, .inr (.inl o4.2.2.2.2.2)))])) (wr := (mW b cI cJ cZ mth mlo mre mpr mto mim mdi mow mit mvl mhs mns mby mng mnu mnd mbg mbu mbd mlg mly mll mld mpg mpu mpl mtd mti mwt mch)) C E (g_runSW (As := [.ref (a 0), .int (xs (x4 + (1 : Int32)).toNatClampNeg), .int (xs (x4 + (2 : Int32)).toNatClampNeg), .int (xs (x4 + (3 : Int32)).toNatClampNeg), .ref q]) (rest := []) C (vE_left E) hV (c_L_prior hl0 e5) (vx_cwSW 5 hts gL_law_L_prior rfl rfl rfl hd_L_prior ⟨(Nat.le_of_ble_eq_true rfl), (Nat.le_of_ble_eq_true rfl)⟩) rfl hl.1 rfl (Nat.le_of_ble_eq_true rfl) dL_law_692 ⟨show 54 + j + 1 ≤ 1090 by omega, show 2581 + 6 * j + 6 ≤ 10845 by omega⟩) (fun H locs E => ?_)
  refine lv_istore (lv' := [(5, .int o4.1), (0, .ref bs), (1, .ref (a 0)), (2, .ref (b 0)), (3, .ref q), (4, .int x4)]) hx hb dL_law_695 hl (by decide) rfl (fun ls hl => ?_)
  refine lv_aload_n hx hb dL_law_697 rfl (lv_at hl 3 rfl) ?_
  refine lv_aload_n hx hb dL_law_698 rfl (lv_at hl 1 rfl) ?_
  refine lv_iload hx hb dL_law_699 (lv_at hl 5 rfl) ?_
  refine lv_iconst (v := 1) hx hb dL_law_701 (by decide) ?_
  refine lv_iadd hx hb dL_law_702 ?_
  obtain ⟨h6, hf⟩ := ck_some hf
  refine va_sld hx hb hX hbl hbA E.2.2.2 h6 dL_law_703 ?_
  refine lv_aload_n hx hb dL_law_704 rfl (lv_at hl 1 rfl) ?_
  refine lv_iload hx hb dL_law_705 (lv_at hl 5 rfl) ?_
  refine lv_iconst (v := 2) hx hb dL_law_707 (by decide) ?_
  refine lv_iadd hx hb dL_law_708 ?_
  obtain ⟨h7, hf⟩ := ck_some hf
  refine va_sld hx hb hX hbl hbA E.2.2.2 h7 dL_law_709 ?_
  refine lv_aload_n hx hb dL_law_710 rfl (lv_at hl 1 rfl) ?_
  refine lv_iload hx hb dL_law_711 (lv_at hl 5 rfl) ?_
  refine lv_iconst (v := 3) hx hb dL_law_713 (by decide) ?_
  refine lv_iadd hx hb dL_law_714 ?_
  obtain ⟨h8, hf⟩ := ck_some hf
  refine va_sld hx hb hX hbl hbA E.2.2.2 h8 dL_law_715 ?_
  obtain ⟨o9, e10, hf⟩ := bd_some hf
  refine g_calliF (wc := (mW b cI cJ cZ mth mlo mre mpr mto mim mdi mow mit mvl mhs mns mby mng mnu mnd mbg mbu mbd mlg mly mll mld mpg mpu mpl mtd mti mwt mch)) (wc' := (mW b cI cJ cZ o9.2.1 mlo mre o9.2.2.1 mto mim mdi mow mit mvl mhs mns mby mng mnu mnd mbg mbu mbd mlg mly mll mld o9.2.2.2.1 o9.2.2.2.2.1 o9.2.2.2.2.2 mtd mti mwt mch)) (wr := ((cW a cI cJ cZ vl hs isz igd iup idn osz ogd oup odn dep rsz lgd llf ldb ldy lsz lti o4.2.1 o4.2.2.1 o4.2.2.2.1 o4.2.2.2.2.1 bgd bam bwt bsh brm bsz cab cbl tod imp dis owe itr) ++ [(q, .inl (cJ, 1, .inr (.inl o4.2.2.2.2.2)))])) C (vE_swap E) (g_runV (As := [.int (xs (x4 + (1 : Int32)).toNatClampNeg), .int (xs (x4 + (2 : Int32)).toNatClampNeg), .int (xs (x4 + (3 : Int32)).toNatClampNeg)]) (rest := []) C (vE_left (vE_swap E)) (c_X7_prior e10) (cwV 3 hts gL_law_X7_prior rfl rfl rfl ⟨rfl, hd_X7_prior⟩ ⟨(Nat.le_of_ble_eq_true rfl), (Nat.le_of_ble_eq_true rfl)⟩) (q0 := 0) (ci := 7) rfl rfl rfl rfl hl.1 rfl (Nat.le_of_ble_eq_true rfl) dL_law_716 ⟨show 54 + j + 1 + 0 ≤ 1090 by omega, show 2581 + 6 * j + 6 + 0 ≤ 10845 by omega⟩) (fun H locs E => ?_)
  replace E := vE_swap E
  refine lv_istore (lv' := [(6, .int o9.1), (5, .int o4.1), (0, .ref bs), (1, .ref (a 0)), (2, .ref (b 0)), (3, .ref q), (4, .int x4)]) hx hb dL_law_719 hl (by decide) rfl (fun ls hl => ?_)
  refine lv_aload_n hx hb dL_law_721 rfl (lv_at hl 4 rfl) ?_
  obtain ⟨o11, e12, hf⟩ := bd_some hf
  refine g_calliF (wc := (mW b cI cJ cZ o9.2.1 mlo mre o9.2.2.1 mto mim mdi mow mit mvl mhs mns mby mng mnu mnd mbg mbu mbd mlg mly mll mld o9.2.2.2.1 o9.2.2.2.2.1 o9.2.2.2.2.2 mtd mti mwt mch)) (wc' := (mW b cI cJ cZ o9.2.1 mlo mre o9.2.2.1 mto mim mdi mow mit mvl mhs mns mby mng mnu mnd mbg mbu mbd mlg mly mll mld o9.2.2.2.1 o9.2.2.2.2.1 o9.2.2.2.2.2 mtd mti mwt mch)) (wr := ((cW a cI cJ cZ vl hs isz igd iup idn osz ogd oup odn dep rsz lgd llf ldb ldy lsz lti o4.2.1 o4.2.2.1 o4.2.2.2.1 o4.2.2.2.2.1 bgd bam bwt bsh brm bsz cab cbl tod imp dis owe itr) ++ [(q, .inl (cJ, 1, .inr (.inl o4.2.2.2.2.2)))])) C (vE_swap E) (g_runV (As := []) (rest := []) C (vE_left (vE_swap E)) (c_X7_thrown e12) (cwV 0 hts gL_law_X7_thrown rfl rfl rfl ⟨rfl, hd_X7_thrown⟩ ⟨(Nat.le_of_ble_eq_true rfl), (Nat.le_of_ble_eq_true rfl)⟩) (q0 := 0) (ci := 7) rfl rfl rfl rfl hl.1 rfl (Nat.le_of_ble_eq_true rfl) dL_law_722 ⟨show 54 + j + 1 + 0 ≤ 1090 by omega, show 2581 + 6 * j + 6 + 0 ≤ 10845 by omega⟩) (fun H locs E => ?_)
  replace E := vE_swap E
  refine lv_iload hx hb dL_law_725 (lv_at hl 1 rfl) ?_
  refine lv_icmp_eq (tgt := 732) hx hb dL_law_727 (by decide) (fun c13 => ?_) (fun c13 => ?_)
  · rw [if_pos c13] at hf
    refine lv_iload hx hb dL_law_732 (lv_at hl 1 rfl) ?_
    refine lv_if_ne (tgt := 749) hx hb dL_law_734 (by decide) (fun c14 => ?_) (fun c14 => ?_)
    · rw [if_neg c14] at hf
      refine lv_goto (tgt := 1108) hx hb dL_law_749 (by decide) ?_
      refine lv_iinc (v := (x4 + 5)) (lv' := [(4, .int (x4 + 5)), (6, .int o9.1), (5, .int o4.1), (0, .ref bs), (1, .ref (a 0)), (2, .ref (b 0)), (3, .ref q)]) hx hb dL_law_1108 hl (k := 6) rfl rfl (by decide) rfl (fun ls hl => ?_)
      refine lv_goto (tgt := 23) hx hb dL_law_1111 (by decide) ?_
      refine W.widen (k := 54 + (j + 1)) (n := 2581 + 6 * (j + 1)) (by omega) (by omega) ?_
      exact hk23 vl hs isz igd iup idn osz ogd oup odn dep rsz lgd llf ldb ldy lsz lti o4.2.1 o4.2.2.1 o4.2.2.2.1 o4.2.2.2.2.1 bgd bam bwt bsh brm bsz cab cbl tod imp dis owe itr o4.2.2.2.2.2 o9.2.1 mlo mre o9.2.2.1 mto mim mdi mow mit mvl mhs mns mby mng mnu mnd mbg mbu mbd mlg mly mll mld o9.2.2.2.1 o9.2.2.2.2.1 o9.2.2.2.2.2 mtd mti mwt mch (x4 + 5) _ _ _ E (lv_sub hl [3, 4, 5, 6, 0] rfl) hf
    · rw [if_pos c14] at hf
      refine lv_aload_n hx hb dL_law_737 rfl (lv_at hl 5 rfl) ?_
      refine lv_iconst (v := 0) hx hb dL_law_738 (by decide) ?_
      obtain ⟨h15, hf⟩ := ck_some hf
      refine g_lald C E 33 rfl h15 dL_law_739 ?_
      refine lv_iload hx hb dL_law_740 (lv_at hl 0 rfl) ?_
      refine lv_i2l hx hb dL_law_742 rfl ?_
      refine W.lcmp hx hb dL_law_743 ?_
      refine lv_if_eq (tgt := 749) hx hb dL_law_744 (by decide) (fun c16 => ?_) (fun c16 => ?_)
      · rw [if_pos c16] at hf
        refine lv_goto (tgt := 1108) hx hb dL_law_749 (by decide) ?_
        refine lv_iinc (v := (x4 + 5)) (lv' := [(4, .int (x4 + 5)), (6, .int o9.1), (5, .int o4.1), (0, .ref bs), (1, .ref (a 0)), (2, .ref (b 0)), (3, .ref q)]) hx hb dL_law_1108 hl (k := 6) rfl rfl (by decide) rfl (fun ls hl => ?_)
        refine lv_goto (tgt := 23) hx hb dL_law_1111 (by decide) ?_
        refine W.widen (k := 54 + (j + 1)) (n := 2581 + 6 * (j + 1)) (by omega) (by omega) ?_
        exact hk23 vl hs isz igd iup idn osz ogd oup odn dep rsz lgd llf ldb ldy lsz lti o4.2.1 o4.2.2.1 o4.2.2.2.1 o4.2.2.2.2.1 bgd bam bwt bsh brm bsz cab cbl tod imp dis owe itr o4.2.2.2.2.2 o9.2.1 mlo mre o9.2.2.1 mto mim mdi mow mit mvl mhs mns mby mng mnu mnd mbg mbu mbd mlg mly mll mld o9.2.2.2.1 o9.2.2.2.2.1 o9.2.2.2.2.2 mtd mti mwt mch (x4 + 5) _ _ _ E (lv_sub hl [3, 4, 5, 6, 0] rfl) hf
      · rw [if_neg c16] at hf
        refine lv_iconst (v := 0) hx hb dL_law_747 (by decide) ?_
        cases hf
  · rw [if_neg c13] at hf
    refine lv_iconst (v := 0) hx hb dL_law_730 (by decide) ?_
    cases hf
def f_L_law_J605 (xs : Nat → Int32) (L : Nat) (vl : Nat → Int32) (hs : Nat → Int32) (isz : Nat → Int32) (igd : Nat → Int32) (iup : Nat → Int32) (idn : Nat → Int32) (osz : Nat → Int32) (ogd : Nat → Int32) (oup : Nat → Int32) (odn : Nat → Int32) (dep : Nat → Int32) (rsz : Int32) (lgd : Nat → Int32) (llf : Nat → Int64) (ldb : Nat → Int64) (ldy : Nat → Int32) (lsz : Int32) (lti : Int64) (pgd : Nat → Int32) (plf : Nat → Int64) (pun : Nat → Int32) (psz : Int32) (bgd : Nat → Int32) (bam : Nat → Int64) (bwt : Nat → Int64) (bsh : Nat → Int64) (brm : Nat → Int64) (bsz : Int32) (cab : Nat → Int64) (cbl : Nat → Int64) (tod : Int32) (imp : Int64) (dis : Int64) (owe : Int64) (itr : Int64) (out : Nat → Int64) (mth : Int32) (mlo : Int32) (mre : Int32) (mpr : Int32) (mto : Int32) (mim : Int64) (mdi : Int64) (mow : Int64) (mit : Int64) (mvl : Nat → Int32) (mhs : Nat → Int32) (mns : Nat → Int32) (mby : Nat → Int32) (mng : Nat → Int32) (mnu : Nat → Int32) (mnd : Nat → Int32) (mbg : Nat → Int32) (mbu : Nat → Int32) (mbd : Nat → Int32) (mlg : Nat → Int32) (mly : Nat → Int32) (mll : Nat → Int64) (mld : Nat → Int64) (mpg : Nat → Int32) (mpu : Nat → Int32) (mpl : Nat → Int64) (mtd : Int64) (mti : Int64) (mwt : Nat → Int64) (mch : Nat → Int64) (x4 : Int32) (k23 : (Nat → Int32) → (Nat → Int32) → (Nat → Int32) → (Nat → Int32) → (Nat → Int32) → (Nat → Int32) → (Nat → Int32) → (Nat → Int32) → (Nat → Int32) → (Nat → Int32) → (Nat → Int32) → (Int32) → (Nat → Int32) → (Nat → Int64) → (Nat → Int64) → (Nat → Int32) → (Int32) → (Int64) → (Nat → Int32) → (Nat → Int64) → (Nat → Int32) → (Int32) → (Nat → Int32) → (Nat → Int64) → (Nat → Int64) → (Nat → Int64) → (Nat → Int64) → (Int32) → (Nat → Int64) → (Nat → Int64) → (Int32) → (Int64) → (Int64) → (Int64) → (Int64) → (Nat → Int64) → (Int32) → (Int32) → (Int32) → (Int32) → (Int32) → (Int64) → (Int64) → (Int64) → (Int64) → (Nat → Int32) → (Nat → Int32) → (Nat → Int32) → (Nat → Int32) → (Nat → Int32) → (Nat → Int32) → (Nat → Int32) → (Nat → Int32) → (Nat → Int32) → (Nat → Int32) → (Nat → Int32) → (Nat → Int32) → (Nat → Int64) → (Nat → Int64) → (Nat → Int32) → (Nat → Int32) → (Nat → Int64) → (Int64) → (Int64) → (Nat → Int64) → (Nat → Int64) → Int32 → Option Unit) : Option Unit :=
  ck (x4 + (1 : Int32)) L <|
  ck (x4 + (2 : Int32)) L <|
  (f_L_release lgd llf ldb ldy lsz lti tod owe itr (xs (x4 + (1 : Int32)).toNatClampNeg) (xs (x4 + (2 : Int32)).toNatClampNeg) out).bind fun o3 =>
  ck (x4 + (1 : Int32)) L <|
  ck (x4 + (2 : Int32)) L <|
  (f_X7_release mth mlo mto mow mit mlg mly mll mld mtd mti (xs (x4 + (1 : Int32)).toNatClampNeg) (xs (x4 + (2 : Int32)).toNatClampNeg)).bind fun o7 =>
  (f_X7_thrown o7.2.1).bind fun o9 =>
  if o9 = o3.1 then
    if o3.1 = 0 then
      ck (0 : Int32) 1 <|
      if (lg_cmp (o3.2.2.2.2.2.2 (0 : Int32).toNatClampNeg) o7.1) = 0 then
        k23 vl hs isz igd iup idn osz ogd oup odn dep rsz lgd o3.2.1 o3.2.2.1 ldy lsz o3.2.2.2.1 pgd plf pun psz bgd bam bwt bsh brm bsz cab cbl tod imp dis o3.2.2.2.2.1 o3.2.2.2.2.2.1 o3.2.2.2.2.2.2 o7.2.1 mlo mre mpr mto mim mdi o7.2.2.1 o7.2.2.2.1 mvl mhs mns mby mng mnu mnd mbg mbu mbd mlg mly o7.2.2.2.2.1 o7.2.2.2.2.2.1 mpg mpu mpl o7.2.2.2.2.2.2.1 o7.2.2.2.2.2.2.2 mwt mch (x4 + 5)
      else
        none
    else
      k23 vl hs isz igd iup idn osz ogd oup odn dep rsz lgd o3.2.1 o3.2.2.1 ldy lsz o3.2.2.2.1 pgd plf pun psz bgd bam bwt bsh brm bsz cab cbl tod imp dis o3.2.2.2.2.1 o3.2.2.2.2.2.1 o3.2.2.2.2.2.2 o7.2.1 mlo mre mpr mto mim mdi o7.2.2.1 o7.2.2.2.1 mvl mhs mns mby mng mnu mnd mbg mbu mbd mlg mly o7.2.2.2.2.1 o7.2.2.2.2.2.1 mpg mpu mpl o7.2.2.2.2.2.2.1 o7.2.2.2.2.2.2.2 mwt mch (x4 + 5)
  else
    none
set_option maxHeartbeats 8000000 in
set_option maxRecDepth 100000 in
theorem w_L_law_J605 {p : Program} {l : Launch} {e : Env} {s : State} {m : MethodId} {below : List Frame} {meth : Method} {c : Code} {D : va_G} {cI cJ cZ : ClassId} {a b : Nat → Nat} {q bs L : Nat} {xs : Nat → Int32} {vl : Nat → Int32} {hs : Nat → Int32} {isz : Nat → Int32} {igd : Nat → Int32} {iup : Nat → Int32} {idn : Nat → Int32} {osz : Nat → Int32} {ogd : Nat → Int32} {oup : Nat → Int32} {odn : Nat → Int32} {dep : Nat → Int32} {rsz : Int32} {lgd : Nat → Int32} {llf : Nat → Int64} {ldb : Nat → Int64} {ldy : Nat → Int32} {lsz : Int32} {lti : Int64} {pgd : Nat → Int32} {plf : Nat → Int64} {pun : Nat → Int32} {psz : Int32} {bgd : Nat → Int32} {bam : Nat → Int64} {bwt : Nat → Int64} {bsh : Nat → Int64} {brm : Nat → Int64} {bsz : Int32} {cab : Nat → Int64} {cbl : Nat → Int64} {tod : Int32} {imp : Int64} {dis : Int64} {owe : Int64} {itr : Int64} {out : Nat → Int64} {mth : Int32} {mlo : Int32} {mre : Int32} {mpr : Int32} {mto : Int32} {mim : Int64} {mdi : Int64} {mow : Int64} {mit : Int64} {mvl : Nat → Int32} {mhs : Nat → Int32} {mns : Nat → Int32} {mby : Nat → Int32} {mng : Nat → Int32} {mnu : Nat → Int32} {mnd : Nat → Int32} {mbg : Nat → Int32} {mbu : Nat → Int32} {mbd : Nat → Int32} {mlg : Nat → Int32} {mly : Nat → Int32} {mll : Nat → Int64} {mld : Nat → Int64} {mpg : Nat → Int32} {mpu : Nat → Int32} {mpl : Nat → Int64} {mtd : Int64} {mti : Int64} {mwt : Nat → Int64} {mch : Nat → Int64} {j : Nat} {x4 : Int32} (C : gC p s m #[Value.ref bs] meth c cL_law 8 ret wsL_law RL (fun z : Nat => s.heap.size ≤ z)) (hV : gV l s (fun z : Nat => s.heap.size ≤ z)) (hX : va_X bs L xs s s.heap) (hbl : bs < s.heap.size) (hj : j + 1 ≤ 514) {k23 : (Nat → Int32) → (Nat → Int32) → (Nat → Int32) → (Nat → Int32) → (Nat → Int32) → (Nat → Int32) → (Nat → Int32) → (Nat → Int32) → (Nat → Int32) → (Nat → Int32) → (Nat → Int32) → (Int32) → (Nat → Int32) → (Nat → Int64) → (Nat → Int64) → (Nat → Int32) → (Int32) → (Int64) → (Nat → Int32) → (Nat → Int64) → (Nat → Int32) → (Int32) → (Nat → Int32) → (Nat → Int64) → (Nat → Int64) → (Nat → Int64) → (Nat → Int64) → (Int32) → (Nat → Int64) → (Nat → Int64) → (Int32) → (Int64) → (Int64) → (Int64) → (Int64) → (Nat → Int64) → (Int32) → (Int32) → (Int32) → (Int32) → (Int32) → (Int64) → (Int64) → (Int64) → (Int64) → (Nat → Int32) → (Nat → Int32) → (Nat → Int32) → (Nat → Int32) → (Nat → Int32) → (Nat → Int32) → (Nat → Int32) → (Nat → Int32) → (Nat → Int32) → (Nat → Int32) → (Nat → Int32) → (Nat → Int32) → (Nat → Int64) → (Nat → Int64) → (Nat → Int32) → (Nat → Int32) → (Nat → Int64) → (Int64) → (Int64) → (Nat → Int64) → (Nat → Int64) → Int32 → Option Unit} (hk23 : ∀ (vl : Nat → Int32) (hs : Nat → Int32) (isz : Nat → Int32) (igd : Nat → Int32) (iup : Nat → Int32) (idn : Nat → Int32) (osz : Nat → Int32) (ogd : Nat → Int32) (oup : Nat → Int32) (odn : Nat → Int32) (dep : Nat → Int32) (rsz : Int32) (lgd : Nat → Int32) (llf : Nat → Int64) (ldb : Nat → Int64) (ldy : Nat → Int32) (lsz : Int32) (lti : Int64) (pgd : Nat → Int32) (plf : Nat → Int64) (pun : Nat → Int32) (psz : Int32) (bgd : Nat → Int32) (bam : Nat → Int64) (bwt : Nat → Int64) (bsh : Nat → Int64) (brm : Nat → Int64) (bsz : Int32) (cab : Nat → Int64) (cbl : Nat → Int64) (tod : Int32) (imp : Int64) (dis : Int64) (owe : Int64) (itr : Int64) (out : Nat → Int64) (mth : Int32) (mlo : Int32) (mre : Int32) (mpr : Int32) (mto : Int32) (mim : Int64) (mdi : Int64) (mow : Int64) (mit : Int64) (mvl : Nat → Int32) (mhs : Nat → Int32) (mns : Nat → Int32) (mby : Nat → Int32) (mng : Nat → Int32) (mnu : Nat → Int32) (mnd : Nat → Int32) (mbg : Nat → Int32) (mbu : Nat → Int32) (mbd : Nat → Int32) (mlg : Nat → Int32) (mly : Nat → Int32) (mll : Nat → Int64) (mld : Nat → Int64) (mpg : Nat → Int32) (mpu : Nat → Int32) (mpl : Nat → Int64) (mtd : Int64) (mti : Int64) (mwt : Nat → Int64) (mch : Nat → Int64) (x4 : Int32) (H : Heap) (locs : List Loc) (ls : Array Slot), vE s (fun z : Nat => s.heap.size ≤ z) D (gT cI cJ cZ) (((cW a cI cJ cZ vl hs isz igd iup idn osz ogd oup odn dep rsz lgd llf ldb ldy lsz lti pgd plf pun psz bgd bam bwt bsh brm bsz cab cbl tod imp dis owe itr) ++ [(q, .inl (cJ, 1, .inr (.inl out)))]) ++ (mW b cI cJ cZ mth mlo mre mpr mto mim mdi mow mit mvl mhs mns mby mng mnu mnd mbg mbu mbd mlg mly mll mld mpg mpu mpl mtd mti mwt mch)) H locs → lv_has ls 8 [(0, .ref bs), (1, .ref (a 0)), (2, .ref (b 0)), (3, .ref q), (4, .int x4)] → k23 vl hs isz igd iup idn osz ogd oup odn dep rsz lgd llf ldb ldy lsz lti pgd plf pun psz bgd bam bwt bsh brm bsz cab cbl tod imp dis owe itr out mth mlo mre mpr mto mim mdi mow mit mvl mhs mns mby mng mnu mnd mbg mbu mbd mlg mly mll mld mpg mpu mpl mtd mti mwt mch x4 = some () → W p l e room_1 s m #[Value.ref bs] below meth c H locs (54 + (j + 1)) (2581 + 6 * (j + 1)) (lw_Z below #[Value.ref bs] s) (F0 m 23 ls [])) {H : Heap} {locs : List Loc} {ls : Array Slot} (E : vE s (fun z : Nat => s.heap.size ≤ z) D (gT cI cJ cZ) (((cW a cI cJ cZ vl hs isz igd iup idn osz ogd oup odn dep rsz lgd llf ldb ldy lsz lti pgd plf pun psz bgd bam bwt bsh brm bsz cab cbl tod imp dis owe itr) ++ [(q, .inl (cJ, 1, .inr (.inl out)))]) ++ (mW b cI cJ cZ mth mlo mre mpr mto mim mdi mow mit mvl mhs mns mby mng mnu mnd mbg mbu mbd mlg mly mll mld mpg mpu mpl mtd mti mwt mch)) H locs) (hl : lv_has ls 8 [(0, .ref bs), (1, .ref (a 0)), (2, .ref (b 0)), (3, .ref q), (4, .int x4)]) (hf : f_L_law_J605 xs L vl hs isz igd iup idn osz ogd oup odn dep rsz lgd llf ldb ldy lsz lti pgd plf pun psz bgd bam bwt bsh brm bsz cab cbl tod imp dis owe itr out mth mlo mre mpr mto mim mdi mow mit mvl mhs mns mby mng mnu mnd mbg mbu mbd mlg mly mll mld mpg mpu mpl mtd mti mwt mch x4 k23 = some ()) : W p l e room_1 s m #[Value.ref bs] below meth c H locs (54 + j) (2581 + 6 * j) (lw_Z below #[Value.ref bs] s) (F0 m 605 ls []) := by
  obtain ⟨hx, hb, hr, hml, hown, hts, hlocks, hN, hA⟩ := id C
  have hl0 : l.stackTraces = false := hV.1
  have hbA : ¬ (fun z : Nat => s.heap.size ≤ z) bs := Nat.not_le.mpr hbl
  rw [f_L_law_J605] at hf
  refine lv_aload_n hx hb dL_law_605 rfl (lv_at hl 1 rfl) ?_
  refine lv_aload_n hx hb dL_law_606 rfl (lv_at hl 0 rfl) ?_
  refine lv_iload hx hb dL_law_607 (lv_at hl 4 rfl) ?_
  refine lv_iconst (v := 1) hx hb dL_law_609 (by decide) ?_
  refine lv_iadd hx hb dL_law_610 ?_
  obtain ⟨h1, hf⟩ := ck_some hf
  refine va_sld hx hb hX hbl hbA E.2.2.2 h1 dL_law_611 ?_
  refine lv_aload_n hx hb dL_law_612 rfl (lv_at hl 0 rfl) ?_
  refine lv_iload hx hb dL_law_613 (lv_at hl 4 rfl) ?_
  refine lv_iconst (v := 2) hx hb dL_law_615 (by decide) ?_
  refine lv_iadd hx hb dL_law_616 ?_
  obtain ⟨h2, hf⟩ := ck_some hf
  refine va_sld hx hb hX hbl hbA E.2.2.2 h2 dL_law_617 ?_
  refine lv_aload_n hx hb dL_law_618 rfl (lv_at hl 3 rfl) ?_
  obtain ⟨o3, e4, hf⟩ := bd_some hf
  refine g_calliW (wc := ((cW a cI cJ cZ vl hs isz igd iup idn osz ogd oup odn dep rsz lgd llf ldb ldy lsz lti pgd plf pun psz bgd bam bwt bsh brm bsz cab cbl tod imp dis owe itr) ++ [(q, .inl (cJ, 1, .inr (.inl out)))])) (wc' := ((cW a cI cJ cZ vl hs isz igd iup idn osz ogd oup odn dep rsz lgd o3.2.1 o3.2.2.1 ldy lsz o3.2.2.2.1 pgd plf pun psz bgd bam bwt bsh brm bsz cab cbl tod imp dis o3.2.2.2.2.1 o3.2.2.2.2.2.1) ++ [(q, .inl (cJ, 1, .inr (.inl o3.2.2.2.2.2.2)))])) (wr := (mW b cI cJ cZ mth mlo mre mpr mto mim mdi mow mit mvl mhs mns mby mng mnu mnd mbg mbu mbd mlg mly mll mld mpg mpu mpl mtd mti mwt mch)) C E (g_runSW (As := [.ref (a 0), .int (xs (x4 + (1 : Int32)).toNatClampNeg), .int (xs (x4 + (2 : Int32)).toNatClampNeg), .ref q]) (rest := []) C (vE_left E) hV (c_L_release hl0 e4) (vx_cwSW 4 hts gL_law_L_release rfl rfl rfl hd_L_release ⟨(Nat.le_of_ble_eq_true rfl), (Nat.le_of_ble_eq_true rfl)⟩) rfl hl.1 rfl (Nat.le_of_ble_eq_true rfl) dL_law_619 ⟨show 54 + j + 1 ≤ 1090 by omega, show 2581 + 6 * j + 6 ≤ 10845 by omega⟩) (fun H locs E => ?_)
  refine lv_istore (lv' := [(5, .int o3.1), (0, .ref bs), (1, .ref (a 0)), (2, .ref (b 0)), (3, .ref q), (4, .int x4)]) hx hb dL_law_622 hl (by decide) rfl (fun ls hl => ?_)
  refine lv_aload_n hx hb dL_law_624 rfl (lv_at hl 3 rfl) ?_
  refine lv_aload_n hx hb dL_law_625 rfl (lv_at hl 1 rfl) ?_
  refine lv_iload hx hb dL_law_626 (lv_at hl 5 rfl) ?_
  refine lv_iconst (v := 1) hx hb dL_law_628 (by decide) ?_
  refine lv_iadd hx hb dL_law_629 ?_
  obtain ⟨h5, hf⟩ := ck_some hf
  refine va_sld hx hb hX hbl hbA E.2.2.2 h5 dL_law_630 ?_
  refine lv_aload_n hx hb dL_law_631 rfl (lv_at hl 1 rfl) ?_
  refine lv_iload hx hb dL_law_632 (lv_at hl 5 rfl) ?_
  refine lv_iconst (v := 2) hx hb dL_law_634 (by decide) ?_
  refine lv_iadd hx hb dL_law_635 ?_
  obtain ⟨h6, hf⟩ := ck_some hf
  refine va_sld hx hb hX hbl hbA E.2.2.2 h6 dL_law_636 ?_
  obtain ⟨o7, e8, hf⟩ := bd_some hf
  refine g_calllF (wc := (mW b cI cJ cZ mth mlo mre mpr mto mim mdi mow mit mvl mhs mns mby mng mnu mnd mbg mbu mbd mlg mly mll mld mpg mpu mpl mtd mti mwt mch)) (wc' := (mW b cI cJ cZ o7.2.1 mlo mre mpr mto mim mdi o7.2.2.1 o7.2.2.2.1 mvl mhs mns mby mng mnu mnd mbg mbu mbd mlg mly o7.2.2.2.2.1 o7.2.2.2.2.2.1 mpg mpu mpl o7.2.2.2.2.2.2.1 o7.2.2.2.2.2.2.2 mwt mch)) (wr := ((cW a cI cJ cZ vl hs isz igd iup idn osz ogd oup odn dep rsz lgd o3.2.1 o3.2.2.1 ldy lsz o3.2.2.2.1 pgd plf pun psz bgd bam bwt bsh brm bsz cab cbl tod imp dis o3.2.2.2.2.1 o3.2.2.2.2.2.1) ++ [(q, .inl (cJ, 1, .inr (.inl o3.2.2.2.2.2.2)))])) C (vE_swap E) (g_runV (As := [.int (xs (x4 + (1 : Int32)).toNatClampNeg), .int (xs (x4 + (2 : Int32)).toNatClampNeg)]) (rest := []) C (vE_left (vE_swap E)) (c_X7_release e8) (cwV 2 hts gL_law_X7_release rfl rfl rfl ⟨rfl, hd_X7_release⟩ ⟨(Nat.le_of_ble_eq_true rfl), (Nat.le_of_ble_eq_true rfl)⟩) (q0 := 0) (ci := 7) rfl rfl rfl rfl hl.1 rfl (Nat.le_of_ble_eq_true rfl) dL_law_637 ⟨show 54 + j + 1 + 0 ≤ 1090 by omega, show 2581 + 6 * j + 6 + 0 ≤ 10845 by omega⟩) (fun H locs E => ?_)
  replace E := vE_swap E
  refine lv_lstore (lv' := [(6, .long o7.1), (5, .int o3.1), (0, .ref bs), (1, .ref (a 0)), (2, .ref (b 0)), (3, .ref q), (4, .int x4)]) hx hb dL_law_640 hl (by decide) rfl (fun ls hl => ?_)
  refine lv_aload_n hx hb dL_law_642 rfl (lv_at hl 4 rfl) ?_
  obtain ⟨o9, e10, hf⟩ := bd_some hf
  refine g_calliF (wc := (mW b cI cJ cZ o7.2.1 mlo mre mpr mto mim mdi o7.2.2.1 o7.2.2.2.1 mvl mhs mns mby mng mnu mnd mbg mbu mbd mlg mly o7.2.2.2.2.1 o7.2.2.2.2.2.1 mpg mpu mpl o7.2.2.2.2.2.2.1 o7.2.2.2.2.2.2.2 mwt mch)) (wc' := (mW b cI cJ cZ o7.2.1 mlo mre mpr mto mim mdi o7.2.2.1 o7.2.2.2.1 mvl mhs mns mby mng mnu mnd mbg mbu mbd mlg mly o7.2.2.2.2.1 o7.2.2.2.2.2.1 mpg mpu mpl o7.2.2.2.2.2.2.1 o7.2.2.2.2.2.2.2 mwt mch)) (wr := ((cW a cI cJ cZ vl hs isz igd iup idn osz ogd oup odn dep rsz lgd o3.2.1 o3.2.2.1 ldy lsz o3.2.2.2.1 pgd plf pun psz bgd bam bwt bsh brm bsz cab cbl tod imp dis o3.2.2.2.2.1 o3.2.2.2.2.2.1) ++ [(q, .inl (cJ, 1, .inr (.inl o3.2.2.2.2.2.2)))])) C (vE_swap E) (g_runV (As := []) (rest := []) C (vE_left (vE_swap E)) (c_X7_thrown e10) (cwV 0 hts gL_law_X7_thrown rfl rfl rfl ⟨rfl, hd_X7_thrown⟩ ⟨(Nat.le_of_ble_eq_true rfl), (Nat.le_of_ble_eq_true rfl)⟩) (q0 := 0) (ci := 7) rfl rfl rfl rfl hl.1 rfl (Nat.le_of_ble_eq_true rfl) dL_law_643 ⟨show 54 + j + 1 + 0 ≤ 1090 by omega, show 2581 + 6 * j + 6 + 0 ≤ 10845 by omega⟩) (fun H locs E => ?_)
  replace E := vE_swap E
  refine lv_iload hx hb dL_law_646 (lv_at hl 1 rfl) ?_
  refine lv_icmp_eq (tgt := 653) hx hb dL_law_648 (by decide) (fun c11 => ?_) (fun c11 => ?_)
  · rw [if_pos c11] at hf
    refine lv_iload hx hb dL_law_653 (lv_at hl 1 rfl) ?_
    refine lv_if_ne (tgt := 669) hx hb dL_law_655 (by decide) (fun c12 => ?_) (fun c12 => ?_)
    · rw [if_neg c12] at hf
      refine lv_goto (tgt := 1108) hx hb dL_law_669 (by decide) ?_
      refine lv_iinc (v := (x4 + 5)) (lv' := [(4, .int (x4 + 5)), (6, .long o7.1), (5, .int o3.1), (0, .ref bs), (1, .ref (a 0)), (2, .ref (b 0)), (3, .ref q)]) hx hb dL_law_1108 hl (k := 6) rfl rfl (by decide) rfl (fun ls hl => ?_)
      refine lv_goto (tgt := 23) hx hb dL_law_1111 (by decide) ?_
      refine W.widen (k := 54 + (j + 1)) (n := 2581 + 6 * (j + 1)) (by omega) (by omega) ?_
      exact hk23 vl hs isz igd iup idn osz ogd oup odn dep rsz lgd o3.2.1 o3.2.2.1 ldy lsz o3.2.2.2.1 pgd plf pun psz bgd bam bwt bsh brm bsz cab cbl tod imp dis o3.2.2.2.2.1 o3.2.2.2.2.2.1 o3.2.2.2.2.2.2 o7.2.1 mlo mre mpr mto mim mdi o7.2.2.1 o7.2.2.2.1 mvl mhs mns mby mng mnu mnd mbg mbu mbd mlg mly o7.2.2.2.2.1 o7.2.2.2.2.2.1 mpg mpu mpl o7.2.2.2.2.2.2.1 o7.2.2.2.2.2.2.2 mwt mch (x4 + 5) _ _ _ E (lv_sub hl [3, 4, 5, 6, 0] rfl) hf
    · rw [if_pos c12] at hf
      refine lv_aload_n hx hb dL_law_658 rfl (lv_at hl 5 rfl) ?_
      refine lv_iconst (v := 0) hx hb dL_law_659 (by decide) ?_
      obtain ⟨h13, hf⟩ := ck_some hf
      refine g_lald C E 33 rfl h13 dL_law_660 ?_
      refine lv_lload hx hb dL_law_661 (lv_at hl 0 rfl) ?_
      refine W.lcmp hx hb dL_law_663 ?_
      refine lv_if_eq (tgt := 669) hx hb dL_law_664 (by decide) (fun c14 => ?_) (fun c14 => ?_)
      · rw [if_pos c14] at hf
        refine lv_goto (tgt := 1108) hx hb dL_law_669 (by decide) ?_
        refine lv_iinc (v := (x4 + 5)) (lv' := [(4, .int (x4 + 5)), (6, .long o7.1), (5, .int o3.1), (0, .ref bs), (1, .ref (a 0)), (2, .ref (b 0)), (3, .ref q)]) hx hb dL_law_1108 hl (k := 6) rfl rfl (by decide) rfl (fun ls hl => ?_)
        refine lv_goto (tgt := 23) hx hb dL_law_1111 (by decide) ?_
        refine W.widen (k := 54 + (j + 1)) (n := 2581 + 6 * (j + 1)) (by omega) (by omega) ?_
        exact hk23 vl hs isz igd iup idn osz ogd oup odn dep rsz lgd o3.2.1 o3.2.2.1 ldy lsz o3.2.2.2.1 pgd plf pun psz bgd bam bwt bsh brm bsz cab cbl tod imp dis o3.2.2.2.2.1 o3.2.2.2.2.2.1 o3.2.2.2.2.2.2 o7.2.1 mlo mre mpr mto mim mdi o7.2.2.1 o7.2.2.2.1 mvl mhs mns mby mng mnu mnd mbg mbu mbd mlg mly o7.2.2.2.2.1 o7.2.2.2.2.2.1 mpg mpu mpl o7.2.2.2.2.2.2.1 o7.2.2.2.2.2.2.2 mwt mch (x4 + 5) _ _ _ E (lv_sub hl [3, 4, 5, 6, 0] rfl) hf
      · rw [if_neg c14] at hf
        refine lv_iconst (v := 0) hx hb dL_law_667 (by decide) ?_
        cases hf
  · rw [if_neg c11] at hf
    refine lv_iconst (v := 0) hx hb dL_law_651 (by decide) ?_
    cases hf
def f_L_law_J538 (xs : Nat → Int32) (L : Nat) (vl : Nat → Int32) (hs : Nat → Int32) (isz : Nat → Int32) (igd : Nat → Int32) (iup : Nat → Int32) (idn : Nat → Int32) (osz : Nat → Int32) (ogd : Nat → Int32) (oup : Nat → Int32) (odn : Nat → Int32) (dep : Nat → Int32) (rsz : Int32) (lgd : Nat → Int32) (llf : Nat → Int64) (ldb : Nat → Int64) (ldy : Nat → Int32) (lsz : Int32) (lti : Int64) (pgd : Nat → Int32) (plf : Nat → Int64) (pun : Nat → Int32) (psz : Int32) (bgd : Nat → Int32) (bam : Nat → Int64) (bwt : Nat → Int64) (bsh : Nat → Int64) (brm : Nat → Int64) (bsz : Int32) (cab : Nat → Int64) (cbl : Nat → Int64) (tod : Int32) (imp : Int64) (dis : Int64) (owe : Int64) (itr : Int64) (out : Nat → Int64) (mth : Int32) (mlo : Int32) (mre : Int32) (mpr : Int32) (mto : Int32) (mim : Int64) (mdi : Int64) (mow : Int64) (mit : Int64) (mvl : Nat → Int32) (mhs : Nat → Int32) (mns : Nat → Int32) (mby : Nat → Int32) (mng : Nat → Int32) (mnu : Nat → Int32) (mnd : Nat → Int32) (mbg : Nat → Int32) (mbu : Nat → Int32) (mbd : Nat → Int32) (mlg : Nat → Int32) (mly : Nat → Int32) (mll : Nat → Int64) (mld : Nat → Int64) (mpg : Nat → Int32) (mpu : Nat → Int32) (mpl : Nat → Int64) (mtd : Int64) (mti : Int64) (mwt : Nat → Int64) (mch : Nat → Int64) (x4 : Int32) (k23 : (Nat → Int32) → (Nat → Int32) → (Nat → Int32) → (Nat → Int32) → (Nat → Int32) → (Nat → Int32) → (Nat → Int32) → (Nat → Int32) → (Nat → Int32) → (Nat → Int32) → (Nat → Int32) → (Int32) → (Nat → Int32) → (Nat → Int64) → (Nat → Int64) → (Nat → Int32) → (Int32) → (Int64) → (Nat → Int32) → (Nat → Int64) → (Nat → Int32) → (Int32) → (Nat → Int32) → (Nat → Int64) → (Nat → Int64) → (Nat → Int64) → (Nat → Int64) → (Int32) → (Nat → Int64) → (Nat → Int64) → (Int32) → (Int64) → (Int64) → (Int64) → (Int64) → (Nat → Int64) → (Int32) → (Int32) → (Int32) → (Int32) → (Int32) → (Int64) → (Int64) → (Int64) → (Int64) → (Nat → Int32) → (Nat → Int32) → (Nat → Int32) → (Nat → Int32) → (Nat → Int32) → (Nat → Int32) → (Nat → Int32) → (Nat → Int32) → (Nat → Int32) → (Nat → Int32) → (Nat → Int32) → (Nat → Int32) → (Nat → Int64) → (Nat → Int64) → (Nat → Int32) → (Nat → Int32) → (Nat → Int64) → (Int64) → (Int64) → (Nat → Int64) → (Nat → Int64) → Int32 → Option Unit) : Option Unit :=
  ck (x4 + (1 : Int32)) L <|
  ck (x4 + (2 : Int32)) L <|
  (f_L_export lgd llf ldb ldy lsz lti tod dis (xs (x4 + (1 : Int32)).toNatClampNeg) (xs (x4 + (2 : Int32)).toNatClampNeg) out).bind fun o3 =>
  ck (x4 + (1 : Int32)) L <|
  ck (x4 + (2 : Int32)) L <|
  (f_X7_export mth mlo mto mdi mlg mly mll mld mtd mti (xs (x4 + (1 : Int32)).toNatClampNeg) (xs (x4 + (2 : Int32)).toNatClampNeg)).bind fun o7 =>
  (f_X7_thrown o7.2.1).bind fun o9 =>
  if o9 = o3.1 then
    if o3.1 = 0 then
      ck (0 : Int32) 1 <|
      if (lg_cmp (o3.2.2.2.2.2 (0 : Int32).toNatClampNeg) o7.1) = 0 then
        k23 vl hs isz igd iup idn osz ogd oup odn dep rsz lgd o3.2.1 o3.2.2.1 ldy lsz o3.2.2.2.1 pgd plf pun psz bgd bam bwt bsh brm bsz cab cbl tod imp o3.2.2.2.2.1 owe itr o3.2.2.2.2.2 o7.2.1 mlo mre mpr mto mim o7.2.2.1 mow mit mvl mhs mns mby mng mnu mnd mbg mbu mbd mlg mly o7.2.2.2.1 o7.2.2.2.2.1 mpg mpu mpl o7.2.2.2.2.2.1 o7.2.2.2.2.2.2 mwt mch (x4 + 5)
      else
        none
    else
      k23 vl hs isz igd iup idn osz ogd oup odn dep rsz lgd o3.2.1 o3.2.2.1 ldy lsz o3.2.2.2.1 pgd plf pun psz bgd bam bwt bsh brm bsz cab cbl tod imp o3.2.2.2.2.1 owe itr o3.2.2.2.2.2 o7.2.1 mlo mre mpr mto mim o7.2.2.1 mow mit mvl mhs mns mby mng mnu mnd mbg mbu mbd mlg mly o7.2.2.2.1 o7.2.2.2.2.1 mpg mpu mpl o7.2.2.2.2.2.1 o7.2.2.2.2.2.2 mwt mch (x4 + 5)
  else
    none
set_option maxHeartbeats 8000000 in
set_option maxRecDepth 100000 in
theorem w_L_law_J538 {p : Program} {l : Launch} {e : Env} {s : State} {m : MethodId} {below : List Frame} {meth : Method} {c : Code} {D : va_G} {cI cJ cZ : ClassId} {a b : Nat → Nat} {q bs L : Nat} {xs : Nat → Int32} {vl : Nat → Int32} {hs : Nat → Int32} {isz : Nat → Int32} {igd : Nat → Int32} {iup : Nat → Int32} {idn : Nat → Int32} {osz : Nat → Int32} {ogd : Nat → Int32} {oup : Nat → Int32} {odn : Nat → Int32} {dep : Nat → Int32} {rsz : Int32} {lgd : Nat → Int32} {llf : Nat → Int64} {ldb : Nat → Int64} {ldy : Nat → Int32} {lsz : Int32} {lti : Int64} {pgd : Nat → Int32} {plf : Nat → Int64} {pun : Nat → Int32} {psz : Int32} {bgd : Nat → Int32} {bam : Nat → Int64} {bwt : Nat → Int64} {bsh : Nat → Int64} {brm : Nat → Int64} {bsz : Int32} {cab : Nat → Int64} {cbl : Nat → Int64} {tod : Int32} {imp : Int64} {dis : Int64} {owe : Int64} {itr : Int64} {out : Nat → Int64} {mth : Int32} {mlo : Int32} {mre : Int32} {mpr : Int32} {mto : Int32} {mim : Int64} {mdi : Int64} {mow : Int64} {mit : Int64} {mvl : Nat → Int32} {mhs : Nat → Int32} {mns : Nat → Int32} {mby : Nat → Int32} {mng : Nat → Int32} {mnu : Nat → Int32} {mnd : Nat → Int32} {mbg : Nat → Int32} {mbu : Nat → Int32} {mbd : Nat → Int32} {mlg : Nat → Int32} {mly : Nat → Int32} {mll : Nat → Int64} {mld : Nat → Int64} {mpg : Nat → Int32} {mpu : Nat → Int32} {mpl : Nat → Int64} {mtd : Int64} {mti : Int64} {mwt : Nat → Int64} {mch : Nat → Int64} {j : Nat} {x4 : Int32} (C : gC p s m #[Value.ref bs] meth c cL_law 8 ret wsL_law RL (fun z : Nat => s.heap.size ≤ z)) (hV : gV l s (fun z : Nat => s.heap.size ≤ z)) (hX : va_X bs L xs s s.heap) (hbl : bs < s.heap.size) (hj : j + 1 ≤ 514) {k23 : (Nat → Int32) → (Nat → Int32) → (Nat → Int32) → (Nat → Int32) → (Nat → Int32) → (Nat → Int32) → (Nat → Int32) → (Nat → Int32) → (Nat → Int32) → (Nat → Int32) → (Nat → Int32) → (Int32) → (Nat → Int32) → (Nat → Int64) → (Nat → Int64) → (Nat → Int32) → (Int32) → (Int64) → (Nat → Int32) → (Nat → Int64) → (Nat → Int32) → (Int32) → (Nat → Int32) → (Nat → Int64) → (Nat → Int64) → (Nat → Int64) → (Nat → Int64) → (Int32) → (Nat → Int64) → (Nat → Int64) → (Int32) → (Int64) → (Int64) → (Int64) → (Int64) → (Nat → Int64) → (Int32) → (Int32) → (Int32) → (Int32) → (Int32) → (Int64) → (Int64) → (Int64) → (Int64) → (Nat → Int32) → (Nat → Int32) → (Nat → Int32) → (Nat → Int32) → (Nat → Int32) → (Nat → Int32) → (Nat → Int32) → (Nat → Int32) → (Nat → Int32) → (Nat → Int32) → (Nat → Int32) → (Nat → Int32) → (Nat → Int64) → (Nat → Int64) → (Nat → Int32) → (Nat → Int32) → (Nat → Int64) → (Int64) → (Int64) → (Nat → Int64) → (Nat → Int64) → Int32 → Option Unit} (hk23 : ∀ (vl : Nat → Int32) (hs : Nat → Int32) (isz : Nat → Int32) (igd : Nat → Int32) (iup : Nat → Int32) (idn : Nat → Int32) (osz : Nat → Int32) (ogd : Nat → Int32) (oup : Nat → Int32) (odn : Nat → Int32) (dep : Nat → Int32) (rsz : Int32) (lgd : Nat → Int32) (llf : Nat → Int64) (ldb : Nat → Int64) (ldy : Nat → Int32) (lsz : Int32) (lti : Int64) (pgd : Nat → Int32) (plf : Nat → Int64) (pun : Nat → Int32) (psz : Int32) (bgd : Nat → Int32) (bam : Nat → Int64) (bwt : Nat → Int64) (bsh : Nat → Int64) (brm : Nat → Int64) (bsz : Int32) (cab : Nat → Int64) (cbl : Nat → Int64) (tod : Int32) (imp : Int64) (dis : Int64) (owe : Int64) (itr : Int64) (out : Nat → Int64) (mth : Int32) (mlo : Int32) (mre : Int32) (mpr : Int32) (mto : Int32) (mim : Int64) (mdi : Int64) (mow : Int64) (mit : Int64) (mvl : Nat → Int32) (mhs : Nat → Int32) (mns : Nat → Int32) (mby : Nat → Int32) (mng : Nat → Int32) (mnu : Nat → Int32) (mnd : Nat → Int32) (mbg : Nat → Int32) (mbu : Nat → Int32) (mbd : Nat → Int32) (mlg : Nat → Int32) (mly : Nat → Int32) (mll : Nat → Int64) (mld : Nat → Int64) (mpg : Nat → Int32) (mpu : Nat → Int32) (mpl : Nat → Int64) (mtd : Int64) (mti : Int64) (mwt : Nat → Int64) (mch : Nat → Int64) (x4 : Int32) (H : Heap) (locs : List Loc) (ls : Array Slot), vE s (fun z : Nat => s.heap.size ≤ z) D (gT cI cJ cZ) (((cW a cI cJ cZ vl hs isz igd iup idn osz ogd oup odn dep rsz lgd llf ldb ldy lsz lti pgd plf pun psz bgd bam bwt bsh brm bsz cab cbl tod imp dis owe itr) ++ [(q, .inl (cJ, 1, .inr (.inl out)))]) ++ (mW b cI cJ cZ mth mlo mre mpr mto mim mdi mow mit mvl mhs mns mby mng mnu mnd mbg mbu mbd mlg mly mll mld mpg mpu mpl mtd mti mwt mch)) H locs → lv_has ls 8 [(0, .ref bs), (1, .ref (a 0)), (2, .ref (b 0)), (3, .ref q), (4, .int x4)] → k23 vl hs isz igd iup idn osz ogd oup odn dep rsz lgd llf ldb ldy lsz lti pgd plf pun psz bgd bam bwt bsh brm bsz cab cbl tod imp dis owe itr out mth mlo mre mpr mto mim mdi mow mit mvl mhs mns mby mng mnu mnd mbg mbu mbd mlg mly mll mld mpg mpu mpl mtd mti mwt mch x4 = some () → W p l e room_1 s m #[Value.ref bs] below meth c H locs (54 + (j + 1)) (2581 + 6 * (j + 1)) (lw_Z below #[Value.ref bs] s) (F0 m 23 ls [])) {H : Heap} {locs : List Loc} {ls : Array Slot} (E : vE s (fun z : Nat => s.heap.size ≤ z) D (gT cI cJ cZ) (((cW a cI cJ cZ vl hs isz igd iup idn osz ogd oup odn dep rsz lgd llf ldb ldy lsz lti pgd plf pun psz bgd bam bwt bsh brm bsz cab cbl tod imp dis owe itr) ++ [(q, .inl (cJ, 1, .inr (.inl out)))]) ++ (mW b cI cJ cZ mth mlo mre mpr mto mim mdi mow mit mvl mhs mns mby mng mnu mnd mbg mbu mbd mlg mly mll mld mpg mpu mpl mtd mti mwt mch)) H locs) (hl : lv_has ls 8 [(0, .ref bs), (1, .ref (a 0)), (2, .ref (b 0)), (3, .ref q), (4, .int x4)]) (hf : f_L_law_J538 xs L vl hs isz igd iup idn osz ogd oup odn dep rsz lgd llf ldb ldy lsz lti pgd plf pun psz bgd bam bwt bsh brm bsz cab cbl tod imp dis owe itr out mth mlo mre mpr mto mim mdi mow mit mvl mhs mns mby mng mnu mnd mbg mbu mbd mlg mly mll mld mpg mpu mpl mtd mti mwt mch x4 k23 = some ()) : W p l e room_1 s m #[Value.ref bs] below meth c H locs (54 + j) (2581 + 6 * j) (lw_Z below #[Value.ref bs] s) (F0 m 538 ls []) := by
  obtain ⟨hx, hb, hr, hml, hown, hts, hlocks, hN, hA⟩ := id C
  have hl0 : l.stackTraces = false := hV.1
  have hbA : ¬ (fun z : Nat => s.heap.size ≤ z) bs := Nat.not_le.mpr hbl
  rw [f_L_law_J538] at hf
  refine lv_aload_n hx hb dL_law_538 rfl (lv_at hl 1 rfl) ?_
  refine lv_aload_n hx hb dL_law_539 rfl (lv_at hl 0 rfl) ?_
  refine lv_iload hx hb dL_law_540 (lv_at hl 4 rfl) ?_
  refine lv_iconst (v := 1) hx hb dL_law_542 (by decide) ?_
  refine lv_iadd hx hb dL_law_543 ?_
  obtain ⟨h1, hf⟩ := ck_some hf
  refine va_sld hx hb hX hbl hbA E.2.2.2 h1 dL_law_544 ?_
  refine lv_aload_n hx hb dL_law_545 rfl (lv_at hl 0 rfl) ?_
  refine lv_iload hx hb dL_law_546 (lv_at hl 4 rfl) ?_
  refine lv_iconst (v := 2) hx hb dL_law_548 (by decide) ?_
  refine lv_iadd hx hb dL_law_549 ?_
  obtain ⟨h2, hf⟩ := ck_some hf
  refine va_sld hx hb hX hbl hbA E.2.2.2 h2 dL_law_550 ?_
  refine lv_aload_n hx hb dL_law_551 rfl (lv_at hl 3 rfl) ?_
  obtain ⟨o3, e4, hf⟩ := bd_some hf
  refine g_calliW (wc := ((cW a cI cJ cZ vl hs isz igd iup idn osz ogd oup odn dep rsz lgd llf ldb ldy lsz lti pgd plf pun psz bgd bam bwt bsh brm bsz cab cbl tod imp dis owe itr) ++ [(q, .inl (cJ, 1, .inr (.inl out)))])) (wc' := ((cW a cI cJ cZ vl hs isz igd iup idn osz ogd oup odn dep rsz lgd o3.2.1 o3.2.2.1 ldy lsz o3.2.2.2.1 pgd plf pun psz bgd bam bwt bsh brm bsz cab cbl tod imp o3.2.2.2.2.1 owe itr) ++ [(q, .inl (cJ, 1, .inr (.inl o3.2.2.2.2.2)))])) (wr := (mW b cI cJ cZ mth mlo mre mpr mto mim mdi mow mit mvl mhs mns mby mng mnu mnd mbg mbu mbd mlg mly mll mld mpg mpu mpl mtd mti mwt mch)) C E (g_runSW (As := [.ref (a 0), .int (xs (x4 + (1 : Int32)).toNatClampNeg), .int (xs (x4 + (2 : Int32)).toNatClampNeg), .ref q]) (rest := []) C (vE_left E) hV (c_L_export hl0 e4) (vx_cwSW 4 hts gL_law_L_export rfl rfl rfl hd_L_export ⟨(Nat.le_of_ble_eq_true rfl), (Nat.le_of_ble_eq_true rfl)⟩) rfl hl.1 rfl (Nat.le_of_ble_eq_true rfl) dL_law_552 ⟨show 54 + j + 1 ≤ 1090 by omega, show 2581 + 6 * j + 6 ≤ 10845 by omega⟩) (fun H locs E => ?_)
  refine lv_istore (lv' := [(5, .int o3.1), (0, .ref bs), (1, .ref (a 0)), (2, .ref (b 0)), (3, .ref q), (4, .int x4)]) hx hb dL_law_555 hl (by decide) rfl (fun ls hl => ?_)
  refine lv_aload_n hx hb dL_law_557 rfl (lv_at hl 3 rfl) ?_
  refine lv_aload_n hx hb dL_law_558 rfl (lv_at hl 1 rfl) ?_
  refine lv_iload hx hb dL_law_559 (lv_at hl 5 rfl) ?_
  refine lv_iconst (v := 1) hx hb dL_law_561 (by decide) ?_
  refine lv_iadd hx hb dL_law_562 ?_
  obtain ⟨h5, hf⟩ := ck_some hf
  refine va_sld hx hb hX hbl hbA E.2.2.2 h5 dL_law_563 ?_
  refine lv_aload_n hx hb dL_law_564 rfl (lv_at hl 1 rfl) ?_
  refine lv_iload hx hb dL_law_565 (lv_at hl 5 rfl) ?_
  refine lv_iconst (v := 2) hx hb dL_law_567 (by decide) ?_
  refine lv_iadd hx hb dL_law_568 ?_
  obtain ⟨h6, hf⟩ := ck_some hf
  refine va_sld hx hb hX hbl hbA E.2.2.2 h6 dL_law_569 ?_
  obtain ⟨o7, e8, hf⟩ := bd_some hf
  refine g_calllF (wc := (mW b cI cJ cZ mth mlo mre mpr mto mim mdi mow mit mvl mhs mns mby mng mnu mnd mbg mbu mbd mlg mly mll mld mpg mpu mpl mtd mti mwt mch)) (wc' := (mW b cI cJ cZ o7.2.1 mlo mre mpr mto mim o7.2.2.1 mow mit mvl mhs mns mby mng mnu mnd mbg mbu mbd mlg mly o7.2.2.2.1 o7.2.2.2.2.1 mpg mpu mpl o7.2.2.2.2.2.1 o7.2.2.2.2.2.2 mwt mch)) (wr := ((cW a cI cJ cZ vl hs isz igd iup idn osz ogd oup odn dep rsz lgd o3.2.1 o3.2.2.1 ldy lsz o3.2.2.2.1 pgd plf pun psz bgd bam bwt bsh brm bsz cab cbl tod imp o3.2.2.2.2.1 owe itr) ++ [(q, .inl (cJ, 1, .inr (.inl o3.2.2.2.2.2)))])) C (vE_swap E) (g_runV (As := [.int (xs (x4 + (1 : Int32)).toNatClampNeg), .int (xs (x4 + (2 : Int32)).toNatClampNeg)]) (rest := []) C (vE_left (vE_swap E)) (c_X7_export e8) (cwV 2 hts gL_law_X7_export rfl rfl rfl ⟨rfl, hd_X7_export⟩ ⟨(Nat.le_of_ble_eq_true rfl), (Nat.le_of_ble_eq_true rfl)⟩) (q0 := 0) (ci := 7) rfl rfl rfl rfl hl.1 rfl (Nat.le_of_ble_eq_true rfl) dL_law_570 ⟨show 54 + j + 1 + 0 ≤ 1090 by omega, show 2581 + 6 * j + 6 + 0 ≤ 10845 by omega⟩) (fun H locs E => ?_)
  replace E := vE_swap E
  refine lv_lstore (lv' := [(6, .long o7.1), (5, .int o3.1), (0, .ref bs), (1, .ref (a 0)), (2, .ref (b 0)), (3, .ref q), (4, .int x4)]) hx hb dL_law_573 hl (by decide) rfl (fun ls hl => ?_)
  refine lv_aload_n hx hb dL_law_575 rfl (lv_at hl 4 rfl) ?_
  obtain ⟨o9, e10, hf⟩ := bd_some hf
  refine g_calliF (wc := (mW b cI cJ cZ o7.2.1 mlo mre mpr mto mim o7.2.2.1 mow mit mvl mhs mns mby mng mnu mnd mbg mbu mbd mlg mly o7.2.2.2.1 o7.2.2.2.2.1 mpg mpu mpl o7.2.2.2.2.2.1 o7.2.2.2.2.2.2 mwt mch)) (wc' := (mW b cI cJ cZ o7.2.1 mlo mre mpr mto mim o7.2.2.1 mow mit mvl mhs mns mby mng mnu mnd mbg mbu mbd mlg mly o7.2.2.2.1 o7.2.2.2.2.1 mpg mpu mpl o7.2.2.2.2.2.1 o7.2.2.2.2.2.2 mwt mch)) (wr := ((cW a cI cJ cZ vl hs isz igd iup idn osz ogd oup odn dep rsz lgd o3.2.1 o3.2.2.1 ldy lsz o3.2.2.2.1 pgd plf pun psz bgd bam bwt bsh brm bsz cab cbl tod imp o3.2.2.2.2.1 owe itr) ++ [(q, .inl (cJ, 1, .inr (.inl o3.2.2.2.2.2)))])) C (vE_swap E) (g_runV (As := []) (rest := []) C (vE_left (vE_swap E)) (c_X7_thrown e10) (cwV 0 hts gL_law_X7_thrown rfl rfl rfl ⟨rfl, hd_X7_thrown⟩ ⟨(Nat.le_of_ble_eq_true rfl), (Nat.le_of_ble_eq_true rfl)⟩) (q0 := 0) (ci := 7) rfl rfl rfl rfl hl.1 rfl (Nat.le_of_ble_eq_true rfl) dL_law_576 ⟨show 54 + j + 1 + 0 ≤ 1090 by omega, show 2581 + 6 * j + 6 + 0 ≤ 10845 by omega⟩) (fun H locs E => ?_)
  replace E := vE_swap E
  refine lv_iload hx hb dL_law_579 (lv_at hl 1 rfl) ?_
  refine lv_icmp_eq (tgt := 586) hx hb dL_law_581 (by decide) (fun c11 => ?_) (fun c11 => ?_)
  · rw [if_pos c11] at hf
    refine lv_iload hx hb dL_law_586 (lv_at hl 1 rfl) ?_
    refine lv_if_ne (tgt := 602) hx hb dL_law_588 (by decide) (fun c12 => ?_) (fun c12 => ?_)
    · rw [if_neg c12] at hf
      refine lv_goto (tgt := 1108) hx hb dL_law_602 (by decide) ?_
      refine lv_iinc (v := (x4 + 5)) (lv' := [(4, .int (x4 + 5)), (6, .long o7.1), (5, .int o3.1), (0, .ref bs), (1, .ref (a 0)), (2, .ref (b 0)), (3, .ref q)]) hx hb dL_law_1108 hl (k := 6) rfl rfl (by decide) rfl (fun ls hl => ?_)
      refine lv_goto (tgt := 23) hx hb dL_law_1111 (by decide) ?_
      refine W.widen (k := 54 + (j + 1)) (n := 2581 + 6 * (j + 1)) (by omega) (by omega) ?_
      exact hk23 vl hs isz igd iup idn osz ogd oup odn dep rsz lgd o3.2.1 o3.2.2.1 ldy lsz o3.2.2.2.1 pgd plf pun psz bgd bam bwt bsh brm bsz cab cbl tod imp o3.2.2.2.2.1 owe itr o3.2.2.2.2.2 o7.2.1 mlo mre mpr mto mim o7.2.2.1 mow mit mvl mhs mns mby mng mnu mnd mbg mbu mbd mlg mly o7.2.2.2.1 o7.2.2.2.2.1 mpg mpu mpl o7.2.2.2.2.2.1 o7.2.2.2.2.2.2 mwt mch (x4 + 5) _ _ _ E (lv_sub hl [3, 4, 5, 6, 0] rfl) hf
    · rw [if_pos c12] at hf
      refine lv_aload_n hx hb dL_law_591 rfl (lv_at hl 5 rfl) ?_
      refine lv_iconst (v := 0) hx hb dL_law_592 (by decide) ?_
      obtain ⟨h13, hf⟩ := ck_some hf
      refine g_lald C E 33 rfl h13 dL_law_593 ?_
      refine lv_lload hx hb dL_law_594 (lv_at hl 0 rfl) ?_
      refine W.lcmp hx hb dL_law_596 ?_
      refine lv_if_eq (tgt := 602) hx hb dL_law_597 (by decide) (fun c14 => ?_) (fun c14 => ?_)
      · rw [if_pos c14] at hf
        refine lv_goto (tgt := 1108) hx hb dL_law_602 (by decide) ?_
        refine lv_iinc (v := (x4 + 5)) (lv' := [(4, .int (x4 + 5)), (6, .long o7.1), (5, .int o3.1), (0, .ref bs), (1, .ref (a 0)), (2, .ref (b 0)), (3, .ref q)]) hx hb dL_law_1108 hl (k := 6) rfl rfl (by decide) rfl (fun ls hl => ?_)
        refine lv_goto (tgt := 23) hx hb dL_law_1111 (by decide) ?_
        refine W.widen (k := 54 + (j + 1)) (n := 2581 + 6 * (j + 1)) (by omega) (by omega) ?_
        exact hk23 vl hs isz igd iup idn osz ogd oup odn dep rsz lgd o3.2.1 o3.2.2.1 ldy lsz o3.2.2.2.1 pgd plf pun psz bgd bam bwt bsh brm bsz cab cbl tod imp o3.2.2.2.2.1 owe itr o3.2.2.2.2.2 o7.2.1 mlo mre mpr mto mim o7.2.2.1 mow mit mvl mhs mns mby mng mnu mnd mbg mbu mbd mlg mly o7.2.2.2.1 o7.2.2.2.2.1 mpg mpu mpl o7.2.2.2.2.2.1 o7.2.2.2.2.2.2 mwt mch (x4 + 5) _ _ _ E (lv_sub hl [3, 4, 5, 6, 0] rfl) hf
      · rw [if_neg c14] at hf
        refine lv_iconst (v := 0) hx hb dL_law_600 (by decide) ?_
        cases hf
  · rw [if_neg c11] at hf
    refine lv_iconst (v := 0) hx hb dL_law_584 (by decide) ?_
    cases hf
def f_L_law_J442 (xs : Nat → Int32) (L : Nat) (vl : Nat → Int32) (hs : Nat → Int32) (isz : Nat → Int32) (igd : Nat → Int32) (iup : Nat → Int32) (idn : Nat → Int32) (osz : Nat → Int32) (ogd : Nat → Int32) (oup : Nat → Int32) (odn : Nat → Int32) (dep : Nat → Int32) (rsz : Int32) (lgd : Nat → Int32) (llf : Nat → Int64) (ldb : Nat → Int64) (ldy : Nat → Int32) (lsz : Int32) (lti : Int64) (pgd : Nat → Int32) (plf : Nat → Int64) (pun : Nat → Int32) (psz : Int32) (bgd : Nat → Int32) (bam : Nat → Int64) (bwt : Nat → Int64) (bsh : Nat → Int64) (brm : Nat → Int64) (bsz : Int32) (cab : Nat → Int64) (cbl : Nat → Int64) (tod : Int32) (imp : Int64) (dis : Int64) (owe : Int64) (itr : Int64) (out : Nat → Int64) (mth : Int32) (mlo : Int32) (mre : Int32) (mpr : Int32) (mto : Int32) (mim : Int64) (mdi : Int64) (mow : Int64) (mit : Int64) (mvl : Nat → Int32) (mhs : Nat → Int32) (mns : Nat → Int32) (mby : Nat → Int32) (mng : Nat → Int32) (mnu : Nat → Int32) (mnd : Nat → Int32) (mbg : Nat → Int32) (mbu : Nat → Int32) (mbd : Nat → Int32) (mlg : Nat → Int32) (mly : Nat → Int32) (mll : Nat → Int64) (mld : Nat → Int64) (mpg : Nat → Int32) (mpu : Nat → Int32) (mpl : Nat → Int64) (mtd : Int64) (mti : Int64) (mwt : Nat → Int64) (mch : Nat → Int64) (x4 : Int32) (k23 : (Nat → Int32) → (Nat → Int32) → (Nat → Int32) → (Nat → Int32) → (Nat → Int32) → (Nat → Int32) → (Nat → Int32) → (Nat → Int32) → (Nat → Int32) → (Nat → Int32) → (Nat → Int32) → (Int32) → (Nat → Int32) → (Nat → Int64) → (Nat → Int64) → (Nat → Int32) → (Int32) → (Int64) → (Nat → Int32) → (Nat → Int64) → (Nat → Int32) → (Int32) → (Nat → Int32) → (Nat → Int64) → (Nat → Int64) → (Nat → Int64) → (Nat → Int64) → (Int32) → (Nat → Int64) → (Nat → Int64) → (Int32) → (Int64) → (Int64) → (Int64) → (Int64) → (Nat → Int64) → (Int32) → (Int32) → (Int32) → (Int32) → (Int32) → (Int64) → (Int64) → (Int64) → (Int64) → (Nat → Int32) → (Nat → Int32) → (Nat → Int32) → (Nat → Int32) → (Nat → Int32) → (Nat → Int32) → (Nat → Int32) → (Nat → Int32) → (Nat → Int32) → (Nat → Int32) → (Nat → Int32) → (Nat → Int32) → (Nat → Int64) → (Nat → Int64) → (Nat → Int32) → (Nat → Int32) → (Nat → Int64) → (Int64) → (Int64) → (Nat → Int64) → (Nat → Int64) → Int32 → Option Unit) : Option Unit :=
  ck (x4 + (1 : Int32)) L <|
  ck (x4 + (2 : Int32)) L <|
  ck (x4 + (3 : Int32)) L <|
  if (xs (x4 + (3 : Int32)).toNatClampNeg) = 0 then
    (f_L_made vl isz igd iup idn osz ogd oup odn lgd llf ldb ldy lsz lti bgd bam bwt bsh brm bsz tod (xs (x4 + (1 : Int32)).toNatClampNeg) (xs (x4 + (2 : Int32)).toNatClampNeg) (0 : Int32) out).bind fun o5 =>
    ck (x4 + (1 : Int32)) L <|
    ck (x4 + (2 : Int32)) L <|
    ck (x4 + (3 : Int32)) L <|
    if (xs (x4 + (3 : Int32)).toNatClampNeg) = 0 then
      (f_X7_made mth mlo mto mvl mns mby mng mnu mnd mbg mbu mbd mlg mly mll mld mtd mti mwt (xs (x4 + (1 : Int32)).toNatClampNeg) (xs (x4 + (2 : Int32)).toNatClampNeg) (0 : Int32)).bind fun o11 =>
      (f_X7_thrown o11.2.1).bind fun o13 =>
      if o13 = o5.1 then
        if o5.1 = 0 then
          ck (0 : Int32) 1 <|
          if (lg_cmp (o5.2.2.2.2.2.2.2.2.2.2.2.2.2 (0 : Int32).toNatClampNeg) o11.1.toInt64) = 0 then
            k23 vl hs isz igd iup idn osz ogd oup odn dep rsz o5.2.1 o5.2.2.1 o5.2.2.2.1 o5.2.2.2.2.1 o5.2.2.2.2.2.1 o5.2.2.2.2.2.2.1 pgd plf pun psz o5.2.2.2.2.2.2.2.1 o5.2.2.2.2.2.2.2.2.1 o5.2.2.2.2.2.2.2.2.2.1 o5.2.2.2.2.2.2.2.2.2.2.1 o5.2.2.2.2.2.2.2.2.2.2.2.1 o5.2.2.2.2.2.2.2.2.2.2.2.2.1 cab cbl tod imp dis owe itr o5.2.2.2.2.2.2.2.2.2.2.2.2.2 o11.2.1 o11.2.2.1 mre mpr mto mim mdi mow mit mvl mhs mns mby mng mnu mnd mbg mbu mbd o11.2.2.2.1 o11.2.2.2.2.1 o11.2.2.2.2.2.1 o11.2.2.2.2.2.2.1 mpg mpu mpl o11.2.2.2.2.2.2.2.1 o11.2.2.2.2.2.2.2.2.1 o11.2.2.2.2.2.2.2.2.2 mch (x4 + 5)
          else
            none
        else
          k23 vl hs isz igd iup idn osz ogd oup odn dep rsz o5.2.1 o5.2.2.1 o5.2.2.2.1 o5.2.2.2.2.1 o5.2.2.2.2.2.1 o5.2.2.2.2.2.2.1 pgd plf pun psz o5.2.2.2.2.2.2.2.1 o5.2.2.2.2.2.2.2.2.1 o5.2.2.2.2.2.2.2.2.2.1 o5.2.2.2.2.2.2.2.2.2.2.1 o5.2.2.2.2.2.2.2.2.2.2.2.1 o5.2.2.2.2.2.2.2.2.2.2.2.2.1 cab cbl tod imp dis owe itr o5.2.2.2.2.2.2.2.2.2.2.2.2.2 o11.2.1 o11.2.2.1 mre mpr mto mim mdi mow mit mvl mhs mns mby mng mnu mnd mbg mbu mbd o11.2.2.2.1 o11.2.2.2.2.1 o11.2.2.2.2.2.1 o11.2.2.2.2.2.2.1 mpg mpu mpl o11.2.2.2.2.2.2.2.1 o11.2.2.2.2.2.2.2.2.1 o11.2.2.2.2.2.2.2.2.2 mch (x4 + 5)
      else
        none
    else
      (f_X7_made mth mlo mto mvl mns mby mng mnu mnd mbg mbu mbd mlg mly mll mld mtd mti mwt (xs (x4 + (1 : Int32)).toNatClampNeg) (xs (x4 + (2 : Int32)).toNatClampNeg) (1 : Int32)).bind fun o19 =>
      (f_X7_thrown o19.2.1).bind fun o21 =>
      if o21 = o5.1 then
        if o5.1 = 0 then
          ck (0 : Int32) 1 <|
          if (lg_cmp (o5.2.2.2.2.2.2.2.2.2.2.2.2.2 (0 : Int32).toNatClampNeg) o19.1.toInt64) = 0 then
            k23 vl hs isz igd iup idn osz ogd oup odn dep rsz o5.2.1 o5.2.2.1 o5.2.2.2.1 o5.2.2.2.2.1 o5.2.2.2.2.2.1 o5.2.2.2.2.2.2.1 pgd plf pun psz o5.2.2.2.2.2.2.2.1 o5.2.2.2.2.2.2.2.2.1 o5.2.2.2.2.2.2.2.2.2.1 o5.2.2.2.2.2.2.2.2.2.2.1 o5.2.2.2.2.2.2.2.2.2.2.2.1 o5.2.2.2.2.2.2.2.2.2.2.2.2.1 cab cbl tod imp dis owe itr o5.2.2.2.2.2.2.2.2.2.2.2.2.2 o19.2.1 o19.2.2.1 mre mpr mto mim mdi mow mit mvl mhs mns mby mng mnu mnd mbg mbu mbd o19.2.2.2.1 o19.2.2.2.2.1 o19.2.2.2.2.2.1 o19.2.2.2.2.2.2.1 mpg mpu mpl o19.2.2.2.2.2.2.2.1 o19.2.2.2.2.2.2.2.2.1 o19.2.2.2.2.2.2.2.2.2 mch (x4 + 5)
          else
            none
        else
          k23 vl hs isz igd iup idn osz ogd oup odn dep rsz o5.2.1 o5.2.2.1 o5.2.2.2.1 o5.2.2.2.2.1 o5.2.2.2.2.2.1 o5.2.2.2.2.2.2.1 pgd plf pun psz o5.2.2.2.2.2.2.2.1 o5.2.2.2.2.2.2.2.2.1 o5.2.2.2.2.2.2.2.2.2.1 o5.2.2.2.2.2.2.2.2.2.2.1 o5.2.2.2.2.2.2.2.2.2.2.2.1 o5.2.2.2.2.2.2.2.2.2.2.2.2.1 cab cbl tod imp dis owe itr o5.2.2.2.2.2.2.2.2.2.2.2.2.2 o19.2.1 o19.2.2.1 mre mpr mto mim mdi mow mit mvl mhs mns mby mng mnu mnd mbg mbu mbd o19.2.2.2.1 o19.2.2.2.2.1 o19.2.2.2.2.2.1 o19.2.2.2.2.2.2.1 mpg mpu mpl o19.2.2.2.2.2.2.2.1 o19.2.2.2.2.2.2.2.2.1 o19.2.2.2.2.2.2.2.2.2 mch (x4 + 5)
      else
        none
  else
    (f_L_made vl isz igd iup idn osz ogd oup odn lgd llf ldb ldy lsz lti bgd bam bwt bsh brm bsz tod (xs (x4 + (1 : Int32)).toNatClampNeg) (xs (x4 + (2 : Int32)).toNatClampNeg) (1 : Int32) out).bind fun o27 =>
    ck (x4 + (1 : Int32)) L <|
    ck (x4 + (2 : Int32)) L <|
    ck (x4 + (3 : Int32)) L <|
    if (xs (x4 + (3 : Int32)).toNatClampNeg) = 0 then
      (f_X7_made mth mlo mto mvl mns mby mng mnu mnd mbg mbu mbd mlg mly mll mld mtd mti mwt (xs (x4 + (1 : Int32)).toNatClampNeg) (xs (x4 + (2 : Int32)).toNatClampNeg) (0 : Int32)).bind fun o33 =>
      (f_X7_thrown o33.2.1).bind fun o35 =>
      if o35 = o27.1 then
        if o27.1 = 0 then
          ck (0 : Int32) 1 <|
          if (lg_cmp (o27.2.2.2.2.2.2.2.2.2.2.2.2.2 (0 : Int32).toNatClampNeg) o33.1.toInt64) = 0 then
            k23 vl hs isz igd iup idn osz ogd oup odn dep rsz o27.2.1 o27.2.2.1 o27.2.2.2.1 o27.2.2.2.2.1 o27.2.2.2.2.2.1 o27.2.2.2.2.2.2.1 pgd plf pun psz o27.2.2.2.2.2.2.2.1 o27.2.2.2.2.2.2.2.2.1 o27.2.2.2.2.2.2.2.2.2.1 o27.2.2.2.2.2.2.2.2.2.2.1 o27.2.2.2.2.2.2.2.2.2.2.2.1 o27.2.2.2.2.2.2.2.2.2.2.2.2.1 cab cbl tod imp dis owe itr o27.2.2.2.2.2.2.2.2.2.2.2.2.2 o33.2.1 o33.2.2.1 mre mpr mto mim mdi mow mit mvl mhs mns mby mng mnu mnd mbg mbu mbd o33.2.2.2.1 o33.2.2.2.2.1 o33.2.2.2.2.2.1 o33.2.2.2.2.2.2.1 mpg mpu mpl o33.2.2.2.2.2.2.2.1 o33.2.2.2.2.2.2.2.2.1 o33.2.2.2.2.2.2.2.2.2 mch (x4 + 5)
          else
            none
        else
          k23 vl hs isz igd iup idn osz ogd oup odn dep rsz o27.2.1 o27.2.2.1 o27.2.2.2.1 o27.2.2.2.2.1 o27.2.2.2.2.2.1 o27.2.2.2.2.2.2.1 pgd plf pun psz o27.2.2.2.2.2.2.2.1 o27.2.2.2.2.2.2.2.2.1 o27.2.2.2.2.2.2.2.2.2.1 o27.2.2.2.2.2.2.2.2.2.2.1 o27.2.2.2.2.2.2.2.2.2.2.2.1 o27.2.2.2.2.2.2.2.2.2.2.2.2.1 cab cbl tod imp dis owe itr o27.2.2.2.2.2.2.2.2.2.2.2.2.2 o33.2.1 o33.2.2.1 mre mpr mto mim mdi mow mit mvl mhs mns mby mng mnu mnd mbg mbu mbd o33.2.2.2.1 o33.2.2.2.2.1 o33.2.2.2.2.2.1 o33.2.2.2.2.2.2.1 mpg mpu mpl o33.2.2.2.2.2.2.2.1 o33.2.2.2.2.2.2.2.2.1 o33.2.2.2.2.2.2.2.2.2 mch (x4 + 5)
      else
        none
    else
      (f_X7_made mth mlo mto mvl mns mby mng mnu mnd mbg mbu mbd mlg mly mll mld mtd mti mwt (xs (x4 + (1 : Int32)).toNatClampNeg) (xs (x4 + (2 : Int32)).toNatClampNeg) (1 : Int32)).bind fun o41 =>
      (f_X7_thrown o41.2.1).bind fun o43 =>
      if o43 = o27.1 then
        if o27.1 = 0 then
          ck (0 : Int32) 1 <|
          if (lg_cmp (o27.2.2.2.2.2.2.2.2.2.2.2.2.2 (0 : Int32).toNatClampNeg) o41.1.toInt64) = 0 then
            k23 vl hs isz igd iup idn osz ogd oup odn dep rsz o27.2.1 o27.2.2.1 o27.2.2.2.1 o27.2.2.2.2.1 o27.2.2.2.2.2.1 o27.2.2.2.2.2.2.1 pgd plf pun psz o27.2.2.2.2.2.2.2.1 o27.2.2.2.2.2.2.2.2.1 o27.2.2.2.2.2.2.2.2.2.1 o27.2.2.2.2.2.2.2.2.2.2.1 o27.2.2.2.2.2.2.2.2.2.2.2.1 o27.2.2.2.2.2.2.2.2.2.2.2.2.1 cab cbl tod imp dis owe itr o27.2.2.2.2.2.2.2.2.2.2.2.2.2 o41.2.1 o41.2.2.1 mre mpr mto mim mdi mow mit mvl mhs mns mby mng mnu mnd mbg mbu mbd o41.2.2.2.1 o41.2.2.2.2.1 o41.2.2.2.2.2.1 o41.2.2.2.2.2.2.1 mpg mpu mpl o41.2.2.2.2.2.2.2.1 o41.2.2.2.2.2.2.2.2.1 o41.2.2.2.2.2.2.2.2.2 mch (x4 + 5)
          else
            none
        else
          k23 vl hs isz igd iup idn osz ogd oup odn dep rsz o27.2.1 o27.2.2.1 o27.2.2.2.1 o27.2.2.2.2.1 o27.2.2.2.2.2.1 o27.2.2.2.2.2.2.1 pgd plf pun psz o27.2.2.2.2.2.2.2.1 o27.2.2.2.2.2.2.2.2.1 o27.2.2.2.2.2.2.2.2.2.1 o27.2.2.2.2.2.2.2.2.2.2.1 o27.2.2.2.2.2.2.2.2.2.2.2.1 o27.2.2.2.2.2.2.2.2.2.2.2.2.1 cab cbl tod imp dis owe itr o27.2.2.2.2.2.2.2.2.2.2.2.2.2 o41.2.1 o41.2.2.1 mre mpr mto mim mdi mow mit mvl mhs mns mby mng mnu mnd mbg mbu mbd o41.2.2.2.1 o41.2.2.2.2.1 o41.2.2.2.2.2.1 o41.2.2.2.2.2.2.1 mpg mpu mpl o41.2.2.2.2.2.2.2.1 o41.2.2.2.2.2.2.2.2.1 o41.2.2.2.2.2.2.2.2.2 mch (x4 + 5)
      else
        none
set_option maxHeartbeats 8000000 in
set_option maxRecDepth 100000 in
theorem w_L_law_J442 {p : Program} {l : Launch} {e : Env} {s : State} {m : MethodId} {below : List Frame} {meth : Method} {c : Code} {D : va_G} {cI cJ cZ : ClassId} {a b : Nat → Nat} {q bs L : Nat} {xs : Nat → Int32} {vl : Nat → Int32} {hs : Nat → Int32} {isz : Nat → Int32} {igd : Nat → Int32} {iup : Nat → Int32} {idn : Nat → Int32} {osz : Nat → Int32} {ogd : Nat → Int32} {oup : Nat → Int32} {odn : Nat → Int32} {dep : Nat → Int32} {rsz : Int32} {lgd : Nat → Int32} {llf : Nat → Int64} {ldb : Nat → Int64} {ldy : Nat → Int32} {lsz : Int32} {lti : Int64} {pgd : Nat → Int32} {plf : Nat → Int64} {pun : Nat → Int32} {psz : Int32} {bgd : Nat → Int32} {bam : Nat → Int64} {bwt : Nat → Int64} {bsh : Nat → Int64} {brm : Nat → Int64} {bsz : Int32} {cab : Nat → Int64} {cbl : Nat → Int64} {tod : Int32} {imp : Int64} {dis : Int64} {owe : Int64} {itr : Int64} {out : Nat → Int64} {mth : Int32} {mlo : Int32} {mre : Int32} {mpr : Int32} {mto : Int32} {mim : Int64} {mdi : Int64} {mow : Int64} {mit : Int64} {mvl : Nat → Int32} {mhs : Nat → Int32} {mns : Nat → Int32} {mby : Nat → Int32} {mng : Nat → Int32} {mnu : Nat → Int32} {mnd : Nat → Int32} {mbg : Nat → Int32} {mbu : Nat → Int32} {mbd : Nat → Int32} {mlg : Nat → Int32} {mly : Nat → Int32} {mll : Nat → Int64} {mld : Nat → Int64} {mpg : Nat → Int32} {mpu : Nat → Int32} {mpl : Nat → Int64} {mtd : Int64} {mti : Int64} {mwt : Nat → Int64} {mch : Nat → Int64} {j : Nat} {x4 : Int32} (C : gC p s m #[Value.ref bs] meth c cL_law 8 ret wsL_law RL (fun z : Nat => s.heap.size ≤ z)) (hV : gV l s (fun z : Nat => s.heap.size ≤ z)) (hX : va_X bs L xs s s.heap) (hbl : bs < s.heap.size) (hj : j + 1 ≤ 514) {k23 : (Nat → Int32) → (Nat → Int32) → (Nat → Int32) → (Nat → Int32) → (Nat → Int32) → (Nat → Int32) → (Nat → Int32) → (Nat → Int32) → (Nat → Int32) → (Nat → Int32) → (Nat → Int32) → (Int32) → (Nat → Int32) → (Nat → Int64) → (Nat → Int64) → (Nat → Int32) → (Int32) → (Int64) → (Nat → Int32) → (Nat → Int64) → (Nat → Int32) → (Int32) → (Nat → Int32) → (Nat → Int64) → (Nat → Int64) → (Nat → Int64) → (Nat → Int64) → (Int32) → (Nat → Int64) → (Nat → Int64) → (Int32) → (Int64) → (Int64) → (Int64) → (Int64) → (Nat → Int64) → (Int32) → (Int32) → (Int32) → (Int32) → (Int32) → (Int64) → (Int64) → (Int64) → (Int64) → (Nat → Int32) → (Nat → Int32) → (Nat → Int32) → (Nat → Int32) → (Nat → Int32) → (Nat → Int32) → (Nat → Int32) → (Nat → Int32) → (Nat → Int32) → (Nat → Int32) → (Nat → Int32) → (Nat → Int32) → (Nat → Int64) → (Nat → Int64) → (Nat → Int32) → (Nat → Int32) → (Nat → Int64) → (Int64) → (Int64) → (Nat → Int64) → (Nat → Int64) → Int32 → Option Unit} (hk23 : ∀ (vl : Nat → Int32) (hs : Nat → Int32) (isz : Nat → Int32) (igd : Nat → Int32) (iup : Nat → Int32) (idn : Nat → Int32) (osz : Nat → Int32) (ogd : Nat → Int32) (oup : Nat → Int32) (odn : Nat → Int32) (dep : Nat → Int32) (rsz : Int32) (lgd : Nat → Int32) (llf : Nat → Int64) (ldb : Nat → Int64) (ldy : Nat → Int32) (lsz : Int32) (lti : Int64) (pgd : Nat → Int32) (plf : Nat → Int64) (pun : Nat → Int32) (psz : Int32) (bgd : Nat → Int32) (bam : Nat → Int64) (bwt : Nat → Int64) (bsh : Nat → Int64) (brm : Nat → Int64) (bsz : Int32) (cab : Nat → Int64) (cbl : Nat → Int64) (tod : Int32) (imp : Int64) (dis : Int64) (owe : Int64) (itr : Int64) (out : Nat → Int64) (mth : Int32) (mlo : Int32) (mre : Int32) (mpr : Int32) (mto : Int32) (mim : Int64) (mdi : Int64) (mow : Int64) (mit : Int64) (mvl : Nat → Int32) (mhs : Nat → Int32) (mns : Nat → Int32) (mby : Nat → Int32) (mng : Nat → Int32) (mnu : Nat → Int32) (mnd : Nat → Int32) (mbg : Nat → Int32) (mbu : Nat → Int32) (mbd : Nat → Int32) (mlg : Nat → Int32) (mly : Nat → Int32) (mll : Nat → Int64) (mld : Nat → Int64) (mpg : Nat → Int32) (mpu : Nat → Int32) (mpl : Nat → Int64) (mtd : Int64) (mti : Int64) (mwt : Nat → Int64) (mch : Nat → Int64) (x4 : Int32) (H : Heap) (locs : List Loc) (ls : Array Slot), vE s (fun z : Nat => s.heap.size ≤ z) D (gT cI cJ cZ) (((cW a cI cJ cZ vl hs isz igd iup idn osz ogd oup odn dep rsz lgd llf ldb ldy lsz lti pgd plf pun psz bgd bam bwt bsh brm bsz cab cbl tod imp dis owe itr) ++ [(q, .inl (cJ, 1, .inr (.inl out)))]) ++ (mW b cI cJ cZ mth mlo mre mpr mto mim mdi mow mit mvl mhs mns mby mng mnu mnd mbg mbu mbd mlg mly mll mld mpg mpu mpl mtd mti mwt mch)) H locs → lv_has ls 8 [(0, .ref bs), (1, .ref (a 0)), (2, .ref (b 0)), (3, .ref q), (4, .int x4)] → k23 vl hs isz igd iup idn osz ogd oup odn dep rsz lgd llf ldb ldy lsz lti pgd plf pun psz bgd bam bwt bsh brm bsz cab cbl tod imp dis owe itr out mth mlo mre mpr mto mim mdi mow mit mvl mhs mns mby mng mnu mnd mbg mbu mbd mlg mly mll mld mpg mpu mpl mtd mti mwt mch x4 = some () → W p l e room_1 s m #[Value.ref bs] below meth c H locs (54 + (j + 1)) (2581 + 6 * (j + 1)) (lw_Z below #[Value.ref bs] s) (F0 m 23 ls [])) {H : Heap} {locs : List Loc} {ls : Array Slot} (E : vE s (fun z : Nat => s.heap.size ≤ z) D (gT cI cJ cZ) (((cW a cI cJ cZ vl hs isz igd iup idn osz ogd oup odn dep rsz lgd llf ldb ldy lsz lti pgd plf pun psz bgd bam bwt bsh brm bsz cab cbl tod imp dis owe itr) ++ [(q, .inl (cJ, 1, .inr (.inl out)))]) ++ (mW b cI cJ cZ mth mlo mre mpr mto mim mdi mow mit mvl mhs mns mby mng mnu mnd mbg mbu mbd mlg mly mll mld mpg mpu mpl mtd mti mwt mch)) H locs) (hl : lv_has ls 8 [(0, .ref bs), (1, .ref (a 0)), (2, .ref (b 0)), (3, .ref q), (4, .int x4)]) (hf : f_L_law_J442 xs L vl hs isz igd iup idn osz ogd oup odn dep rsz lgd llf ldb ldy lsz lti pgd plf pun psz bgd bam bwt bsh brm bsz cab cbl tod imp dis owe itr out mth mlo mre mpr mto mim mdi mow mit mvl mhs mns mby mng mnu mnd mbg mbu mbd mlg mly mll mld mpg mpu mpl mtd mti mwt mch x4 k23 = some ()) : W p l e room_1 s m #[Value.ref bs] below meth c H locs (54 + j) (2581 + 6 * j) (lw_Z below #[Value.ref bs] s) (F0 m 442 ls []) := by
  obtain ⟨hx, hb, hr, hml, hown, hts, hlocks, hN, hA⟩ := id C
  have hl0 : l.stackTraces = false := hV.1
  have hbA : ¬ (fun z : Nat => s.heap.size ≤ z) bs := Nat.not_le.mpr hbl
  rw [f_L_law_J442] at hf
  refine lv_aload_n hx hb dL_law_442 rfl (lv_at hl 1 rfl) ?_
  refine lv_aload_n hx hb dL_law_443 rfl (lv_at hl 0 rfl) ?_
  refine lv_iload hx hb dL_law_444 (lv_at hl 4 rfl) ?_
  refine lv_iconst (v := 1) hx hb dL_law_446 (by decide) ?_
  refine lv_iadd hx hb dL_law_447 ?_
  obtain ⟨h1, hf⟩ := ck_some hf
  refine va_sld hx hb hX hbl hbA E.2.2.2 h1 dL_law_448 ?_
  refine lv_aload_n hx hb dL_law_449 rfl (lv_at hl 0 rfl) ?_
  refine lv_iload hx hb dL_law_450 (lv_at hl 4 rfl) ?_
  refine lv_iconst (v := 2) hx hb dL_law_452 (by decide) ?_
  refine lv_iadd hx hb dL_law_453 ?_
  obtain ⟨h2, hf⟩ := ck_some hf
  refine va_sld hx hb hX hbl hbA E.2.2.2 h2 dL_law_454 ?_
  refine lv_aload_n hx hb dL_law_455 rfl (lv_at hl 0 rfl) ?_
  refine lv_iload hx hb dL_law_456 (lv_at hl 4 rfl) ?_
  refine lv_iconst (v := 3) hx hb dL_law_458 (by decide) ?_
  refine lv_iadd hx hb dL_law_459 ?_
  obtain ⟨h3, hf⟩ := ck_some hf
  refine va_sld hx hb hX hbl hbA E.2.2.2 h3 dL_law_460 ?_
  refine lv_if_eq (tgt := 468) hx hb dL_law_461 (by decide) (fun c4 => ?_) (fun c4 => ?_)
  · rw [if_pos c4] at hf
    refine lv_iconst (v := 0) hx hb dL_law_468 (by decide) ?_
    refine lv_aload_n hx hb dL_law_469 rfl (lv_at hl 3 rfl) ?_
    obtain ⟨o5, e6, hf⟩ := bd_some hf
    refine g_calliW (wc := ((cW a cI cJ cZ vl hs isz igd iup idn osz ogd oup odn dep rsz lgd llf ldb ldy lsz lti pgd plf pun psz bgd bam bwt bsh brm bsz cab cbl tod imp dis owe itr) ++ [(q, .inl (cJ, 1, .inr (.inl out)))])) (wc' := ((cW a cI cJ cZ vl hs isz igd iup idn osz ogd oup odn dep rsz o5.2.1 o5.2.2.1 o5.2.2.2.1 o5.2.2.2.2.1 o5.2.2.2.2.2.1 o5.2.2.2.2.2.2.1 pgd plf pun psz o5.2.2.2.2.2.2.2.1 o5.2.2.2.2.2.2.2.2.1 o5.2.2.2.2.2.2.2.2.2.1 o5.2.2.2.2.2.2.2.2.2.2.1 o5.2.2.2.2.2.2.2.2.2.2.2.1 o5.2.2.2.2.2.2.2.2.2.2.2.2.1 cab cbl tod imp dis owe itr) ++ [(q, .inl (cJ, 1, .inr (.inl o5.2.2.2.2.2.2.2.2.2.2.2.2.2)))])) (wr := (mW b cI cJ cZ mth mlo mre mpr mto mim mdi mow mit mvl mhs mns mby mng mnu mnd mbg mbu mbd mlg mly mll mld mpg mpu mpl mtd mti mwt mch)) C E (g_runSW (As := [.ref (a 0), .int (xs (x4 + (1 : Int32)).toNatClampNeg), .int (xs (x4 + (2 : Int32)).toNatClampNeg), .int (0 : Int32), .ref q]) (rest := []) C (vE_left E) hV (c_L_made hl0 e6) (vx_cwSW 5 hts gL_law_L_made rfl rfl rfl hd_L_made ⟨(Nat.le_of_ble_eq_true rfl), (Nat.le_of_ble_eq_true rfl)⟩) rfl hl.1 rfl (Nat.le_of_ble_eq_true rfl) dL_law_470 ⟨show 54 + j + 1 ≤ 1090 by omega, show 2581 + 6 * j + 6 ≤ 10845 by omega⟩) (fun H locs E => ?_)
    refine lv_istore (lv' := [(5, .int o5.1), (0, .ref bs), (1, .ref (a 0)), (2, .ref (b 0)), (3, .ref q), (4, .int x4)]) hx hb dL_law_473 hl (by decide) rfl (fun ls hl => ?_)
    refine lv_aload_n hx hb dL_law_475 rfl (lv_at hl 3 rfl) ?_
    refine lv_aload_n hx hb dL_law_476 rfl (lv_at hl 1 rfl) ?_
    refine lv_iload hx hb dL_law_477 (lv_at hl 5 rfl) ?_
    refine lv_iconst (v := 1) hx hb dL_law_479 (by decide) ?_
    refine lv_iadd hx hb dL_law_480 ?_
    obtain ⟨h7, hf⟩ := ck_some hf
    refine va_sld hx hb hX hbl hbA E.2.2.2 h7 dL_law_481 ?_
    refine lv_aload_n hx hb dL_law_482 rfl (lv_at hl 1 rfl) ?_
    refine lv_iload hx hb dL_law_483 (lv_at hl 5 rfl) ?_
    refine lv_iconst (v := 2) hx hb dL_law_485 (by decide) ?_
    refine lv_iadd hx hb dL_law_486 ?_
    obtain ⟨h8, hf⟩ := ck_some hf
    refine va_sld hx hb hX hbl hbA E.2.2.2 h8 dL_law_487 ?_
    refine lv_aload_n hx hb dL_law_488 rfl (lv_at hl 1 rfl) ?_
    refine lv_iload hx hb dL_law_489 (lv_at hl 5 rfl) ?_
    refine lv_iconst (v := 3) hx hb dL_law_491 (by decide) ?_
    refine lv_iadd hx hb dL_law_492 ?_
    obtain ⟨h9, hf⟩ := ck_some hf
    refine va_sld hx hb hX hbl hbA E.2.2.2 h9 dL_law_493 ?_
    refine lv_if_eq (tgt := 501) hx hb dL_law_494 (by decide) (fun c10 => ?_) (fun c10 => ?_)
    · rw [if_pos c10] at hf
      refine lv_iconst (v := 0) hx hb dL_law_501 (by decide) ?_
      obtain ⟨o11, e12, hf⟩ := bd_some hf
      refine g_calliF (wc := (mW b cI cJ cZ mth mlo mre mpr mto mim mdi mow mit mvl mhs mns mby mng mnu mnd mbg mbu mbd mlg mly mll mld mpg mpu mpl mtd mti mwt mch)) (wc' := (mW b cI cJ cZ o11.2.1 o11.2.2.1 mre mpr mto mim mdi mow mit mvl mhs mns mby mng mnu mnd mbg mbu mbd o11.2.2.2.1 o11.2.2.2.2.1 o11.2.2.2.2.2.1 o11.2.2.2.2.2.2.1 mpg mpu mpl o11.2.2.2.2.2.2.2.1 o11.2.2.2.2.2.2.2.2.1 o11.2.2.2.2.2.2.2.2.2 mch)) (wr := ((cW a cI cJ cZ vl hs isz igd iup idn osz ogd oup odn dep rsz o5.2.1 o5.2.2.1 o5.2.2.2.1 o5.2.2.2.2.1 o5.2.2.2.2.2.1 o5.2.2.2.2.2.2.1 pgd plf pun psz o5.2.2.2.2.2.2.2.1 o5.2.2.2.2.2.2.2.2.1 o5.2.2.2.2.2.2.2.2.2.1 o5.2.2.2.2.2.2.2.2.2.2.1 o5.2.2.2.2.2.2.2.2.2.2.2.1 o5.2.2.2.2.2.2.2.2.2.2.2.2.1 cab cbl tod imp dis owe itr) ++ [(q, .inl (cJ, 1, .inr (.inl o5.2.2.2.2.2.2.2.2.2.2.2.2.2)))])) C (vE_swap E) (g_runV (As := [.int (xs (x4 + (1 : Int32)).toNatClampNeg), .int (xs (x4 + (2 : Int32)).toNatClampNeg), .int (0 : Int32)]) (rest := []) C (vE_left (vE_swap E)) (c_X7_made e12) (cwV 3 hts gL_law_X7_made rfl rfl rfl ⟨rfl, hd_X7_made⟩ ⟨(Nat.le_of_ble_eq_true rfl), (Nat.le_of_ble_eq_true rfl)⟩) (q0 := 0) (ci := 7) rfl rfl rfl rfl hl.1 rfl (Nat.le_of_ble_eq_true rfl) dL_law_502 ⟨show 54 + j + 1 + 0 ≤ 1090 by omega, show 2581 + 6 * j + 6 + 0 ≤ 10845 by omega⟩) (fun H locs E => ?_)
      replace E := vE_swap E
      refine lv_istore (lv' := [(6, .int o11.1), (5, .int o5.1), (0, .ref bs), (1, .ref (a 0)), (2, .ref (b 0)), (3, .ref q), (4, .int x4)]) hx hb dL_law_505 hl (by decide) rfl (fun ls hl => ?_)
      refine lv_aload_n hx hb dL_law_507 rfl (lv_at hl 4 rfl) ?_
      obtain ⟨o13, e14, hf⟩ := bd_some hf
      refine g_calliF (wc := (mW b cI cJ cZ o11.2.1 o11.2.2.1 mre mpr mto mim mdi mow mit mvl mhs mns mby mng mnu mnd mbg mbu mbd o11.2.2.2.1 o11.2.2.2.2.1 o11.2.2.2.2.2.1 o11.2.2.2.2.2.2.1 mpg mpu mpl o11.2.2.2.2.2.2.2.1 o11.2.2.2.2.2.2.2.2.1 o11.2.2.2.2.2.2.2.2.2 mch)) (wc' := (mW b cI cJ cZ o11.2.1 o11.2.2.1 mre mpr mto mim mdi mow mit mvl mhs mns mby mng mnu mnd mbg mbu mbd o11.2.2.2.1 o11.2.2.2.2.1 o11.2.2.2.2.2.1 o11.2.2.2.2.2.2.1 mpg mpu mpl o11.2.2.2.2.2.2.2.1 o11.2.2.2.2.2.2.2.2.1 o11.2.2.2.2.2.2.2.2.2 mch)) (wr := ((cW a cI cJ cZ vl hs isz igd iup idn osz ogd oup odn dep rsz o5.2.1 o5.2.2.1 o5.2.2.2.1 o5.2.2.2.2.1 o5.2.2.2.2.2.1 o5.2.2.2.2.2.2.1 pgd plf pun psz o5.2.2.2.2.2.2.2.1 o5.2.2.2.2.2.2.2.2.1 o5.2.2.2.2.2.2.2.2.2.1 o5.2.2.2.2.2.2.2.2.2.2.1 o5.2.2.2.2.2.2.2.2.2.2.2.1 o5.2.2.2.2.2.2.2.2.2.2.2.2.1 cab cbl tod imp dis owe itr) ++ [(q, .inl (cJ, 1, .inr (.inl o5.2.2.2.2.2.2.2.2.2.2.2.2.2)))])) C (vE_swap E) (g_runV (As := []) (rest := []) C (vE_left (vE_swap E)) (c_X7_thrown e14) (cwV 0 hts gL_law_X7_thrown rfl rfl rfl ⟨rfl, hd_X7_thrown⟩ ⟨(Nat.le_of_ble_eq_true rfl), (Nat.le_of_ble_eq_true rfl)⟩) (q0 := 0) (ci := 7) rfl rfl rfl rfl hl.1 rfl (Nat.le_of_ble_eq_true rfl) dL_law_508 ⟨show 54 + j + 1 + 0 ≤ 1090 by omega, show 2581 + 6 * j + 6 + 0 ≤ 10845 by omega⟩) (fun H locs E => ?_)
      replace E := vE_swap E
      refine lv_iload hx hb dL_law_511 (lv_at hl 1 rfl) ?_
      refine lv_icmp_eq (tgt := 518) hx hb dL_law_513 (by decide) (fun c15 => ?_) (fun c15 => ?_)
      · rw [if_pos c15] at hf
        refine lv_iload hx hb dL_law_518 (lv_at hl 1 rfl) ?_
        refine lv_if_ne (tgt := 535) hx hb dL_law_520 (by decide) (fun c16 => ?_) (fun c16 => ?_)
        · rw [if_neg c16] at hf
          refine lv_goto (tgt := 1108) hx hb dL_law_535 (by decide) ?_
          refine lv_iinc (v := (x4 + 5)) (lv' := [(4, .int (x4 + 5)), (6, .int o11.1), (5, .int o5.1), (0, .ref bs), (1, .ref (a 0)), (2, .ref (b 0)), (3, .ref q)]) hx hb dL_law_1108 hl (k := 6) rfl rfl (by decide) rfl (fun ls hl => ?_)
          refine lv_goto (tgt := 23) hx hb dL_law_1111 (by decide) ?_
          refine W.widen (k := 54 + (j + 1)) (n := 2581 + 6 * (j + 1)) (by omega) (by omega) ?_
          exact hk23 vl hs isz igd iup idn osz ogd oup odn dep rsz o5.2.1 o5.2.2.1 o5.2.2.2.1 o5.2.2.2.2.1 o5.2.2.2.2.2.1 o5.2.2.2.2.2.2.1 pgd plf pun psz o5.2.2.2.2.2.2.2.1 o5.2.2.2.2.2.2.2.2.1 o5.2.2.2.2.2.2.2.2.2.1 o5.2.2.2.2.2.2.2.2.2.2.1 o5.2.2.2.2.2.2.2.2.2.2.2.1 o5.2.2.2.2.2.2.2.2.2.2.2.2.1 cab cbl tod imp dis owe itr o5.2.2.2.2.2.2.2.2.2.2.2.2.2 o11.2.1 o11.2.2.1 mre mpr mto mim mdi mow mit mvl mhs mns mby mng mnu mnd mbg mbu mbd o11.2.2.2.1 o11.2.2.2.2.1 o11.2.2.2.2.2.1 o11.2.2.2.2.2.2.1 mpg mpu mpl o11.2.2.2.2.2.2.2.1 o11.2.2.2.2.2.2.2.2.1 o11.2.2.2.2.2.2.2.2.2 mch (x4 + 5) _ _ _ E (lv_sub hl [3, 4, 5, 6, 0] rfl) hf
        · rw [if_pos c16] at hf
          refine lv_aload_n hx hb dL_law_523 rfl (lv_at hl 5 rfl) ?_
          refine lv_iconst (v := 0) hx hb dL_law_524 (by decide) ?_
          obtain ⟨h17, hf⟩ := ck_some hf
          refine g_lald C E 33 rfl h17 dL_law_525 ?_
          refine lv_iload hx hb dL_law_526 (lv_at hl 0 rfl) ?_
          refine lv_i2l hx hb dL_law_528 rfl ?_
          refine W.lcmp hx hb dL_law_529 ?_
          refine lv_if_eq (tgt := 535) hx hb dL_law_530 (by decide) (fun c18 => ?_) (fun c18 => ?_)
          · rw [if_pos c18] at hf
            refine lv_goto (tgt := 1108) hx hb dL_law_535 (by decide) ?_
            refine lv_iinc (v := (x4 + 5)) (lv' := [(4, .int (x4 + 5)), (6, .int o11.1), (5, .int o5.1), (0, .ref bs), (1, .ref (a 0)), (2, .ref (b 0)), (3, .ref q)]) hx hb dL_law_1108 hl (k := 6) rfl rfl (by decide) rfl (fun ls hl => ?_)
            refine lv_goto (tgt := 23) hx hb dL_law_1111 (by decide) ?_
            refine W.widen (k := 54 + (j + 1)) (n := 2581 + 6 * (j + 1)) (by omega) (by omega) ?_
            exact hk23 vl hs isz igd iup idn osz ogd oup odn dep rsz o5.2.1 o5.2.2.1 o5.2.2.2.1 o5.2.2.2.2.1 o5.2.2.2.2.2.1 o5.2.2.2.2.2.2.1 pgd plf pun psz o5.2.2.2.2.2.2.2.1 o5.2.2.2.2.2.2.2.2.1 o5.2.2.2.2.2.2.2.2.2.1 o5.2.2.2.2.2.2.2.2.2.2.1 o5.2.2.2.2.2.2.2.2.2.2.2.1 o5.2.2.2.2.2.2.2.2.2.2.2.2.1 cab cbl tod imp dis owe itr o5.2.2.2.2.2.2.2.2.2.2.2.2.2 o11.2.1 o11.2.2.1 mre mpr mto mim mdi mow mit mvl mhs mns mby mng mnu mnd mbg mbu mbd o11.2.2.2.1 o11.2.2.2.2.1 o11.2.2.2.2.2.1 o11.2.2.2.2.2.2.1 mpg mpu mpl o11.2.2.2.2.2.2.2.1 o11.2.2.2.2.2.2.2.2.1 o11.2.2.2.2.2.2.2.2.2 mch (x4 + 5) _ _ _ E (lv_sub hl [3, 4, 5, 6, 0] rfl) hf
          · rw [if_neg c18] at hf
            refine lv_iconst (v := 0) hx hb dL_law_533 (by decide) ?_
            cases hf
      · rw [if_neg c15] at hf
        refine lv_iconst (v := 0) hx hb dL_law_516 (by decide) ?_
        cases hf
    · rw [if_neg c10] at hf
      refine lv_iconst (v := 1) hx hb dL_law_497 (by decide) ?_
      refine lv_goto (tgt := 502) hx hb dL_law_498 (by decide) ?_
      obtain ⟨o19, e20, hf⟩ := bd_some hf
      refine g_calliF (wc := (mW b cI cJ cZ mth mlo mre mpr mto mim mdi mow mit mvl mhs mns mby mng mnu mnd mbg mbu mbd mlg mly mll mld mpg mpu mpl mtd mti mwt mch)) (wc' := (mW b cI cJ cZ o19.2.1 o19.2.2.1 mre mpr mto mim mdi mow mit mvl mhs mns mby mng mnu mnd mbg mbu mbd o19.2.2.2.1 o19.2.2.2.2.1 o19.2.2.2.2.2.1 o19.2.2.2.2.2.2.1 mpg mpu mpl o19.2.2.2.2.2.2.2.1 o19.2.2.2.2.2.2.2.2.1 o19.2.2.2.2.2.2.2.2.2 mch)) (wr := ((cW a cI cJ cZ vl hs isz igd iup idn osz ogd oup odn dep rsz o5.2.1 o5.2.2.1 o5.2.2.2.1 o5.2.2.2.2.1 o5.2.2.2.2.2.1 o5.2.2.2.2.2.2.1 pgd plf pun psz o5.2.2.2.2.2.2.2.1 o5.2.2.2.2.2.2.2.2.1 o5.2.2.2.2.2.2.2.2.2.1 o5.2.2.2.2.2.2.2.2.2.2.1 o5.2.2.2.2.2.2.2.2.2.2.2.1 o5.2.2.2.2.2.2.2.2.2.2.2.2.1 cab cbl tod imp dis owe itr) ++ [(q, .inl (cJ, 1, .inr (.inl o5.2.2.2.2.2.2.2.2.2.2.2.2.2)))])) C (vE_swap E) (g_runV (As := [.int (xs (x4 + (1 : Int32)).toNatClampNeg), .int (xs (x4 + (2 : Int32)).toNatClampNeg), .int (1 : Int32)]) (rest := []) C (vE_left (vE_swap E)) (c_X7_made e20) (cwV 3 hts gL_law_X7_made rfl rfl rfl ⟨rfl, hd_X7_made⟩ ⟨(Nat.le_of_ble_eq_true rfl), (Nat.le_of_ble_eq_true rfl)⟩) (q0 := 0) (ci := 7) rfl rfl rfl rfl hl.1 rfl (Nat.le_of_ble_eq_true rfl) dL_law_502 ⟨show 54 + j + 1 + 0 ≤ 1090 by omega, show 2581 + 6 * j + 6 + 0 ≤ 10845 by omega⟩) (fun H locs E => ?_)
      replace E := vE_swap E
      refine lv_istore (lv' := [(6, .int o19.1), (5, .int o5.1), (0, .ref bs), (1, .ref (a 0)), (2, .ref (b 0)), (3, .ref q), (4, .int x4)]) hx hb dL_law_505 hl (by decide) rfl (fun ls hl => ?_)
      refine lv_aload_n hx hb dL_law_507 rfl (lv_at hl 4 rfl) ?_
      obtain ⟨o21, e22, hf⟩ := bd_some hf
      refine g_calliF (wc := (mW b cI cJ cZ o19.2.1 o19.2.2.1 mre mpr mto mim mdi mow mit mvl mhs mns mby mng mnu mnd mbg mbu mbd o19.2.2.2.1 o19.2.2.2.2.1 o19.2.2.2.2.2.1 o19.2.2.2.2.2.2.1 mpg mpu mpl o19.2.2.2.2.2.2.2.1 o19.2.2.2.2.2.2.2.2.1 o19.2.2.2.2.2.2.2.2.2 mch)) (wc' := (mW b cI cJ cZ o19.2.1 o19.2.2.1 mre mpr mto mim mdi mow mit mvl mhs mns mby mng mnu mnd mbg mbu mbd o19.2.2.2.1 o19.2.2.2.2.1 o19.2.2.2.2.2.1 o19.2.2.2.2.2.2.1 mpg mpu mpl o19.2.2.2.2.2.2.2.1 o19.2.2.2.2.2.2.2.2.1 o19.2.2.2.2.2.2.2.2.2 mch)) (wr := ((cW a cI cJ cZ vl hs isz igd iup idn osz ogd oup odn dep rsz o5.2.1 o5.2.2.1 o5.2.2.2.1 o5.2.2.2.2.1 o5.2.2.2.2.2.1 o5.2.2.2.2.2.2.1 pgd plf pun psz o5.2.2.2.2.2.2.2.1 o5.2.2.2.2.2.2.2.2.1 o5.2.2.2.2.2.2.2.2.2.1 o5.2.2.2.2.2.2.2.2.2.2.1 o5.2.2.2.2.2.2.2.2.2.2.2.1 o5.2.2.2.2.2.2.2.2.2.2.2.2.1 cab cbl tod imp dis owe itr) ++ [(q, .inl (cJ, 1, .inr (.inl o5.2.2.2.2.2.2.2.2.2.2.2.2.2)))])) C (vE_swap E) (g_runV (As := []) (rest := []) C (vE_left (vE_swap E)) (c_X7_thrown e22) (cwV 0 hts gL_law_X7_thrown rfl rfl rfl ⟨rfl, hd_X7_thrown⟩ ⟨(Nat.le_of_ble_eq_true rfl), (Nat.le_of_ble_eq_true rfl)⟩) (q0 := 0) (ci := 7) rfl rfl rfl rfl hl.1 rfl (Nat.le_of_ble_eq_true rfl) dL_law_508 ⟨show 54 + j + 1 + 0 ≤ 1090 by omega, show 2581 + 6 * j + 6 + 0 ≤ 10845 by omega⟩) (fun H locs E => ?_)
      replace E := vE_swap E
      refine lv_iload hx hb dL_law_511 (lv_at hl 1 rfl) ?_
      refine lv_icmp_eq (tgt := 518) hx hb dL_law_513 (by decide) (fun c23 => ?_) (fun c23 => ?_)
      · rw [if_pos c23] at hf
        refine lv_iload hx hb dL_law_518 (lv_at hl 1 rfl) ?_
        refine lv_if_ne (tgt := 535) hx hb dL_law_520 (by decide) (fun c24 => ?_) (fun c24 => ?_)
        · rw [if_neg c24] at hf
          refine lv_goto (tgt := 1108) hx hb dL_law_535 (by decide) ?_
          refine lv_iinc (v := (x4 + 5)) (lv' := [(4, .int (x4 + 5)), (6, .int o19.1), (5, .int o5.1), (0, .ref bs), (1, .ref (a 0)), (2, .ref (b 0)), (3, .ref q)]) hx hb dL_law_1108 hl (k := 6) rfl rfl (by decide) rfl (fun ls hl => ?_)
          refine lv_goto (tgt := 23) hx hb dL_law_1111 (by decide) ?_
          refine W.widen (k := 54 + (j + 1)) (n := 2581 + 6 * (j + 1)) (by omega) (by omega) ?_
          exact hk23 vl hs isz igd iup idn osz ogd oup odn dep rsz o5.2.1 o5.2.2.1 o5.2.2.2.1 o5.2.2.2.2.1 o5.2.2.2.2.2.1 o5.2.2.2.2.2.2.1 pgd plf pun psz o5.2.2.2.2.2.2.2.1 o5.2.2.2.2.2.2.2.2.1 o5.2.2.2.2.2.2.2.2.2.1 o5.2.2.2.2.2.2.2.2.2.2.1 o5.2.2.2.2.2.2.2.2.2.2.2.1 o5.2.2.2.2.2.2.2.2.2.2.2.2.1 cab cbl tod imp dis owe itr o5.2.2.2.2.2.2.2.2.2.2.2.2.2 o19.2.1 o19.2.2.1 mre mpr mto mim mdi mow mit mvl mhs mns mby mng mnu mnd mbg mbu mbd o19.2.2.2.1 o19.2.2.2.2.1 o19.2.2.2.2.2.1 o19.2.2.2.2.2.2.1 mpg mpu mpl o19.2.2.2.2.2.2.2.1 o19.2.2.2.2.2.2.2.2.1 o19.2.2.2.2.2.2.2.2.2 mch (x4 + 5) _ _ _ E (lv_sub hl [3, 4, 5, 6, 0] rfl) hf
        · rw [if_pos c24] at hf
          refine lv_aload_n hx hb dL_law_523 rfl (lv_at hl 5 rfl) ?_
          refine lv_iconst (v := 0) hx hb dL_law_524 (by decide) ?_
          obtain ⟨h25, hf⟩ := ck_some hf
          refine g_lald C E 33 rfl h25 dL_law_525 ?_
          refine lv_iload hx hb dL_law_526 (lv_at hl 0 rfl) ?_
          refine lv_i2l hx hb dL_law_528 rfl ?_
          refine W.lcmp hx hb dL_law_529 ?_
          refine lv_if_eq (tgt := 535) hx hb dL_law_530 (by decide) (fun c26 => ?_) (fun c26 => ?_)
          · rw [if_pos c26] at hf
            refine lv_goto (tgt := 1108) hx hb dL_law_535 (by decide) ?_
            refine lv_iinc (v := (x4 + 5)) (lv' := [(4, .int (x4 + 5)), (6, .int o19.1), (5, .int o5.1), (0, .ref bs), (1, .ref (a 0)), (2, .ref (b 0)), (3, .ref q)]) hx hb dL_law_1108 hl (k := 6) rfl rfl (by decide) rfl (fun ls hl => ?_)
            refine lv_goto (tgt := 23) hx hb dL_law_1111 (by decide) ?_
            refine W.widen (k := 54 + (j + 1)) (n := 2581 + 6 * (j + 1)) (by omega) (by omega) ?_
            exact hk23 vl hs isz igd iup idn osz ogd oup odn dep rsz o5.2.1 o5.2.2.1 o5.2.2.2.1 o5.2.2.2.2.1 o5.2.2.2.2.2.1 o5.2.2.2.2.2.2.1 pgd plf pun psz o5.2.2.2.2.2.2.2.1 o5.2.2.2.2.2.2.2.2.1 o5.2.2.2.2.2.2.2.2.2.1 o5.2.2.2.2.2.2.2.2.2.2.1 o5.2.2.2.2.2.2.2.2.2.2.2.1 o5.2.2.2.2.2.2.2.2.2.2.2.2.1 cab cbl tod imp dis owe itr o5.2.2.2.2.2.2.2.2.2.2.2.2.2 o19.2.1 o19.2.2.1 mre mpr mto mim mdi mow mit mvl mhs mns mby mng mnu mnd mbg mbu mbd o19.2.2.2.1 o19.2.2.2.2.1 o19.2.2.2.2.2.1 o19.2.2.2.2.2.2.1 mpg mpu mpl o19.2.2.2.2.2.2.2.1 o19.2.2.2.2.2.2.2.2.1 o19.2.2.2.2.2.2.2.2.2 mch (x4 + 5) _ _ _ E (lv_sub hl [3, 4, 5, 6, 0] rfl) hf
          · rw [if_neg c26] at hf
            refine lv_iconst (v := 0) hx hb dL_law_533 (by decide) ?_
            cases hf
      · rw [if_neg c23] at hf
        refine lv_iconst (v := 0) hx hb dL_law_516 (by decide) ?_
        cases hf
  · rw [if_neg c4] at hf
    refine lv_iconst (v := 1) hx hb dL_law_464 (by decide) ?_
    refine lv_goto (tgt := 469) hx hb dL_law_465 (by decide) ?_
    refine lv_aload_n hx hb dL_law_469 rfl (lv_at hl 3 rfl) ?_
    obtain ⟨o27, e28, hf⟩ := bd_some hf
    refine g_calliW (wc := ((cW a cI cJ cZ vl hs isz igd iup idn osz ogd oup odn dep rsz lgd llf ldb ldy lsz lti pgd plf pun psz bgd bam bwt bsh brm bsz cab cbl tod imp dis owe itr) ++ [(q, .inl (cJ, 1, .inr (.inl out)))])) (wc' := ((cW a cI cJ cZ vl hs isz igd iup idn osz ogd oup odn dep rsz o27.2.1 o27.2.2.1 o27.2.2.2.1 o27.2.2.2.2.1 o27.2.2.2.2.2.1 o27.2.2.2.2.2.2.1 pgd plf pun psz o27.2.2.2.2.2.2.2.1 o27.2.2.2.2.2.2.2.2.1 o27.2.2.2.2.2.2.2.2.2.1 o27.2.2.2.2.2.2.2.2.2.2.1 o27.2.2.2.2.2.2.2.2.2.2.2.1 o27.2.2.2.2.2.2.2.2.2.2.2.2.1 cab cbl tod imp dis owe itr) ++ [(q, .inl (cJ, 1, .inr (.inl o27.2.2.2.2.2.2.2.2.2.2.2.2.2)))])) (wr := (mW b cI cJ cZ mth mlo mre mpr mto mim mdi mow mit mvl mhs mns mby mng mnu mnd mbg mbu mbd mlg mly mll mld mpg mpu mpl mtd mti mwt mch)) C E (g_runSW (As := [.ref (a 0), .int (xs (x4 + (1 : Int32)).toNatClampNeg), .int (xs (x4 + (2 : Int32)).toNatClampNeg), .int (1 : Int32), .ref q]) (rest := []) C (vE_left E) hV (c_L_made hl0 e28) (vx_cwSW 5 hts gL_law_L_made rfl rfl rfl hd_L_made ⟨(Nat.le_of_ble_eq_true rfl), (Nat.le_of_ble_eq_true rfl)⟩) rfl hl.1 rfl (Nat.le_of_ble_eq_true rfl) dL_law_470 ⟨show 54 + j + 1 ≤ 1090 by omega, show 2581 + 6 * j + 6 ≤ 10845 by omega⟩) (fun H locs E => ?_)
    refine lv_istore (lv' := [(5, .int o27.1), (0, .ref bs), (1, .ref (a 0)), (2, .ref (b 0)), (3, .ref q), (4, .int x4)]) hx hb dL_law_473 hl (by decide) rfl (fun ls hl => ?_)
    refine lv_aload_n hx hb dL_law_475 rfl (lv_at hl 3 rfl) ?_
    refine lv_aload_n hx hb dL_law_476 rfl (lv_at hl 1 rfl) ?_
    refine lv_iload hx hb dL_law_477 (lv_at hl 5 rfl) ?_
    refine lv_iconst (v := 1) hx hb dL_law_479 (by decide) ?_
    refine lv_iadd hx hb dL_law_480 ?_
    obtain ⟨h29, hf⟩ := ck_some hf
    refine va_sld hx hb hX hbl hbA E.2.2.2 h29 dL_law_481 ?_
    refine lv_aload_n hx hb dL_law_482 rfl (lv_at hl 1 rfl) ?_
    refine lv_iload hx hb dL_law_483 (lv_at hl 5 rfl) ?_
    refine lv_iconst (v := 2) hx hb dL_law_485 (by decide) ?_
    refine lv_iadd hx hb dL_law_486 ?_
    obtain ⟨h30, hf⟩ := ck_some hf
    refine va_sld hx hb hX hbl hbA E.2.2.2 h30 dL_law_487 ?_
    refine lv_aload_n hx hb dL_law_488 rfl (lv_at hl 1 rfl) ?_
    refine lv_iload hx hb dL_law_489 (lv_at hl 5 rfl) ?_
    refine lv_iconst (v := 3) hx hb dL_law_491 (by decide) ?_
    refine lv_iadd hx hb dL_law_492 ?_
    obtain ⟨h31, hf⟩ := ck_some hf
    refine va_sld hx hb hX hbl hbA E.2.2.2 h31 dL_law_493 ?_
    refine lv_if_eq (tgt := 501) hx hb dL_law_494 (by decide) (fun c32 => ?_) (fun c32 => ?_)
    · rw [if_pos c32] at hf
      refine lv_iconst (v := 0) hx hb dL_law_501 (by decide) ?_
      obtain ⟨o33, e34, hf⟩ := bd_some hf
      refine g_calliF (wc := (mW b cI cJ cZ mth mlo mre mpr mto mim mdi mow mit mvl mhs mns mby mng mnu mnd mbg mbu mbd mlg mly mll mld mpg mpu mpl mtd mti mwt mch)) (wc' := (mW b cI cJ cZ o33.2.1 o33.2.2.1 mre mpr mto mim mdi mow mit mvl mhs mns mby mng mnu mnd mbg mbu mbd o33.2.2.2.1 o33.2.2.2.2.1 o33.2.2.2.2.2.1 o33.2.2.2.2.2.2.1 mpg mpu mpl o33.2.2.2.2.2.2.2.1 o33.2.2.2.2.2.2.2.2.1 o33.2.2.2.2.2.2.2.2.2 mch)) (wr := ((cW a cI cJ cZ vl hs isz igd iup idn osz ogd oup odn dep rsz o27.2.1 o27.2.2.1 o27.2.2.2.1 o27.2.2.2.2.1 o27.2.2.2.2.2.1 o27.2.2.2.2.2.2.1 pgd plf pun psz o27.2.2.2.2.2.2.2.1 o27.2.2.2.2.2.2.2.2.1 o27.2.2.2.2.2.2.2.2.2.1 o27.2.2.2.2.2.2.2.2.2.2.1 o27.2.2.2.2.2.2.2.2.2.2.2.1 o27.2.2.2.2.2.2.2.2.2.2.2.2.1 cab cbl tod imp dis owe itr) ++ [(q, .inl (cJ, 1, .inr (.inl o27.2.2.2.2.2.2.2.2.2.2.2.2.2)))])) C (vE_swap E) (g_runV (As := [.int (xs (x4 + (1 : Int32)).toNatClampNeg), .int (xs (x4 + (2 : Int32)).toNatClampNeg), .int (0 : Int32)]) (rest := []) C (vE_left (vE_swap E)) (c_X7_made e34) (cwV 3 hts gL_law_X7_made rfl rfl rfl ⟨rfl, hd_X7_made⟩ ⟨(Nat.le_of_ble_eq_true rfl), (Nat.le_of_ble_eq_true rfl)⟩) (q0 := 0) (ci := 7) rfl rfl rfl rfl hl.1 rfl (Nat.le_of_ble_eq_true rfl) dL_law_502 ⟨show 54 + j + 1 + 0 ≤ 1090 by omega, show 2581 + 6 * j + 6 + 0 ≤ 10845 by omega⟩) (fun H locs E => ?_)
      replace E := vE_swap E
      refine lv_istore (lv' := [(6, .int o33.1), (5, .int o27.1), (0, .ref bs), (1, .ref (a 0)), (2, .ref (b 0)), (3, .ref q), (4, .int x4)]) hx hb dL_law_505 hl (by decide) rfl (fun ls hl => ?_)
      refine lv_aload_n hx hb dL_law_507 rfl (lv_at hl 4 rfl) ?_
      obtain ⟨o35, e36, hf⟩ := bd_some hf
      refine g_calliF (wc := (mW b cI cJ cZ o33.2.1 o33.2.2.1 mre mpr mto mim mdi mow mit mvl mhs mns mby mng mnu mnd mbg mbu mbd o33.2.2.2.1 o33.2.2.2.2.1 o33.2.2.2.2.2.1 o33.2.2.2.2.2.2.1 mpg mpu mpl o33.2.2.2.2.2.2.2.1 o33.2.2.2.2.2.2.2.2.1 o33.2.2.2.2.2.2.2.2.2 mch)) (wc' := (mW b cI cJ cZ o33.2.1 o33.2.2.1 mre mpr mto mim mdi mow mit mvl mhs mns mby mng mnu mnd mbg mbu mbd o33.2.2.2.1 o33.2.2.2.2.1 o33.2.2.2.2.2.1 o33.2.2.2.2.2.2.1 mpg mpu mpl o33.2.2.2.2.2.2.2.1 o33.2.2.2.2.2.2.2.2.1 o33.2.2.2.2.2.2.2.2.2 mch)) (wr := ((cW a cI cJ cZ vl hs isz igd iup idn osz ogd oup odn dep rsz o27.2.1 o27.2.2.1 o27.2.2.2.1 o27.2.2.2.2.1 o27.2.2.2.2.2.1 o27.2.2.2.2.2.2.1 pgd plf pun psz o27.2.2.2.2.2.2.2.1 o27.2.2.2.2.2.2.2.2.1 o27.2.2.2.2.2.2.2.2.2.1 o27.2.2.2.2.2.2.2.2.2.2.1 o27.2.2.2.2.2.2.2.2.2.2.2.1 o27.2.2.2.2.2.2.2.2.2.2.2.2.1 cab cbl tod imp dis owe itr) ++ [(q, .inl (cJ, 1, .inr (.inl o27.2.2.2.2.2.2.2.2.2.2.2.2.2)))])) C (vE_swap E) (g_runV (As := []) (rest := []) C (vE_left (vE_swap E)) (c_X7_thrown e36) (cwV 0 hts gL_law_X7_thrown rfl rfl rfl ⟨rfl, hd_X7_thrown⟩ ⟨(Nat.le_of_ble_eq_true rfl), (Nat.le_of_ble_eq_true rfl)⟩) (q0 := 0) (ci := 7) rfl rfl rfl rfl hl.1 rfl (Nat.le_of_ble_eq_true rfl) dL_law_508 ⟨show 54 + j + 1 + 0 ≤ 1090 by omega, show 2581 + 6 * j + 6 + 0 ≤ 10845 by omega⟩) (fun H locs E => ?_)
      replace E := vE_swap E
      refine lv_iload hx hb dL_law_511 (lv_at hl 1 rfl) ?_
      refine lv_icmp_eq (tgt := 518) hx hb dL_law_513 (by decide) (fun c37 => ?_) (fun c37 => ?_)
      · rw [if_pos c37] at hf
        refine lv_iload hx hb dL_law_518 (lv_at hl 1 rfl) ?_
        refine lv_if_ne (tgt := 535) hx hb dL_law_520 (by decide) (fun c38 => ?_) (fun c38 => ?_)
        · rw [if_neg c38] at hf
          refine lv_goto (tgt := 1108) hx hb dL_law_535 (by decide) ?_
          refine lv_iinc (v := (x4 + 5)) (lv' := [(4, .int (x4 + 5)), (6, .int o33.1), (5, .int o27.1), (0, .ref bs), (1, .ref (a 0)), (2, .ref (b 0)), (3, .ref q)]) hx hb dL_law_1108 hl (k := 6) rfl rfl (by decide) rfl (fun ls hl => ?_)
          refine lv_goto (tgt := 23) hx hb dL_law_1111 (by decide) ?_
          refine W.widen (k := 54 + (j + 1)) (n := 2581 + 6 * (j + 1)) (by omega) (by omega) ?_
          exact hk23 vl hs isz igd iup idn osz ogd oup odn dep rsz o27.2.1 o27.2.2.1 o27.2.2.2.1 o27.2.2.2.2.1 o27.2.2.2.2.2.1 o27.2.2.2.2.2.2.1 pgd plf pun psz o27.2.2.2.2.2.2.2.1 o27.2.2.2.2.2.2.2.2.1 o27.2.2.2.2.2.2.2.2.2.1 o27.2.2.2.2.2.2.2.2.2.2.1 o27.2.2.2.2.2.2.2.2.2.2.2.1 o27.2.2.2.2.2.2.2.2.2.2.2.2.1 cab cbl tod imp dis owe itr o27.2.2.2.2.2.2.2.2.2.2.2.2.2 o33.2.1 o33.2.2.1 mre mpr mto mim mdi mow mit mvl mhs mns mby mng mnu mnd mbg mbu mbd o33.2.2.2.1 o33.2.2.2.2.1 o33.2.2.2.2.2.1 o33.2.2.2.2.2.2.1 mpg mpu mpl o33.2.2.2.2.2.2.2.1 o33.2.2.2.2.2.2.2.2.1 o33.2.2.2.2.2.2.2.2.2 mch (x4 + 5) _ _ _ E (lv_sub hl [3, 4, 5, 6, 0] rfl) hf
        · rw [if_pos c38] at hf
          refine lv_aload_n hx hb dL_law_523 rfl (lv_at hl 5 rfl) ?_
          refine lv_iconst (v := 0) hx hb dL_law_524 (by decide) ?_
          obtain ⟨h39, hf⟩ := ck_some hf
          refine g_lald C E 33 rfl h39 dL_law_525 ?_
          refine lv_iload hx hb dL_law_526 (lv_at hl 0 rfl) ?_
          refine lv_i2l hx hb dL_law_528 rfl ?_
          refine W.lcmp hx hb dL_law_529 ?_
          refine lv_if_eq (tgt := 535) hx hb dL_law_530 (by decide) (fun c40 => ?_) (fun c40 => ?_)
          · rw [if_pos c40] at hf
            refine lv_goto (tgt := 1108) hx hb dL_law_535 (by decide) ?_
            refine lv_iinc (v := (x4 + 5)) (lv' := [(4, .int (x4 + 5)), (6, .int o33.1), (5, .int o27.1), (0, .ref bs), (1, .ref (a 0)), (2, .ref (b 0)), (3, .ref q)]) hx hb dL_law_1108 hl (k := 6) rfl rfl (by decide) rfl (fun ls hl => ?_)
            refine lv_goto (tgt := 23) hx hb dL_law_1111 (by decide) ?_
            refine W.widen (k := 54 + (j + 1)) (n := 2581 + 6 * (j + 1)) (by omega) (by omega) ?_
            exact hk23 vl hs isz igd iup idn osz ogd oup odn dep rsz o27.2.1 o27.2.2.1 o27.2.2.2.1 o27.2.2.2.2.1 o27.2.2.2.2.2.1 o27.2.2.2.2.2.2.1 pgd plf pun psz o27.2.2.2.2.2.2.2.1 o27.2.2.2.2.2.2.2.2.1 o27.2.2.2.2.2.2.2.2.2.1 o27.2.2.2.2.2.2.2.2.2.2.1 o27.2.2.2.2.2.2.2.2.2.2.2.1 o27.2.2.2.2.2.2.2.2.2.2.2.2.1 cab cbl tod imp dis owe itr o27.2.2.2.2.2.2.2.2.2.2.2.2.2 o33.2.1 o33.2.2.1 mre mpr mto mim mdi mow mit mvl mhs mns mby mng mnu mnd mbg mbu mbd o33.2.2.2.1 o33.2.2.2.2.1 o33.2.2.2.2.2.1 o33.2.2.2.2.2.2.1 mpg mpu mpl o33.2.2.2.2.2.2.2.1 o33.2.2.2.2.2.2.2.2.1 o33.2.2.2.2.2.2.2.2.2 mch (x4 + 5) _ _ _ E (lv_sub hl [3, 4, 5, 6, 0] rfl) hf
          · rw [if_neg c40] at hf
            refine lv_iconst (v := 0) hx hb dL_law_533 (by decide) ?_
            cases hf
      · rw [if_neg c37] at hf
        refine lv_iconst (v := 0) hx hb dL_law_516 (by decide) ?_
        cases hf
    · rw [if_neg c32] at hf
      refine lv_iconst (v := 1) hx hb dL_law_497 (by decide) ?_
      refine lv_goto (tgt := 502) hx hb dL_law_498 (by decide) ?_
      obtain ⟨o41, e42, hf⟩ := bd_some hf
      refine g_calliF (wc := (mW b cI cJ cZ mth mlo mre mpr mto mim mdi mow mit mvl mhs mns mby mng mnu mnd mbg mbu mbd mlg mly mll mld mpg mpu mpl mtd mti mwt mch)) (wc' := (mW b cI cJ cZ o41.2.1 o41.2.2.1 mre mpr mto mim mdi mow mit mvl mhs mns mby mng mnu mnd mbg mbu mbd o41.2.2.2.1 o41.2.2.2.2.1 o41.2.2.2.2.2.1 o41.2.2.2.2.2.2.1 mpg mpu mpl o41.2.2.2.2.2.2.2.1 o41.2.2.2.2.2.2.2.2.1 o41.2.2.2.2.2.2.2.2.2 mch)) (wr := ((cW a cI cJ cZ vl hs isz igd iup idn osz ogd oup odn dep rsz o27.2.1 o27.2.2.1 o27.2.2.2.1 o27.2.2.2.2.1 o27.2.2.2.2.2.1 o27.2.2.2.2.2.2.1 pgd plf pun psz o27.2.2.2.2.2.2.2.1 o27.2.2.2.2.2.2.2.2.1 o27.2.2.2.2.2.2.2.2.2.1 o27.2.2.2.2.2.2.2.2.2.2.1 o27.2.2.2.2.2.2.2.2.2.2.2.1 o27.2.2.2.2.2.2.2.2.2.2.2.2.1 cab cbl tod imp dis owe itr) ++ [(q, .inl (cJ, 1, .inr (.inl o27.2.2.2.2.2.2.2.2.2.2.2.2.2)))])) C (vE_swap E) (g_runV (As := [.int (xs (x4 + (1 : Int32)).toNatClampNeg), .int (xs (x4 + (2 : Int32)).toNatClampNeg), .int (1 : Int32)]) (rest := []) C (vE_left (vE_swap E)) (c_X7_made e42) (cwV 3 hts gL_law_X7_made rfl rfl rfl ⟨rfl, hd_X7_made⟩ ⟨(Nat.le_of_ble_eq_true rfl), (Nat.le_of_ble_eq_true rfl)⟩) (q0 := 0) (ci := 7) rfl rfl rfl rfl hl.1 rfl (Nat.le_of_ble_eq_true rfl) dL_law_502 ⟨show 54 + j + 1 + 0 ≤ 1090 by omega, show 2581 + 6 * j + 6 + 0 ≤ 10845 by omega⟩) (fun H locs E => ?_)
      replace E := vE_swap E
      refine lv_istore (lv' := [(6, .int o41.1), (5, .int o27.1), (0, .ref bs), (1, .ref (a 0)), (2, .ref (b 0)), (3, .ref q), (4, .int x4)]) hx hb dL_law_505 hl (by decide) rfl (fun ls hl => ?_)
      refine lv_aload_n hx hb dL_law_507 rfl (lv_at hl 4 rfl) ?_
      obtain ⟨o43, e44, hf⟩ := bd_some hf
      refine g_calliF (wc := (mW b cI cJ cZ o41.2.1 o41.2.2.1 mre mpr mto mim mdi mow mit mvl mhs mns mby mng mnu mnd mbg mbu mbd o41.2.2.2.1 o41.2.2.2.2.1 o41.2.2.2.2.2.1 o41.2.2.2.2.2.2.1 mpg mpu mpl o41.2.2.2.2.2.2.2.1 o41.2.2.2.2.2.2.2.2.1 o41.2.2.2.2.2.2.2.2.2 mch)) (wc' := (mW b cI cJ cZ o41.2.1 o41.2.2.1 mre mpr mto mim mdi mow mit mvl mhs mns mby mng mnu mnd mbg mbu mbd o41.2.2.2.1 o41.2.2.2.2.1 o41.2.2.2.2.2.1 o41.2.2.2.2.2.2.1 mpg mpu mpl o41.2.2.2.2.2.2.2.1 o41.2.2.2.2.2.2.2.2.1 o41.2.2.2.2.2.2.2.2.2 mch)) (wr := ((cW a cI cJ cZ vl hs isz igd iup idn osz ogd oup odn dep rsz o27.2.1 o27.2.2.1 o27.2.2.2.1 o27.2.2.2.2.1 o27.2.2.2.2.2.1 o27.2.2.2.2.2.2.1 pgd plf pun psz o27.2.2.2.2.2.2.2.1 o27.2.2.2.2.2.2.2.2.1 o27.2.2.2.2.2.2.2.2.2.1 o27.2.2.2.2.2.2.2.2.2.2.1 o27.2.2.2.2.2.2.2.2.2.2.2.1 o27.2.2.2.2.2.2.2.2.2.2.2.2.1 cab cbl tod imp dis owe itr) ++ [(q, .inl (cJ, 1, .inr (.inl o27.2.2.2.2.2.2.2.2.2.2.2.2.2)))])) C (vE_swap E) (g_runV (As := []) (rest := []) C (vE_left (vE_swap E)) (c_X7_thrown e44) (cwV 0 hts gL_law_X7_thrown rfl rfl rfl ⟨rfl, hd_X7_thrown⟩ ⟨(Nat.le_of_ble_eq_true rfl), (Nat.le_of_ble_eq_true rfl)⟩) (q0 := 0) (ci := 7) rfl rfl rfl rfl hl.1 rfl (Nat.le_of_ble_eq_true rfl) dL_law_508 ⟨show 54 + j + 1 + 0 ≤ 1090 by omega, show 2581 + 6 * j + 6 + 0 ≤ 10845 by omega⟩) (fun H locs E => ?_)
      replace E := vE_swap E
      refine lv_iload hx hb dL_law_511 (lv_at hl 1 rfl) ?_
      refine lv_icmp_eq (tgt := 518) hx hb dL_law_513 (by decide) (fun c45 => ?_) (fun c45 => ?_)
      · rw [if_pos c45] at hf
        refine lv_iload hx hb dL_law_518 (lv_at hl 1 rfl) ?_
        refine lv_if_ne (tgt := 535) hx hb dL_law_520 (by decide) (fun c46 => ?_) (fun c46 => ?_)
        · rw [if_neg c46] at hf
          refine lv_goto (tgt := 1108) hx hb dL_law_535 (by decide) ?_
          refine lv_iinc (v := (x4 + 5)) (lv' := [(4, .int (x4 + 5)), (6, .int o41.1), (5, .int o27.1), (0, .ref bs), (1, .ref (a 0)), (2, .ref (b 0)), (3, .ref q)]) hx hb dL_law_1108 hl (k := 6) rfl rfl (by decide) rfl (fun ls hl => ?_)
          refine lv_goto (tgt := 23) hx hb dL_law_1111 (by decide) ?_
          refine W.widen (k := 54 + (j + 1)) (n := 2581 + 6 * (j + 1)) (by omega) (by omega) ?_
          exact hk23 vl hs isz igd iup idn osz ogd oup odn dep rsz o27.2.1 o27.2.2.1 o27.2.2.2.1 o27.2.2.2.2.1 o27.2.2.2.2.2.1 o27.2.2.2.2.2.2.1 pgd plf pun psz o27.2.2.2.2.2.2.2.1 o27.2.2.2.2.2.2.2.2.1 o27.2.2.2.2.2.2.2.2.2.1 o27.2.2.2.2.2.2.2.2.2.2.1 o27.2.2.2.2.2.2.2.2.2.2.2.1 o27.2.2.2.2.2.2.2.2.2.2.2.2.1 cab cbl tod imp dis owe itr o27.2.2.2.2.2.2.2.2.2.2.2.2.2 o41.2.1 o41.2.2.1 mre mpr mto mim mdi mow mit mvl mhs mns mby mng mnu mnd mbg mbu mbd o41.2.2.2.1 o41.2.2.2.2.1 o41.2.2.2.2.2.1 o41.2.2.2.2.2.2.1 mpg mpu mpl o41.2.2.2.2.2.2.2.1 o41.2.2.2.2.2.2.2.2.1 o41.2.2.2.2.2.2.2.2.2 mch (x4 + 5) _ _ _ E (lv_sub hl [3, 4, 5, 6, 0] rfl) hf
        · rw [if_pos c46] at hf
          refine lv_aload_n hx hb dL_law_523 rfl (lv_at hl 5 rfl) ?_
          refine lv_iconst (v := 0) hx hb dL_law_524 (by decide) ?_
          obtain ⟨h47, hf⟩ := ck_some hf
          refine g_lald C E 33 rfl h47 dL_law_525 ?_
          refine lv_iload hx hb dL_law_526 (lv_at hl 0 rfl) ?_
          refine lv_i2l hx hb dL_law_528 rfl ?_
          refine W.lcmp hx hb dL_law_529 ?_
          refine lv_if_eq (tgt := 535) hx hb dL_law_530 (by decide) (fun c48 => ?_) (fun c48 => ?_)
          · rw [if_pos c48] at hf
            refine lv_goto (tgt := 1108) hx hb dL_law_535 (by decide) ?_
            refine lv_iinc (v := (x4 + 5)) (lv' := [(4, .int (x4 + 5)), (6, .int o41.1), (5, .int o27.1), (0, .ref bs), (1, .ref (a 0)), (2, .ref (b 0)), (3, .ref q)]) hx hb dL_law_1108 hl (k := 6) rfl rfl (by decide) rfl (fun ls hl => ?_)
            refine lv_goto (tgt := 23) hx hb dL_law_1111 (by decide) ?_
            refine W.widen (k := 54 + (j + 1)) (n := 2581 + 6 * (j + 1)) (by omega) (by omega) ?_
            exact hk23 vl hs isz igd iup idn osz ogd oup odn dep rsz o27.2.1 o27.2.2.1 o27.2.2.2.1 o27.2.2.2.2.1 o27.2.2.2.2.2.1 o27.2.2.2.2.2.2.1 pgd plf pun psz o27.2.2.2.2.2.2.2.1 o27.2.2.2.2.2.2.2.2.1 o27.2.2.2.2.2.2.2.2.2.1 o27.2.2.2.2.2.2.2.2.2.2.1 o27.2.2.2.2.2.2.2.2.2.2.2.1 o27.2.2.2.2.2.2.2.2.2.2.2.2.1 cab cbl tod imp dis owe itr o27.2.2.2.2.2.2.2.2.2.2.2.2.2 o41.2.1 o41.2.2.1 mre mpr mto mim mdi mow mit mvl mhs mns mby mng mnu mnd mbg mbu mbd o41.2.2.2.1 o41.2.2.2.2.1 o41.2.2.2.2.2.1 o41.2.2.2.2.2.2.1 mpg mpu mpl o41.2.2.2.2.2.2.2.1 o41.2.2.2.2.2.2.2.2.1 o41.2.2.2.2.2.2.2.2.2 mch (x4 + 5) _ _ _ E (lv_sub hl [3, 4, 5, 6, 0] rfl) hf
          · rw [if_neg c48] at hf
            refine lv_iconst (v := 0) hx hb dL_law_533 (by decide) ?_
            cases hf
      · rw [if_neg c45] at hf
        refine lv_iconst (v := 0) hx hb dL_law_516 (by decide) ?_
        cases hf
def f_L_law_J362 (xs : Nat → Int32) (L : Nat) (vl : Nat → Int32) (hs : Nat → Int32) (isz : Nat → Int32) (igd : Nat → Int32) (iup : Nat → Int32) (idn : Nat → Int32) (osz : Nat → Int32) (ogd : Nat → Int32) (oup : Nat → Int32) (odn : Nat → Int32) (dep : Nat → Int32) (rsz : Int32) (lgd : Nat → Int32) (llf : Nat → Int64) (ldb : Nat → Int64) (ldy : Nat → Int32) (lsz : Int32) (lti : Int64) (pgd : Nat → Int32) (plf : Nat → Int64) (pun : Nat → Int32) (psz : Int32) (bgd : Nat → Int32) (bam : Nat → Int64) (bwt : Nat → Int64) (bsh : Nat → Int64) (brm : Nat → Int64) (bsz : Int32) (cab : Nat → Int64) (cbl : Nat → Int64) (tod : Int32) (imp : Int64) (dis : Int64) (owe : Int64) (itr : Int64) (out : Nat → Int64) (mth : Int32) (mlo : Int32) (mre : Int32) (mpr : Int32) (mto : Int32) (mim : Int64) (mdi : Int64) (mow : Int64) (mit : Int64) (mvl : Nat → Int32) (mhs : Nat → Int32) (mns : Nat → Int32) (mby : Nat → Int32) (mng : Nat → Int32) (mnu : Nat → Int32) (mnd : Nat → Int32) (mbg : Nat → Int32) (mbu : Nat → Int32) (mbd : Nat → Int32) (mlg : Nat → Int32) (mly : Nat → Int32) (mll : Nat → Int64) (mld : Nat → Int64) (mpg : Nat → Int32) (mpu : Nat → Int32) (mpl : Nat → Int64) (mtd : Int64) (mti : Int64) (mwt : Nat → Int64) (mch : Nat → Int64) (x4 : Int32) (k23 : (Nat → Int32) → (Nat → Int32) → (Nat → Int32) → (Nat → Int32) → (Nat → Int32) → (Nat → Int32) → (Nat → Int32) → (Nat → Int32) → (Nat → Int32) → (Nat → Int32) → (Nat → Int32) → (Int32) → (Nat → Int32) → (Nat → Int64) → (Nat → Int64) → (Nat → Int32) → (Int32) → (Int64) → (Nat → Int32) → (Nat → Int64) → (Nat → Int32) → (Int32) → (Nat → Int32) → (Nat → Int64) → (Nat → Int64) → (Nat → Int64) → (Nat → Int64) → (Int32) → (Nat → Int64) → (Nat → Int64) → (Int32) → (Int64) → (Int64) → (Int64) → (Int64) → (Nat → Int64) → (Int32) → (Int32) → (Int32) → (Int32) → (Int32) → (Int64) → (Int64) → (Int64) → (Int64) → (Nat → Int32) → (Nat → Int32) → (Nat → Int32) → (Nat → Int32) → (Nat → Int32) → (Nat → Int32) → (Nat → Int32) → (Nat → Int32) → (Nat → Int32) → (Nat → Int32) → (Nat → Int32) → (Nat → Int32) → (Nat → Int64) → (Nat → Int64) → (Nat → Int32) → (Nat → Int32) → (Nat → Int64) → (Int64) → (Int64) → (Nat → Int64) → (Nat → Int64) → Int32 → Option Unit) : Option Unit :=
  ck (x4 + (1 : Int32)) L <|
  ck (x4 + (2 : Int32)) L <|
  ck (x4 + (3 : Int32)) L <|
  (f_L_in lgd llf ldb ldy lsz pgd plf pun psz tod imp dis (xs (x4 + (1 : Int32)).toNatClampNeg) (xs (x4 + (2 : Int32)).toNatClampNeg) (xs (x4 + (3 : Int32)).toNatClampNeg) out).bind fun o4 =>
  ck (x4 + (1 : Int32)) L <|
  ck (x4 + (2 : Int32)) L <|
  ck (x4 + (3 : Int32)) L <|
  (f_X7_in mth mlo mpr mto mim mdi mlg mly mll mld mpg mpu mpl (xs (x4 + (1 : Int32)).toNatClampNeg) (xs (x4 + (2 : Int32)).toNatClampNeg) (xs (x4 + (3 : Int32)).toNatClampNeg)).bind fun o9 =>
  (f_X7_thrown o9.2.1).bind fun o11 =>
  if o11 = o4.1 then
    if o4.1 = 0 then
      ck (0 : Int32) 1 <|
      if (lg_cmp (o4.2.2.2.2.2.2.2.2.2 (0 : Int32).toNatClampNeg) o9.1.toInt64) = 0 then
        k23 vl hs isz igd iup idn osz ogd oup odn dep rsz o4.2.1 o4.2.2.1 o4.2.2.2.1 o4.2.2.2.2.1 o4.2.2.2.2.2.1 lti pgd o4.2.2.2.2.2.2.1 pun psz bgd bam bwt bsh brm bsz cab cbl tod o4.2.2.2.2.2.2.2.1 o4.2.2.2.2.2.2.2.2.1 owe itr o4.2.2.2.2.2.2.2.2.2 o9.2.1 o9.2.2.1 mre mpr mto o9.2.2.2.1 o9.2.2.2.2.1 mow mit mvl mhs mns mby mng mnu mnd mbg mbu mbd o9.2.2.2.2.2.1 o9.2.2.2.2.2.2.1 o9.2.2.2.2.2.2.2.1 o9.2.2.2.2.2.2.2.2.1 mpg mpu o9.2.2.2.2.2.2.2.2.2 mtd mti mwt mch (x4 + 5)
      else
        none
    else
      k23 vl hs isz igd iup idn osz ogd oup odn dep rsz o4.2.1 o4.2.2.1 o4.2.2.2.1 o4.2.2.2.2.1 o4.2.2.2.2.2.1 lti pgd o4.2.2.2.2.2.2.1 pun psz bgd bam bwt bsh brm bsz cab cbl tod o4.2.2.2.2.2.2.2.1 o4.2.2.2.2.2.2.2.2.1 owe itr o4.2.2.2.2.2.2.2.2.2 o9.2.1 o9.2.2.1 mre mpr mto o9.2.2.2.1 o9.2.2.2.2.1 mow mit mvl mhs mns mby mng mnu mnd mbg mbu mbd o9.2.2.2.2.2.1 o9.2.2.2.2.2.2.1 o9.2.2.2.2.2.2.2.1 o9.2.2.2.2.2.2.2.2.1 mpg mpu o9.2.2.2.2.2.2.2.2.2 mtd mti mwt mch (x4 + 5)
  else
    none
set_option maxHeartbeats 8000000 in
set_option maxRecDepth 100000 in
theorem w_L_law_J362 {p : Program} {l : Launch} {e : Env} {s : State} {m : MethodId} {below : List Frame} {meth : Method} {c : Code} {D : va_G} {cI cJ cZ : ClassId} {a b : Nat → Nat} {q bs L : Nat} {xs : Nat → Int32} {vl : Nat → Int32} {hs : Nat → Int32} {isz : Nat → Int32} {igd : Nat → Int32} {iup : Nat → Int32} {idn : Nat → Int32} {osz : Nat → Int32} {ogd : Nat → Int32} {oup : Nat → Int32} {odn : Nat → Int32} {dep : Nat → Int32} {rsz : Int32} {lgd : Nat → Int32} {llf : Nat → Int64} {ldb : Nat → Int64} {ldy : Nat → Int32} {lsz : Int32} {lti : Int64} {pgd : Nat → Int32} {plf : Nat → Int64} {pun : Nat → Int32} {psz : Int32} {bgd : Nat → Int32} {bam : Nat → Int64} {bwt : Nat → Int64} {bsh : Nat → Int64} {brm : Nat → Int64} {bsz : Int32} {cab : Nat → Int64} {cbl : Nat → Int64} {tod : Int32} {imp : Int64} {dis : Int64} {owe : Int64} {itr : Int64} {out : Nat → Int64} {mth : Int32} {mlo : Int32} {mre : Int32} {mpr : Int32} {mto : Int32} {mim : Int64} {mdi : Int64} {mow : Int64} {mit : Int64} {mvl : Nat → Int32} {mhs : Nat → Int32} {mns : Nat → Int32} {mby : Nat → Int32} {mng : Nat → Int32} {mnu : Nat → Int32} {mnd : Nat → Int32} {mbg : Nat → Int32} {mbu : Nat → Int32} {mbd : Nat → Int32} {mlg : Nat → Int32} {mly : Nat → Int32} {mll : Nat → Int64} {mld : Nat → Int64} {mpg : Nat → Int32} {mpu : Nat → Int32} {mpl : Nat → Int64} {mtd : Int64} {mti : Int64} {mwt : Nat → Int64} {mch : Nat → Int64} {j : Nat} {x4 : Int32} (C : gC p s m #[Value.ref bs] meth c cL_law 8 ret wsL_law RL (fun z : Nat => s.heap.size ≤ z)) (hV : gV l s (fun z : Nat => s.heap.size ≤ z)) (hX : va_X bs L xs s s.heap) (hbl : bs < s.heap.size) (hj : j + 1 ≤ 514) {k23 : (Nat → Int32) → (Nat → Int32) → (Nat → Int32) → (Nat → Int32) → (Nat → Int32) → (Nat → Int32) → (Nat → Int32) → (Nat → Int32) → (Nat → Int32) → (Nat → Int32) → (Nat → Int32) → (Int32) → (Nat → Int32) → (Nat → Int64) → (Nat → Int64) → (Nat → Int32) → (Int32) → (Int64) → (Nat → Int32) → (Nat → Int64) → (Nat → Int32) → (Int32) → (Nat → Int32) → (Nat → Int64) → (Nat → Int64) → (Nat → Int64) → (Nat → Int64) → (Int32) → (Nat → Int64) → (Nat → Int64) → (Int32) → (Int64) → (Int64) → (Int64) → (Int64) → (Nat → Int64) → (Int32) → (Int32) → (Int32) → (Int32) → (Int32) → (Int64) → (Int64) → (Int64) → (Int64) → (Nat → Int32) → (Nat → Int32) → (Nat → Int32) → (Nat → Int32) → (Nat → Int32) → (Nat → Int32) → (Nat → Int32) → (Nat → Int32) → (Nat → Int32) → (Nat → Int32) → (Nat → Int32) → (Nat → Int32) → (Nat → Int64) → (Nat → Int64) → (Nat → Int32) → (Nat → Int32) → (Nat → Int64) → (Int64) → (Int64) → (Nat → Int64) → (Nat → Int64) → Int32 → Option Unit} (hk23 : ∀ (vl : Nat → Int32) (hs : Nat → Int32) (isz : Nat → Int32) (igd : Nat → Int32) (iup : Nat → Int32) (idn : Nat → Int32) (osz : Nat → Int32) (ogd : Nat → Int32) (oup : Nat → Int32) (odn : Nat → Int32) (dep : Nat → Int32) (rsz : Int32) (lgd : Nat → Int32) (llf : Nat → Int64) (ldb : Nat → Int64) (ldy : Nat → Int32) (lsz : Int32) (lti : Int64) (pgd : Nat → Int32) (plf : Nat → Int64) (pun : Nat → Int32) (psz : Int32) (bgd : Nat → Int32) (bam : Nat → Int64) (bwt : Nat → Int64) (bsh : Nat → Int64) (brm : Nat → Int64) (bsz : Int32) (cab : Nat → Int64) (cbl : Nat → Int64) (tod : Int32) (imp : Int64) (dis : Int64) (owe : Int64) (itr : Int64) (out : Nat → Int64) (mth : Int32) (mlo : Int32) (mre : Int32) (mpr : Int32) (mto : Int32) (mim : Int64) (mdi : Int64) (mow : Int64) (mit : Int64) (mvl : Nat → Int32) (mhs : Nat → Int32) (mns : Nat → Int32) (mby : Nat → Int32) (mng : Nat → Int32) (mnu : Nat → Int32) (mnd : Nat → Int32) (mbg : Nat → Int32) (mbu : Nat → Int32) (mbd : Nat → Int32) (mlg : Nat → Int32) (mly : Nat → Int32) (mll : Nat → Int64) (mld : Nat → Int64) (mpg : Nat → Int32) (mpu : Nat → Int32) (mpl : Nat → Int64) (mtd : Int64) (mti : Int64) (mwt : Nat → Int64) (mch : Nat → Int64) (x4 : Int32) (H : Heap) (locs : List Loc) (ls : Array Slot), vE s (fun z : Nat => s.heap.size ≤ z) D (gT cI cJ cZ) (((cW a cI cJ cZ vl hs isz igd iup idn osz ogd oup odn dep rsz lgd llf ldb ldy lsz lti pgd plf pun psz bgd bam bwt bsh brm bsz cab cbl tod imp dis owe itr) ++ [(q, .inl (cJ, 1, .inr (.inl out)))]) ++ (mW b cI cJ cZ mth mlo mre mpr mto mim mdi mow mit mvl mhs mns mby mng mnu mnd mbg mbu mbd mlg mly mll mld mpg mpu mpl mtd mti mwt mch)) H locs → lv_has ls 8 [(0, .ref bs), (1, .ref (a 0)), (2, .ref (b 0)), (3, .ref q), (4, .int x4)] → k23 vl hs isz igd iup idn osz ogd oup odn dep rsz lgd llf ldb ldy lsz lti pgd plf pun psz bgd bam bwt bsh brm bsz cab cbl tod imp dis owe itr out mth mlo mre mpr mto mim mdi mow mit mvl mhs mns mby mng mnu mnd mbg mbu mbd mlg mly mll mld mpg mpu mpl mtd mti mwt mch x4 = some () → W p l e room_1 s m #[Value.ref bs] below meth c H locs (54 + (j + 1)) (2581 + 6 * (j + 1)) (lw_Z below #[Value.ref bs] s) (F0 m 23 ls [])) {H : Heap} {locs : List Loc} {ls : Array Slot} (E : vE s (fun z : Nat => s.heap.size ≤ z) D (gT cI cJ cZ) (((cW a cI cJ cZ vl hs isz igd iup idn osz ogd oup odn dep rsz lgd llf ldb ldy lsz lti pgd plf pun psz bgd bam bwt bsh brm bsz cab cbl tod imp dis owe itr) ++ [(q, .inl (cJ, 1, .inr (.inl out)))]) ++ (mW b cI cJ cZ mth mlo mre mpr mto mim mdi mow mit mvl mhs mns mby mng mnu mnd mbg mbu mbd mlg mly mll mld mpg mpu mpl mtd mti mwt mch)) H locs) (hl : lv_has ls 8 [(0, .ref bs), (1, .ref (a 0)), (2, .ref (b 0)), (3, .ref q), (4, .int x4)]) (hf : f_L_law_J362 xs L vl hs isz igd iup idn osz ogd oup odn dep rsz lgd llf ldb ldy lsz lti pgd plf pun psz bgd bam bwt bsh brm bsz cab cbl tod imp dis owe itr out mth mlo mre mpr mto mim mdi mow mit mvl mhs mns mby mng mnu mnd mbg mbu mbd mlg mly mll mld mpg mpu mpl mtd mti mwt mch x4 k23 = some ()) : W p l e room_1 s m #[Value.ref bs] below meth c H locs (54 + j) (2581 + 6 * j) (lw_Z below #[Value.ref bs] s) (F0 m 362 ls []) := by
  obtain ⟨hx, hb, hr, hml, hown, hts, hlocks, hN, hA⟩ := id C
  have hl0 : l.stackTraces = false := hV.1
  have hbA : ¬ (fun z : Nat => s.heap.size ≤ z) bs := Nat.not_le.mpr hbl
  rw [f_L_law_J362] at hf
  refine lv_aload_n hx hb dL_law_362 rfl (lv_at hl 1 rfl) ?_
  refine lv_aload_n hx hb dL_law_363 rfl (lv_at hl 0 rfl) ?_
  refine lv_iload hx hb dL_law_364 (lv_at hl 4 rfl) ?_
  refine lv_iconst (v := 1) hx hb dL_law_366 (by decide) ?_
  refine lv_iadd hx hb dL_law_367 ?_
  obtain ⟨h1, hf⟩ := ck_some hf
  refine va_sld hx hb hX hbl hbA E.2.2.2 h1 dL_law_368 ?_
  refine lv_aload_n hx hb dL_law_369 rfl (lv_at hl 0 rfl) ?_
  refine lv_iload hx hb dL_law_370 (lv_at hl 4 rfl) ?_
  refine lv_iconst (v := 2) hx hb dL_law_372 (by decide) ?_
  refine lv_iadd hx hb dL_law_373 ?_
  obtain ⟨h2, hf⟩ := ck_some hf
  refine va_sld hx hb hX hbl hbA E.2.2.2 h2 dL_law_374 ?_
  refine lv_aload_n hx hb dL_law_375 rfl (lv_at hl 0 rfl) ?_
  refine lv_iload hx hb dL_law_376 (lv_at hl 4 rfl) ?_
  refine lv_iconst (v := 3) hx hb dL_law_378 (by decide) ?_
  refine lv_iadd hx hb dL_law_379 ?_
  obtain ⟨h3, hf⟩ := ck_some hf
  refine va_sld hx hb hX hbl hbA E.2.2.2 h3 dL_law_380 ?_
  refine lv_aload_n hx hb dL_law_381 rfl (lv_at hl 3 rfl) ?_
  obtain ⟨o4, e5, hf⟩ := bd_some hf
  refine g_calliW (wc := ((cW a cI cJ cZ vl hs isz igd iup idn osz ogd oup odn dep rsz lgd llf ldb ldy lsz lti pgd plf pun psz bgd bam bwt bsh brm bsz cab cbl tod imp dis owe itr) ++ [(q, .inl (cJ, 1, .inr (.inl out)))])) (wc' := ((cW a cI cJ cZ vl hs isz igd iup idn osz ogd oup odn dep rsz o4.2.1 o4.2.2.1 o4.2.2.2.1 o4.2.2.2.2.1 o4.2.2.2.2.2.1 lti pgd o4.2.2.2.2.2.2.1 pun psz bgd bam bwt bsh brm bsz cab cbl tod o4.2.2.2.2.2.2.2.1 o4.2.2.2.2.2.2.2.2.1 owe itr) ++ [(q, .inl (cJ, 1, .inr (.inl o4.2.2.2.2.2.2.2.2.2)))])) (wr := (mW b cI cJ cZ mth mlo mre mpr mto mim mdi mow mit mvl mhs mns mby mng mnu mnd mbg mbu mbd mlg mly mll mld mpg mpu mpl mtd mti mwt mch)) C E (g_runSW (As := [.ref (a 0), .int (xs (x4 + (1 : Int32)).toNatClampNeg), .int (xs (x4 + (2 : Int32)).toNatClampNeg), .int (xs (x4 + (3 : Int32)).toNatClampNeg), .ref q]) (rest := []) C (vE_left E) hV (c_L_in hl0 e5) (vx_cwSW 5 hts gL_law_L_in rfl rfl rfl hd_L_in ⟨(Nat.le_of_ble_eq_true rfl), (Nat.le_of_ble_eq_true rfl)⟩) rfl hl.1 rfl (Nat.le_of_ble_eq_true rfl) dL_law_382 ⟨show 54 + j + 1 ≤ 1090 by omega, show 2581 + 6 * j + 6 ≤ 10845 by omega⟩) (fun H locs E => ?_)
  refine lv_istore (lv' := [(5, .int o4.1), (0, .ref bs), (1, .ref (a 0)), (2, .ref (b 0)), (3, .ref q), (4, .int x4)]) hx hb dL_law_385 hl (by decide) rfl (fun ls hl => ?_)
  refine lv_aload_n hx hb dL_law_387 rfl (lv_at hl 3 rfl) ?_
  refine lv_aload_n hx hb dL_law_388 rfl (lv_at hl 1 rfl) ?_
  refine lv_iload hx hb dL_law_389 (lv_at hl 5 rfl) ?_
  refine lv_iconst (v := 1) hx hb dL_law_391 (by decide) ?_
  refine lv_iadd hx hb dL_law_392 ?_
  obtain ⟨h6, hf⟩ := ck_some hf
  refine va_sld hx hb hX hbl hbA E.2.2.2 h6 dL_law_393 ?_
  refine lv_aload_n hx hb dL_law_394 rfl (lv_at hl 1 rfl) ?_
  refine lv_iload hx hb dL_law_395 (lv_at hl 5 rfl) ?_
  refine lv_iconst (v := 2) hx hb dL_law_397 (by decide) ?_
  refine lv_iadd hx hb dL_law_398 ?_
  obtain ⟨h7, hf⟩ := ck_some hf
  refine va_sld hx hb hX hbl hbA E.2.2.2 h7 dL_law_399 ?_
  refine lv_aload_n hx hb dL_law_400 rfl (lv_at hl 1 rfl) ?_
  refine lv_iload hx hb dL_law_401 (lv_at hl 5 rfl) ?_
  refine lv_iconst (v := 3) hx hb dL_law_403 (by decide) ?_
  refine lv_iadd hx hb dL_law_404 ?_
  obtain ⟨h8, hf⟩ := ck_some hf
  refine va_sld hx hb hX hbl hbA E.2.2.2 h8 dL_law_405 ?_
  obtain ⟨o9, e10, hf⟩ := bd_some hf
  refine g_calliF (wc := (mW b cI cJ cZ mth mlo mre mpr mto mim mdi mow mit mvl mhs mns mby mng mnu mnd mbg mbu mbd mlg mly mll mld mpg mpu mpl mtd mti mwt mch)) (wc' := (mW b cI cJ cZ o9.2.1 o9.2.2.1 mre mpr mto o9.2.2.2.1 o9.2.2.2.2.1 mow mit mvl mhs mns mby mng mnu mnd mbg mbu mbd o9.2.2.2.2.2.1 o9.2.2.2.2.2.2.1 o9.2.2.2.2.2.2.2.1 o9.2.2.2.2.2.2.2.2.1 mpg mpu o9.2.2.2.2.2.2.2.2.2 mtd mti mwt mch)) (wr := ((cW a cI cJ cZ vl hs isz igd iup idn osz ogd oup odn dep rsz o4.2.1 o4.2.2.1 o4.2.2.2.1 o4.2.2.2.2.1 o4.2.2.2.2.2.1 lti pgd o4.2.2.2.2.2.2.1 pun psz bgd bam bwt bsh brm bsz cab cbl tod o4.2.2.2.2.2.2.2.1 o4.2.2.2.2.2.2.2.2.1 owe itr) ++ [(q, .inl (cJ, 1, .inr (.inl o4.2.2.2.2.2.2.2.2.2)))])) C (vE_swap E) (g_runV (As := [.int (xs (x4 + (1 : Int32)).toNatClampNeg), .int (xs (x4 + (2 : Int32)).toNatClampNeg), .int (xs (x4 + (3 : Int32)).toNatClampNeg)]) (rest := []) C (vE_left (vE_swap E)) (c_X7_in e10) (cwV 3 hts gL_law_X7_in rfl rfl rfl ⟨rfl, hd_X7_in⟩ ⟨(Nat.le_of_ble_eq_true rfl), (Nat.le_of_ble_eq_true rfl)⟩) (q0 := 0) (ci := 7) rfl rfl rfl rfl hl.1 rfl (Nat.le_of_ble_eq_true rfl) dL_law_406 ⟨show 54 + j + 1 + 0 ≤ 1090 by omega, show 2581 + 6 * j + 6 + 0 ≤ 10845 by omega⟩) (fun H locs E => ?_)
  replace E := vE_swap E
  refine lv_istore (lv' := [(6, .int o9.1), (5, .int o4.1), (0, .ref bs), (1, .ref (a 0)), (2, .ref (b 0)), (3, .ref q), (4, .int x4)]) hx hb dL_law_409 hl (by decide) rfl (fun ls hl => ?_)
  refine lv_aload_n hx hb dL_law_411 rfl (lv_at hl 4 rfl) ?_
  obtain ⟨o11, e12, hf⟩ := bd_some hf
  refine g_calliF (wc := (mW b cI cJ cZ o9.2.1 o9.2.2.1 mre mpr mto o9.2.2.2.1 o9.2.2.2.2.1 mow mit mvl mhs mns mby mng mnu mnd mbg mbu mbd o9.2.2.2.2.2.1 o9.2.2.2.2.2.2.1 o9.2.2.2.2.2.2.2.1 o9.2.2.2.2.2.2.2.2.1 mpg mpu o9.2.2.2.2.2.2.2.2.2 mtd mti mwt mch)) (wc' := (mW b cI cJ cZ o9.2.1 o9.2.2.1 mre mpr mto o9.2.2.2.1 o9.2.2.2.2.1 mow mit mvl mhs mns mby mng mnu mnd mbg mbu mbd o9.2.2.2.2.2.1 o9.2.2.2.2.2.2.1 o9.2.2.2.2.2.2.2.1 o9.2.2.2.2.2.2.2.2.1 mpg mpu o9.2.2.2.2.2.2.2.2.2 mtd mti mwt mch)) (wr := ((cW a cI cJ cZ vl hs isz igd iup idn osz ogd oup odn dep rsz o4.2.1 o4.2.2.1 o4.2.2.2.1 o4.2.2.2.2.1 o4.2.2.2.2.2.1 lti pgd o4.2.2.2.2.2.2.1 pun psz bgd bam bwt bsh brm bsz cab cbl tod o4.2.2.2.2.2.2.2.1 o4.2.2.2.2.2.2.2.2.1 owe itr) ++ [(q, .inl (cJ, 1, .inr (.inl o4.2.2.2.2.2.2.2.2.2)))])) C (vE_swap E) (g_runV (As := []) (rest := []) C (vE_left (vE_swap E)) (c_X7_thrown e12) (cwV 0 hts gL_law_X7_thrown rfl rfl rfl ⟨rfl, hd_X7_thrown⟩ ⟨(Nat.le_of_ble_eq_true rfl), (Nat.le_of_ble_eq_true rfl)⟩) (q0 := 0) (ci := 7) rfl rfl rfl rfl hl.1 rfl (Nat.le_of_ble_eq_true rfl) dL_law_412 ⟨show 54 + j + 1 + 0 ≤ 1090 by omega, show 2581 + 6 * j + 6 + 0 ≤ 10845 by omega⟩) (fun H locs E => ?_)
  replace E := vE_swap E
  refine lv_iload hx hb dL_law_415 (lv_at hl 1 rfl) ?_
  refine lv_icmp_eq (tgt := 422) hx hb dL_law_417 (by decide) (fun c13 => ?_) (fun c13 => ?_)
  · rw [if_pos c13] at hf
    refine lv_iload hx hb dL_law_422 (lv_at hl 1 rfl) ?_
    refine lv_if_ne (tgt := 439) hx hb dL_law_424 (by decide) (fun c14 => ?_) (fun c14 => ?_)
    · rw [if_neg c14] at hf
      refine lv_goto (tgt := 1108) hx hb dL_law_439 (by decide) ?_
      refine lv_iinc (v := (x4 + 5)) (lv' := [(4, .int (x4 + 5)), (6, .int o9.1), (5, .int o4.1), (0, .ref bs), (1, .ref (a 0)), (2, .ref (b 0)), (3, .ref q)]) hx hb dL_law_1108 hl (k := 6) rfl rfl (by decide) rfl (fun ls hl => ?_)
      refine lv_goto (tgt := 23) hx hb dL_law_1111 (by decide) ?_
      refine W.widen (k := 54 + (j + 1)) (n := 2581 + 6 * (j + 1)) (by omega) (by omega) ?_
      exact hk23 vl hs isz igd iup idn osz ogd oup odn dep rsz o4.2.1 o4.2.2.1 o4.2.2.2.1 o4.2.2.2.2.1 o4.2.2.2.2.2.1 lti pgd o4.2.2.2.2.2.2.1 pun psz bgd bam bwt bsh brm bsz cab cbl tod o4.2.2.2.2.2.2.2.1 o4.2.2.2.2.2.2.2.2.1 owe itr o4.2.2.2.2.2.2.2.2.2 o9.2.1 o9.2.2.1 mre mpr mto o9.2.2.2.1 o9.2.2.2.2.1 mow mit mvl mhs mns mby mng mnu mnd mbg mbu mbd o9.2.2.2.2.2.1 o9.2.2.2.2.2.2.1 o9.2.2.2.2.2.2.2.1 o9.2.2.2.2.2.2.2.2.1 mpg mpu o9.2.2.2.2.2.2.2.2.2 mtd mti mwt mch (x4 + 5) _ _ _ E (lv_sub hl [3, 4, 5, 6, 0] rfl) hf
    · rw [if_pos c14] at hf
      refine lv_aload_n hx hb dL_law_427 rfl (lv_at hl 5 rfl) ?_
      refine lv_iconst (v := 0) hx hb dL_law_428 (by decide) ?_
      obtain ⟨h15, hf⟩ := ck_some hf
      refine g_lald C E 33 rfl h15 dL_law_429 ?_
      refine lv_iload hx hb dL_law_430 (lv_at hl 0 rfl) ?_
      refine lv_i2l hx hb dL_law_432 rfl ?_
      refine W.lcmp hx hb dL_law_433 ?_
      refine lv_if_eq (tgt := 439) hx hb dL_law_434 (by decide) (fun c16 => ?_) (fun c16 => ?_)
      · rw [if_pos c16] at hf
        refine lv_goto (tgt := 1108) hx hb dL_law_439 (by decide) ?_
        refine lv_iinc (v := (x4 + 5)) (lv' := [(4, .int (x4 + 5)), (6, .int o9.1), (5, .int o4.1), (0, .ref bs), (1, .ref (a 0)), (2, .ref (b 0)), (3, .ref q)]) hx hb dL_law_1108 hl (k := 6) rfl rfl (by decide) rfl (fun ls hl => ?_)
        refine lv_goto (tgt := 23) hx hb dL_law_1111 (by decide) ?_
        refine W.widen (k := 54 + (j + 1)) (n := 2581 + 6 * (j + 1)) (by omega) (by omega) ?_
        exact hk23 vl hs isz igd iup idn osz ogd oup odn dep rsz o4.2.1 o4.2.2.1 o4.2.2.2.1 o4.2.2.2.2.1 o4.2.2.2.2.2.1 lti pgd o4.2.2.2.2.2.2.1 pun psz bgd bam bwt bsh brm bsz cab cbl tod o4.2.2.2.2.2.2.2.1 o4.2.2.2.2.2.2.2.2.1 owe itr o4.2.2.2.2.2.2.2.2.2 o9.2.1 o9.2.2.1 mre mpr mto o9.2.2.2.1 o9.2.2.2.2.1 mow mit mvl mhs mns mby mng mnu mnd mbg mbu mbd o9.2.2.2.2.2.1 o9.2.2.2.2.2.2.1 o9.2.2.2.2.2.2.2.1 o9.2.2.2.2.2.2.2.2.1 mpg mpu o9.2.2.2.2.2.2.2.2.2 mtd mti mwt mch (x4 + 5) _ _ _ E (lv_sub hl [3, 4, 5, 6, 0] rfl) hf
      · rw [if_neg c16] at hf
        refine lv_iconst (v := 0) hx hb dL_law_437 (by decide) ?_
        cases hf
  · rw [if_neg c13] at hf
    refine lv_iconst (v := 0) hx hb dL_law_420 (by decide) ?_
    cases hf
