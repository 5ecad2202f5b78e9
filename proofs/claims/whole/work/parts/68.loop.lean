/-! ===== the pure side: the law ===== -/
abbrev K23 : Type := (Nat → Int32) → (Nat → Int32) → (Nat → Int32) → (Nat → Int32) → (Nat → Int32) → (Nat → Int32) → (Nat → Int32) → (Nat → Int32) → (Nat → Int32) → (Nat → Int32) → (Nat → Int32) → (Int32) → (Nat → Int32) → (Nat → Int64) → (Nat → Int64) → (Nat → Int32) → (Int32) → (Int64) → (Nat → Int32) → (Nat → Int64) → (Nat → Int32) → (Int32) → (Nat → Int32) → (Nat → Int64) → (Nat → Int64) → (Nat → Int64) → (Nat → Int64) → (Int32) → (Nat → Int64) → (Nat → Int64) → (Int32) → (Int64) → (Int64) → (Int64) → (Int64) → (Nat → Int64) → (Int32) → (Int32) → (Int32) → (Int32) → (Int32) → (Int64) → (Int64) → (Int64) → (Int64) → (Nat → Int32) → (Nat → Int32) → (Nat → Int32) → (Nat → Int32) → (Nat → Int32) → (Nat → Int32) → (Nat → Int32) → (Nat → Int32) → (Nat → Int32) → (Nat → Int32) → (Nat → Int32) → (Nat → Int32) → (Nat → Int64) → (Nat → Int64) → (Nat → Int32) → (Nat → Int32) → (Nat → Int64) → (Int64) → (Int64) → (Nat → Int64) → (Nat → Int64) → Int32 → Option Unit
theorem m_thrown (x : Int32) : f_X7_thrown x = some x := rfl
section
variable {xs : Nat → Int32} {L j nl np t Tt : Nat}
variable {vl : Nat → Int32} {hs : Nat → Int32} {isz : Nat → Int32} {igd : Nat → Int32} {iup : Nat → Int32} {idn : Nat → Int32} {osz : Nat → Int32} {ogd : Nat → Int32} {oup : Nat → Int32} {odn : Nat → Int32} {dep : Nat → Int32} {rsz : Int32} {lgd : Nat → Int32} {llf : Nat → Int64} {ldb : Nat → Int64} {ldy : Nat → Int32} {lti : Int64} {pgd : Nat → Int32} {plf : Nat → Int64} {pun : Nat → Int32} {bgd : Nat → Int32} {bam : Nat → Int64} {bwt : Nat → Int64} {bsh : Nat → Int64} {brm : Nat → Int64} {bsz : Int32} {cab : Nat → Int64} {cbl : Nat → Int64} {imp : Int64} {dis : Int64} {owe : Int64} {itr : Int64} {out : Nat → Int64} {mth : Int32} {mvl : Nat → Int32} {mns : Nat → Int32} {mby : Nat → Int32} {mng : Nat → Int32} {mnu : Nat → Int32} {mnd : Nat → Int32} {mbg : Nat → Int32} {mbu : Nat → Int32} {mbd : Nat → Int32} {mtd : Int64} {mti : Int64} {mwt : Nat → Int64} {mch : Nat → Int64}
variable {k23 : K23}
theorem law_value (hLn : L ≤ 2560) (hj : 5 * j + 5 ≤ L) (hV : RV vl mvl) (hk : ∀ (vl2 : Nat → Int32) (mvl2 : Nat → Int32) (mth2 : Int32), RV vl2 mvl2 → k23 vl2 hs isz igd iup idn osz ogd oup odn dep rsz lgd llf ldb ldy (nI nl) lti pgd plf pun (nI np) bgd bam bwt bsh brm bsz cab cbl (nI t) imp dis owe itr out mth2 (nI nl) rsz (nI np) (nI t) imp dis owe itr mvl2 hs mns mby mng mnu mnd mbg mbu mbd lgd ldy llf ldb pgd pun plf mtd mti mwt mch (nI (5 * j) + 5) = some ()) : f_L_law_J116 xs L vl hs isz igd iup idn osz ogd oup odn dep rsz lgd llf ldb ldy (nI nl) lti pgd plf pun (nI np) bgd bam bwt bsh brm bsz cab cbl (nI t) imp dis owe itr out mth (nI nl) rsz (nI np) (nI t) imp dis owe itr mvl hs mns mby mng mnu mnd mbg mbu mbd lgd ldy llf ldb pgd pun plf mtd mti mwt mch (nI (5 * j)) k23 = some () := by
  unfold f_L_law_J116
  have hL2 : L < 2 ^ 31 := by omega
  have hc1 : ∀ {β : Type} {x : Option β}, ck (nI (5 * j) + 1) L x = x := fun {β} {x} => by rw [nI_1]; exact ck_nI (by omega) hL2
  have hc2 : ∀ {β : Type} {x : Option β}, ck (nI (5 * j) + 2) L x = x := fun {β} {x} => by rw [show (2 : Int32) = nI 2 from rfl, nI_add]; exact ck_nI (by omega) hL2
  have hc3 : ∀ {β : Type} {x : Option β}, ck (nI (5 * j) + 3) L x = x := fun {β} {x} => by rw [show (3 : Int32) = nI 3 from rfl, nI_add]; exact ck_nI (by omega) hL2
  have hc4 : ∀ {β : Type} {x : Option β}, ck (nI (5 * j) + 4) L x = x := fun {β} {x} => by rw [show (4 : Int32) = nI 4 from rfl, nI_add]; exact ck_nI (by omega) hL2
  have hc0 : ∀ {β : Type} {x : Option β}, ck (0 : Int32) 1 x = x := fun {β} {x} => ck_nI (j := 0) (by decide) (by decide)
  generalize (nI (5 * j) + 1).toNatClampNeg = i1
  generalize (nI (5 * j) + 2).toNatClampNeg = i2
  generalize (nI (5 * j) + 3).toNatClampNeg = i3
  generalize (nI (5 * j) + 4).toNatClampNeg = i4
  simp only [hc0, hc1, hc2, hc3, hc4]
  obtain ⟨r, vl', mvl', e1, e2, e3⟩ := op_value (mth := mth) hV (xs i1) (xs i2)
  rw [e1, Option.bind_some, e2, Option.bind_some]
  exact (if_pos rfl).trans (hk vl' mvl' 0 e3)
theorem law_recipe (hLn : L ≤ 2560) (hj : 5 * j + 5 ≤ L)  (hk : ∀ (hs2 : Nat → Int32) (rsz2 : Int32) (mth2 : Int32), k23 vl hs2 isz igd iup idn osz ogd oup odn dep rsz2 lgd llf ldb ldy (nI nl) lti pgd plf pun (nI np) bgd bam bwt bsh brm bsz cab cbl (nI t) imp dis owe itr out mth2 (nI nl) rsz2 (nI np) (nI t) imp dis owe itr mvl hs2 mns mby mng mnu mnd mbg mbu mbd lgd ldy llf ldb pgd pun plf mtd mti mwt mch (nI (5 * j) + 5) = some ()) : f_L_law_J153 xs L vl hs isz igd iup idn osz ogd oup odn dep rsz lgd llf ldb ldy (nI nl) lti pgd plf pun (nI np) bgd bam bwt bsh brm bsz cab cbl (nI t) imp dis owe itr out mth (nI nl) rsz (nI np) (nI t) imp dis owe itr mvl hs mns mby mng mnu mnd mbg mbu mbd lgd ldy llf ldb pgd pun plf mtd mti mwt mch (nI (5 * j)) k23 = some () := by
  unfold f_L_law_J153
  have hL2 : L < 2 ^ 31 := by omega
  have hc1 : ∀ {β : Type} {x : Option β}, ck (nI (5 * j) + 1) L x = x := fun {β} {x} => by rw [nI_1]; exact ck_nI (by omega) hL2
  have hc2 : ∀ {β : Type} {x : Option β}, ck (nI (5 * j) + 2) L x = x := fun {β} {x} => by rw [show (2 : Int32) = nI 2 from rfl, nI_add]; exact ck_nI (by omega) hL2
  have hc3 : ∀ {β : Type} {x : Option β}, ck (nI (5 * j) + 3) L x = x := fun {β} {x} => by rw [show (3 : Int32) = nI 3 from rfl, nI_add]; exact ck_nI (by omega) hL2
  have hc4 : ∀ {β : Type} {x : Option β}, ck (nI (5 * j) + 4) L x = x := fun {β} {x} => by rw [show (4 : Int32) = nI 4 from rfl, nI_add]; exact ck_nI (by omega) hL2
  have hc0 : ∀ {β : Type} {x : Option β}, ck (0 : Int32) 1 x = x := fun {β} {x} => ck_nI (j := 0) (by decide) (by decide)
  generalize (nI (5 * j) + 1).toNatClampNeg = i1
  generalize (nI (5 * j) + 2).toNatClampNeg = i2
  generalize (nI (5 * j) + 3).toNatClampNeg = i3
  generalize (nI (5 * j) + 4).toNatClampNeg = i4
  simp only [hc0, hc1, hc2, hc3, hc4]
  obtain ⟨r, hs', rsz', e1, e2⟩ := op_recipe (hs := hs) (rsz := rsz) (mth := mth) (xs i1)
  rw [e1, Option.bind_some, e2, Option.bind_some]
  exact (if_pos rfl).trans (hk hs' rsz' 0)
theorem law_day (hLn : L ≤ 2560) (hj : 5 * j + 5 ≤ L) (ht : t ≤ 100000) (hk : ∀ (t2 : Nat) (mth2 : Int32), t ≤ t2 → t2 ≤ 100000 → k23 vl hs isz igd iup idn osz ogd oup odn dep rsz lgd llf ldb ldy (nI nl) lti pgd plf pun (nI np) bgd bam bwt bsh brm bsz cab cbl (nI t2) imp dis owe itr out mth2 (nI nl) rsz (nI np) (nI t2) imp dis owe itr mvl hs mns mby mng mnu mnd mbg mbu mbd lgd ldy llf ldb pgd pun plf mtd mti mwt mch (nI (5 * j) + 5) = some ()) : f_L_law_J752 xs L vl hs isz igd iup idn osz ogd oup odn dep rsz lgd llf ldb ldy (nI nl) lti pgd plf pun (nI np) bgd bam bwt bsh brm bsz cab cbl (nI t) imp dis owe itr out mth (nI nl) rsz (nI np) (nI t) imp dis owe itr mvl hs mns mby mng mnu mnd mbg mbu mbd lgd ldy llf ldb pgd pun plf mtd mti mwt mch (nI (5 * j)) k23 = some () := by
  unfold f_L_law_J752
  have hL2 : L < 2 ^ 31 := by omega
  have hc1 : ∀ {β : Type} {x : Option β}, ck (nI (5 * j) + 1) L x = x := fun {β} {x} => by rw [nI_1]; exact ck_nI (by omega) hL2
  have hc2 : ∀ {β : Type} {x : Option β}, ck (nI (5 * j) + 2) L x = x := fun {β} {x} => by rw [show (2 : Int32) = nI 2 from rfl, nI_add]; exact ck_nI (by omega) hL2
  have hc3 : ∀ {β : Type} {x : Option β}, ck (nI (5 * j) + 3) L x = x := fun {β} {x} => by rw [show (3 : Int32) = nI 3 from rfl, nI_add]; exact ck_nI (by omega) hL2
  have hc4 : ∀ {β : Type} {x : Option β}, ck (nI (5 * j) + 4) L x = x := fun {β} {x} => by rw [show (4 : Int32) = nI 4 from rfl, nI_add]; exact ck_nI (by omega) hL2
  have hc0 : ∀ {β : Type} {x : Option β}, ck (0 : Int32) 1 x = x := fun {β} {x} => ck_nI (j := 0) (by decide) (by decide)
  generalize (nI (5 * j) + 1).toNatClampNeg = i1
  generalize (nI (5 * j) + 2).toNatClampNeg = i2
  generalize (nI (5 * j) + 3).toNatClampNeg = i3
  generalize (nI (5 * j) + 4).toNatClampNeg = i4
  simp only [hc0, hc1, hc2, hc3, hc4]
  obtain ⟨r, t', e1, e2, e3, e4⟩ := op_day (mth := mth) ht (xs i1)
  rw [e1, Option.bind_some, e2, Option.bind_some]
  exact (if_pos rfl).trans (hk t' 0 e3 e4)
theorem law_sum (hLn : L ≤ 2560) (hj : 5 * j + 5 ≤ L) (hL : LI lgd llf ldb ldy nl t Tt) (hk : ∀ (mth2 : Int32), k23 vl hs isz igd iup idn osz ogd oup odn dep rsz lgd llf ldb ldy (nI nl) lti pgd plf pun (nI np) bgd bam bwt bsh brm bsz cab cbl (nI t) imp dis owe itr out mth2 (nI nl) rsz (nI np) (nI t) imp dis owe itr mvl hs mns mby mng mnu mnd mbg mbu mbd lgd ldy llf ldb pgd pun plf mtd mti mwt mch (nI (5 * j) + 5) = some ()) : f_L_law_J990 xs L vl hs isz igd iup idn osz ogd oup odn dep rsz lgd llf ldb ldy (nI nl) lti pgd plf pun (nI np) bgd bam bwt bsh brm bsz cab cbl (nI t) imp dis owe itr out mth (nI nl) rsz (nI np) (nI t) imp dis owe itr mvl hs mns mby mng mnu mnd mbg mbu mbd lgd ldy llf ldb pgd pun plf mtd mti mwt mch (nI (5 * j)) k23 = some () := by
  unfold f_L_law_J990
  have hL2 : L < 2 ^ 31 := by omega
  have hc1 : ∀ {β : Type} {x : Option β}, ck (nI (5 * j) + 1) L x = x := fun {β} {x} => by rw [nI_1]; exact ck_nI (by omega) hL2
  have hc2 : ∀ {β : Type} {x : Option β}, ck (nI (5 * j) + 2) L x = x := fun {β} {x} => by rw [show (2 : Int32) = nI 2 from rfl, nI_add]; exact ck_nI (by omega) hL2
  have hc3 : ∀ {β : Type} {x : Option β}, ck (nI (5 * j) + 3) L x = x := fun {β} {x} => by rw [show (3 : Int32) = nI 3 from rfl, nI_add]; exact ck_nI (by omega) hL2
  have hc4 : ∀ {β : Type} {x : Option β}, ck (nI (5 * j) + 4) L x = x := fun {β} {x} => by rw [show (4 : Int32) = nI 4 from rfl, nI_add]; exact ck_nI (by omega) hL2
  have hc0 : ∀ {β : Type} {x : Option β}, ck (0 : Int32) 1 x = x := fun {β} {x} => ck_nI (j := 0) (by decide) (by decide)
  generalize (nI (5 * j) + 1).toNatClampNeg = i1
  generalize (nI (5 * j) + 2).toNatClampNeg = i2
  generalize (nI (5 * j) + 3).toNatClampNeg = i3
  generalize (nI (5 * j) + 4).toNatClampNeg = i4
  simp only [hc0, hc1, hc2, hc3, hc4]
  obtain ⟨r, e1, e2⟩ := op_sum (mth := mth) (imp := imp) (dis := dis) (owe := owe) (itr := itr) hL (xs i1)
  rw [e1, Option.bind_some, e2, Option.bind_some]
  exact (if_pos (lc_eq.mpr rfl)).trans (hk 0)
theorem law_count (hLn : L ≤ 2560) (hj : 5 * j + 5 ≤ L)  (hk : ∀ (mth2 : Int32), k23 vl hs isz igd iup idn osz ogd oup odn dep rsz lgd llf ldb ldy (nI nl) lti pgd plf pun (nI np) bgd bam bwt bsh brm bsz cab cbl (nI t) imp dis owe itr out mth2 (nI nl) rsz (nI np) (nI t) imp dis owe itr mvl hs mns mby mng mnu mnd mbg mbu mbd lgd ldy llf ldb pgd pun plf mtd mti mwt mch (nI (5 * j) + 5) = some ()) : f_L_law_J1083 xs L vl hs isz igd iup idn osz ogd oup odn dep rsz lgd llf ldb ldy (nI nl) lti pgd plf pun (nI np) bgd bam bwt bsh brm bsz cab cbl (nI t) imp dis owe itr out mth (nI nl) rsz (nI np) (nI t) imp dis owe itr mvl hs mns mby mng mnu mnd mbg mbu mbd lgd ldy llf ldb pgd pun plf mtd mti mwt mch (nI (5 * j)) k23 = some () := by
  unfold f_L_law_J1083
  have hL2 : L < 2 ^ 31 := by omega
  have hc1 : ∀ {β : Type} {x : Option β}, ck (nI (5 * j) + 1) L x = x := fun {β} {x} => by rw [nI_1]; exact ck_nI (by omega) hL2
  have hc2 : ∀ {β : Type} {x : Option β}, ck (nI (5 * j) + 2) L x = x := fun {β} {x} => by rw [show (2 : Int32) = nI 2 from rfl, nI_add]; exact ck_nI (by omega) hL2
  have hc3 : ∀ {β : Type} {x : Option β}, ck (nI (5 * j) + 3) L x = x := fun {β} {x} => by rw [show (3 : Int32) = nI 3 from rfl, nI_add]; exact ck_nI (by omega) hL2
  have hc4 : ∀ {β : Type} {x : Option β}, ck (nI (5 * j) + 4) L x = x := fun {β} {x} => by rw [show (4 : Int32) = nI 4 from rfl, nI_add]; exact ck_nI (by omega) hL2
  have hc0 : ∀ {β : Type} {x : Option β}, ck (0 : Int32) 1 x = x := fun {β} {x} => ck_nI (j := 0) (by decide) (by decide)
  generalize (nI (5 * j) + 1).toNatClampNeg = i1
  generalize (nI (5 * j) + 2).toNatClampNeg = i2
  generalize (nI (5 * j) + 3).toNatClampNeg = i3
  generalize (nI (5 * j) + 4).toNatClampNeg = i4
  simp only [hc0, hc1, hc2, hc3, hc4]
  obtain ⟨r, e1, e2⟩ := op_count (rsz := rsz) (lsz := nI nl) (psz := nI np) (tod := nI t) (mth := mth) (xs i1)
  rw [e1, Option.bind_some, e2, Option.bind_some]
  exact (if_pos rfl).trans (hk 0)
theorem law_needs (hLn : L ≤ 2560) (hj : 5 * j + 5 ≤ L) (hI : RI isz igd iup idn dep mns mng mnu mnd) (hk : ∀ (isz2 : Nat → Int32) (igd2 : Nat → Int32) (iup2 : Nat → Int32) (idn2 : Nat → Int32) (dep2 : Nat → Int32) (mns2 : Nat → Int32) (mng2 : Nat → Int32) (mnu2 : Nat → Int32) (mnd2 : Nat → Int32) (out2 : Nat → Int64) (mth2 : Int32), RI isz2 igd2 iup2 idn2 dep2 mns2 mng2 mnu2 mnd2 → k23 vl hs isz2 igd2 iup2 idn2 osz ogd oup odn dep2 rsz lgd llf ldb ldy (nI nl) lti pgd plf pun (nI np) bgd bam bwt bsh brm bsz cab cbl (nI t) imp dis owe itr out2 mth2 (nI nl) rsz (nI np) (nI t) imp dis owe itr mvl hs mns2 mby mng2 mnu2 mnd2 mbg mbu mbd lgd ldy llf ldb pgd pun plf mtd mti mwt mch (nI (5 * j) + 5) = some ()) : f_L_law_J178 xs L vl hs isz igd iup idn osz ogd oup odn dep rsz lgd llf ldb ldy (nI nl) lti pgd plf pun (nI np) bgd bam bwt bsh brm bsz cab cbl (nI t) imp dis owe itr out mth (nI nl) rsz (nI np) (nI t) imp dis owe itr mvl hs mns mby mng mnu mnd mbg mbu mbd lgd ldy llf ldb pgd pun plf mtd mti mwt mch (nI (5 * j)) k23 = some () := by
  unfold f_L_law_J178
  have hL2 : L < 2 ^ 31 := by omega
  have hc1 : ∀ {β : Type} {x : Option β}, ck (nI (5 * j) + 1) L x = x := fun {β} {x} => by rw [nI_1]; exact ck_nI (by omega) hL2
  have hc2 : ∀ {β : Type} {x : Option β}, ck (nI (5 * j) + 2) L x = x := fun {β} {x} => by rw [show (2 : Int32) = nI 2 from rfl, nI_add]; exact ck_nI (by omega) hL2
  have hc3 : ∀ {β : Type} {x : Option β}, ck (nI (5 * j) + 3) L x = x := fun {β} {x} => by rw [show (3 : Int32) = nI 3 from rfl, nI_add]; exact ck_nI (by omega) hL2
  have hc4 : ∀ {β : Type} {x : Option β}, ck (nI (5 * j) + 4) L x = x := fun {β} {x} => by rw [show (4 : Int32) = nI 4 from rfl, nI_add]; exact ck_nI (by omega) hL2
  have hc0 : ∀ {β : Type} {x : Option β}, ck (0 : Int32) 1 x = x := fun {β} {x} => ck_nI (j := 0) (by decide) (by decide)
  generalize (nI (5 * j) + 1).toNatClampNeg = i1
  generalize (nI (5 * j) + 2).toNatClampNeg = i2
  generalize (nI (5 * j) + 3).toNatClampNeg = i3
  generalize (nI (5 * j) + 4).toNatClampNeg = i4
  simp only [hc0, hc1, hc2, hc3, hc4]
  obtain ⟨r, isz', igd', iup', idn', dep', v, th, mns', mng', mnu', mnd', e1, e2, hA, hQ⟩ := op_needs (hs := hs) (mth := mth) hI (xs i1) (xs i2) (xs i3) (xs i4)
  rcases hA with ⟨rfl, rfl⟩ | ⟨n, rfl, hE⟩
  · have hf : f_L_needs hs isz igd iup idn dep (xs i1) (xs i2) (xs i3) (xs i4) out = some ((0 : Int32), isz', igd', iup', idn', dep', vp_updL out (0 : Int32).toNatClampNeg (v.toInt64)) := by
      unfold f_L_needs
      rw [e1]
      rfl
    rw [hf, Option.bind_some, e2, Option.bind_some, m_thrown, Option.bind_some]
    refine (if_pos rfl).trans ((if_pos rfl).trans ((if_pos (lc_eq.mpr pk_uLs)).trans ?_))
    exact hk isz' igd' iup' idn' dep' mns' mng' mnu' mnd' (vp_updL out (0 : Int32).toNatClampNeg (v.toInt64)) 0 hQ
  · obtain ⟨rfl, rfl⟩ := hE
    have hf : f_L_needs hs isz igd iup idn dep (xs i1) (xs i2) (xs i3) (xs i4) out = some ((1 : Int32), isz', igd', iup', idn', dep', out) := by
      unfold f_L_needs
      rw [e1]
      show (if ("java/lang/IllegalArgumentException" : String) = nIAE then some ((1 : Int32), isz', igd', iup', idn', dep', out) else none) = some ((1 : Int32), isz', igd', iup', idn', dep', out)
      exact if_pos rfl
    rw [hf, Option.bind_some, e2, Option.bind_some, m_thrown, Option.bind_some]
    exact (if_pos rfl).trans ((if_neg (show ¬ (1 : Int32) = 0 by decide)).trans (hk isz' igd' iup' idn' dep' mns' mng' mnu' mnd' out 1 hQ))
theorem law_yields (hLn : L ≤ 2560) (hj : 5 * j + 5 ≤ L) (hO : RO osz ogd oup odn mby mbg mbu mbd) (hk : ∀ (osz2 : Nat → Int32) (ogd2 : Nat → Int32) (oup2 : Nat → Int32) (odn2 : Nat → Int32) (mby2 : Nat → Int32) (mbg2 : Nat → Int32) (mbu2 : Nat → Int32) (mbd2 : Nat → Int32) (out2 : Nat → Int64) (mth2 : Int32), RO osz2 ogd2 oup2 odn2 mby2 mbg2 mbu2 mbd2 → k23 vl hs isz igd iup idn osz2 ogd2 oup2 odn2 dep rsz lgd llf ldb ldy (nI nl) lti pgd plf pun (nI np) bgd bam bwt bsh brm bsz cab cbl (nI t) imp dis owe itr out2 mth2 (nI nl) rsz (nI np) (nI t) imp dis owe itr mvl hs mns mby2 mng mnu mnd mbg2 mbu2 mbd2 lgd ldy llf ldb pgd pun plf mtd mti mwt mch (nI (5 * j) + 5) = some ()) : f_L_law_J270 xs L vl hs isz igd iup idn osz ogd oup odn dep rsz lgd llf ldb ldy (nI nl) lti pgd plf pun (nI np) bgd bam bwt bsh brm bsz cab cbl (nI t) imp dis owe itr out mth (nI nl) rsz (nI np) (nI t) imp dis owe itr mvl hs mns mby mng mnu mnd mbg mbu mbd lgd ldy llf ldb pgd pun plf mtd mti mwt mch (nI (5 * j)) k23 = some () := by
  unfold f_L_law_J270
  have hL2 : L < 2 ^ 31 := by omega
  have hc1 : ∀ {β : Type} {x : Option β}, ck (nI (5 * j) + 1) L x = x := fun {β} {x} => by rw [nI_1]; exact ck_nI (by omega) hL2
  have hc2 : ∀ {β : Type} {x : Option β}, ck (nI (5 * j) + 2) L x = x := fun {β} {x} => by rw [show (2 : Int32) = nI 2 from rfl, nI_add]; exact ck_nI (by omega) hL2
  have hc3 : ∀ {β : Type} {x : Option β}, ck (nI (5 * j) + 3) L x = x := fun {β} {x} => by rw [show (3 : Int32) = nI 3 from rfl, nI_add]; exact ck_nI (by omega) hL2
  have hc4 : ∀ {β : Type} {x : Option β}, ck (nI (5 * j) + 4) L x = x := fun {β} {x} => by rw [show (4 : Int32) = nI 4 from rfl, nI_add]; exact ck_nI (by omega) hL2
  have hc0 : ∀ {β : Type} {x : Option β}, ck (0 : Int32) 1 x = x := fun {β} {x} => ck_nI (j := 0) (by decide) (by decide)
  generalize (nI (5 * j) + 1).toNatClampNeg = i1
  generalize (nI (5 * j) + 2).toNatClampNeg = i2
  generalize (nI (5 * j) + 3).toNatClampNeg = i3
  generalize (nI (5 * j) + 4).toNatClampNeg = i4
  simp only [hc0, hc1, hc2, hc3, hc4]
  obtain ⟨r, osz', ogd', oup', odn', v, th, mby', mbg', mbu', mbd', e1, e2, hA, hQ⟩ := op_yields (hs := hs) (mth := mth) hO (xs i1) (xs i2) (xs i3) (xs i4)
  rcases hA with ⟨rfl, rfl⟩ | ⟨n, rfl, hE⟩
  · have hf : f_L_yields hs osz ogd oup odn (xs i1) (xs i2) (xs i3) (xs i4) out = some ((0 : Int32), osz', ogd', oup', odn', vp_updL out (0 : Int32).toNatClampNeg (v.toInt64)) := by
      unfold f_L_yields
      rw [e1]
      rfl
    rw [hf, Option.bind_some, e2, Option.bind_some, m_thrown, Option.bind_some]
    refine (if_pos rfl).trans ((if_pos rfl).trans ((if_pos (lc_eq.mpr pk_uLs)).trans ?_))
    exact hk osz' ogd' oup' odn' mby' mbg' mbu' mbd' (vp_updL out (0 : Int32).toNatClampNeg (v.toInt64)) 0 hQ
  · obtain ⟨rfl, rfl⟩ := hE
    have hf : f_L_yields hs osz ogd oup odn (xs i1) (xs i2) (xs i3) (xs i4) out = some ((1 : Int32), osz', ogd', oup', odn', out) := by
      unfold f_L_yields
      rw [e1]
      show (if ("java/lang/IllegalArgumentException" : String) = nIAE then some ((1 : Int32), osz', ogd', oup', odn', out) else none) = some ((1 : Int32), osz', ogd', oup', odn', out)
      exact if_pos rfl
    rw [hf, Option.bind_some, e2, Option.bind_some, m_thrown, Option.bind_some]
    exact (if_pos rfl).trans ((if_neg (show ¬ (1 : Int32) = 0 by decide)).trans (hk osz' ogd' oup' odn' mby' mbg' mbu' mbd' out 1 hQ))
theorem law_in (hLn : L ≤ 2560) (hj : 5 * j + 5 ≤ L) (hL : LI lgd llf ldb ldy nl t Tt) (hT : Tt + 1000000 ≤ 1000000000) (hP : PI plf np) (hk : ∀ (lgd2 : Nat → Int32) (llf2 : Nat → Int64) (ldb2 : Nat → Int64) (ldy2 : Nat → Int32) (nl2 : Nat) (plf2 : Nat → Int64) (imp2 : Int64) (dis2 : Int64) (out2 : Nat → Int64) (mth2 : Int32), LI lgd2 llf2 ldb2 ldy2 nl2 t (Tt + 1000000) → PI plf2 np → k23 vl hs isz igd iup idn osz ogd oup odn dep rsz lgd2 llf2 ldb2 ldy2 (nI nl2) lti pgd plf2 pun (nI np) bgd bam bwt bsh brm bsz cab cbl (nI t) imp2 dis2 owe itr out2 mth2 (nI nl2) rsz (nI np) (nI t) imp2 dis2 owe itr mvl hs mns mby mng mnu mnd mbg mbu mbd lgd2 ldy2 llf2 ldb2 pgd pun plf2 mtd mti mwt mch (nI (5 * j) + 5) = some ()) : f_L_law_J362 xs L vl hs isz igd iup idn osz ogd oup odn dep rsz lgd llf ldb ldy (nI nl) lti pgd plf pun (nI np) bgd bam bwt bsh brm bsz cab cbl (nI t) imp dis owe itr out mth (nI nl) rsz (nI np) (nI t) imp dis owe itr mvl hs mns mby mng mnu mnd mbg mbu mbd lgd ldy llf ldb pgd pun plf mtd mti mwt mch (nI (5 * j)) k23 = some () := by
  unfold f_L_law_J362
  have hL2 : L < 2 ^ 31 := by omega
  have hc1 : ∀ {β : Type} {x : Option β}, ck (nI (5 * j) + 1) L x = x := fun {β} {x} => by rw [nI_1]; exact ck_nI (by omega) hL2
  have hc2 : ∀ {β : Type} {x : Option β}, ck (nI (5 * j) + 2) L x = x := fun {β} {x} => by rw [show (2 : Int32) = nI 2 from rfl, nI_add]; exact ck_nI (by omega) hL2
  have hc3 : ∀ {β : Type} {x : Option β}, ck (nI (5 * j) + 3) L x = x := fun {β} {x} => by rw [show (3 : Int32) = nI 3 from rfl, nI_add]; exact ck_nI (by omega) hL2
  have hc4 : ∀ {β : Type} {x : Option β}, ck (nI (5 * j) + 4) L x = x := fun {β} {x} => by rw [show (4 : Int32) = nI 4 from rfl, nI_add]; exact ck_nI (by omega) hL2
  have hc0 : ∀ {β : Type} {x : Option β}, ck (0 : Int32) 1 x = x := fun {β} {x} => ck_nI (j := 0) (by decide) (by decide)
  generalize (nI (5 * j) + 1).toNatClampNeg = i1
  generalize (nI (5 * j) + 2).toNatClampNeg = i2
  generalize (nI (5 * j) + 3).toNatClampNeg = i3
  generalize (nI (5 * j) + 4).toNatClampNeg = i4
  simp only [hc0, hc1, hc2, hc3, hc4]
  obtain ⟨r, lgd', llf', ldb', ldy', nl', plf', imp', dis', v, th, e1, e2, hA, hQ, hQ2⟩ := op_in (pgd := pgd) (pun := pun) (imp := imp) (dis := dis) (mth := mth) hL hT hP (xs i1) (xs i2) (xs i3)
  rcases hA with ⟨rfl, rfl⟩ | ⟨n, rfl, hE⟩
  · have hf : f_L_in lgd llf ldb ldy (nI nl) pgd plf pun (nI np) (nI t) imp dis (xs i1) (xs i2) (xs i3) out = some ((0 : Int32), lgd', llf', ldb', ldy', nI nl', plf', imp', dis', vp_updL out (0 : Int32).toNatClampNeg (v.toInt64)) := by
      unfold f_L_in
      rw [e1]
      rfl
    rw [hf, Option.bind_some, e2, Option.bind_some, m_thrown, Option.bind_some]
    refine (if_pos rfl).trans ((if_pos rfl).trans ((if_pos (lc_eq.mpr pk_uLs)).trans ?_))
    exact hk lgd' llf' ldb' ldy' nl' plf' imp' dis' (vp_updL out (0 : Int32).toNatClampNeg (v.toInt64)) 0 hQ hQ2
  · rcases hE with ⟨rfl, rfl⟩ | ⟨rfl, rfl⟩
    · skip
      have hf : f_L_in lgd llf ldb ldy (nI nl) pgd plf pun (nI np) (nI t) imp dis (xs i1) (xs i2) (xs i3) out = some ((1 : Int32), lgd', llf', ldb', ldy', nI nl', plf', imp', dis', out) := by
        unfold f_L_in
        rw [e1]
        show (if ("java/lang/IllegalArgumentException" : String) = nIAE then some ((1 : Int32), lgd', llf', ldb', ldy', nI nl', plf', imp', dis', out) else if ("java/lang/IllegalArgumentException" : String) = nISE then some ((2 : Int32), lgd', llf', ldb', ldy', nI nl', plf', imp', dis', out) else none) = some ((1 : Int32), lgd', llf', ldb', ldy', nI nl', plf', imp', dis', out)
        exact if_pos rfl
      rw [hf, Option.bind_some, e2, Option.bind_some, m_thrown, Option.bind_some]
      exact (if_pos rfl).trans ((if_neg (show ¬ (1 : Int32) = 0 by decide)).trans (hk lgd' llf' ldb' ldy' nl' plf' imp' dis' out 1 hQ hQ2))
    · skip
      have hf : f_L_in lgd llf ldb ldy (nI nl) pgd plf pun (nI np) (nI t) imp dis (xs i1) (xs i2) (xs i3) out = some ((2 : Int32), lgd', llf', ldb', ldy', nI nl', plf', imp', dis', out) := by
        unfold f_L_in
        rw [e1]
        show (if ("java/lang/IllegalStateException" : String) = nIAE then some ((1 : Int32), lgd', llf', ldb', ldy', nI nl', plf', imp', dis', out) else if ("java/lang/IllegalStateException" : String) = nISE then some ((2 : Int32), lgd', llf', ldb', ldy', nI nl', plf', imp', dis', out) else none) = some ((2 : Int32), lgd', llf', ldb', ldy', nI nl', plf', imp', dis', out)
        exact (if_neg (by decide)).trans (if_pos rfl)
      rw [hf, Option.bind_some, e2, Option.bind_some, m_thrown, Option.bind_some]
      exact (if_pos rfl).trans ((if_neg (show ¬ (2 : Int32) = 0 by decide)).trans (hk lgd' llf' ldb' ldy' nl' plf' imp' dis' out 2 hQ hQ2))
theorem law_export (hLn : L ≤ 2560) (hj : 5 * j + 5 ≤ L) (hL : LI lgd llf ldb ldy nl t Tt) (hk : ∀ (llf2 : Nat → Int64) (ldb2 : Nat → Int64) (lti2 : Int64) (dis2 : Int64) (out2 : Nat → Int64) (mth2 : Int32) (mtd2 : Int64) (mti2 : Int64), LI lgd llf2 ldb2 ldy nl t Tt → k23 vl hs isz igd iup idn osz ogd oup odn dep rsz lgd llf2 ldb2 ldy (nI nl) lti2 pgd plf pun (nI np) bgd bam bwt bsh brm bsz cab cbl (nI t) imp dis2 owe itr out2 mth2 (nI nl) rsz (nI np) (nI t) imp dis2 owe itr mvl hs mns mby mng mnu mnd mbg mbu mbd lgd ldy llf2 ldb2 pgd pun plf mtd2 mti2 mwt mch (nI (5 * j) + 5) = some ()) : f_L_law_J538 xs L vl hs isz igd iup idn osz ogd oup odn dep rsz lgd llf ldb ldy (nI nl) lti pgd plf pun (nI np) bgd bam bwt bsh brm bsz cab cbl (nI t) imp dis owe itr out mth (nI nl) rsz (nI np) (nI t) imp dis owe itr mvl hs mns mby mng mnu mnd mbg mbu mbd lgd ldy llf ldb pgd pun plf mtd mti mwt mch (nI (5 * j)) k23 = some () := by
  unfold f_L_law_J538
  have hL2 : L < 2 ^ 31 := by omega
  have hc1 : ∀ {β : Type} {x : Option β}, ck (nI (5 * j) + 1) L x = x := fun {β} {x} => by rw [nI_1]; exact ck_nI (by omega) hL2
  have hc2 : ∀ {β : Type} {x : Option β}, ck (nI (5 * j) + 2) L x = x := fun {β} {x} => by rw [show (2 : Int32) = nI 2 from rfl, nI_add]; exact ck_nI (by omega) hL2
  have hc3 : ∀ {β : Type} {x : Option β}, ck (nI (5 * j) + 3) L x = x := fun {β} {x} => by rw [show (3 : Int32) = nI 3 from rfl, nI_add]; exact ck_nI (by omega) hL2
  have hc4 : ∀ {β : Type} {x : Option β}, ck (nI (5 * j) + 4) L x = x := fun {β} {x} => by rw [show (4 : Int32) = nI 4 from rfl, nI_add]; exact ck_nI (by omega) hL2
  have hc0 : ∀ {β : Type} {x : Option β}, ck (0 : Int32) 1 x = x := fun {β} {x} => ck_nI (j := 0) (by decide) (by decide)
  generalize (nI (5 * j) + 1).toNatClampNeg = i1
  generalize (nI (5 * j) + 2).toNatClampNeg = i2
  generalize (nI (5 * j) + 3).toNatClampNeg = i3
  generalize (nI (5 * j) + 4).toNatClampNeg = i4
  simp only [hc0, hc1, hc2, hc3, hc4]
  obtain ⟨r, llf', ldb', lti', dis', v, th, mtd', mti', e1, e2, hA, hQ⟩ := op_export (lti := lti) (dis := dis) (mtd := mtd) (mti := mti) (mth := mth) hL (xs i1) (xs i2)
  rcases hA with ⟨rfl, rfl⟩ | ⟨n, rfl, hE⟩
  · have hf : f_L_export lgd llf ldb ldy (nI nl) lti (nI t) dis (xs i1) (xs i2) out = some ((0 : Int32), llf', ldb', lti', dis', vp_updL out (0 : Int32).toNatClampNeg (v)) := by
      unfold f_L_export
      rw [e1]
      rfl
    rw [hf, Option.bind_some, e2, Option.bind_some, m_thrown, Option.bind_some]
    refine (if_pos rfl).trans ((if_pos rfl).trans ((if_pos (lc_eq.mpr pk_uLs)).trans ?_))
    exact hk llf' ldb' lti' dis' (vp_updL out (0 : Int32).toNatClampNeg (v)) 0 mtd' mti' hQ
  · obtain ⟨rfl, rfl⟩ := hE
    have hf : f_L_export lgd llf ldb ldy (nI nl) lti (nI t) dis (xs i1) (xs i2) out = some ((1 : Int32), llf', ldb', lti', dis', out) := by
      unfold f_L_export
      rw [e1]
      show (if ("java/lang/IllegalArgumentException" : String) = nIAE then some ((1 : Int32), llf', ldb', lti', dis', out) else none) = some ((1 : Int32), llf', ldb', lti', dis', out)
      exact if_pos rfl
    rw [hf, Option.bind_some, e2, Option.bind_some, m_thrown, Option.bind_some]
    exact (if_pos rfl).trans ((if_neg (show ¬ (1 : Int32) = 0 by decide)).trans (hk llf' ldb' lti' dis' out 1 mtd' mti' hQ))
theorem law_release (hLn : L ≤ 2560) (hj : 5 * j + 5 ≤ L) (hL : LI lgd llf ldb ldy nl t Tt) (hk : ∀ (llf2 : Nat → Int64) (ldb2 : Nat → Int64) (lti2 : Int64) (owe2 : Int64) (itr2 : Int64) (out2 : Nat → Int64) (mth2 : Int32) (mtd2 : Int64) (mti2 : Int64), LI lgd llf2 ldb2 ldy nl t Tt → k23 vl hs isz igd iup idn osz ogd oup odn dep rsz lgd llf2 ldb2 ldy (nI nl) lti2 pgd plf pun (nI np) bgd bam bwt bsh brm bsz cab cbl (nI t) imp dis owe2 itr2 out2 mth2 (nI nl) rsz (nI np) (nI t) imp dis owe2 itr2 mvl hs mns mby mng mnu mnd mbg mbu mbd lgd ldy llf2 ldb2 pgd pun plf mtd2 mti2 mwt mch (nI (5 * j) + 5) = some ()) : f_L_law_J605 xs L vl hs isz igd iup idn osz ogd oup odn dep rsz lgd llf ldb ldy (nI nl) lti pgd plf pun (nI np) bgd bam bwt bsh brm bsz cab cbl (nI t) imp dis owe itr out mth (nI nl) rsz (nI np) (nI t) imp dis owe itr mvl hs mns mby mng mnu mnd mbg mbu mbd lgd ldy llf ldb pgd pun plf mtd mti mwt mch (nI (5 * j)) k23 = some () := by
  unfold f_L_law_J605
  have hL2 : L < 2 ^ 31 := by omega
  have hc1 : ∀ {β : Type} {x : Option β}, ck (nI (5 * j) + 1) L x = x := fun {β} {x} => by rw [nI_1]; exact ck_nI (by omega) hL2
  have hc2 : ∀ {β : Type} {x : Option β}, ck (nI (5 * j) + 2) L x = x := fun {β} {x} => by rw [show (2 : Int32) = nI 2 from rfl, nI_add]; exact ck_nI (by omega) hL2
  have hc3 : ∀ {β : Type} {x : Option β}, ck (nI (5 * j) + 3) L x = x := fun {β} {x} => by rw [show (3 : Int32) = nI 3 from rfl, nI_add]; exact ck_nI (by omega) hL2
  have hc4 : ∀ {β : Type} {x : Option β}, ck (nI (5 * j) + 4) L x = x := fun {β} {x} => by rw [show (4 : Int32) = nI 4 from rfl, nI_add]; exact ck_nI (by omega) hL2
  have hc0 : ∀ {β : Type} {x : Option β}, ck (0 : Int32) 1 x = x := fun {β} {x} => ck_nI (j := 0) (by decide) (by decide)
  generalize (nI (5 * j) + 1).toNatClampNeg = i1
  generalize (nI (5 * j) + 2).toNatClampNeg = i2
  generalize (nI (5 * j) + 3).toNatClampNeg = i3
  generalize (nI (5 * j) + 4).toNatClampNeg = i4
  simp only [hc0, hc1, hc2, hc3, hc4]
  obtain ⟨r, llf', ldb', lti', owe', itr', v, th, mtd', mti', e1, e2, hA, hQ⟩ := op_release (lti := lti) (owe := owe) (itr := itr) (mtd := mtd) (mti := mti) (mth := mth) hL (xs i1) (xs i2)
  rcases hA with ⟨rfl, rfl⟩ | ⟨n, rfl, hE⟩
  · have hf : f_L_release lgd llf ldb ldy (nI nl) lti (nI t) owe itr (xs i1) (xs i2) out = some ((0 : Int32), llf', ldb', lti', owe', itr', vp_updL out (0 : Int32).toNatClampNeg (v)) := by
      unfold f_L_release
      rw [e1]
      rfl
    rw [hf, Option.bind_some, e2, Option.bind_some, m_thrown, Option.bind_some]
    refine (if_pos rfl).trans ((if_pos rfl).trans ((if_pos (lc_eq.mpr pk_uLs)).trans ?_))
    exact hk llf' ldb' lti' owe' itr' (vp_updL out (0 : Int32).toNatClampNeg (v)) 0 mtd' mti' hQ
  · obtain ⟨rfl, rfl⟩ := hE
    have hf : f_L_release lgd llf ldb ldy (nI nl) lti (nI t) owe itr (xs i1) (xs i2) out = some ((1 : Int32), llf', ldb', lti', owe', itr', out) := by
      unfold f_L_release
      rw [e1]
      show (if ("java/lang/IllegalArgumentException" : String) = nIAE then some ((1 : Int32), llf', ldb', lti', owe', itr', out) else none) = some ((1 : Int32), llf', ldb', lti', owe', itr', out)
      exact if_pos rfl
    rw [hf, Option.bind_some, e2, Option.bind_some, m_thrown, Option.bind_some]
    exact (if_pos rfl).trans ((if_neg (show ¬ (1 : Int32) = 0 by decide)).trans (hk llf' ldb' lti' owe' itr' out 1 mtd' mti' hQ))
theorem law_prior (hLn : L ≤ 2560) (hj : 5 * j + 5 ≤ L) (hP : PI plf np) (hk : ∀ (pgd2 : Nat → Int32) (plf2 : Nat → Int64) (pun2 : Nat → Int32) (np2 : Nat) (out2 : Nat → Int64) (mth2 : Int32), PI plf2 np2 → k23 vl hs isz igd iup idn osz ogd oup odn dep rsz lgd llf ldb ldy (nI nl) lti pgd2 plf2 pun2 (nI np2) bgd bam bwt bsh brm bsz cab cbl (nI t) imp dis owe itr out2 mth2 (nI nl) rsz (nI np2) (nI t) imp dis owe itr mvl hs mns mby mng mnu mnd mbg mbu mbd lgd ldy llf ldb pgd2 pun2 plf2 mtd mti mwt mch (nI (5 * j) + 5) = some ()) : f_L_law_J672 xs L vl hs isz igd iup idn osz ogd oup odn dep rsz lgd llf ldb ldy (nI nl) lti pgd plf pun (nI np) bgd bam bwt bsh brm bsz cab cbl (nI t) imp dis owe itr out mth (nI nl) rsz (nI np) (nI t) imp dis owe itr mvl hs mns mby mng mnu mnd mbg mbu mbd lgd ldy llf ldb pgd pun plf mtd mti mwt mch (nI (5 * j)) k23 = some () := by
  unfold f_L_law_J672
  have hL2 : L < 2 ^ 31 := by omega
  have hc1 : ∀ {β : Type} {x : Option β}, ck (nI (5 * j) + 1) L x = x := fun {β} {x} => by rw [nI_1]; exact ck_nI (by omega) hL2
  have hc2 : ∀ {β : Type} {x : Option β}, ck (nI (5 * j) + 2) L x = x := fun {β} {x} => by rw [show (2 : Int32) = nI 2 from rfl, nI_add]; exact ck_nI (by omega) hL2
  have hc3 : ∀ {β : Type} {x : Option β}, ck (nI (5 * j) + 3) L x = x := fun {β} {x} => by rw [show (3 : Int32) = nI 3 from rfl, nI_add]; exact ck_nI (by omega) hL2
  have hc4 : ∀ {β : Type} {x : Option β}, ck (nI (5 * j) + 4) L x = x := fun {β} {x} => by rw [show (4 : Int32) = nI 4 from rfl, nI_add]; exact ck_nI (by omega) hL2
  have hc0 : ∀ {β : Type} {x : Option β}, ck (0 : Int32) 1 x = x := fun {β} {x} => ck_nI (j := 0) (by decide) (by decide)
  generalize (nI (5 * j) + 1).toNatClampNeg = i1
  generalize (nI (5 * j) + 2).toNatClampNeg = i2
  generalize (nI (5 * j) + 3).toNatClampNeg = i3
  generalize (nI (5 * j) + 4).toNatClampNeg = i4
  simp only [hc0, hc1, hc2, hc3, hc4]
  obtain ⟨r, pgd', plf', pun', np', v, th, e1, e2, hA, hQ⟩ := op_prior (pgd := pgd) (pun := pun) (mth := mth) hP (xs i1) (xs i2) (xs i3)
  rcases hA with ⟨rfl, rfl⟩ | ⟨n, rfl, hE⟩
  · have hf : f_L_prior pgd plf pun (nI np) (xs i1) (xs i2) (xs i3) out = some ((0 : Int32), pgd', plf', pun', nI np', vp_updL out (0 : Int32).toNatClampNeg (v.toInt64)) := by
      unfold f_L_prior
      rw [e1]
      rfl
    rw [hf, Option.bind_some, e2, Option.bind_some, m_thrown, Option.bind_some]
    refine (if_pos rfl).trans ((if_pos rfl).trans ((if_pos (lc_eq.mpr pk_uLs)).trans ?_))
    exact hk pgd' plf' pun' np' (vp_updL out (0 : Int32).toNatClampNeg (v.toInt64)) 0 hQ
  · rcases hE with ⟨rfl, rfl⟩ | ⟨rfl, rfl⟩
    · skip
      have hf : f_L_prior pgd plf pun (nI np) (xs i1) (xs i2) (xs i3) out = some ((1 : Int32), pgd', plf', pun', nI np', out) := by
        unfold f_L_prior
        rw [e1]
        show (if ("java/lang/IllegalArgumentException" : String) = nIAE then some ((1 : Int32), pgd', plf', pun', nI np', out) else if ("java/lang/IllegalArgumentException" : String) = nISE then some ((2 : Int32), pgd', plf', pun', nI np', out) else none) = some ((1 : Int32), pgd', plf', pun', nI np', out)
        exact if_pos rfl
      rw [hf, Option.bind_some, e2, Option.bind_some, m_thrown, Option.bind_some]
      exact (if_pos rfl).trans ((if_neg (show ¬ (1 : Int32) = 0 by decide)).trans (hk pgd' plf' pun' np' out 1 hQ))
    · skip
      have hf : f_L_prior pgd plf pun (nI np) (xs i1) (xs i2) (xs i3) out = some ((2 : Int32), pgd', plf', pun', nI np', out) := by
        unfold f_L_prior
        rw [e1]
        show (if ("java/lang/IllegalStateException" : String) = nIAE then some ((1 : Int32), pgd', plf', pun', nI np', out) else if ("java/lang/IllegalStateException" : String) = nISE then some ((2 : Int32), pgd', plf', pun', nI np', out) else none) = some ((2 : Int32), pgd', plf', pun', nI np', out)
        exact (if_neg (by decide)).trans (if_pos rfl)
      rw [hf, Option.bind_some, e2, Option.bind_some, m_thrown, Option.bind_some]
      exact (if_pos rfl).trans ((if_neg (show ¬ (2 : Int32) = 0 by decide)).trans (hk pgd' plf' pun' np' out 2 hQ))
theorem law_chain (hLn : L ≤ 2560) (hj : 5 * j + 5 ≤ L) (hI : RI isz igd iup idn dep mns mng mnu mnd) (hk : ∀ (cab2 : Nat → Int64) (cbl2 : Nat → Int64) (out2 : Nat → Int64) (mth2 : Int32) (mch2 : Nat → Int64), k23 vl hs isz igd iup idn osz ogd oup odn dep rsz lgd llf ldb ldy (nI nl) lti pgd plf pun (nI np) bgd bam bwt bsh brm bsz cab2 cbl2 (nI t) imp dis owe itr out2 mth2 (nI nl) rsz (nI np) (nI t) imp dis owe itr mvl hs mns mby mng mnu mnd mbg mbu mbd lgd ldy llf ldb pgd pun plf mtd mti mwt mch2 (nI (5 * j) + 5) = some ()) : f_L_law_J777 xs L vl hs isz igd iup idn osz ogd oup odn dep rsz lgd llf ldb ldy (nI nl) lti pgd plf pun (nI np) bgd bam bwt bsh brm bsz cab cbl (nI t) imp dis owe itr out mth (nI nl) rsz (nI np) (nI t) imp dis owe itr mvl hs mns mby mng mnu mnd mbg mbu mbd lgd ldy llf ldb pgd pun plf mtd mti mwt mch (nI (5 * j)) k23 = some () := by
  unfold f_L_law_J777
  have hL2 : L < 2 ^ 31 := by omega
  have hc1 : ∀ {β : Type} {x : Option β}, ck (nI (5 * j) + 1) L x = x := fun {β} {x} => by rw [nI_1]; exact ck_nI (by omega) hL2
  have hc2 : ∀ {β : Type} {x : Option β}, ck (nI (5 * j) + 2) L x = x := fun {β} {x} => by rw [show (2 : Int32) = nI 2 from rfl, nI_add]; exact ck_nI (by omega) hL2
  have hc3 : ∀ {β : Type} {x : Option β}, ck (nI (5 * j) + 3) L x = x := fun {β} {x} => by rw [show (3 : Int32) = nI 3 from rfl, nI_add]; exact ck_nI (by omega) hL2
  have hc4 : ∀ {β : Type} {x : Option β}, ck (nI (5 * j) + 4) L x = x := fun {β} {x} => by rw [show (4 : Int32) = nI 4 from rfl, nI_add]; exact ck_nI (by omega) hL2
  have hc0 : ∀ {β : Type} {x : Option β}, ck (0 : Int32) 1 x = x := fun {β} {x} => ck_nI (j := 0) (by decide) (by decide)
  generalize (nI (5 * j) + 1).toNatClampNeg = i1
  generalize (nI (5 * j) + 2).toNatClampNeg = i2
  generalize (nI (5 * j) + 3).toNatClampNeg = i3
  generalize (nI (5 * j) + 4).toNatClampNeg = i4
  simp only [hc0, hc1, hc2, hc3, hc4]
  obtain ⟨r, cab', cbl', v, th, mch', e1, e2, hA⟩ := op_chain (cab := cab) (cbl := cbl) (mch := mch) (mth := mth) hI (xs i1) (xs i2) (xs i3)
  rcases hA with ⟨rfl, rfl⟩ | ⟨n, rfl, hE⟩
  · have hf : f_L_chain isz igd iup idn dep cab cbl (xs i1) (xs i2) (xs i3) out = some ((0 : Int32), cab', cbl', vp_updL out (0 : Int32).toNatClampNeg (v)) := by
      unfold f_L_chain
      rw [e1]
      rfl
    rw [hf, Option.bind_some, e2, Option.bind_some, m_thrown, Option.bind_some]
    refine (if_pos rfl).trans ((if_pos rfl).trans ((if_pos (lc_eq.mpr pk_uLs)).trans ?_))
    exact hk cab' cbl' (vp_updL out (0 : Int32).toNatClampNeg (v)) 0 mch'
  · obtain ⟨rfl, rfl⟩ := hE
    have hf : f_L_chain isz igd iup idn dep cab cbl (xs i1) (xs i2) (xs i3) out = some ((1 : Int32), cab', cbl', out) := by
      unfold f_L_chain
      rw [e1]
      show (if ("java/lang/IllegalArgumentException" : String) = nIAE then some ((1 : Int32), cab', cbl', out) else none) = some ((1 : Int32), cab', cbl', out)
      exact if_pos rfl
    rw [hf, Option.bind_some, e2, Option.bind_some, m_thrown, Option.bind_some]
    exact (if_pos rfl).trans ((if_neg (show ¬ (1 : Int32) = 0 by decide)).trans (hk cab' cbl' out 1 mch'))
theorem law_look (hLn : L ≤ 2560) (hj : 5 * j + 5 ≤ L) (hL : LI lgd llf ldb ldy nl t Tt) (hP : PI plf np) (hV : RV vl mvl) (hI : RI isz igd iup idn dep mns mng mnu mnd) (hO : RO osz ogd oup odn mby mbg mbu mbd) (hk : ∀ (out2 : Nat → Int64) (mth2 : Int32), k23 vl hs isz igd iup idn osz ogd oup odn dep rsz lgd llf ldb ldy (nI nl) lti pgd plf pun (nI np) bgd bam bwt bsh brm bsz cab cbl (nI t) imp dis owe itr out2 mth2 (nI nl) rsz (nI np) (nI t) imp dis owe itr mvl hs mns mby mng mnu mnd mbg mbu mbd lgd ldy llf ldb pgd pun plf mtd mti mwt mch (nI (5 * j) + 5) = some ()) : f_L_law_J856 xs L vl hs isz igd iup idn osz ogd oup odn dep rsz lgd llf ldb ldy (nI nl) lti pgd plf pun (nI np) bgd bam bwt bsh brm bsz cab cbl (nI t) imp dis owe itr out mth (nI nl) rsz (nI np) (nI t) imp dis owe itr mvl hs mns mby mng mnu mnd mbg mbu mbd lgd ldy llf ldb pgd pun plf mtd mti mwt mch (nI (5 * j)) k23 = some () := by
  unfold f_L_law_J856
  have hL2 : L < 2 ^ 31 := by omega
  have hc1 : ∀ {β : Type} {x : Option β}, ck (nI (5 * j) + 1) L x = x := fun {β} {x} => by rw [nI_1]; exact ck_nI (by omega) hL2
  have hc2 : ∀ {β : Type} {x : Option β}, ck (nI (5 * j) + 2) L x = x := fun {β} {x} => by rw [show (2 : Int32) = nI 2 from rfl, nI_add]; exact ck_nI (by omega) hL2
  have hc3 : ∀ {β : Type} {x : Option β}, ck (nI (5 * j) + 3) L x = x := fun {β} {x} => by rw [show (3 : Int32) = nI 3 from rfl, nI_add]; exact ck_nI (by omega) hL2
  have hc4 : ∀ {β : Type} {x : Option β}, ck (nI (5 * j) + 4) L x = x := fun {β} {x} => by rw [show (4 : Int32) = nI 4 from rfl, nI_add]; exact ck_nI (by omega) hL2
  have hc0 : ∀ {β : Type} {x : Option β}, ck (0 : Int32) 1 x = x := fun {β} {x} => ck_nI (j := 0) (by decide) (by decide)
  generalize (nI (5 * j) + 1).toNatClampNeg = i1
  generalize (nI (5 * j) + 2).toNatClampNeg = i2
  generalize (nI (5 * j) + 3).toNatClampNeg = i3
  generalize (nI (5 * j) + 4).toNatClampNeg = i4
  simp only [hc0, hc1, hc2, hc3, hc4]
  obtain ⟨r, v, th, e1, e2, hA⟩ := op_look (hs := hs) (pgd := pgd) (pun := pun) (mth := mth) hL hP hV hI hO (xs i1) (xs i2)
  rcases hA with ⟨rfl, rfl⟩ | ⟨n, rfl, hE⟩
  · have hf : f_L_look vl hs isz osz dep lgd llf ldb (nI nl) pgd plf pun (nI np) (nI t) (xs i1) (xs i2) out = some ((0 : Int32), vp_updL out (0 : Int32).toNatClampNeg (v)) := by
      unfold f_L_look
      rw [e1]
      rfl
    rw [hf, Option.bind_some, e2, Option.bind_some, m_thrown, Option.bind_some]
    refine (if_pos rfl).trans ((if_pos rfl).trans ((if_pos (lc_eq.mpr pk_uLs)).trans ?_))
    exact hk (vp_updL out (0 : Int32).toNatClampNeg (v)) 0
  · obtain ⟨rfl, rfl⟩ := hE
    have hf : f_L_look vl hs isz osz dep lgd llf ldb (nI nl) pgd plf pun (nI np) (nI t) (xs i1) (xs i2) out = some ((1 : Int32), out) := by
      unfold f_L_look
      rw [e1]
      show (if ("java/lang/IndexOutOfBoundsException" : String) = nIOE then some ((1 : Int32), out) else none) = some ((1 : Int32), out)
      exact if_pos rfl
    rw [hf, Option.bind_some, e2, Option.bind_some, m_thrown, Option.bind_some]
    exact (if_pos rfl).trans ((if_neg (show ¬ (1 : Int32) = 0 by decide)).trans (hk out 1))
theorem law_lot (hLn : L ≤ 2560) (hj : 5 * j + 5 ≤ L) (hn : nl ≤ 200) (hk : ∀ (out2 : Nat → Int64) (mth2 : Int32), k23 vl hs isz igd iup idn osz ogd oup odn dep rsz lgd llf ldb ldy (nI nl) lti pgd plf pun (nI np) bgd bam bwt bsh brm bsz cab cbl (nI t) imp dis owe itr out2 mth2 (nI nl) rsz (nI np) (nI t) imp dis owe itr mvl hs mns mby mng mnu mnd mbg mbu mbd lgd ldy llf ldb pgd pun plf mtd mti mwt mch (nI (5 * j) + 5) = some ()) : f_L_law_J923 xs L vl hs isz igd iup idn osz ogd oup odn dep rsz lgd llf ldb ldy (nI nl) lti pgd plf pun (nI np) bgd bam bwt bsh brm bsz cab cbl (nI t) imp dis owe itr out mth (nI nl) rsz (nI np) (nI t) imp dis owe itr mvl hs mns mby mng mnu mnd mbg mbu mbd lgd ldy llf ldb pgd pun plf mtd mti mwt mch (nI (5 * j)) k23 = some () := by
  unfold f_L_law_J923
  have hL2 : L < 2 ^ 31 := by omega
  have hc1 : ∀ {β : Type} {x : Option β}, ck (nI (5 * j) + 1) L x = x := fun {β} {x} => by rw [nI_1]; exact ck_nI (by omega) hL2
  have hc2 : ∀ {β : Type} {x : Option β}, ck (nI (5 * j) + 2) L x = x := fun {β} {x} => by rw [show (2 : Int32) = nI 2 from rfl, nI_add]; exact ck_nI (by omega) hL2
  have hc3 : ∀ {β : Type} {x : Option β}, ck (nI (5 * j) + 3) L x = x := fun {β} {x} => by rw [show (3 : Int32) = nI 3 from rfl, nI_add]; exact ck_nI (by omega) hL2
  have hc4 : ∀ {β : Type} {x : Option β}, ck (nI (5 * j) + 4) L x = x := fun {β} {x} => by rw [show (4 : Int32) = nI 4 from rfl, nI_add]; exact ck_nI (by omega) hL2
  have hc0 : ∀ {β : Type} {x : Option β}, ck (0 : Int32) 1 x = x := fun {β} {x} => ck_nI (j := 0) (by decide) (by decide)
  generalize (nI (5 * j) + 1).toNatClampNeg = i1
  generalize (nI (5 * j) + 2).toNatClampNeg = i2
  generalize (nI (5 * j) + 3).toNatClampNeg = i3
  generalize (nI (5 * j) + 4).toNatClampNeg = i4
  simp only [hc0, hc1, hc2, hc3, hc4]
  obtain ⟨r, v, th, e1, e2, hA⟩ := op_lot (lgd := lgd) (ldy := ldy) (llf := llf) (ldb := ldb) (mth := mth) hn (xs i1) (xs i2)
  rcases hA with ⟨rfl, rfl⟩ | ⟨n, rfl, hE⟩
  · have hf : f_L_lot lgd llf ldb ldy (nI nl) (xs i1) (xs i2) out = some ((0 : Int32), vp_updL out (0 : Int32).toNatClampNeg (v)) := by
      unfold f_L_lot
      rw [e1]
      rfl
    rw [hf, Option.bind_some, e2, Option.bind_some, m_thrown, Option.bind_some]
    refine (if_pos rfl).trans ((if_pos rfl).trans ((if_pos (lc_eq.mpr pk_uLs)).trans ?_))
    exact hk (vp_updL out (0 : Int32).toNatClampNeg (v)) 0
  · obtain ⟨rfl, rfl⟩ := hE
    have hf : f_L_lot lgd llf ldb ldy (nI nl) (xs i1) (xs i2) out = some ((1 : Int32), out) := by
      unfold f_L_lot
      rw [e1]
      show (if ("java/lang/IndexOutOfBoundsException" : String) = nIOE then some ((1 : Int32), out) else none) = some ((1 : Int32), out)
      exact if_pos rfl
    rw [hf, Option.bind_some, e2, Option.bind_some, m_thrown, Option.bind_some]
    exact (if_pos rfl).trans ((if_neg (show ¬ (1 : Int32) = 0 by decide)).trans (hk out 1))
theorem law_quotient (hLn : L ≤ 2560) (hj : 5 * j + 5 ≤ L)  (hk : ∀ (out2 : Nat → Int64) (mth2 : Int32), k23 vl hs isz igd iup idn osz ogd oup odn dep rsz lgd llf ldb ldy (nI nl) lti pgd plf pun (nI np) bgd bam bwt bsh brm bsz cab cbl (nI t) imp dis owe itr out2 mth2 (nI nl) rsz (nI np) (nI t) imp dis owe itr mvl hs mns mby mng mnu mnd mbg mbu mbd lgd ldy llf ldb pgd pun plf mtd mti mwt mch (nI (5 * j) + 5) = some ()) : f_L_law_J1016 xs L vl hs isz igd iup idn osz ogd oup odn dep rsz lgd llf ldb ldy (nI nl) lti pgd plf pun (nI np) bgd bam bwt bsh brm bsz cab cbl (nI t) imp dis owe itr out mth (nI nl) rsz (nI np) (nI t) imp dis owe itr mvl hs mns mby mng mnu mnd mbg mbu mbd lgd ldy llf ldb pgd pun plf mtd mti mwt mch (nI (5 * j)) k23 = some () := by
  unfold f_L_law_J1016
  have hL2 : L < 2 ^ 31 := by omega
  have hc1 : ∀ {β : Type} {x : Option β}, ck (nI (5 * j) + 1) L x = x := fun {β} {x} => by rw [nI_1]; exact ck_nI (by omega) hL2
  have hc2 : ∀ {β : Type} {x : Option β}, ck (nI (5 * j) + 2) L x = x := fun {β} {x} => by rw [show (2 : Int32) = nI 2 from rfl, nI_add]; exact ck_nI (by omega) hL2
  have hc3 : ∀ {β : Type} {x : Option β}, ck (nI (5 * j) + 3) L x = x := fun {β} {x} => by rw [show (3 : Int32) = nI 3 from rfl, nI_add]; exact ck_nI (by omega) hL2
  have hc4 : ∀ {β : Type} {x : Option β}, ck (nI (5 * j) + 4) L x = x := fun {β} {x} => by rw [show (4 : Int32) = nI 4 from rfl, nI_add]; exact ck_nI (by omega) hL2
  have hc0 : ∀ {β : Type} {x : Option β}, ck (0 : Int32) 1 x = x := fun {β} {x} => ck_nI (j := 0) (by decide) (by decide)
  generalize (nI (5 * j) + 1).toNatClampNeg = i1
  generalize (nI (5 * j) + 2).toNatClampNeg = i2
  generalize (nI (5 * j) + 3).toNatClampNeg = i3
  generalize (nI (5 * j) + 4).toNatClampNeg = i4
  simp only [hc0, hc1, hc2, hc3, hc4]
  obtain ⟨r, v, th, e1, e2, hA⟩ := op_quotient (mth := mth) (xs i1) (xs i2)
  rcases hA with ⟨rfl, rfl⟩ | ⟨n, rfl, hE⟩
  · have hf : f_L_quotient (xs i1) (xs i2) out = some ((0 : Int32), vp_updL out (0 : Int32).toNatClampNeg (v)) := by
      unfold f_L_quotient
      rw [e1]
      rfl
    rw [hf, Option.bind_some, e2, Option.bind_some, m_thrown, Option.bind_some]
    refine (if_pos rfl).trans ((if_pos rfl).trans ((if_pos (lc_eq.mpr pk_uLs)).trans ?_))
    exact hk (vp_updL out (0 : Int32).toNatClampNeg (v)) 0
  · rcases hE with ⟨rfl, rfl⟩ | ⟨rfl, rfl⟩
    · skip
      have hf : f_L_quotient (xs i1) (xs i2) out = some ((1 : Int32), out) := by
        unfold f_L_quotient
        rw [e1]
        show (if ("java/lang/IllegalArgumentException" : String) = nIAE then some ((1 : Int32), out) else if ("java/lang/IllegalArgumentException" : String) = nARE then some ((2 : Int32), out) else none) = some ((1 : Int32), out)
        exact if_pos rfl
      rw [hf, Option.bind_some, e2, Option.bind_some, m_thrown, Option.bind_some]
      exact (if_pos rfl).trans ((if_neg (show ¬ (1 : Int32) = 0 by decide)).trans (hk out 1))
    · skip
      have hf : f_L_quotient (xs i1) (xs i2) out = some ((2 : Int32), out) := by
        unfold f_L_quotient
        rw [e1]
        show (if ("java/lang/ArithmeticException" : String) = nIAE then some ((1 : Int32), out) else if ("java/lang/ArithmeticException" : String) = nARE then some ((2 : Int32), out) else none) = some ((2 : Int32), out)
        exact (if_neg (by decide)).trans (if_pos rfl)
      rw [hf, Option.bind_some, e2, Option.bind_some, m_thrown, Option.bind_some]
      exact (if_pos rfl).trans ((if_neg (show ¬ (2 : Int32) = 0 by decide)).trans (hk out 2))
theorem law_made (hLn : L ≤ 2560) (hj : 5 * j + 5 ≤ L) (hL : LI lgd llf ldb ldy nl t Tt) (hT : Tt + 1000000 ≤ 1000000000) (hV : RV vl mvl) (hI : RI isz igd iup idn dep mns mng mnu mnd) (hO : RO osz ogd oup odn mby mbg mbu mbd) (hk : ∀ (lgd2 : Nat → Int32) (llf2 : Nat → Int64) (ldb2 : Nat → Int64) (ldy2 : Nat → Int32) (nl2 : Nat) (lti2 : Int64) (bgd2 : Nat → Int32) (bam2 : Nat → Int64) (bwt2 : Nat → Int64) (bsh2 : Nat → Int64) (brm2 : Nat → Int64) (bsz2 : Int32) (out2 : Nat → Int64) (mth2 : Int32) (mtd2 : Int64) (mti2 : Int64) (mwt2 : Nat → Int64), LI lgd2 llf2 ldb2 ldy2 nl2 t (Tt + 1000000) → k23 vl hs isz igd iup idn osz ogd oup odn dep rsz lgd2 llf2 ldb2 ldy2 (nI nl2) lti2 pgd plf pun (nI np) bgd2 bam2 bwt2 bsh2 brm2 bsz2 cab cbl (nI t) imp dis owe itr out2 mth2 (nI nl2) rsz (nI np) (nI t) imp dis owe itr mvl hs mns mby mng mnu mnd mbg mbu mbd lgd2 ldy2 llf2 ldb2 pgd pun plf mtd2 mti2 mwt2 mch (nI (5 * j) + 5) = some ()) : f_L_law_J442 xs L vl hs isz igd iup idn osz ogd oup odn dep rsz lgd llf ldb ldy (nI nl) lti pgd plf pun (nI np) bgd bam bwt bsh brm bsz cab cbl (nI t) imp dis owe itr out mth (nI nl) rsz (nI np) (nI t) imp dis owe itr mvl hs mns mby mng mnu mnd mbg mbu mbd lgd ldy llf ldb pgd pun plf mtd mti mwt mch (nI (5 * j)) k23 = some () := by
  unfold f_L_law_J442
  have hL2 : L < 2 ^ 31 := by omega
  have hc1 : ∀ {β : Type} {x : Option β}, ck (nI (5 * j) + 1) L x = x := fun {β} {x} => by rw [nI_1]; exact ck_nI (by omega) hL2
  have hc2 : ∀ {β : Type} {x : Option β}, ck (nI (5 * j) + 2) L x = x := fun {β} {x} => by rw [show (2 : Int32) = nI 2 from rfl, nI_add]; exact ck_nI (by omega) hL2
  have hc3 : ∀ {β : Type} {x : Option β}, ck (nI (5 * j) + 3) L x = x := fun {β} {x} => by rw [show (3 : Int32) = nI 3 from rfl, nI_add]; exact ck_nI (by omega) hL2
  have hc4 : ∀ {β : Type} {x : Option β}, ck (nI (5 * j) + 4) L x = x := fun {β} {x} => by rw [show (4 : Int32) = nI 4 from rfl, nI_add]; exact ck_nI (by omega) hL2
  have hc0 : ∀ {β : Type} {x : Option β}, ck (0 : Int32) 1 x = x := fun {β} {x} => ck_nI (j := 0) (by decide) (by decide)
  generalize (nI (5 * j) + 1).toNatClampNeg = i1
  generalize (nI (5 * j) + 2).toNatClampNeg = i2
  generalize (nI (5 * j) + 3).toNatClampNeg = i3
  generalize (nI (5 * j) + 4).toNatClampNeg = i4
  simp only [hc0, hc1, hc2, hc3, hc4]
  by_cases h3 : xs i3 = 0
  · rw [if_pos h3]
    obtain ⟨r, lgd', llf', ldb', ldy', nl', lti', bgd', bam', bwt', bsh', brm', bsz', v, th, mtd', mti', mwt', e1, e2, hA, hQ⟩ := op_made (lti := lti) (bgd := bgd) (bam := bam) (bwt := bwt) (bsh := bsh) (brm := brm) (bsz := bsz) (mtd := mtd) (mti := mti) (mwt := mwt) (mth := mth) hL hT hV hI hO (xs i1) (xs i2) 0
    rcases hA with ⟨rfl, rfl⟩ | ⟨n, rfl, rfl, rfl⟩
    · have hf : f_L_made vl isz igd iup idn osz ogd oup odn lgd llf ldb ldy (nI nl) lti bgd bam bwt bsh brm bsz (nI t) (xs i1) (xs i2) 0 out = some ((0 : Int32), lgd', llf', ldb', ldy', nI nl', lti', bgd', bam', bwt', bsh', brm', bsz', vp_updL out (0 : Int32).toNatClampNeg v.toInt64) := by
        unfold f_L_made
        rw [e1]
        rfl
      rw [hf, Option.bind_some]
      rw [if_pos h3]
      rw [e2, Option.bind_some, m_thrown, Option.bind_some]
      refine (if_pos rfl).trans ((if_pos rfl).trans ((if_pos (lc_eq.mpr pk_uLs)).trans ?_))
      exact hk lgd' llf' ldb' ldy' nl' lti' bgd' bam' bwt' bsh' brm' bsz' (vp_updL out (0 : Int32).toNatClampNeg v.toInt64) 0 mtd' mti' mwt' hQ
    · have hf : f_L_made vl isz igd iup idn osz ogd oup odn lgd llf ldb ldy (nI nl) lti bgd bam bwt bsh brm bsz (nI t) (xs i1) (xs i2) 0 out = some ((1 : Int32), lgd', llf', ldb', ldy', nI nl', lti', bgd', bam', bwt', bsh', brm', bsz', out) := by
        unfold f_L_made
        rw [e1]
        show (if ("java/lang/IllegalArgumentException" : String) = nIAE then some ((1 : Int32), lgd', llf', ldb', ldy', nI nl', lti', bgd', bam', bwt', bsh', brm', bsz', out) else none) = some ((1 : Int32), lgd', llf', ldb', ldy', nI nl', lti', bgd', bam', bwt', bsh', brm', bsz', out)
        exact if_pos rfl
      rw [hf, Option.bind_some]
      rw [if_pos h3]
      rw [e2, Option.bind_some, m_thrown, Option.bind_some]
      exact (if_pos rfl).trans ((if_neg (show ¬ (1 : Int32) = 0 by decide)).trans (hk lgd' llf' ldb' ldy' nl' lti' bgd' bam' bwt' bsh' brm' bsz' out 1 mtd' mti' mwt' hQ))
  · rw [if_neg h3]
    obtain ⟨r, lgd', llf', ldb', ldy', nl', lti', bgd', bam', bwt', bsh', brm', bsz', v, th, mtd', mti', mwt', e1, e2, hA, hQ⟩ := op_made (lti := lti) (bgd := bgd) (bam := bam) (bwt := bwt) (bsh := bsh) (brm := brm) (bsz := bsz) (mtd := mtd) (mti := mti) (mwt := mwt) (mth := mth) hL hT hV hI hO (xs i1) (xs i2) 1
    rcases hA with ⟨rfl, rfl⟩ | ⟨n, rfl, rfl, rfl⟩
    · have hf : f_L_made vl isz igd iup idn osz ogd oup odn lgd llf ldb ldy (nI nl) lti bgd bam bwt bsh brm bsz (nI t) (xs i1) (xs i2) 1 out = some ((0 : Int32), lgd', llf', ldb', ldy', nI nl', lti', bgd', bam', bwt', bsh', brm', bsz', vp_updL out (0 : Int32).toNatClampNeg v.toInt64) := by
        unfold f_L_made
        rw [e1]
        rfl
      rw [hf, Option.bind_some]
      rw [if_neg h3]
      rw [e2, Option.bind_some, m_thrown, Option.bind_some]
      refine (if_pos rfl).trans ((if_pos rfl).trans ((if_pos (lc_eq.mpr pk_uLs)).trans ?_))
      exact hk lgd' llf' ldb' ldy' nl' lti' bgd' bam' bwt' bsh' brm' bsz' (vp_updL out (0 : Int32).toNatClampNeg v.toInt64) 0 mtd' mti' mwt' hQ
    · have hf : f_L_made vl isz igd iup idn osz ogd oup odn lgd llf ldb ldy (nI nl) lti bgd bam bwt bsh brm bsz (nI t) (xs i1) (xs i2) 1 out = some ((1 : Int32), lgd', llf', ldb', ldy', nI nl', lti', bgd', bam', bwt', bsh', brm', bsz', out) := by
        unfold f_L_made
        rw [e1]
        show (if ("java/lang/IllegalArgumentException" : String) = nIAE then some ((1 : Int32), lgd', llf', ldb', ldy', nI nl', lti', bgd', bam', bwt', bsh', brm', bsz', out) else none) = some ((1 : Int32), lgd', llf', ldb', ldy', nI nl', lti', bgd', bam', bwt', bsh', brm', bsz', out)
        exact if_pos rfl
      rw [hf, Option.bind_some]
      rw [if_neg h3]
      rw [e2, Option.bind_some, m_thrown, Option.bind_some]
      exact (if_pos rfl).trans ((if_neg (show ¬ (1 : Int32) = 0 by decide)).trans (hk lgd' llf' ldb' ldy' nl' lti' bgd' bam' bwt' bsh' brm' bsz' out 1 mtd' mti' mwt' hQ))
end
set_option maxRecDepth 4000 in
theorem law_loop {xs : Nat → Int32} {L : Nat} (hLn : L ≤ 2560) : ∀ (n j : Nat), 512 < n + j → j ≤ 512 → ∀ (nl np t : Nat) (vl : Nat → Int32) (hs : Nat → Int32) (isz : Nat → Int32) (igd : Nat → Int32) (iup : Nat → Int32) (idn : Nat → Int32) (osz : Nat → Int32) (ogd : Nat → Int32) (oup : Nat → Int32) (odn : Nat → Int32) (dep : Nat → Int32) (rsz : Int32) (lgd : Nat → Int32) (llf : Nat → Int64) (ldb : Nat → Int64) (ldy : Nat → Int32) (lti : Int64) (pgd : Nat → Int32) (plf : Nat → Int64) (pun : Nat → Int32) (bgd : Nat → Int32) (bam : Nat → Int64) (bwt : Nat → Int64) (bsh : Nat → Int64) (brm : Nat → Int64) (bsz : Int32) (cab : Nat → Int64) (cbl : Nat → Int64) (imp : Int64) (dis : Int64) (owe : Int64) (itr : Int64) (out : Nat → Int64) (mth : Int32) (mvl : Nat → Int32) (mns : Nat → Int32) (mby : Nat → Int32) (mng : Nat → Int32) (mnu : Nat → Int32) (mnd : Nat → Int32) (mbg : Nat → Int32) (mbu : Nat → Int32) (mbd : Nat → Int32) (mtd : Int64) (mti : Int64) (mwt : Nat → Int64) (mch : Nat → Int64), RV vl mvl → RI isz igd iup idn dep mns mng mnu mnd → RO osz ogd oup odn mby mbg mbu mbd → LI lgd llf ldb ldy nl t (1000000 * j) → PI plf np → f_L_law_L23 xs L n vl hs isz igd iup idn osz ogd oup odn dep rsz lgd llf ldb ldy (nI nl) lti pgd plf pun (nI np) bgd bam bwt bsh brm bsz cab cbl (nI t) imp dis owe itr out mth (nI nl) rsz (nI np) (nI t) imp dis owe itr mvl hs mns mby mng mnu mnd mbg mbu mbd lgd ldy llf ldb pgd pun plf mtd mti mwt mch (nI (5 * j)) = some () := by
  intro n
  induction n with
  | zero => intro j h1 h2; omega
  | succ n ih =>
    intro j h1 h2 nl np t vl hs isz igd iup idn osz ogd oup odn dep rsz lgd llf ldb ldy lti pgd plf pun bgd bam bwt bsh brm bsz cab cbl imp dis owe itr out mth mvl mns mby mng mnu mnd mbg mbu mbd mtd mti mwt mch hV hI hO hL hP
    unfold f_L_law_L23
    by_cases hend : L < 5 * j + 5
    · rw [if_pos (show Int32.ofNat L - 5 < nI (5 * j) from ?_)]
      by_cases h5 : L < 5
      · have e1 : nI L - nI 5 < 0 := pk_sneg (by decide) h5
        have e2 : (0 : Int32) ≤ nI (5 * j) := nI_pos' (by omega)
        exact Int32.lt_of_lt_of_le e1 e2
      · show nI L - nI 5 < nI (5 * j)
        rw [pk_sub (by omega)]
        exact nI_lt (by omega) (by omega)
    · have hj5 : 5 * j + 5 ≤ L := by omega
      rw [if_neg (show ¬ Int32.ofNat L - 5 < nI (5 * j) from by
        show ¬ nI L - nI 5 < nI (5 * j)
        rw [pk_sub (by omega)]
        exact nI_nlt (by omega) (by omega)), ck_nI (by omega) (by omega)]
      have hx : nI (5 * j) + 5 = nI (5 * (j + 1)) := by
        rw [show (5 : Int32) = nI 5 from rfl, nI_add]
        rfl
      have hT : 1000000 * j + 1000000 ≤ 1000000000 := by omega
      have hL1 : ∀ {lgd llf ldb ldy nl t}, LI lgd llf ldb ldy nl t (1000000 * j) → LI lgd llf ldb ldy nl t (1000000 * (j + 1)) := fun h => LI_mono h (by omega) (by omega)
      have hL2 : ∀ {lgd llf ldb ldy nl t}, LI lgd llf ldb ldy nl t (1000000 * j + 1000000) → LI lgd llf ldb ldy nl t (1000000 * (j + 1)) := fun h => h
      have ih := ih (j + 1) (by omega) (by omega)
      rw [← hx] at ih
      have h200 := hL.1
      have ht := hL.2.1
      generalize hop : xs (nI (5 * j)).toNatClampNeg &&& 15 = op
      by_cases c0 : op = 0
      · rw [if_pos c0]
        exact law_value hLn hj5 hV (fun vl' mvl' th hQ => ih _ _ _ _ _ _ _ _ _ _ _ _ _ _ _ _ _ _ _ _ _ _ _ _ _ _ _ _ _ _ _ _ _ _ _ _ _ _ _ _ _ _ _ _ _ _ _ _ _ _ hQ hI hO (hL1 hL) hP)
      rw [if_neg c0]
      by_cases c1 : op = 1
      · rw [if_pos c1]
        exact law_recipe hLn hj5  (fun hs' rsz' th => ih _ _ _ _ _ _ _ _ _ _ _ _ _ _ _ _ _ _ _ _ _ _ _ _ _ _ _ _ _ _ _ _ _ _ _ _ _ _ _ _ _ _ _ _ _ _ _ _ _ _ hV hI hO (hL1 hL) hP)
      rw [if_neg c1]
      by_cases c2 : op = 2
      · rw [if_pos c2]
        exact law_needs hLn hj5 hI (fun a1 a2 a3 a4 a5 b1 b2 b3 b4 o' th hQ => ih _ _ _ _ _ _ _ _ _ _ _ _ _ _ _ _ _ _ _ _ _ _ _ _ _ _ _ _ _ _ _ _ _ _ _ _ _ _ _ _ _ _ _ _ _ _ _ _ _ _ hV hQ hO (hL1 hL) hP)
      rw [if_neg c2]
      by_cases c3 : op = 3
      · rw [if_pos c3]
        exact law_yields hLn hj5 hO (fun a1 a2 a3 a4 b1 b2 b3 b4 o' th hQ => ih _ _ _ _ _ _ _ _ _ _ _ _ _ _ _ _ _ _ _ _ _ _ _ _ _ _ _ _ _ _ _ _ _ _ _ _ _ _ _ _ _ _ _ _ _ _ _ _ _ _ hV hI hQ (hL1 hL) hP)
      rw [if_neg c3]
      by_cases c4 : op = 4
      · rw [if_pos c4]
        exact law_in hLn hj5 hL hT hP (fun a1 a2 a3 a4 a5 a6 a7 a8 o' th hQ hQ2 => ih _ _ _ _ _ _ _ _ _ _ _ _ _ _ _ _ _ _ _ _ _ _ _ _ _ _ _ _ _ _ _ _ _ _ _ _ _ _ _ _ _ _ _ _ _ _ _ _ _ _ hV hI hO (hL2 hQ) hQ2)
      rw [if_neg c4]
      by_cases c5 : op = 5
      · rw [if_pos c5]
        exact law_made hLn hj5 hL hT hV hI hO (fun a1 a2 a3 a4 a5 a6 a7 a8 a9 b1 b2 b3 o' th b4 b5 b6 hQ => ih _ _ _ _ _ _ _ _ _ _ _ _ _ _ _ _ _ _ _ _ _ _ _ _ _ _ _ _ _ _ _ _ _ _ _ _ _ _ _ _ _ _ _ _ _ _ _ _ _ _ hV hI hO (hL2 hQ) hP)
      rw [if_neg c5]
      by_cases c6 : op = 6
      · rw [if_pos c6]
        exact law_export hLn hj5 hL (fun a1 a2 a3 a4 o' th b1 b2 hQ => ih _ _ _ _ _ _ _ _ _ _ _ _ _ _ _ _ _ _ _ _ _ _ _ _ _ _ _ _ _ _ _ _ _ _ _ _ _ _ _ _ _ _ _ _ _ _ _ _ _ _ hV hI hO (hL1 hQ) hP)
      rw [if_neg c6]
      by_cases c7 : op = 7
      · rw [if_pos c7]
        exact law_release hLn hj5 hL (fun a1 a2 a3 a4 a5 o' th b1 b2 hQ => ih _ _ _ _ _ _ _ _ _ _ _ _ _ _ _ _ _ _ _ _ _ _ _ _ _ _ _ _ _ _ _ _ _ _ _ _ _ _ _ _ _ _ _ _ _ _ _ _ _ _ hV hI hO (hL1 hQ) hP)
      rw [if_neg c7]
      by_cases c8 : op = 8
      · rw [if_pos c8]
        exact law_prior hLn hj5 hP (fun a1 a2 a3 a4 o' th hQ => ih _ _ _ _ _ _ _ _ _ _ _ _ _ _ _ _ _ _ _ _ _ _ _ _ _ _ _ _ _ _ _ _ _ _ _ _ _ _ _ _ _ _ _ _ _ _ _ _ _ _ hV hI hO (hL1 hL) hQ)
      rw [if_neg c8]
      by_cases c9 : op = 9
      · rw [if_pos c9]
        exact law_day hLn hj5 ht (fun t' th hQ hQ2 => ih _ _ _ _ _ _ _ _ _ _ _ _ _ _ _ _ _ _ _ _ _ _ _ _ _ _ _ _ _ _ _ _ _ _ _ _ _ _ _ _ _ _ _ _ _ _ _ _ _ _ hV hI hO (hL1 (LI_day hL hQ hQ2)) hP)
      rw [if_neg c9]
      by_cases c10 : op = 10
      · rw [if_pos c10]
        exact law_chain hLn hj5 hI (fun a1 a2 o' th b1 => ih _ _ _ _ _ _ _ _ _ _ _ _ _ _ _ _ _ _ _ _ _ _ _ _ _ _ _ _ _ _ _ _ _ _ _ _ _ _ _ _ _ _ _ _ _ _ _ _ _ _ hV hI hO (hL1 hL) hP)
      rw [if_neg c10]
      by_cases c11 : op = 11
      · rw [if_pos c11]
        exact law_look hLn hj5 hL hP hV hI hO (fun o' th => ih _ _ _ _ _ _ _ _ _ _ _ _ _ _ _ _ _ _ _ _ _ _ _ _ _ _ _ _ _ _ _ _ _ _ _ _ _ _ _ _ _ _ _ _ _ _ _ _ _ _ hV hI hO (hL1 hL) hP)
      rw [if_neg c11]
      by_cases c12 : op = 12
      · rw [if_pos c12]
        exact law_lot hLn hj5 h200 (fun o' th => ih _ _ _ _ _ _ _ _ _ _ _ _ _ _ _ _ _ _ _ _ _ _ _ _ _ _ _ _ _ _ _ _ _ _ _ _ _ _ _ _ _ _ _ _ _ _ _ _ _ _ hV hI hO (hL1 hL) hP)
      rw [if_neg c12]
      by_cases c13 : op = 13
      · rw [if_pos c13]
        exact law_sum hLn hj5 hL (fun th => ih _ _ _ _ _ _ _ _ _ _ _ _ _ _ _ _ _ _ _ _ _ _ _ _ _ _ _ _ _ _ _ _ _ _ _ _ _ _ _ _ _ _ _ _ _ _ _ _ _ _ hV hI hO (hL1 hL) hP)
      rw [if_neg c13]
      by_cases c14 : op = 14
      · rw [if_pos c14]
        exact law_quotient hLn hj5  (fun o' th => ih _ _ _ _ _ _ _ _ _ _ _ _ _ _ _ _ _ _ _ _ _ _ _ _ _ _ _ _ _ _ _ _ _ _ _ _ _ _ _ _ _ _ _ _ _ _ _ _ _ _ hV hI hO (hL1 hL) hP)
      rw [if_neg c14]
      by_cases c15 : op = 15
      · rw [if_pos c15]
        exact law_count hLn hj5  (fun th => ih _ _ _ _ _ _ _ _ _ _ _ _ _ _ _ _ _ _ _ _ _ _ _ _ _ _ _ _ _ _ _ _ _ _ _ _ _ _ _ _ _ _ _ _ _ _ _ _ _ _ hV hI hO (hL1 hL) hP)
      rw [if_neg c15]
      exact ih _ _ _ _ _ _ _ _ _ _ _ _ _ _ _ _ _ _ _ _ _ _ _ _ _ _ _ _ _ _ _ _ _ _ _ _ _ _ _ _ _ _ _ _ _ _ _ _ _ _ hV hI hO (hL1 hL) hP
