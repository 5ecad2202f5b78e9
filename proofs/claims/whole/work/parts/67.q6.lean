/-! ===== the pure side: made ===== -/
theorem store_loop {T o a b sh : Nat → Nat} {osz ogd oup odn mby mbg mbu mbd bgd : Nat → Int32} {bam bsh mwt : Nat → Int64} {mth : Int32} {mtd mti : Int64} {p x D t : Nat} (h : RP T o a b osz ogd oup odn mby mbg mbu mbd) (hp : p < 12) (hx : x ≤ 10000) (hb : ∀ j, j < T p + 1 → bgd j = nI (gk o p j) ∧ bam j = lN (am a b p x j)) (hs : ∀ j, j < T p + 1 → bsh j = lN (sh j) ∧ f_X7_share mwt (nI j) (nI (T p + 1)) (lN D) = some (lN (sh j))) : ∀ (c k : Nat), k + c = T p + 1 → ∀ (n1 n2 : Nat) (lgd : Nat → Int32) (llf ldb : Nat → Int64) (ldy : Nat → Int32) (nl Tt : Nat), c < n1 → c < n2 → LI lgd llf ldb ldy nl t Tt → nl + rs (cf a b p x) k c ≤ 200 → Tt + rs sh k c ≤ 1000000000 →
    ∃ (lgd' : Nat → Int32) (llf' ldb' : Nat → Int64) (ldy' : Nat → Int32) (nl' : Nat), f_X0_store_L2 bgd bam bsh (nI (T p + 1)) (nI t) n1 lgd llf ldb ldy (nI nl) (nI k) = some (lgd', llf', ldb', ldy', nI nl') ∧
      f_X7_made_L339 mth (nI t) mbg mbu mbd mtd mti mwt (nI p) (nI x) (nI (T p + 1)) (lN D) n2 (nI nl) lgd ldy llf ldb (nI k) = some (1, mth, nI nl', lgd', ldy', llf', ldb', mtd, mti, mwt) ∧ LI lgd' llf' ldb' ldy' nl' t (Tt + rs sh k c) := by
  intro c
  have hT := (h p hp).1
  induction c with
  | zero =>
    intro k hk n1 n2 lgd llf ldb ldy nl Tt h1 h2 hL hn hS
    obtain ⟨m1, rfl⟩ : ∃ z, n1 = z + 1 := ⟨n1 - 1, by omega⟩
    obtain ⟨m2, rfl⟩ : ∃ z, n2 = z + 1 := ⟨n2 - 1, by omega⟩
    refine ⟨lgd, llf, ldb, ldy, nl, ?_, ?_, hL⟩
    · unfold f_X0_store_L2
      rw [if_pos (nI_le (by omega) (by omega))]
    · unfold f_X7_made_L339
      rw [if_pos (nI_le (by omega) (by omega))]
  | succ c ih =>
    intro k hk n1 n2 lgd llf ldb ldy nl Tt h1 h2 hL hn hS
    obtain ⟨m1, rfl⟩ : ∃ z, n1 = z + 1 := ⟨n1 - 1, by omega⟩
    obtain ⟨m2, rfl⟩ : ∃ z, n2 = z + 1 := ⟨n2 - 1, by omega⟩
    obtain ⟨q1, q2⟩ := hb k (by omega)
    obtain ⟨s1, s2⟩ := hs k (by omega)
    have hal := am_le h hp (show k ≤ T p by omega) hx
    have hg := gk_lt h hp (show k ≤ T p by omega)
    have hrn : rs (cf a b p x) k (c + 1) = cf a b p x k + rs (cf a b p x) (k + 1) c := rfl
    have hrs : rs sh k (c + 1) = sh k + rs sh (k + 1) c := rfl
    have ha := m_amountOf h hp (show k ≤ T p by omega) hx
    have hck : ∀ {β : Type} {x : Option β}, ck (nI k) 3 x = x := ck_nI (by omega) (by decide)
    by_cases z : am a b p x k = 0
    · have hc0 : cf a b p x k = 0 := if_pos z
      obtain ⟨lgd', llf', ldb', ldy', nl', e1, e2, e3⟩ := ih (k + 1) (by omega) m1 m2 lgd llf ldb ldy nl Tt (by omega) (by omega) hL (by omega) (by omega)
      refine ⟨lgd', llf', ldb', ldy', nl', ?_, ?_, LI_mono e3 (by omega) hS⟩
      · unfold f_X0_store_L2
        rw [if_neg (nI_ge (by omega) (by omega)), hck, nI_clamp (by omega), q2, z, if_pos (show lg_cmp (lN 0) 0 ≤ 0 by decide), nI_1]
        exact e1
      · unfold f_X7_made_L339
        rw [if_neg (nI_ge (by omega) (by omega)), ha, Option.bind_some, z, if_pos (show lg_cmp (lN 0) 0 ≤ 0 by decide), nI_1]
        exact e2
    · have hc1 : cf a b p x k = 1 := if_neg z
      have hnl : nl < 200 := by omega
      obtain ⟨lgd', llf', ldb', ldy', nl', e1, e2, e3⟩ := ih (k + 1) (by omega) m1 m2 _ _ _ _ (nl + 1) (Tt + sh k) (by omega) (by omega) (LI_add (g := gk o p k) (f := am a b p x k) (b := sh k) hL hnl hg hal (by omega)) (by omega) (by omega)
      have hadd : f_X2_add lgd llf ldb ldy (nI nl) (nI (gk o p k)) (lN (am a b p x k)) (lN (sh k)) (nI t) = some (nI nl, upd lgd nl (nI (gk o p k)), vp_updL llf nl (lN (am a b p x k)), vp_updL ldb nl (lN (sh k)), upd ldy nl (nI t), nI (nl + 1)) := by
        unfold f_X2_add
        rw [if_pos (show nI nl < 200 from nI_lt (b := 200) (by omega) (by decide))]
        simp only [ck_nI (show nl < 200 by omega) (show 200 < 2 ^ 31 by decide), nI_clamp (show nl < 2 ^ 31 by omega), nI_1, nI_pred]
      have hnew : f_X7_newLot (nI nl) (nI t) lgd ldy llf ldb (nI (gk o p k)) (lN (am a b p x k)) (lN (sh k)) = some (nI nl, nI (nl + 1), upd lgd nl (nI (gk o p k)), upd ldy nl (nI t), vp_updL llf nl (lN (am a b p x k)), vp_updL ldb nl (lN (sh k))) := by
        unfold f_X7_newLot
        simp only [ck_nI (show nl < 200 by omega) (show 200 < 2 ^ 31 by decide), nI_clamp (show nl < 2 ^ 31 by omega), nI_1, nI_pred]
      refine ⟨lgd', llf', ldb', ldy', nl', ?_, ?_, by rw [hrs, ← Nat.add_assoc]; exact e3⟩
      · unfold f_X0_store_L2
        rw [if_neg (nI_ge (by omega) (by omega)), hck, nI_clamp (by omega), q2, if_neg (lc_pos (Nat.pos_of_ne_zero z) (by omega)), hck, hck, hck, q1, s1, hadd, Option.bind_some, nI_1]
        exact e1
      · unfold f_X7_made_L339
        rw [if_neg (nI_ge (by omega) (by omega)), ha, Option.bind_some, if_neg (lc_pos (Nat.pos_of_ne_zero z) (by omega)), m_goodOf h hp (show k ≤ T p by omega), Option.bind_some, Option.bind_some, s2, Option.bind_some, hnew, Option.bind_some, nI_1]
        exact e2
theorem m_made_L275 {T o a b V : Nat → Nat} {osz ogd oup odn mby mbg mbu mbd mvl mlg mly : Nat → Int32} {mll mld : Nat → Int64} {mth mlo mto x3 : Int32} {mtd mti x7 : Int64} (h : RP T o a b osz ogd oup odn mby mbg mbu mbd) (hV : ∀ q, q < 12 → V q ≤ 10000 ∧ mvl q = nI (V q)) {p x : Nat} (hp : p < 12) (hx : x ≤ 10000) : ∀ (c i : Nat), i + c = 3 → ∀ (n : Nat) (mwt : Nat → Int64), c < n → (∀ k, k < i → mwt k = lN (if k < T p + 1 then wtk o a b V x3 p x k else 0)) →
    ∃ mwt', f_X7_made_L275 mth mlo mto mvl mbg mbu mbd mlg mly mll mld mtd mti (nI p) (nI x) x3 (nI (T p + 1)) x7 n mwt (nI i) = f_X7_made_L339 mth mto mbg mbu mbd mtd mti mwt' (nI p) (nI x) (nI (T p + 1)) x7 FU mlo mlg mly mll mld 0 ∧ ∀ k, k < 3 → mwt' k = lN (if k < T p + 1 then wtk o a b V x3 p x k else 0) := by
  intro c
  have hT := (h p hp).1
  induction c with
  | zero =>
    intro i hi n mwt hn hB
    obtain ⟨m, rfl⟩ : ∃ z, n = z + 1 := ⟨n - 1, by omega⟩
    refine ⟨mwt, ?_, fun k hk => hB k (by omega)⟩
    unfold f_X7_made_L275
    rw [show i = 3 by omega, if_pos (by decide)]
  | succ c ih =>
    intro i hi n mwt hn hB
    obtain ⟨m, rfl⟩ : ∃ z, n = z + 1 := ⟨n - 1, by omega⟩
    have hck : ∀ {β : Type} {x : Option β}, ck (nI i) 3 x = x := ck_nI (by omega) (by decide)
    obtain ⟨mwt', e1, e2⟩ := ih (i + 1) (by omega) m (vp_updL mwt i (lN (if i < T p + 1 then wtk o a b V x3 p x i else 0))) (by omega) (fun k hk => by
      by_cases e : k = i
      · subst e; rw [pk_uLs]
      · rw [pk_uLn e]; exact hB k (by omega))
    refine ⟨mwt', ?_, e2⟩
    rw [← e1]
    conv => lhs; unfold f_X7_made_L275
    rw [if_neg (show ¬ (3 : Int32) ≤ nI i from nI_ge (b := 3) (by omega) (by decide)), hck, nI_clamp (by omega)]
    by_cases q : i < T p + 1
    · have hg := gk_lt h hp (show i ≤ T p by omega)
      obtain ⟨v1, v2⟩ := hV _ hg
      rw [if_neg (nI_ge q (by omega)), if_pos q, m_amountOf h hp (show i ≤ T p by omega) hx, Option.bind_some, m_goodOf h hp (show i ≤ T p by omega), Option.bind_some, hck, hck, ck_nI hg (by decide), nI_clamp (by omega), nI_1, v2, nI_l (by omega), lN_mul, show (1 : Int64) = lN 1 from rfl, lN_mul, Nat.mul_one]
      unfold wtk
      by_cases z : x3 = 0
      · rw [if_pos z, if_pos z]
      · rw [if_neg z, if_neg z]
    · rw [if_pos (nI_le (by omega) (by omega)), if_neg q, nI_1]
      rfl
theorem takeNeeds_loop {T o a b V S g u w : Nat → Nat} {isz igd iup idn mns mng mnu mnd lgd ldy mvl mbg mbu mbd : Nat → Int32} {mwt : Nat → Int64} {mth x3 x4 : Int32} {nl t p x : Nat} (hR : RN S g u w isz igd iup idn mns mng mnu mnd) (hp : p < 12) (hx : x ≤ 10000) : ∀ (c k : Nat), k + c = S p → ∀ (n1 n2 : Nat) (llf ldb : Nat → Int64) (lti mtd mti : Int64) (D Tt : Nat), c < n1 → c < n2 → LI lgd llf ldb ldy nl t Tt →
    ∃ (llf' ldb' : Nat → Int64) (lti' mtd' mti' : Int64) (e : Nat), f_X6_takeNeeds_L14 isz igd iup idn lgd ldy (nI nl) (nI t) (nI p) (nI x) n1 llf ldb lti (lN D) (nI k) = some (lN (D + e), llf', ldb', lti') ∧
      f_X7_made_L209 mth (nI nl) (nI t) mvl mns mng mnu mnd mbg mbu mbd lgd ldy mwt (nI p) (nI x) x3 x4 n2 llf ldb mtd mti (lN D) (nI (4 * p + k)) = f_X7_made_L275 mth (nI nl) (nI t) mvl mbg mbu mbd lgd ldy llf' ldb' mtd' mti' (nI p) (nI x) x3 x4 (lN (D + e)) FU mwt 0 ∧ e ≤ Tt ∧ LI lgd llf' ldb' ldy nl t (Tt - e) := by
  intro c
  have h4 := (hR.1 p hp).1
  induction c with
  | zero =>
    intro k hk n1 n2 llf ldb lti mtd mti D Tt h1 h2 hL
    obtain ⟨m1, rfl⟩ : ∃ z, n1 = z + 1 := ⟨n1 - 1, by omega⟩
    obtain ⟨m2, rfl⟩ : ∃ z, n2 = z + 1 := ⟨n2 - 1, by omega⟩
    refine ⟨llf, ldb, lti, mtd, mti, 0, ?_, ?_, Nat.zero_le _, hL⟩
    · unfold f_X6_takeNeeds_L14
      rw [ck_nI hp (by decide), nI_clamp (by omega), (hR.2 p hp).1, if_pos (nI_le (by omega) (by omega))]
      rfl
    · unfold f_X7_made_L209
      rw [ck_nI hp (by decide), nI_clamp (by omega), (hR.2 p hp).2.1, m_place, if_pos (nI_le (by omega) (by omega))]
      rfl
  | succ c ih =>
    intro k hk n1 n2 llf ldb lti mtd mti D Tt h1 h2 hL
    obtain ⟨m1, rfl⟩ : ∃ z, n1 = z + 1 := ⟨n1 - 1, by omega⟩
    obtain ⟨m2, rfl⟩ : ∃ z, n2 = z + 1 := ⟨n2 - 1, by omega⟩
    have hks : k < S p := by omega
    have hg := (hR.1 p hp).2 k hks
    have hn := nd_lt hR.cu.uw hp hks hx
    obtain ⟨llf1, ldb1, ti1, e1, q1, q2, q3, q4⟩ := take_eq (lti := lti) (mtd := mtd) (mti := mti) hg (show nd u w p x k < 2 ^ 60 by omega) hL
    obtain ⟨llf', ldb', lti', mtd', mti', e2, r1, r2, r3, r4⟩ := ih (k + 1) (by omega) m1 m2 llf1 ldb1 ti1 (lN e1) ti1 (D + e1) (Tt - e1) (by omega) (by omega) q4
    refine ⟨llf', ldb', lti', mtd', mti', e1 + e2, ?_, ?_, by omega, by rw [Nat.sub_add_eq]; exact r4⟩
    · unfold f_X6_takeNeeds_L14
      rw [ck_nI hp (by decide), nI_clamp (by omega), (hR.2 p hp).1, if_neg (nI_ge (by omega) (by omega)), c_goodAt_i hR.cr hp hks, Option.bind_some, c_rup hR.cu hp hks hx, Option.bind_some, q1, Option.bind_some, lN_add, nI_1, ← Nat.add_assoc]
      exact r1
    · unfold f_X7_made_L209
      rw [ck_nI hp (by decide), nI_clamp (by omega), (hR.2 p hp).2.1, m_place, if_neg (nI_ge (by omega) (by omega)), ck_nI (by omega) (by decide), ck_nI (by omega) (by decide), ck_nI (by omega) (by decide), nI_clamp (by omega), m_rup hR.mu hp hks hx, Option.bind_some, (hR.mr.2 p hp).2 k hks, q2, Option.bind_some, lN_add, nI_1, ← Nat.add_assoc, Nat.add_assoc]
      exact r2
theorem m_made_L124 {S g u w : Nat → Nat} {mns mng mnu mnd lgd ldy mvl mbg mbu mbd : Nat → Int32} {llf ldb mwt : Nat → Int64} {mth x3 x4 : Int32} {mtd mti : Int64} {nl t p x : Nat} {G F B Y : Nat → Nat} (h : MU S g u w mns mng mnu mnd) (hnl : nl ≤ 200) (hX : LX lgd llf ldb ldy nl t G F B Y) (hp : p < 12) (hx : x ≤ 10000) : ∀ (c k : Nat), k + c = S p → ∀ n, c < n →
    (f_X7_made_L124 mth (nI nl) (nI t) mvl mns mng mnu mnd mbg mbu mbd lgd ldy llf ldb mtd mti mwt (nI p) (nI x) x3 x4 n 0 (nI (4 * p + k)) = some (0, mth, nI nl, lgd, ldy, llf, ldb, mtd, mti, mwt)) ∧
    ((∀ z, k ≤ z → z < S p → nd u w p x z ≤ sumN (gsum G F (g (4 * p + z))) nl) → f_X7_made_L124 mth (nI nl) (nI t) mvl mns mng mnu mnd mbg mbu mbd lgd ldy llf ldb mtd mti mwt (nI p) (nI x) x3 x4 n 1 (nI (4 * p + k)) = f_X7_made_L209 mth (nI nl) (nI t) mvl mns mng mnu mnd mbg mbu mbd lgd ldy mwt (nI p) (nI x) x3 x4 FU llf ldb mtd mti 0 (4 * nI p)) ∧
    ((¬ ∀ z, k ≤ z → z < S p → nd u w p x z ≤ sumN (gsum G F (g (4 * p + z))) nl) → f_X7_made_L124 mth (nI nl) (nI t) mvl mns mng mnu mnd mbg mbu mbd lgd ldy llf ldb mtd mti mwt (nI p) (nI x) x3 x4 n 1 (nI (4 * p + k)) = some (0, mth, nI nl, lgd, ldy, llf, ldb, mtd, mti, mwt)) := by
  intro c
  have h4 := (h.1.1 p hp).1
  induction c with
  | zero =>
    intro k hk n hn
    obtain ⟨m, rfl⟩ : ∃ z, n = z + 1 := ⟨n - 1, by omega⟩
    refine ⟨?_, fun _ => ?_, fun q => absurd (fun z z1 z2 => by omega) q⟩
    · unfold f_X7_made_L124
      rw [ck_nI hp (by decide), nI_clamp (by omega), (h.1.2 p hp).1, m_place, if_pos (nI_le (by omega) (by omega)), if_pos rfl]
    · unfold f_X7_made_L124
      rw [ck_nI hp (by decide), nI_clamp (by omega), (h.1.2 p hp).1, m_place, if_pos (nI_le (by omega) (by omega)), if_neg (by decide)]
  | succ c ih =>
    intro k hk n hn
    obtain ⟨m, rfl⟩ : ∃ z, n = z + 1 := ⟨n - 1, by omega⟩
    have hks : k < S p := by omega
    have hg := (h.1.1 p hp).2 k hks
    have hn1 := nd_lt h.uw hp hks hx
    have hn2 := stock_lt hnl hX (g (4 * p + k))
    obtain ⟨i1, i2, i3⟩ := ih (k + 1) (by omega) m (by omega)
    have hstep : f_X7_made_L124 mth (nI nl) (nI t) mvl mns mng mnu mnd mbg mbu mbd lgd ldy llf ldb mtd mti mwt (nI p) (nI x) x3 x4 (m + 1) 1 (nI (4 * p + k)) = if nd u w p x k ≤ sumN (gsum G F (g (4 * p + k))) nl then f_X7_made_L124 mth (nI nl) (nI t) mvl mns mng mnu mnd mbg mbu mbd lgd ldy llf ldb mtd mti mwt (nI p) (nI x) x3 x4 m 1 (nI (4 * p + (k + 1))) else f_X7_made_L124 mth (nI nl) (nI t) mvl mns mng mnu mnd mbg mbu mbd lgd ldy llf ldb mtd mti mwt (nI p) (nI x) x3 x4 m 0 (nI (4 * p + (k + 1))) := by
      conv => lhs; unfold f_X7_made_L124
      rw [ck_nI hp (by decide), nI_clamp (by omega), (h.1.2 p hp).1, m_place, if_neg (nI_ge (by omega) (by omega)), if_neg (by decide), ck_nI (by omega) (by decide), nI_clamp (by omega), (h.1.2 p hp).2 k hks, m_stock, c_stock hnl hg hX, Option.bind_some, ck_nI (by omega) (by decide), ck_nI (by omega) (by decide), m_rup h hp hks hx, Option.bind_some, nI_1]
      by_cases e : nd u w p x k ≤ sumN (gsum G F (g (4 * p + k))) nl
      · rw [if_pos e, if_neg (fun z => by have := (pk_lLT (a := sumN (gsum G F (g (4 * p + k))) nl) (b := nd u w p x k) (by omega) (by omega)).mp (lc_lt.mp z); omega)]
        rfl
      · rw [if_neg e, if_pos (lc_lt.mpr ((pk_lLT (by omega) (by omega)).mpr (by omega)))]
        rfl
    refine ⟨?_, fun q => ?_, fun q => ?_⟩
    · unfold f_X7_made_L124
      rw [ck_nI hp (by decide), nI_clamp (by omega), (h.1.2 p hp).1, m_place, if_neg (nI_ge (by omega) (by omega)), if_pos rfl, nI_1]
      exact i1
    · rw [hstep, if_pos (q k (Nat.le_refl _) hks)]
      exact i2 (fun z z1 z2 => q z (by omega) z2)
    · rw [hstep]
      by_cases e : nd u w p x k ≤ sumN (gsum G F (g (4 * p + k))) nl
      · rw [if_pos e]
        refine i3 (fun r => q (fun z z1 z2 => ?_))
        by_cases ez : z = k
        · rw [ez]; exact e
        · exact r z (by omega) z2
      · rw [if_neg e]
        exact i1
theorem m_made_L62 {T o a b : Nat → Nat} {osz ogd oup odn mby mns mng mnu mnd lgd ldy mvl mbg mbu mbd : Nat → Int32} {llf ldb mwt : Nat → Int64} {mth x3 : Int32} {mtd mti : Int64} {nl t p x : Nat} (h : RP T o a b osz ogd oup odn mby mbg mbu mbd) (hnl : nl ≤ 200) (hp : p < 12) (hx : x ≤ 10000) : ∀ (c k : Nat), k + c = T p + 1 → ∀ n, c < n →
    f_X7_made_L62 mth (nI nl) (nI t) mvl mns mng mnu mnd mbg mbu mbd lgd ldy llf ldb mtd mti mwt (nI p) (nI x) x3 (nI (T p + 1)) n (nI (sumN (cf a b p x) k)) (nI k) = f_X7_made_L124 mth (nI nl) (nI t) mvl mns mng mnu mnd mbg mbu mbd lgd ldy llf ldb mtd mti mwt (nI p) (nI x) x3 (nI (T p + 1)) FU (if nl + sumN (cf a b p x) (T p + 1) ≤ 200 then 1 else 0) (4 * nI p) := by
  intro c
  have hT := (h p hp).1
  induction c with
  | zero =>
    intro k hk n hn
    obtain ⟨m, rfl⟩ : ∃ z, n = z + 1 := ⟨n - 1, by omega⟩
    have hc := cf_le (a := a) (b := b) (p := p) (x := x) (T p + 1)
    unfold f_X7_made_L62
    rw [if_pos (nI_le (by omega) (by omega)), show k = T p + 1 by omega, nI_add]
    by_cases e : nl + sumN (cf a b p x) (T p + 1) ≤ 200
    · rw [if_neg (show ¬ (200 : Int32) < _ from nI_nlt (a := 200) e (by decide)), if_pos e]
    · rw [if_pos (show (200 : Int32) < _ from nI_lt (a := 200) (by omega) (by omega)), if_neg e]
  | succ c ih =>
    intro k hk n hn
    obtain ⟨m, rfl⟩ : ∃ z, n = z + 1 := ⟨n - 1, by omega⟩
    have hal := am_le h hp (show k ≤ T p by omega) hx
    have e := ih (k + 1) (by omega) m (by omega)
    rw [show sumN (cf a b p x) (k + 1) = sumN (cf a b p x) k + cf a b p x k from rfl, ← nI_add (sumN (cf a b p x) k) (cf a b p x k)] at e
    rw [← e]
    conv => lhs; unfold f_X7_made_L62
    rw [if_neg (nI_ge (by omega) (by omega)), m_amountOf h hp (show k ≤ T p by omega) hx, Option.bind_some, nI_1 k]
    by_cases z : am a b p x k = 0
    · rw [z, if_pos (show lg_cmp (lN 0) 0 ≤ 0 by decide), show cf a b p x k = 0 from if_pos z]
      rfl
    · rw [if_neg (lc_pos (Nat.pos_of_ne_zero z) (by omega)), show cf a b p x k = 1 from if_neg z]
      rfl
theorem op_made {vl isz igd iup idn dep osz ogd oup odn lgd ldy bgd mvl mns mng mnu mnd mby mbg mbu mbd : Nat → Int32} {llf ldb bam bwt bsh brm mwt : Nat → Int64} {nl t Tt : Nat} {mth bsz : Int32} {lti mtd mti : Int64} (hL : LI lgd llf ldb ldy nl t Tt) (hT : Tt + 1000000 ≤ 1000000000) (hV : RV vl mvl) (hI : RI isz igd iup idn dep mns mng mnu mnd) (hO : RO osz ogd oup odn mby mbg mbu mbd) (x1 x2 x3 : Int32) :
    ∃ (r : Int32 ⊕ String) (lgd' : Nat → Int32) (llf' ldb' : Nat → Int64) (ldy' : Nat → Int32) (nl' : Nat) (lti' : Int64) (bgd' : Nat → Int32) (bam' bwt' bsh' brm' : Nat → Int64) (bsz' v th : Int32) (mtd' mti' : Int64) (mwt' : Nat → Int64),
      f_X6_made vl isz igd iup idn osz ogd oup odn lgd llf ldb ldy (nI nl) lti bgd bam bwt bsh brm bsz (nI t) x1 x2 x3 = some (r, lgd', llf', ldb', ldy', nI nl', lti', bgd', bam', bwt', bsh', brm', bsz') ∧
      f_X7_made mth (nI nl) (nI t) mvl mns mby mng mnu mnd mbg mbu mbd lgd ldy llf ldb mtd mti mwt x1 x2 x3 = some (v, th, nI nl', lgd', ldy', llf', ldb', mtd', mti', mwt') ∧ An r th v eI ∧ LI lgd' llf' ldb' ldy' nl' t (Tt + 1000000) := by
  have hL0 : LI lgd llf ldb ldy nl t (Tt + 1000000) := LI_mono hL (by omega) hT
  have hnl := hL.1
  have hJ33 : f_X7_made_J33 (nI nl) (nI t) mvl mns mby mng mnu mnd mbg mbu mbd lgd ldy llf ldb mtd mti mwt x1 x2 x3 = some (0, 1, nI nl, lgd, ldy, llf, ldb, mtd, mti, mwt) := by
    unfold f_X7_made_J33 f_X7_made_J34
    rw [if_neg (by decide)]
  unfold f_X6_made f_X7_made
  rw [c_isGood, m_isGood, show f_X6_isWithin x2 1 10000 = _ from c_within x2 1 10000, show f_X7_within x2.toInt64 1 10000 = _ from m_within x2 (a := 1) (b := 10000) (by decide) (by decide), Option.bind_some, Option.bind_some, Option.bind_some, Option.bind_some, hJ33]
  by_cases h1 : wi x1 0 11 = 0
  · rw [if_pos h1, if_pos h1]
    exact ⟨_, _, _, _, _, _, _, _, _, _, _, _, _, _, _, _, _, _, rfl, rfl, Or.inr ⟨_, rfl, rfl, rfl⟩, hL0⟩
  rw [if_neg h1, if_neg h1]
  obtain ⟨p, -, hp, rfl⟩ := wi_nat (by decide) (by decide) h1
  have hp : p < 12 := by omega
  obtain ⟨S, g, u, w, d, hR, hD, hd⟩ := hI
  obtain ⟨T, o, a, b, hRO⟩ := hO
  have hS4 := (hR.1 p hp).1
  rw [ck_nI hp (by decide), ck_nI hp (by decide), nI_clamp (by omega), (hR.2 p hp).1, (hR.2 p hp).2.1]
  by_cases h2 : S p = 0
  · rw [if_pos (show nI (S p) < 1 by rw [h2]; decide), if_pos (show nI (S p) ≤ 0 by rw [h2]; decide)]
    exact ⟨_, _, _, _, _, _, _, _, _, _, _, _, _, _, _, _, _, _, rfl, rfl, Or.inr ⟨_, rfl, rfl, rfl⟩, hL0⟩
  rw [if_neg (show ¬ nI (S p) < 1 from nI_nlt (b := 1) (by omega) (by omega)), if_neg (nI_nle (by omega) (by omega))]
  by_cases h3 : wi x2 1 10000 = 0
  · rw [if_pos h3, if_pos h3]
    exact ⟨_, _, _, _, _, _, _, _, _, _, _, _, _, _, _, _, _, _, rfl, rfl, Or.inr ⟨_, rfl, rfl, rfl⟩, hL0⟩
  rw [if_neg h3, if_neg h3]
  obtain ⟨x, hx1, hx, rfl⟩ := wi_nat (by decide) (by decide) h3
  obtain ⟨k1, k2, k3, k4⟩ := hRO p hp
  obtain ⟨a1, a2, a3, G, F, B, Y, hX, hS⟩ := id hL
  obtain ⟨bgd', bam', p1, p2⟩ := c_plan (bgd := bgd) (bam := bam) (bsz := bsz) hRO hp hx
  have hlots := c_lots (a := a) (b := b) (bam := bam') (p := p) (x := x) (N := T p + 1) (by omega) (fun j hj => ⟨(p2 j hj).2, am_le hRO hp (by omega) hx⟩)
  have hsuf := c_suffices hR.cu a1 hX hp hx (S p) 0 (by omega) FU (Nat.lt_of_le_of_lt hS4 (by decide))
  have h62 := m_made_L62 (mth := 0) (mns := mns) (mng := mng) (mnu := mnu) (mnd := mnd) (mvl := mvl) (x3 := x3) (mtd := mtd) (mti := mti) (mwt := mwt) (t := t) (lgd := lgd) (ldy := ldy) (llf := llf) (ldb := ldb) hRO a1 hp hx (T p + 1) 0 (by omega) FU (Nat.lt_of_le_of_lt (show T p + 1 ≤ 3 by omega) (by decide))
  obtain ⟨n1, n2, n3⟩ := m_made_L124 (mth := 0) (mvl := mvl) (x3 := x3) (x4 := nI (T p + 1)) (mtd := mtd) (mti := mti) (mwt := mwt) (mbg := mbg) (mbu := mbu) (mbd := mbd) hR.mu a1 hX hp hx (S p) 0 (by omega) FU (Nat.lt_of_le_of_lt hS4 (by decide))
  have hix : nI (4 * p + 0) = 4 * nI p := by rw [show (4 : Int32) = nI 4 from rfl, pk_mul]; rfl
  rw [hix] at n1 n2 n3
  have h62 : f_X7_made_J34 (nI nl) (nI t) mvl mns mby mng mnu mnd mbg mbu mbd lgd ldy llf ldb mtd mti mwt (nI p) (nI x) x3 0 = f_X7_made_L124 0 (nI nl) (nI t) mvl mns mng mnu mnd mbg mbu mbd lgd ldy llf ldb mtd mti mwt (nI p) (nI x) x3 (nI (T p + 1)) FU (if nl + sumN (cf a b p x) (T p + 1) ≤ 200 then 1 else 0) (4 * nI p) := by
    unfold f_X7_made_J34
    rw [if_pos (show (0 : Int32) ≤ 0 by decide), ck_nI hp (by decide), nI_clamp (by omega), k3, nI_1]
    exact h62
  have hsufE : ∀ {q : Int32}, f_X6_suffices_L11 isz igd iup idn lgd llf (nI nl) (nI p) (nI x) FU (nI 0) = some q → f_X6_suffices isz igd iup idn lgd llf (nI nl) (nI p) (nI x) = some q := fun z => z
  have hcf := cf_le (a := a) (b := b) (p := p) (x := x) (T p + 1)
  rw [p1, Option.bind_some, h62]
  rcases hsuf with ⟨s1, s2⟩ | ⟨s1, s2⟩
  · rw [hsufE s2, Option.bind_some, if_neg (show ¬ (1 : Int32) = 0 by decide)]
    unfold f_X2_free
    rw [show (200 : Int32) = nI 200 from rfl, pk_sub hnl, Option.bind_some]
    show ∃ _ _ _ _ _ _ _ _ _ _ _ _ _ _ _ _ _ _, Option.bind (f_X0_lotsToAdd bam' (nI (T p + 1))) _ = _ ∧ _
    rw [hlots, Option.bind_some]
    by_cases hroom : nl + sumN (cf a b p x) (T p + 1) ≤ 200
    · rw [if_pos (show nI (sumN (cf a b p x) (T p + 1)) ≤ nI (200 - nl) from nI_le (by omega) (by omega)), if_pos hroom, n2 s1]
      -- the weights
      obtain ⟨V, hV1, hV2⟩ : ∃ V : Nat → Nat, (∀ q, q < 12 → V q ≤ 10000 ∧ vl q = nI (V q)) ∧ (∀ q, q < 12 → V q ≤ 10000 ∧ mvl q = nI (V q)) := by
        refine ⟨fun q => (vl q).toNatClampNeg, fun q hq => ?_, fun q hq => ?_⟩
        · obtain ⟨v, v1, v2, v3⟩ := hV q hq
          show (vl q).toNatClampNeg ≤ 10000 ∧ vl q = nI (vl q).toNatClampNeg
          rw [v2, nI_clamp (by omega)]
          exact ⟨v1, rfl⟩
        · obtain ⟨v, v1, v2, v3⟩ := hV q hq
          show (vl q).toNatClampNeg ≤ 10000 ∧ mvl q = nI (vl q).toNatClampNeg
          rw [v2, v3, nI_clamp (by omega)]
          exact ⟨v1, rfl⟩
      obtain ⟨bwt', w1, w2⟩ := c_weigh (x3 := x3) (bwt := bwt) hRO hV1 hp p2
      -- what is taken
      obtain ⟨llf1, ldb1, lti1, mtd1, mti1, e, t1, t2, t3, t4⟩ := takeNeeds_loop (T := T) (o := o) (a := a) (b := b) (V := V) (mth := 0) (x3 := x3) (x4 := nI (T p + 1)) (mvl := mvl) (mbg := mbg) (mbu := mbu) (mbd := mbd) (mwt := mwt) hR hp hx (S p) 0 (by omega) FU FU llf ldb lti mtd mti 0 Tt (Nat.lt_of_le_of_lt hS4 (by decide)) (Nat.lt_of_le_of_lt hS4 (by decide)) hL
      rw [Nat.zero_add, hix] at t2
      rw [Nat.zero_add] at t1
      have t1 : f_X6_takeNeeds isz igd iup idn lgd llf ldb ldy (nI nl) lti (nI t) (nI p) (nI x) = some (lN e, llf1, ldb1, lti1) := t1
      have t2 : f_X7_made_L209 0 (nI nl) (nI t) mvl mns mng mnu mnd mbg mbu mbd lgd ldy mwt (nI p) (nI x) x3 (nI (T p + 1)) FU llf ldb mtd mti 0 (4 * nI p) = _ := t2
      obtain ⟨mwt', u1, u2⟩ := m_made_L275 (mth := 0) (mlo := nI nl) (mto := nI t) (x3 := x3) (mtd := mtd1) (mti := mti1) (x7 := lN e) (mlg := lgd) (mly := ldy) (mll := llf1) (mld := ldb1) hRO hV2 hp hx 3 0 (by omega) FU mwt (by decide) (fun k hk => absurd hk (Nat.not_lt_zero k))
      have hWO : WO e (wtk o a b V x3 p x) (T p + 1) := ⟨by omega, fun k hk => by
        have h1 := am_le hRO hp (show k ≤ T p by omega) hx
        unfold wtk
        split
        · omega
        · exact Nat.le_trans (Nat.mul_le_mul h1 (hV1 _ (gk_lt hRO hp (show k ≤ T p by omega))).1) (by decide)⟩
      obtain ⟨bsh', brm', y1, y2⟩ := c_apportion (bsh := bsh) (brm := brm) (show T p + 1 ≤ 3 by omega) (by omega) hWO w2
      have hsum := shr_sum (D := e) (wt := wtk o a b V x3 p x) (N := T p + 1) (by omega)
      obtain ⟨lgd2, llf2, ldb2, ldy2, nl2, z1, z2, z3⟩ := store_loop (mth := 0) (mtd := mtd1) (mti := mti1) (sh := shr e (wtk o a b V x3 p x) (T p + 1)) (D := e) (t := t) (mwt := mwt') (bsh := bsh') hRO hp hx p2 (fun j hj => ⟨y2 j hj, m_share (by omega) hj hWO (fun k hk => by rw [u2 k (by omega), if_pos hk]) (fun k hk1 hk2 => by rw [u2 k hk2, if_neg (by omega)])⟩) (T p + 1) 0 (by omega) FU FU lgd llf1 ldb1 ldy nl (Tt - e) (Nat.lt_of_le_of_lt (show T p + 1 ≤ 3 by omega) (by decide)) (Nat.lt_of_le_of_lt (show T p + 1 ≤ 3 by omega) (by decide)) t4 (by rw [rs_all]; exact hroom) (by rw [rs_all]; omega)
      rw [rs_all] at z3
      have z1 : f_X0_store lgd llf1 ldb1 ldy (nI nl) bgd' bam' bsh' (nI (T p + 1)) (nI t) = some (lgd2, llf2, ldb2, ldy2, nI nl2) := z1
      have hM : f_X7_made_L209 0 (nI nl) (nI t) mvl mns mng mnu mnd mbg mbu mbd lgd ldy mwt (nI p) (nI x) x3 (nI (T p + 1)) FU llf ldb mtd mti 0 (4 * nI p) = some (1, 0, nI nl2, lgd2, ldy2, llf2, ldb2, mtd1, mti1, mwt') := t2.trans (u1.trans z2)
      rw [hM]
      refine ⟨.inl 1, lgd2, llf2, ldb2, ldy2, nl2, lti1, bgd', bam', bwt', bsh', brm', nI (T p + 1), 1, 0, mtd1, mti1, mwt', ?_, rfl, Or.inl ⟨rfl, rfl⟩, LI_mono z3 (by omega) hT⟩
      show Option.bind (f_X0_weigh vl bgd' bam' bwt (nI (T p + 1)) x3) _ = _
      rw [w1, Option.bind_some, t1, Option.bind_some]
      show Option.bind (f_X0_apportion bwt' bsh brm (nI (T p + 1)) (lN e)) _ = _
      rw [y1, Option.bind_some]
      show Option.bind (f_X0_store lgd llf1 ldb1 ldy (nI nl) bgd' bam' bsh' (nI (T p + 1)) (nI t)) _ = _
      rw [z1, Option.bind_some]
    · rw [if_neg (show ¬ nI (sumN (cf a b p x) (T p + 1)) ≤ nI (200 - nl) from nI_ge (by omega) (by omega)), if_neg hroom, n1]
      exact ⟨_, _, _, _, _, _, _, _, _, _, _, _, _, _, _, _, _, _, rfl, rfl, Or.inl ⟨rfl, rfl⟩, hL0⟩
  · rw [hsufE s2, Option.bind_some, if_pos rfl]
    have hMM : f_X7_made_L124 0 (nI nl) (nI t) mvl mns mng mnu mnd mbg mbu mbd lgd ldy llf ldb mtd mti mwt (nI p) (nI x) x3 (nI (T p + 1)) FU (if nl + sumN (cf a b p x) (T p + 1) ≤ 200 then 1 else 0) (4 * nI p) = some (0, 0, nI nl, lgd, ldy, llf, ldb, mtd, mti, mwt) := by
      by_cases hroom : nl + sumN (cf a b p x) (T p + 1) ≤ 200
      · rw [if_pos hroom]; exact n3 s1
      · rw [if_neg hroom]; exact n1
    rw [hMM]
    exact ⟨_, _, _, _, _, _, _, _, _, _, _, _, _, _, _, _, _, _, rfl, rfl, Or.inl ⟨rfl, rfl⟩, hL0⟩
