/-! ===== the pure side: look ===== -/
theorem look_L42 {lgd ldy mvl mhs mns mby mng mpg mpu : Nat → Int32} {llf ldb mpl : Nat → Int64} {nl : Nat} {mth mpr mto x1 x2 : Int32} (hnl : nl ≤ 200) : ∀ (c i : Nat), i + c = nl → ∀ (n1 n2 : Nat) (x : Int32), c < n1 → c < n2 →
    ∃ y : Int32, f_X2_openOf_L4 lgd llf (nI nl) x1 n1 x (nI i) = some y ∧ f_X7_look_L42 mth (nI nl) mpr mto mvl mhs mns mby mng lgd llf ldb mpg mpu mpl x1 x2 n2 x (nI i) = f_X7_look_L94 mth (nI nl) mpr mto mvl mhs mns mby mng lgd llf ldb mpg mpu mpl x1 x2 y FU 0 0 := by
  intro c
  induction c with
  | zero =>
    intro i hi n1 n2 x h1 h2
    obtain ⟨m1, rfl⟩ : ∃ k, n1 = k + 1 := ⟨n1 - 1, by omega⟩
    obtain ⟨m2, rfl⟩ : ∃ k, n2 = k + 1 := ⟨n2 - 1, by omega⟩
    unfold f_X2_openOf_L4 f_X7_look_L42
    rw [if_pos (nI_le (show nl ≤ i by omega) (by omega)), if_pos (nI_le (show nl ≤ i by omega) (by omega))]
    exact ⟨x, rfl, rfl⟩
  | succ c ih =>
    intro i hi n1 n2 x h1 h2
    obtain ⟨m1, rfl⟩ : ∃ k, n1 = k + 1 := ⟨n1 - 1, by omega⟩
    obtain ⟨m2, rfl⟩ : ∃ k, n2 = k + 1 := ⟨n2 - 1, by omega⟩
    have hk : ∀ {β : Type} {x : Option β}, ck (nI i) 200 x = x := ck_nI (by omega) (by decide)
    unfold f_X2_openOf_L4 f_X7_look_L42
    simp only [hk]
    rw [if_neg (nI_ge (show i < nl by omega) (by omega)), if_neg (nI_ge (show i < nl by omega) (by omega)), nI_clamp (by omega), nI_1]
    by_cases e1 : lgd i = x1
    · rw [if_pos e1, if_pos e1]
      by_cases e2 : lg_cmp (llf i) 0 ≤ 0
      · rw [if_pos e2, if_pos e2]; exact ih (i + 1) (by omega) m1 m2 _ (by omega) (by omega)
      · rw [if_neg e2, if_neg e2]; exact ih (i + 1) (by omega) m1 m2 _ (by omega) (by omega)
    · rw [if_neg e1, if_neg e1]; exact ih (i + 1) (by omega) m1 m2 _ (by omega) (by omega)
theorem look_L94 {lgd ldy mvl mhs mns mby mng pgd pun : Nat → Int32} {llf ldb plf : Nat → Int64} {np : Nat} {mth mlo tod x1 x2 x3 : Int32} (hP : PI plf np) : ∀ (c i : Nat), i + c = np → ∀ (n1 n2 : Nat) (x : Int64), c < n1 → c < n2 →
    ∃ y : Int64, f_X4_openOf_L5 pgd plf pun (nI np) x1 tod n1 x (nI i) = some y ∧ f_X7_look_L94 mth mlo (nI np) tod mvl mhs mns mby mng lgd llf ldb pgd pun plf x1 x2 x3 n2 x (nI i) = f_X7_look_L94 mth mlo (nI np) tod mvl mhs mns mby mng lgd llf ldb pgd pun plf x1 x2 x3 1 y (nI np) := by
  intro c
  have hnp := hP.1
  induction c with
  | zero =>
    intro i hi n1 n2 x h1 h2
    obtain ⟨m1, rfl⟩ : ∃ k, n1 = k + 1 := ⟨n1 - 1, by omega⟩
    obtain ⟨m2, rfl⟩ : ∃ k, n2 = k + 1 := ⟨n2 - 1, by omega⟩
    refine ⟨x, ?_, ?_⟩
    · unfold f_X4_openOf_L5
      rw [if_pos (nI_le (show np ≤ i by omega) (by omega))]
    · rw [show i = np by omega]
      unfold f_X7_look_L94
      rw [if_pos (nI_le (Nat.le_refl np) (by omega)), if_pos (nI_le (Nat.le_refl np) (by omega))]
  | succ c ih =>
    intro i hi n1 n2 x h1 h2
    obtain ⟨m1, rfl⟩ : ∃ k, n1 = k + 1 := ⟨n1 - 1, by omega⟩
    obtain ⟨m2, rfl⟩ : ∃ k, n2 = k + 1 := ⟨n2 - 1, by omega⟩
    have hi40 : i < 40 := by omega
    have hk : ∀ {β : Type} {x : Option β}, ck (nI i) 40 x = x := ck_nI (by omega) (by decide)
    obtain ⟨P, hP1, hP2⟩ := hP.2 i (by omega)
    obtain ⟨y, q1, q2⟩ := ih (i + 1) (by omega) m1 m2 (if pgd i = x1 ∧ ¬ lg_cmp (plf i) 0 ≤ 0 ∧ ¬ pun i < tod then x + plf i else x + 0) (by omega) (by omega)
    refine ⟨y, ?_, ?_⟩
    · unfold f_X4_openOf_L5
      rw [if_neg (nI_ge (show i < np by omega) (by omega)), c_isOpen hi40, Option.bind_some, nI_1, hk, nI_clamp (by omega)]
      by_cases e : pgd i = x1 ∧ ¬ lg_cmp (plf i) 0 ≤ 0 ∧ ¬ pun i < tod
      · rw [if_pos e, if_neg (by decide)]; rw [if_pos e] at q1; exact q1
      · rw [if_neg e, if_pos rfl]; rw [if_neg e] at q1; exact q1
    · rw [← q2]
      conv => lhs; unfold f_X7_look_L94
      rw [if_neg (nI_ge (show i < np by omega) (by omega)), nI_1, hk, nI_clamp (by omega)]
      by_cases e1 : pgd i = x1
      · rw [if_pos e1, hk]
        by_cases e2 : pun i < tod
        · rw [if_pos e2, if_neg (fun z => z.2.2 e2)]
        · rw [if_neg e2, hk]
          by_cases e3 : lg_cmp (plf i) 0 ≤ 0
          · rw [if_neg (fun z => z.2.1 e3)]
            have : P = 0 := by
              apply Classical.byContradiction
              intro z
              rw [hP2] at e3
              exact lc_pos (Nat.pos_of_ne_zero z) (by omega) e3
            rw [hP2, this]
            rfl
          · rw [if_pos ⟨e1, e3, e2⟩]
      · rw [if_neg e1, if_neg (fun z => e1 z.1)]
theorem op_look {vl hs isz igd iup idn dep osz ogd oup odn lgd ldy pgd pun mvl mns mng mnu mnd mby mbg mbu mbd : Nat → Int32} {llf ldb plf : Nat → Int64} {nl t T np : Nat} {mth : Int32} (hL : LI lgd llf ldb ldy nl t T) (hP : PI plf np) (hV : RV vl mvl) (hI : RI isz igd iup idn dep mns mng mnu mnd) (hO : RO osz ogd oup odn mby mbg mbu mbd) (x1 x2 : Int32) :
    ∃ (r : Int64 ⊕ String) (v : Int64) (th : Int32), f_X6_look vl hs isz osz dep lgd llf ldb (nI nl) pgd plf pun (nI np) (nI t) x1 x2 = some r ∧ f_X7_look mth (nI nl) (nI np) (nI t) mvl hs mns mby mng lgd llf ldb pgd pun plf x1 x2 = some (v, th) ∧ An r th v eX := by
  have hJ24 : f_X7_look_J24 (nI nl) (nI np) (nI t) mvl hs mns mby mng lgd llf ldb pgd pun plf x1 x2 = some (0, 1) := by
    unfold f_X7_look_J24 f_X7_look_J25
    rw [if_neg (by decide)]
  unfold f_X6_look f_X7_look
  rw [c_isGood, m_isGood, show f_X6_isWithin x2 0 7 = _ from c_within x2 0 7, show f_X7_within x2.toInt64 0 7 = _ from m_within x2 (a := 0) (b := 7) (by decide) (by decide), Option.bind_some, Option.bind_some, Option.bind_some, Option.bind_some, hJ24]
  by_cases h1 : wi x1 0 11 = 0
  · rw [if_pos h1, if_pos h1]; exact ⟨_, _, _, rfl, rfl, Or.inr ⟨_, rfl, rfl, rfl⟩⟩
  rw [if_neg h1, if_neg h1]
  by_cases h2 : wi x2 0 7 = 0
  · rw [if_pos h2, if_pos h2]; exact ⟨_, _, _, rfl, rfl, Or.inr ⟨_, rfl, rfl, rfl⟩⟩
  rw [if_neg h2, if_neg h2]
  obtain ⟨p, -, hp, rfl⟩ := wi_nat (by decide) (by decide) h1
  have hp : p < 12 := by omega
  obtain ⟨a1, a2, a3, G, F, B, Y, hX, hS⟩ := hL
  obtain ⟨S, g, u, w, d, hR, hD, hd⟩ := hI
  obtain ⟨Tb, o, a, b, hRO⟩ := hO
  obtain ⟨y, q1, q2⟩ := look_L42 (ldy := ldy) (mth := 0) (mvl := mvl) (mhs := hs) (mns := mns) (mby := mby) (mng := mng) (mpg := pgd) (mpu := pun) (ldb := ldb) (mpl := plf) (mpr := nI np) (mto := nI t) (x1 := nI p) (x2 := x2) (lgd := lgd) (llf := llf) a1 nl 0 (by omega) FU FU 0 (Nat.lt_of_le_of_lt a1 (by decide)) (Nat.lt_of_le_of_lt a1 (by decide))
  obtain ⟨z, r1, r2⟩ := look_L94 (ldy := ldy) (mth := 0) (mvl := mvl) (mhs := hs) (mns := mns) (mby := mby) (mng := mng) (pgd := pgd) (pun := pun) (ldb := ldb) (mlo := nI nl) (tod := nI t) (x1 := nI p) (x2 := x2) (x3 := y) (lgd := lgd) (llf := llf) hP np 0 (by omega) FU FU 0 (Nat.lt_of_le_of_lt hP.1 (by decide)) (Nat.lt_of_le_of_lt hP.1 (by decide))
  have q1 : f_X2_openOf lgd llf (nI nl) (nI p) = some y := q1
  have r1 : f_X4_openOf pgd plf pun (nI np) (nI p) (nI t) = some z := r1
  unfold f_X7_look_J25
  rw [if_pos (show (0 : Int32) ≤ 0 by decide), show f_X7_look_L42 0 (nI nl) (nI np) (nI t) mvl hs mns mby mng lgd llf ldb pgd pun plf (nI p) x2 FU 0 0 = _ from q2, show f_X7_look_L94 0 (nI nl) (nI np) (nI t) mvl hs mns mby mng lgd llf ldb pgd pun plf (nI p) x2 y FU 0 0 = _ from r2]
  unfold f_X7_look_L94
  rw [if_pos (nI_le (Nat.le_refl np) (by have := hP.1; omega)), m_stock, m_debt, c_stock a1 hp hX, c_debt a1 hp hX, q1, r1, m_depthOf hR.mr hD hp (by have := (hd p hp).1; omega)]
  simp only [Option.bind_some, ck_nI hp (show 12 < 2 ^ 31 by decide), nI_clamp (show p < 2 ^ 31 by omega)]
  by_cases k0 : x2 = 0
  · rw [if_pos k0, if_pos k0]; exact ⟨_, _, _, rfl, rfl, Or.inl ⟨rfl, rfl⟩⟩
  rw [if_neg k0, if_neg k0]
  by_cases k1 : x2 = 1
  · rw [if_pos k1, if_pos k1]; exact ⟨_, _, _, rfl, rfl, Or.inl ⟨rfl, rfl⟩⟩
  rw [if_neg k1, if_neg k1]
  by_cases k2 : x2 = 2
  · rw [if_pos k2, if_pos k2]; exact ⟨_, _, _, rfl, rfl, Or.inl ⟨rfl, rfl⟩⟩
  rw [if_neg k2, if_neg k2]
  by_cases k3 : x2 = 3
  · rw [if_pos k3, if_pos k3]
    by_cases e : hs p = 0
    · rw [if_pos e, if_pos e]; exact ⟨_, _, _, rfl, rfl, Or.inl ⟨rfl, rfl⟩⟩
    · rw [if_neg e, if_neg e]; exact ⟨_, _, _, rfl, rfl, Or.inl ⟨by rw [(hR.2 p hp).1, (hR.2 p hp).2.1], rfl⟩⟩
  rw [if_neg k3, if_neg k3]
  by_cases k4 : x2 = 4
  · rw [if_pos k4, if_pos k4]
    by_cases e : hs p = 0
    · rw [if_pos e, if_pos e]; exact ⟨_, _, _, rfl, rfl, Or.inl ⟨rfl, rfl⟩⟩
    · rw [if_neg e, if_neg e]; exact ⟨_, _, _, rfl, rfl, Or.inl ⟨by rw [(hRO p hp).2.1, (hRO p hp).2.2.1], rfl⟩⟩
  rw [if_neg k4, if_neg k4]
  by_cases k5 : x2 = 5
  · rw [if_pos k5, if_pos k5]; exact ⟨_, _, _, rfl, rfl, Or.inl ⟨by rw [(hd p hp).2], rfl⟩⟩
  rw [if_neg k5, if_neg k5]
  by_cases k6 : x2 = 6
  · rw [if_pos k6, if_pos k6]
    obtain ⟨v, -, v1, v2⟩ := hV p hp
    exact ⟨_, _, _, rfl, rfl, Or.inl ⟨by rw [v1, v2], rfl⟩⟩
  rw [if_neg k6, if_neg k6]
  exact ⟨_, _, _, rfl, rfl, Or.inl ⟨rfl, rfl⟩⟩
