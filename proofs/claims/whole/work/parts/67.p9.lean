/-! ===== the pure side: the reference's chain ===== -/
def MU (S g u w : Nat → Nat) (mns mng mnu mnd : Nat → Int32) : Prop :=
  MR mns mng S g ∧ ∀ p, p < 12 → ∀ k, k < S p → mnu (4 * p + k) = nI (u (4 * p + k)) ∧ mnd (4 * p + k) = nI (w (4 * p + k)) ∧ 1 ≤ u (4 * p + k) ∧ u (4 * p + k) ≤ 12 ∧ 1 ≤ w (4 * p + k) ∧ w (4 * p + k) ≤ 12
theorem MU.uw {S g u w : Nat → Nat} {mns mng mnu mnd : Nat → Int32} (h : MU S g u w mns mng mnu mnd) : UW S u w := fun p hp k hk => (h.2 p hp k hk).2.2
theorem RN.mu {S g u w : Nat → Nat} {isz igd iup idn mns mng mnu mnd : Nat → Int32} (h : RN S g u w isz igd iup idn mns mng mnu mnd) : MU S g u w mns mng mnu mnd := ⟨h.mr, fun p hp k hk => by
  obtain ⟨a1, a2, a3, a4, a5, a6, a7⟩ := (h.2 p hp).2.2 k hk
  exact ⟨a4, a6, a7⟩⟩
theorem updL_twice {f : Nat → Int64} {p : Nat} {a b : Int64} : vp_updL (vp_updL f p a) p b = vp_updL f p b := by
  funext q
  by_cases e : q = p
  · subst e; rw [pk_uLs, pk_uLs]
  · rw [pk_uLn e, pk_uLn e, pk_uLn e]
theorem updL_same {f : Nat → Int64} {p : Nat} {a : Int64} (h : f p = a) : vp_updL f p a = f := by
  funext q
  by_cases e : q = p
  · subst e; rw [pk_uLs, h]
  · rw [pk_uLn e]
theorem m_chain_L100 {S g u w d X : Nat → Nat} {mns mng mnu mnd : Nat → Int32} {t : Nat} (h : MU S g u w mns mng mnu mnd) (hD : IsD S g d) (h3 : ∀ p, p < 12 → d p ≤ 3) (hX : IsX S g u w X t) {p : Nat} (hp : p < 12) (k44 k53 : (Nat → Int64) → Int32 → Option (Int64 × Int32 × (Nat → Int64))) : ∀ (c k : Nat), k + c = S p → ∀ (n : Nat) (mch : Nat → Int64), c < n → mch p = lN (c0 t p + sumN (cT g u w X p) k) → (∀ q, q < 12 → d q < d p → mch q = lN (X q)) →
    f_X7_chain_L100 mns mng mnu mnd (nI p) k44 k53 n mch (nI (4 * p + k)) = k53 (vp_updL mch p (lN (X p))) (nI (p + 1)) := by
  intro c
  have W := h.1.1
  have hU := h.uw
  have h4 := (W p hp).1
  induction c with
  | zero =>
    intro k hk n mch hn hm hq
    obtain ⟨m, rfl⟩ : ∃ z, n = z + 1 := ⟨n - 1, by omega⟩
    unfold f_X7_chain_L100
    rw [ck_nI hp (by decide), nI_clamp (by omega), (h.1.2 p hp).1, m_place, if_pos (nI_le (by omega) (by omega)), nI_1, updL_same]
    rw [hm, hX p hp, show k = S p by omega]
  | succ c ih =>
    intro k hk n mch hn hm hq
    obtain ⟨m, rfl⟩ : ∃ z, n = z + 1 := ⟨n - 1, by omega⟩
    have hks : k < S p := by omega
    have hg := (W p hp).2 k hks
    have hdn := hD.need hp hks
    have hp3 := h3 p hp
    obtain ⟨a1, a2, a3, a4, a5, a6⟩ := h.2 p hp k hks
    have hXq : X (g (4 * p + k)) ≤ cB 2 := X_le W hU hD hX 2 _ hg (by omega)
    have hb2 : cB 2 = 2353 * WH := by decide
    have hmul : X (g (4 * p + k)) * u (4 * p + k) < 2 ^ 63 := Nat.lt_of_le_of_lt (Nat.mul_le_mul hXq a4) (by rw [hb2]; decide)
    unfold f_X7_chain_L100 nzL
    rw [ck_nI hp (by decide), nI_clamp (by omega), (h.1.2 p hp).1, m_place, if_neg (nI_ge (by omega) (by omega)), ck_nI hp (by decide), ck_nI (by omega) (by decide), nI_clamp (by omega), (h.1.2 p hp).2 k hks, ck_nI hg (by decide), ck_nI (by omega) (by decide), ck_nI (by omega) (by decide), a2, nI_l (by omega), if_neg (fun z => by have := (pk_lEQ (a := w (4 * p + k)) (b := 0) (by omega) (by decide)).mp z; omega), ck_nI hp (by decide), nI_clamp (by omega), a1, nI_l (by omega), hq _ hg (by omega), lN_mul, pk_lDiv hmul (by omega) (by omega), hm, lN_add, nI_1]
    have e := ih (k + 1) (by omega) m (vp_updL mch p (lN (c0 t p + sumN (cT g u w X p) k + cT g u w X p k))) (by omega) (by rw [pk_uLs, Nat.add_assoc]; rfl) (fun q hq1 hq2 => by rw [pk_uLn (fun e => by rw [e] at hq2; omega)]; exact hq q hq1 hq2)
    rw [updL_twice] at e
    exact e
theorem m_chain_L53 {S g u w d X : Nat → Nat} {mns mng mnu mnd : Nat → Int32} {t : Nat} (h : MU S g u w mns mng mnu mnd) (hD : IsD S g d) (h3 : ∀ p, p < 12 → d p ≤ 3) (hX : IsX S g u w X t) (ht : t < 12) {r : Nat} (hr : r < 4) (k44 : (Nat → Int64) → Int32 → Option (Int64 × Int32 × (Nat → Int64))) : ∀ (c i : Nat), i + c = 12 → ∀ (n : Nat) (mch : Nat → Int64), c < n → (∀ q, q < 12 → d q < r ∨ (d q = r ∧ q < i) → mch q = lN (X q)) →
    ∃ mch', f_X7_chain_L53 mns mng mnu mnd (nI t) (nI r) k44 n mch (nI i) = k44 mch' (nI (r + 1)) ∧ ∀ q, q < 12 → d q < r + 1 → mch' q = lN (X q) := by
  intro c
  induction c with
  | zero =>
    intro i hi n mch hn hq
    obtain ⟨m, rfl⟩ : ∃ z, n = z + 1 := ⟨n - 1, by omega⟩
    refine ⟨mch, ?_, fun q hq1 hq2 => hq q hq1 (by omega)⟩
    unfold f_X7_chain_L53
    rw [show i = 12 by omega, if_pos (by decide), nI_1]
  | succ c ih =>
    intro i hi n mch hn hq
    obtain ⟨m, rfl⟩ : ∃ z, n = z + 1 := ⟨n - 1, by omega⟩
    have hi12 : i < 12 := by omega
    have hi3 := h3 i hi12
    unfold f_X7_chain_L53
    rw [show (12 : Int32) = nI 12 from rfl, if_neg (nI_ge (by omega) (by omega)), m_depthOf h.1 hD hi12 (by omega), Option.bind_some]
    by_cases e : d i = r
    · rw [if_pos (by rw [e])]
      obtain ⟨mch', b1, b2⟩ := ih (i + 1) (by omega) m (vp_updL mch i (lN (X i))) (by omega) (fun q hq1 hq2 => by
        by_cases eq : q = i
        · subst eq; rw [pk_uLs]
        · rw [pk_uLn eq]; exact hq q hq1 (by omega))
      refine ⟨mch', ?_, b2⟩
      have hgo : ∀ z : Int64, z = lN (c0 t i) → f_X7_chain_L100 mns mng mnu mnd (nI i) k44 (fun mch x5 => f_X7_chain_L53 mns mng mnu mnd (nI t) (nI r) k44 m mch x5) FU (vp_updL mch i z) (4 * nI i) = k44 mch' (nI (r + 1)) := fun z hz => by
        have e2 := m_chain_L100 h hD h3 hX hi12 k44 (fun mch x5 => f_X7_chain_L53 mns mng mnu mnd (nI t) (nI r) k44 m mch x5) (S i) 0 (by omega) FU (vp_updL mch i z) (Nat.lt_of_le_of_lt (h.1.1 i hi12).1 (by decide)) (by rw [pk_uLs, hz]; rfl) (fun q hq1 hq2 => by rw [pk_uLn (fun e => by rw [e] at hq2; omega)]; exact hq q hq1 (Or.inl (by omega)))
        rw [updL_twice] at e2
        rw [show (4 : Int32) * nI i = nI (4 * i + 0) by rw [show (4 : Int32) = nI 4 from rfl, pk_mul]; rfl]
        exact e2.trans b1
      by_cases et : i = t
      · rw [if_pos (by rw [et]), ck_nI hi12 (by decide), nI_clamp (by omega)]
        exact hgo _ (by unfold c0; rw [if_pos et]; rfl)
      · rw [if_neg (fun z => et ((nI_eq (by omega) (by omega)).mp z)), ck_nI hi12 (by decide), nI_clamp (by omega)]
        exact hgo _ (by unfold c0; rw [if_neg et]; rfl)
    · rw [if_neg (fun z => e ((nI_eq (by omega) (by omega)).mp z)), nI_1]
      exact ih (i + 1) (by omega) m mch (by omega) (fun q hq1 hq2 => hq q hq1 (by
        have : q = i → d q ≠ r := fun z => by rw [z]; exact e
        omega))
theorem m_chain_L44 {S g u w d X : Nat → Nat} {mns mng mnu mnd : Nat → Int32} {t a : Nat} {mth x3 : Int32} (h : MU S g u w mns mng mnu mnd) (hD : IsD S g d) (h3 : ∀ p, p < 12 → d p ≤ 3) (hX : IsX S g u w X t) (ht : t < 12) (ha : a < 12) : ∀ (c r : Nat), r + c = 4 → ∀ (n : Nat) (mch : Nat → Int64), c < n → (∀ q, q < 12 → d q < r → mch q = lN (X q)) →
    ∃ mch', f_X7_chain_L44 mth mns mng mnu mnd (nI a) (nI t) x3 n mch (nI r) = some ((if x3 = 0 then lN (fA WH (X a)) else lN (fB WH (X a))), mth, mch') := by
  intro c
  induction c with
  | zero =>
    intro r hr n mch hn hq
    obtain ⟨m, rfl⟩ : ∃ z, n = z + 1 := ⟨n - 1, by omega⟩
    have ha3 := h3 a ha
    have hXa : X a ≤ cB 3 := X_le h.1.1 h.uw hD hX 3 _ ha (by omega)
    have hb3 : cB 3 = 112945 * WH := by decide
    have hXl : X a < 2 ^ 62 := Nat.lt_of_le_of_lt hXa (by rw [hb3]; decide)
    have hg : 0 < Nat.gcd (X a) WH := Nat.gcd_pos_of_pos_right _ (by decide)
    have hgl : Nat.gcd (X a) WH ≤ WH := Nat.le_of_dvd (by decide) (Nat.gcd_dvd_right _ _)
    have hgl2 : Nat.gcd (X a) WH < 2 ^ 63 := Nat.lt_of_le_of_lt hgl (by decide)
    have hne : ¬ lN (Nat.gcd (X a) WH) = 0 := fun z => by have := (pk_lEQ (b := 0) hgl2 (by decide)).mp z; omega
    refine ⟨mch, ?_⟩
    unfold f_X7_chain_L44 nzL
    rw [show r = 4 by omega, if_pos (by decide), ck_nI ha (by decide), nI_clamp (by omega), hq a ha (by omega), show (21300003648000 : Int64) = lN WH from rfl, m_gcd hXl (by decide), Option.bind_some, if_neg hne, if_neg hne, pk_lDiv (by omega) hg hgl2, pk_lDiv (by decide) hg hgl2]
    by_cases e : x3 = 0
    · rw [if_pos e, if_pos e, ck_nI ha (by decide)]; rfl
    · rw [if_neg e, if_neg e]; rfl
  | succ c ih =>
    intro r hr n mch hn hq
    obtain ⟨m, rfl⟩ : ∃ z, n = z + 1 := ⟨n - 1, by omega⟩
    obtain ⟨mch1, a1, a2⟩ := m_chain_L53 h hD h3 hX ht (show r < 4 by omega) (fun mch x4 => f_X7_chain_L44 mth mns mng mnu mnd (nI a) (nI t) x3 m mch x4) 12 0 (by omega) FU mch (by decide) (fun q hq1 hq2 => hq q hq1 (by omega))
    obtain ⟨mch', b1⟩ := ih (r + 1) (by omega) m mch1 (by omega) a2
    refine ⟨mch', ?_⟩
    unfold f_X7_chain_L44
    rw [show (4 : Int32) = nI 4 from rfl, if_neg (nI_ge (by omega) (by omega))]
    exact a1.trans b1
theorem wi01 {x : Int32} : wi x 0 1 = 0 ↔ ¬ (x = 0 ∨ x = 1) := by
  constructor
  · rintro h (rfl | rfl)
    · exact absurd h (by decide)
    · exact absurd h (by decide)
  · intro h
    apply Classical.byContradiction
    intro q
    obtain ⟨v, v1, v2, rfl⟩ := wi_nat (by decide) (by decide) q
    have : v = 0 ∨ v = 1 := by omega
    rcases this with rfl | rfl
    · exact h (Or.inl rfl)
    · exact h (Or.inr rfl)
theorem op_chain {isz igd iup idn dep mns mng mnu mnd : Nat → Int32} {cab cbl mch : Nat → Int64} {mth : Int32} (h : RI isz igd iup idn dep mns mng mnu mnd) (x1 x2 x3 : Int32) :
    ∃ (r : Int64 ⊕ String) (cab' cbl' : Nat → Int64) (v : Int64) (th : Int32) (mch' : Nat → Int64),
      f_X6_chain isz igd iup idn dep cab cbl x1 x2 x3 = some (r, cab', cbl') ∧ f_X7_chain mth mns mng mnu mnd mch x1 x2 x3 = some (v, th, mch') ∧ An r th v eI := by
  have hj28 : f_X7_chain_J28 mns mng mnu mnd mch x1 x2 x3 = some (0, 1, mch) := by
    unfold f_X7_chain_J28
    rw [if_neg (by decide)]
  have hj24 : f_X7_chain_J24 mns mng mnu mnd mch x1 x2 x3 = f_X7_chain_L44 0 mns mng mnu mnd x1 x2 x3 FU mch 0 := by
    unfold f_X7_chain_J24
    rw [if_pos (by decide)]
  unfold f_X6_chain f_X7_chain
  rw [c_isGood, c_isGood, m_isGood, m_isGood, show (0 : Int32) = nI 0 from rfl, show (1 : Int32) = nI 1 from rfl, c_within, Option.bind_some, Option.bind_some, Option.bind_some, Option.bind_some, Option.bind_some, hj28, hj24]
  by_cases h1 : wi x1 0 11 = 0
  · rw [if_pos (show wi x1 0 11 = nI 0 from h1), if_pos (show wi x1 0 11 = nI 0 from h1)]
    exact ⟨_, _, _, _, _, _, rfl, rfl, Or.inr ⟨_, rfl, rfl, rfl⟩⟩
  rw [if_neg (show ¬ wi x1 0 11 = nI 0 from h1), if_neg (show ¬ wi x1 0 11 = nI 0 from h1)]
  by_cases h2 : wi x2 0 11 = 0
  · rw [if_pos (show wi x2 0 11 = nI 0 from h2), if_pos (show wi x2 0 11 = nI 0 from h2)]
    exact ⟨_, _, _, _, _, _, rfl, rfl, Or.inr ⟨_, rfl, rfl, rfl⟩⟩
  rw [if_neg (show ¬ wi x2 0 11 = nI 0 from h2), if_neg (show ¬ wi x2 0 11 = nI 0 from h2)]
  by_cases h3 : wi x3 0 1 = 0
  · have h3' := wi01.mp h3
    rw [if_pos (show wi x3 0 1 = nI 0 from h3), if_neg (show ¬ x3 = nI 0 from fun z => h3' (Or.inl z)), if_neg (show ¬ x3 = nI 1 from fun z => h3' (Or.inr z))]
    exact ⟨_, _, _, _, _, _, rfl, rfl, Or.inr ⟨_, rfl, rfl, rfl⟩⟩
  rw [if_neg (show ¬ wi x3 0 1 = nI 0 from h3)]
  have h3' : x3 = 0 ∨ x3 = 1 := Classical.byContradiction (fun z => h3 (wi01.mpr z))
  obtain ⟨p, -, hp, rfl⟩ := wi_nat (by decide) (by decide) h1
  obtain ⟨q, -, hq, rfl⟩ := wi_nat (by decide) (by decide) h2
  obtain ⟨S, g, u, w, d, hR, hD, hd⟩ := id h
  obtain ⟨X, hX⟩ := exX (u := u) (w := w) hR.1 hD (fun p hp => (hd p hp).1) q
  obtain ⟨cab', cbl', a1, a2⟩ := c_trace (cab := cab) (cbl := cbl) hR.cu hD hd hX (show q < 12 by omega)
  obtain ⟨mch', b1⟩ := m_chain_L44 (mth := 0) (x3 := x3) hR.mu hD (fun p hp => (hd p hp).1) hX (show q < 12 by omega) (show p < 12 by omega) 4 0 (by omega) FU mch (by decide) (fun q hq1 hq2 => absurd hq2 (Nat.not_lt_zero _))
  have b1 : f_X7_chain_L44 0 mns mng mnu mnd (nI p) (nI q) x3 FU mch 0 = _ := b1
  rw [a1, b1, Option.bind_some, ck_nI (by omega) (by decide), ck_nI (by omega) (by decide), nI_clamp (by omega)]
  rcases h3' with rfl | rfl
  · rw [if_pos (show (0 : Int32) = nI 0 from rfl), if_pos (show (0 : Int32) = nI 0 from rfl), if_pos (show (0 : Int32) = 0 from rfl)]
    exact ⟨_, _, _, _, _, _, rfl, rfl, Or.inl ⟨congrArg Sum.inl (a2 p (by omega)).1, rfl⟩⟩
  · rw [if_neg (show ¬ (1 : Int32) = nI 0 by decide), if_neg (show ¬ (1 : Int32) = nI 0 by decide), if_neg (show ¬ (1 : Int32) = 0 by decide), if_pos (show (1 : Int32) = nI 1 from rfl)]
    exact ⟨_, _, _, _, _, _, rfl, rfl, Or.inl ⟨congrArg Sum.inl (a2 p (by omega)).2, rfl⟩⟩
