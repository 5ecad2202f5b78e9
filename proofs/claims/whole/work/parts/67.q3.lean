/-! ===== the pure side: what is apportioned ===== -/
/-- the first greatest of E 0 .. E n -/
def grr (E : Nat → Nat) : Nat → Nat
  | 0 => 0
  | n + 1 => if E (n + 1) ≤ E (grr E n) then grr E n else n + 1
theorem grr_le (E : Nat → Nat) : ∀ n, grr E n ≤ n
  | 0 => Nat.le_refl _
  | n + 1 => by
    have := grr_le E n
    unfold grr
    split <;> omega
theorem lm1_le {a b : Nat} (ha : a < 2 ^ 62) (hb : b < 2 ^ 62) : lg_cmp (lN a - 1) (lN b - 1) ≤ 0 ↔ a ≤ b := by
  have e : ∀ c : Nat, c < 2 ^ 62 → (lN c - 1).toInt = (c : Int) - 1 := fun c hc => by
    rw [Int64.toInt_sub, pk_lT (by omega), show (1 : Int64).toInt = 1 by decide]
    exact Int.bmod_eq_of_le (by omega) (by omega)
  rw [lc_le, Int64.lt_iff_toInt_lt, e a ha, e b hb]
  omega
theorem ldiff {a b : Nat} (ha : a < 2 ^ 62) (hb : b < 2 ^ 62) : (lN a - lN b).toInt = (a : Int) - b := by
  rw [Int64.toInt_sub, pk_lT (by omega), pk_lT (by omega)]
  exact Int.bmod_eq_of_le (by omega) (by omega)
theorem ldiff_gt {a b : Nat} (ha : a < 2 ^ 62) (hb : b < 2 ^ 62) : 0 < lg_cmp (lN a - lN b) 0 ↔ b < a := by
  rw [lc_gt, Int64.lt_iff_toInt_lt, ldiff ha hb, show (0 : Int64).toInt = 0 by decide]
  omega
theorem ldiff_eq {a b : Nat} (ha : a < 2 ^ 62) (hb : b < 2 ^ 62) : lg_cmp (lN a - lN b) 0 = 0 ↔ a = b := by
  rw [lc_eq, ← Int64.toInt_inj, ldiff ha hb, show (0 : Int64).toInt = 0 by decide]
  omega
def RE (brm : Nat → Int64) (E : Nat → Nat) (N : Nat) : Prop := ∀ k, k < N → E k < 2 ^ 62 ∧ brm k = lN (E k) - 1
theorem c_great {brm : Nat → Int64} {E : Nat → Nat} {N : Nat} (hN : N ≤ 3) (hN0 : 0 < N) (h : RE brm E N) : f_X0_greatestRemainder brm (nI N) = some (nI (grr E (N - 1))) := by
  have : ∀ (c i : Nat), i + c = N → 0 < i → ∀ n, c < n → f_X0_greatestRemainder_L4 brm (nI N) n (nI (grr E (i - 1))) (nI i) = some (nI (grr E (N - 1))) := by
    intro c
    induction c with
    | zero =>
      intro i hi h0 n hn
      obtain ⟨m, rfl⟩ : ∃ k, n = k + 1 := ⟨n - 1, by omega⟩
      unfold f_X0_greatestRemainder_L4
      rw [if_pos (nI_le (by omega) (by omega)), show i = N by omega]
    | succ c ih =>
      intro i hi h0 n hn
      obtain ⟨m, rfl⟩ : ∃ k, n = k + 1 := ⟨n - 1, by omega⟩
      have hg := grr_le E (i - 1)
      have hi1 := h i (by omega)
      have hg1 := h (grr E (i - 1)) (by omega)
      have hs : grr E (i + 1 - 1) = if E i ≤ E (grr E (i - 1)) then grr E (i - 1) else i := by
        obtain ⟨j, rfl⟩ : ∃ j, i = j + 1 := ⟨i - 1, by omega⟩
        rfl
      have e := ih (i + 1) (by omega) (by omega) m (by omega)
      rw [hs] at e
      unfold f_X0_greatestRemainder_L4
      rw [if_neg (nI_ge (by omega) (by omega)), ck_nI (by omega) (by decide), ck_nI (by omega) (by decide), nI_clamp (by omega), nI_clamp (by omega), hi1.2, hg1.2, nI_1]
      by_cases q : E i ≤ E (grr E (i - 1))
      · rw [if_pos ((lm1_le hi1.1 hg1.1).mpr q)]
        rw [if_pos q] at e
        exact e
      · rw [if_neg (fun z => q ((lm1_le hi1.1 hg1.1).mp z))]
        rw [if_neg q] at e
        exact e
  exact this (N - 1) 1 (by omega) (by omega) FU (Nat.lt_of_le_of_lt (show N - 1 ≤ 3 by omega) (by decide))
/-- c more cents, each to the first greatest -/
def sprN (N : Nat) : Nat → (Nat → Nat) → (Nat → Nat) → (Nat → Nat)
  | 0, Sh, _ => Sh
  | c + 1, Sh, E => sprN N c (updN Sh (grr E (N - 1)) (Sh (grr E (N - 1)) + 1)) (updN E (grr E (N - 1)) 0)
theorem c_spread_loop {N left : Nat} (hN : N ≤ 3) (hN0 : 0 < N) (hl : left < 2 ^ 62) : ∀ (c i : Nat), i + c = min left N → ∀ (n : Nat) (bsh brm : Nat → Int64) (Sh E : Nat → Nat), c < n → RE brm E N → (∀ k, k < N → bsh k = lN (Sh k)) →
    ∃ bsh' brm', f_X0_spread_L2 (nI N) (lN left) n bsh brm (nI i) = some (bsh', brm') ∧ ∀ k, k < N → bsh' k = lN (sprN N c Sh E k) := by
  intro c
  induction c with
  | zero =>
    intro i hi n bsh brm Sh E hn hE hS
    obtain ⟨m, rfl⟩ : ∃ k, n = k + 1 := ⟨n - 1, by omega⟩
    refine ⟨bsh, brm, ?_, hS⟩
    unfold f_X0_spread_L2
    by_cases q : N ≤ i
    · rw [if_pos (nI_le q (by omega))]
    · rw [if_neg (nI_ge (by omega) (by omega)), nI_l (by omega), if_pos (lc_ge.mpr ((pk_lLE (by omega) (by omega)).mpr (by omega)))]
  | succ c ih =>
    intro i hi n bsh brm Sh E hn hE hS
    obtain ⟨m, rfl⟩ : ∃ k, n = k + 1 := ⟨n - 1, by omega⟩
    have hg := grr_le E (N - 1)
    obtain ⟨bsh', brm', e1, e2⟩ := ih (i + 1) (by omega) m (vp_updL bsh (grr E (N - 1)) (lN (Sh (grr E (N - 1)) + 1))) (vp_updL brm (grr E (N - 1)) (-1)) (updN Sh (grr E (N - 1)) (Sh (grr E (N - 1)) + 1)) (updN E (grr E (N - 1)) 0) (by omega) (fun k hk => by
      by_cases e : k = grr E (N - 1)
      · rw [← e, updN_s, pk_uLs]; exact ⟨by decide, by decide⟩
      · rw [updN_n e, pk_uLn e]; exact hE k hk) (fun k hk => by
      by_cases e : k = grr E (N - 1)
      · rw [← e, updN_s, pk_uLs]
      · rw [updN_n e, pk_uLn e]; exact hS k hk)
    refine ⟨bsh', brm', ?_, e2⟩
    unfold f_X0_spread_L2
    rw [if_neg (nI_ge (by omega) (by omega)), nI_l (by omega), if_neg (fun z => by have := (pk_lLE (a := left) (b := i) (by omega) (by omega)).mp (lc_ge.mp z); omega), c_great hN hN0 hE, Option.bind_some, ck_nI (by omega) (by decide), ck_nI (by omega) (by decide), ck_nI (by omega) (by decide), nI_clamp (by omega), hS _ (by omega), lN_1, nI_1]
    exact e1
/-- how many come before k -/
def bf (r : Nat → Nat) (k j : Nat) : Nat := if r k < r j ∨ (r j = r k ∧ j < k) then 1 else 0
theorem bf_lo {r : Nat → Nat} {k j : Nat} (h : j < k) : bf r k j = if r k ≤ r j then 1 else 0 := by
  unfold bf
  by_cases q : r k ≤ r j
  · rw [if_pos q, if_pos (by omega)]
  · rw [if_neg q, if_neg (by omega)]
theorem bf_hi {r : Nat → Nat} {k j : Nat} (h : k < j) : bf r k j = if r j ≤ r k then 0 else 1 := by
  unfold bf
  by_cases q : r j ≤ r k
  · rw [if_pos q, if_neg (by omega)]
  · rw [if_neg q, if_pos (by omega)]
theorem bf_self {r : Nat → Nat} {k : Nat} : bf r k k = 0 := if_neg (by omega)
theorem spr3 {r Sh E : Nat → Nat} (h0 : E 0 = r 0 + 1) (h1 : E 1 = r 1 + 1) (h2 : E 2 = r 2 + 1) (left : Nat) : ∀ k, k < 3 → sprN 3 (min left 3) Sh E k = Sh k + if sumN (bf r k) 3 < left then 1 else 0 := by
  intro k hk
  have hl : left = 0 ∨ left = 1 ∨ left = 2 ∨ ∃ m, left = m + 3 := by
    rcases left with _ | _ | _ | m
    · exact Or.inl rfl
    · exact Or.inr (Or.inl rfl)
    · exact Or.inr (Or.inr (Or.inl rfl))
    · exact Or.inr (Or.inr (Or.inr ⟨m, rfl⟩))
  have hk3 : k = 0 ∨ k = 1 ∨ k = 2 := by omega
  have f01 := bf_hi (r := r) (show 0 < 1 by decide)
  have f02 := bf_hi (r := r) (show 0 < 2 by decide)
  have f12 := bf_hi (r := r) (show 1 < 2 by decide)
  have f10 := bf_lo (r := r) (show 0 < 1 by decide)
  have f20 := bf_lo (r := r) (show 0 < 2 by decide)
  have f21 := bf_lo (r := r) (show 1 < 2 by decide)
  by_cases A : r 1 ≤ r 0 <;> by_cases B : r 2 ≤ r 0 <;> by_cases C : r 2 ≤ r 1 <;> (try (exfalso; omega)) <;>
  rcases hl with rfl | rfl | rfl | ⟨m, rfl⟩ <;> rcases hk3 with rfl | rfl | rfl <;>
  simp [sprN, grr, updN, sumN, f01, f02, f12, f10, f20, f21, bf_self, h0, h1, h2, A, B, C] <;> omega
theorem spr2 {r Sh E : Nat → Nat} (h0 : E 0 = r 0 + 1) (h1 : E 1 = r 1 + 1) (left : Nat) : ∀ k, k < 2 → sprN 2 (min left 2) Sh E k = Sh k + if sumN (bf r k) 2 < left then 1 else 0 := by
  intro k hk
  have hl : left = 0 ∨ left = 1 ∨ ∃ m, left = m + 2 := by
    rcases left with _ | _ | m
    · exact Or.inl rfl
    · exact Or.inr (Or.inl rfl)
    · exact Or.inr (Or.inr ⟨m, rfl⟩)
  have hk3 : k = 0 ∨ k = 1 := by omega
  have f01 := bf_hi (r := r) (show 0 < 1 by decide)
  have f10 := bf_lo (r := r) (show 0 < 1 by decide)
  by_cases A : r 1 ≤ r 0 <;>
  rcases hl with rfl | rfl | ⟨m, rfl⟩ <;> rcases hk3 with rfl | rfl <;>
  simp [sprN, grr, updN, sumN, f01, f10, bf_self, h0, h1, A] <;> omega
theorem spr1 {r Sh E : Nat → Nat} (left : Nat) : ∀ k, k < 1 → sprN 1 (min left 1) Sh E k = Sh k + if sumN (bf r k) 1 < left then 1 else 0 := by
  intro k hk
  have hl : left = 0 ∨ ∃ m, left = m + 1 := by
    rcases left with _ | m
    · exact Or.inl rfl
    · exact Or.inr ⟨m, rfl⟩
  have : k = 0 := by omega
  subst this
  rcases hl with rfl | ⟨m, rfl⟩ <;> simp [sprN, grr, updN, sumN, bf_self]
theorem sprA {r Sh E : Nat → Nat} {N : Nat} (hN : N ≤ 3) (hN0 : 0 < N) (h : ∀ k, k < N → E k = r k + 1) (left : Nat) : ∀ k, k < N → sprN N (min left N) Sh E k = Sh k + if sumN (bf r k) N < left then 1 else 0 := by
  have : N = 1 ∨ N = 2 ∨ N = 3 := by omega
  rcases this with rfl | rfl | rfl
  · exact spr1 left
  · exact spr2 (h 0 (by omega)) (h 1 (by omega)) left
  · exact spr3 (h 0 (by omega)) (h 1 (by omega)) (h 2 (by omega)) left
