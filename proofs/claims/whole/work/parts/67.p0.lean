/-! ===== the pure side: numbers ===== -/
theorem lc_cases (x y : Int64) : (y < x ∧ lg_cmp x y = 1) ∨ (x = y ∧ lg_cmp x y = 0) ∨ (¬ y < x ∧ ¬ x = y ∧ lg_cmp x y = -1) := by
  unfold lg_cmp
  by_cases h1 : y < x
  · exact Or.inl ⟨h1, if_pos h1⟩
  · by_cases h2 : x = y
    · exact Or.inr (Or.inl ⟨h2, by rw [if_neg (show ¬ x > y from h1), if_pos h2]⟩)
    · exact Or.inr (Or.inr ⟨h1, h2, by rw [if_neg (show ¬ x > y from h1), if_neg h2]⟩)
theorem lc_eq {x y : Int64} : lg_cmp x y = 0 ↔ x = y := by
  rcases lc_cases x y with ⟨h1, h2⟩ | ⟨h1, h2⟩ | ⟨h1, h3, h2⟩ <;> rw [h2]
  · exact ⟨fun e => absurd e (by decide), fun e => by subst e; exact absurd h1 (Int64.lt_irrefl)⟩
  · exact ⟨fun _ => h1, fun _ => rfl⟩
  · exact ⟨fun e => absurd e (by decide), fun e => absurd e h3⟩
theorem lc_le {x y : Int64} : lg_cmp x y ≤ 0 ↔ ¬ y < x := by
  rcases lc_cases x y with ⟨h1, h2⟩ | ⟨h1, h2⟩ | ⟨h1, h3, h2⟩ <;> rw [h2]
  · exact ⟨fun e => absurd e (by decide), fun e => absurd h1 e⟩
  · exact ⟨fun _ => by subst h1; exact Int64.lt_irrefl, fun _ => by decide⟩
  · exact ⟨fun _ => h1, fun _ => by decide⟩
theorem lc_ge {x y : Int64} : 0 ≤ lg_cmp x y ↔ y ≤ x := by
  rcases lc_cases x y with ⟨h1, h2⟩ | ⟨h1, h2⟩ | ⟨h1, h3, h2⟩ <;> rw [h2]
  · exact ⟨fun _ => Int64.le_of_lt h1, fun _ => by decide⟩
  · exact ⟨fun _ => by subst h1; exact Int64.le_refl _, fun _ => by decide⟩
  · refine ⟨fun e => absurd e (by decide), fun e => ?_⟩
    exact absurd (Int64.toInt_inj.mp (by
      have a := Int64.le_iff_toInt_le.mp e
      have b : ¬ y.toInt < x.toInt := fun q => h1 (Int64.lt_iff_toInt_lt.mpr q)
      omega)) h3
theorem lc_lt {x y : Int64} : lg_cmp x y < 0 ↔ x < y := by
  rw [← Int32.not_le, lc_ge, Int64.not_le]
theorem lc_gt {x y : Int64} : 0 < lg_cmp x y ↔ y < x := by
  rw [← Int32.not_le, lc_le, Classical.not_not]
/-- an int's long is compared as the int is -/
theorem tl_le {x : Int32} {n : Nat} (hn : n < 2 ^ 31) : x.toInt64 ≤ lN n ↔ x ≤ nI n := by
  rw [Int64.le_iff_toInt_le, Int32.le_iff_toInt_le, lN_toInt hn, nI_toInt hn, Int32.toInt_toInt64]
theorem tl_ge {x : Int32} {n : Nat} (hn : n < 2 ^ 31) : lN n ≤ x.toInt64 ↔ nI n ≤ x := by
  rw [Int64.le_iff_toInt_le, Int32.le_iff_toInt_le, lN_toInt hn, nI_toInt hn, Int32.toInt_toInt64]
theorem tl_lt {x : Int32} {n : Nat} (hn : n < 2 ^ 31) : x.toInt64 < lN n ↔ x < nI n := by
  rw [Int64.lt_iff_toInt_lt, Int32.lt_iff_toInt_lt, lN_toInt hn, nI_toInt hn, Int32.toInt_toInt64]
theorem tl_gt {x : Int32} {n : Nat} (hn : n < 2 ^ 31) : lN n < x.toInt64 ↔ nI n < x := by
  rw [Int64.lt_iff_toInt_lt, Int32.lt_iff_toInt_lt, lN_toInt hn, nI_toInt hn, Int32.toInt_toInt64]
/-- 1 where a ≤ x ≤ b -/
def wi (x : Int32) (a b : Nat) : Int32 := if nI a ≤ x ∧ x ≤ nI b then 1 else 0
theorem c_within (x : Int32) (a b : Nat) : f_X6_isWithin x (nI a) (nI b) = some (wi x a b) := by
  unfold f_X6_isWithin wi
  by_cases h1 : x < nI a
  · rw [if_pos h1, if_neg (fun h => absurd h1 (Int32.not_lt.mpr h.1))]
  · rw [if_neg h1]
    by_cases h2 : nI b < x
    · rw [if_pos h2, if_neg (fun h => absurd h2 (Int32.not_lt.mpr h.2))]
    · rw [if_neg h2, if_pos ⟨Int32.not_lt.mp h1, Int32.not_lt.mp h2⟩]
theorem m_within (x : Int32) {a b : Nat} (ha : a < 2 ^ 31) (hb : b < 2 ^ 31) : f_X7_within x.toInt64 (lN a) (lN b) = some (wi x a b) := by
  unfold f_X7_within wi
  by_cases h1 : x < nI a
  · rw [if_pos (lc_lt.mpr ((tl_lt ha).mpr h1)), if_neg (fun h => absurd h1 (Int32.not_lt.mpr h.1))]
  · rw [if_neg (fun h => h1 ((tl_lt ha).mp (lc_lt.mp h)))]
    by_cases h2 : nI b < x
    · rw [if_pos (lc_gt.mpr ((tl_gt hb).mpr h2)), if_neg (fun h => absurd h2 (Int32.not_lt.mpr h.2))]
    · rw [if_neg (fun h => h2 ((tl_gt hb).mp (lc_gt.mp h))), if_pos ⟨Int32.not_lt.mp h1, Int32.not_lt.mp h2⟩]
theorem wi_01 (x : Int32) (a b : Nat) : wi x a b = 0 ∨ wi x a b = 1 := by
  unfold wi
  by_cases h : nI a ≤ x ∧ x ≤ nI b
  · exact Or.inr (if_pos h)
  · exact Or.inl (if_neg h)
theorem wi_0 {x : Int32} {a b : Nat} (h : wi x a b = 0) : ¬ (nI a ≤ x ∧ x ≤ nI b) := by
  intro q
  unfold wi at h
  rw [if_pos q] at h
  exact absurd h (by decide)
theorem wi_1 {x : Int32} {a b : Nat} (h : ¬ wi x a b = 0) : nI a ≤ x ∧ x ≤ nI b := by
  unfold wi at h
  by_cases q : nI a ≤ x ∧ x ≤ nI b
  · exact q
  · rw [if_neg q] at h
    exact absurd rfl h
theorem wi_nat {x : Int32} {a b : Nat} (ha : a < 2 ^ 31) (hb : b < 2 ^ 31) (h : ¬ wi x a b = 0) : ∃ v : Nat, a ≤ v ∧ v ≤ b ∧ x = nI v := by
  obtain ⟨h1, h2⟩ := wi_1 h
  have e1 := Int32.le_iff_toInt_le.mp h1
  have e2 := Int32.le_iff_toInt_le.mp h2
  rw [nI_toInt ha] at e1
  rw [nI_toInt hb] at e2
  obtain ⟨v, hv, rfl⟩ := nI_of (x := x) (fun q => by
    have e3 := Int32.lt_iff_toInt_lt.mp q
    rw [Int32.toInt_zero] at e3
    omega)
  rw [nI_toInt hv] at e1 e2
  exact ⟨v, by omega, by omega, rfl⟩
theorem c_isGood (x : Int32) : f_X6_isGood x = some (wi x 0 11) := by
  unfold f_X6_isGood
  rw [show (0 : Int32) = nI 0 from rfl, show (11 : Int32) = nI 11 from rfl, c_within]
  exact if_pos (wi_01 x 0 11)
theorem m_isGood (x : Int32) : f_X7_isGood x = some (wi x 0 11) := by
  unfold f_X7_isGood
  rw [show (0 : Int64) = lN 0 from rfl, show (11 : Int64) = lN 11 from rfl, m_within x (by decide) (by decide)]
  exact if_pos (wi_01 x 0 11)
theorem ck_in {β : Type} {i : Int32} {j n : Nat} {x : Option β} (hi : i = nI j) (h : j < n) (hn : n < 2 ^ 31) : ck i n x = x := by rw [hi]; exact ck_nI h hn
