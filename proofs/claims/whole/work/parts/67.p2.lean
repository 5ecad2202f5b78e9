/-! ===== the pure side: sums over the lots ===== -/
def rs (f : Nat → Nat) : Nat → Nat → Nat
  | _, 0 => 0
  | i, d + 1 => f i + rs f (i + 1) d
theorem rs_sum {f : Nat → Nat} : ∀ (d i : Nat), sumN f i + rs f i d = sumN f (i + d)
  | 0, i => rfl
  | d + 1, i => by
    have := rs_sum (f := f) d (i + 1)
    unfold rs
    rw [show i + (d + 1) = (i + 1) + d by omega, ← this]
    show sumN f i + (f i + rs f (i + 1) d) = (sumN f i + f i) + rs f (i + 1) d
    omega
theorem rs_all {f : Nat → Nat} {n : Nat} : rs f 0 n = sumN f n := by
  have := rs_sum (f := f) n 0
  rw [Nat.zero_add] at this
  rw [← this]
  exact (Nat.zero_add _).symm
/-- what a good's lots hold of f -/
def gsum (G f : Nat → Nat) (g : Nat) : Nat → Nat := fun j => if G j = g then f j else 0
theorem c_stock_loop {lgd ldy : Nat → Int32} {llf ldb : Nat → Int64} {nl g t : Nat} {G F B Y : Nat → Nat} (hnl : nl ≤ 200) (hg : g < 12) (hX : LX lgd llf ldb ldy nl t G F B Y) : ∀ (d i : Nat), i + d = nl → ∀ (n a : Nat), d < n →
    f_X2_stockOf_L5 lgd llf (nI nl) (nI g) n (lN a) (nI i) = some (lN (a + rs (gsum G F g) i d)) := by
  intro d
  induction d with
  | zero =>
    intro i hi n a hn
    obtain ⟨m, rfl⟩ : ∃ k, n = k + 1 := ⟨n - 1, by omega⟩
    unfold f_X2_stockOf_L5
    rw [if_pos (nI_le (by omega) (by omega))]
    rfl
  | succ d ih =>
    intro i hi n a hn
    obtain ⟨m, rfl⟩ : ∃ k, n = k + 1 := ⟨n - 1, by omega⟩
    obtain ⟨b1, b2, b3, b4, b5, b6, b7⟩ := hX i (by omega)
    unfold f_X2_stockOf_L5
    rw [if_neg (nI_ge (by omega) (by omega)), ck_nI (by omega) (by decide), ck_nI (by omega) (by decide), nI_clamp (by omega), b1, b3, nI_1]
    unfold rs gsum
    by_cases h : G i = g
    · rw [if_pos (by rw [h]), if_pos h, lN_add, ih (i + 1) (by omega) m _ (by omega), Nat.add_assoc]
      rfl
    · rw [if_neg (fun q => h ((nI_eq (by omega) (by omega)).mp q)), if_neg h, show (0 : Int64) = lN 0 from rfl, lN_add, ih (i + 1) (by omega) m _ (by omega), Nat.add_assoc]
      rfl
theorem c_debt_loop {lgd ldy : Nat → Int32} {llf ldb : Nat → Int64} {nl g t : Nat} {G F B Y : Nat → Nat} (hnl : nl ≤ 200) (hg : g < 12) (hX : LX lgd llf ldb ldy nl t G F B Y) : ∀ (d i : Nat), i + d = nl → ∀ (n a : Nat), d < n →
    f_X2_debtOf_L5 lgd ldb (nI nl) (nI g) n (lN a) (nI i) = some (lN (a + rs (gsum G B g) i d)) := by
  intro d
  induction d with
  | zero =>
    intro i hi n a hn
    obtain ⟨m, rfl⟩ : ∃ k, n = k + 1 := ⟨n - 1, by omega⟩
    unfold f_X2_debtOf_L5
    rw [if_pos (nI_le (by omega) (by omega))]
    rfl
  | succ d ih =>
    intro i hi n a hn
    obtain ⟨m, rfl⟩ : ∃ k, n = k + 1 := ⟨n - 1, by omega⟩
    obtain ⟨b1, b2, b3, b4, b5, b6, b7⟩ := hX i (by omega)
    unfold f_X2_debtOf_L5
    rw [if_neg (nI_ge (by omega) (by omega)), ck_nI (by omega) (by decide), ck_nI (by omega) (by decide), nI_clamp (by omega), b1, b5, nI_1]
    unfold rs gsum
    by_cases h : G i = g
    · rw [if_pos (by rw [h]), if_pos h, lN_add, ih (i + 1) (by omega) m _ (by omega), Nat.add_assoc]
      rfl
    · rw [if_neg (fun q => h ((nI_eq (by omega) (by omega)).mp q)), if_neg h, show (0 : Int64) = lN 0 from rfl, lN_add, ih (i + 1) (by omega) m _ (by omega), Nat.add_assoc]
      rfl
theorem m_stock_same (lgd : Nat → Int32) (llf : Nat → Int64) (z x1 : Int32) : ∀ (n : Nat) (x2 : Int64) (x4 : Int32), f_X7_stock_L5 z lgd llf x1 n x2 x4 = f_X2_stockOf_L5 lgd llf z x1 n x2 x4
  | 0, _, _ => rfl
  | n + 1, x2, x4 => by
    unfold f_X7_stock_L5 f_X2_stockOf_L5
    rw [m_stock_same lgd llf z x1 n, m_stock_same lgd llf z x1 n]
theorem m_debt_same (lgd : Nat → Int32) (ldb : Nat → Int64) (z x1 : Int32) : ∀ (n : Nat) (x2 : Int64) (x4 : Int32), f_X7_debtOn_L5 z lgd ldb x1 n x2 x4 = f_X2_debtOf_L5 lgd ldb z x1 n x2 x4
  | 0, _, _ => rfl
  | n + 1, x2, x4 => by
    unfold f_X7_debtOn_L5 f_X2_debtOf_L5
    rw [m_debt_same lgd ldb z x1 n, m_debt_same lgd ldb z x1 n]
theorem c_stock {lgd ldy : Nat → Int32} {llf ldb : Nat → Int64} {nl g t : Nat} {G F B Y : Nat → Nat} (hnl : nl ≤ 200) (hg : g < 12) (hX : LX lgd llf ldb ldy nl t G F B Y) : f_X2_stockOf lgd llf (nI nl) (nI g) = some (lN (sumN (gsum G F g) nl)) := by
  have h := c_stock_loop hnl hg hX nl 0 (by omega) FU 0 (Nat.lt_of_le_of_lt hnl (by decide))
  rw [rs_all, Nat.zero_add] at h
  exact h
theorem m_stock {lgd : Nat → Int32} {llf : Nat → Int64} {z x1 : Int32} : f_X7_stock z lgd llf x1 = f_X2_stockOf lgd llf z x1 := m_stock_same lgd llf z x1 FU 0 0
theorem c_debt {lgd ldy : Nat → Int32} {llf ldb : Nat → Int64} {nl g t : Nat} {G F B Y : Nat → Nat} (hnl : nl ≤ 200) (hg : g < 12) (hX : LX lgd llf ldb ldy nl t G F B Y) : f_X2_debtOf lgd ldb (nI nl) (nI g) = some (lN (sumN (gsum G B g) nl)) := by
  have h := c_debt_loop hnl hg hX nl 0 (by omega) FU 0 (Nat.lt_of_le_of_lt hnl (by decide))
  rw [rs_all, Nat.zero_add] at h
  exact h
theorem m_debt {lgd : Nat → Int32} {ldb : Nat → Int64} {z x1 : Int32} : f_X7_debtOn z lgd ldb x1 = f_X2_debtOf lgd ldb z x1 := m_debt_same lgd ldb z x1 FU 0 0
theorem c_whole_loop {lgd ldy : Nat → Int32} {llf ldb : Nat → Int64} {nl t : Nat} {G F B Y : Nat → Nat} (hnl : nl ≤ 200) (hX : LX lgd llf ldb ldy nl t G F B Y) : ∀ (d i : Nat), i + d = nl → ∀ (n a : Nat), d < n →
    f_X2_wholeDebt_L4 ldb (nI nl) n (lN a) (nI i) = some (lN (a + rs B i d)) := by
  intro d
  induction d with
  | zero =>
    intro i hi n a hn
    obtain ⟨m, rfl⟩ : ∃ k, n = k + 1 := ⟨n - 1, by omega⟩
    unfold f_X2_wholeDebt_L4
    rw [if_pos (nI_le (by omega) (by omega))]
    rfl
  | succ d ih =>
    intro i hi n a hn
    obtain ⟨m, rfl⟩ : ∃ k, n = k + 1 := ⟨n - 1, by omega⟩
    obtain ⟨b1, b2, b3, b4, b5, b6, b7⟩ := hX i (by omega)
    unfold f_X2_wholeDebt_L4
    rw [if_neg (nI_ge (by omega) (by omega)), ck_nI (by omega) (by decide), nI_clamp (by omega), b5, nI_1, lN_add, ih (i + 1) (by omega) m _ (by omega), Nat.add_assoc]
    rfl
theorem c_whole {lgd ldy : Nat → Int32} {llf ldb : Nat → Int64} {nl t : Nat} {G F B Y : Nat → Nat} (hnl : nl ≤ 200) (hX : LX lgd llf ldb ldy nl t G F B Y) : f_X2_wholeDebt ldb (nI nl) = some (lN (sumN B nl)) := by
  have h := c_whole_loop hnl hX nl 0 (by omega) FU 0 (Nat.lt_of_le_of_lt hnl (by decide))
  rw [rs_all, Nat.zero_add] at h
  exact h
/-- all goods together are all lots -/
theorem goods_sum {G f : Nat → Nat} : ∀ {n : Nat}, (∀ i, i < n → G i < 12) → sumN (fun g => sumN (gsum G f g) n) 12 = sumN f n
  | 0, _ => rfl
  | n + 1, h => by
    have ih := goods_sum (G := G) (f := f) (n := n) (fun i hi => h i (by omega))
    have hn := h n (by omega)
    have e : sumN (fun g => sumN (gsum G f g) (n + 1)) 12 = sumN (fun g => sumN (gsum G f g) n) 12 + f n := by
      have hh : ∀ k, sumN (fun g => sumN (gsum G f g) (n + 1)) k = sumN (fun g => sumN (gsum G f g) n) k + (if G n < k then f n else 0) := by
        intro k
        induction k with
        | zero => simp [sumN]
        | succ k ihk =>
          show sumN (fun g => sumN (gsum G f g) (n + 1)) k + sumN (gsum G f k) (n + 1) = (sumN (fun g => sumN (gsum G f g) n) k + sumN (gsum G f k) n) + _
          rw [ihk]
          show _ + (sumN (gsum G f k) n + gsum G f k n) = _
          unfold gsum
          by_cases q1 : G n = k
          · rw [if_neg (by omega : ¬ G n < k), if_pos (by omega : G n < k + 1), if_pos q1]; omega
          · by_cases q2 : G n < k
            · rw [if_pos q2, if_pos (by omega : G n < k + 1), if_neg q1]; omega
            · rw [if_neg q2, if_neg (by omega : ¬ G n < k + 1), if_neg q1]; omega
      rw [hh 12, if_pos hn]
    rw [e, ih]
    rfl
