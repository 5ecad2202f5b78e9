/-! ===== the pure side: shares ===== -/
def flo (D W : Nat) (wt : Nat → Nat) (k : Nat) : Nat := D * wt k / W
def rmo (D W : Nat) (wt : Nat → Nat) (k : Nat) : Nat := D * wt k % W
/-- what the k-th of N gets of D by weights -/
def shr (D : Nat) (wt : Nat → Nat) (N k : Nat) : Nat :=
  if sumN wt N = 0 then (if k = 0 then D else 0) else flo D (sumN wt N) wt k + if sumN (bf (rmo D (sumN wt N) wt) k) N < D - sumN (flo D (sumN wt N) wt) N then 1 else 0
theorem flo_sum {D W : Nat} {wt : Nat → Nat} : ∀ n, sumN (flo D W wt) n * W ≤ D * sumN wt n
  | 0 => by rw [show sumN (flo D W wt) 0 = 0 from rfl, Nat.zero_mul]; exact Nat.zero_le _
  | n + 1 => by
    have := flo_sum (D := D) (W := W) (wt := wt) n
    have h2 : flo D W wt n * W ≤ D * wt n := Nat.div_mul_le_self _ _
    show (sumN (flo D W wt) n + flo D W wt n) * W ≤ D * (sumN wt n + wt n)
    rw [Nat.add_mul, Nat.mul_add]
    omega
theorem flo_sumD {D N : Nat} {wt : Nat → Nat} {n : Nat} (hn : n ≤ N) : sumN (flo D (sumN wt N) wt) n ≤ D := by
  by_cases h0 : sumN wt N = 0
  · rw [sumN_0 (fun k hk => by unfold flo; rw [h0, Nat.div_zero])]
    exact Nat.zero_le _
  · have h1 := flo_sum (D := D) (W := sumN wt N) (wt := wt) n
    have h2 : D * sumN wt n ≤ D * sumN wt N := Nat.mul_le_mul_left _ (sumN_mono hn)
    exact Nat.le_of_mul_le_mul_right (Nat.le_trans h1 h2) (Nat.pos_of_ne_zero h0)
theorem sumN_addle {f h : Nat → Nat} {c : Nat} : ∀ {n : Nat}, (∀ k, k < n → f k ≤ h k + c) → sumN f n ≤ sumN h n + n * c
  | 0, _ => Nat.zero_le _
  | n + 1, q => by
    have := sumN_addle (f := f) (h := h) (c := c) (n := n) (fun k hk => q k (by omega))
    have := q n (by omega)
    show sumN f n + f n ≤ (sumN h n + h n) + (n + 1) * c
    rw [Nat.add_mul]
    omega
theorem shr_sum {D N : Nat} {wt : Nat → Nat} (hN : N ≤ 3) : sumN (shr D wt N) N ≤ D + 3 := by
  by_cases h0 : sumN wt N = 0
  · have : sumN (shr D wt N) N ≤ D := by
      have e : ∀ n, sumN (shr D wt N) n ≤ D := by
        intro n
        have e2 : ∀ m, sumN (shr D wt N) (m + 1) = D := by
          intro m
          induction m with
          | zero =>
            show 0 + shr D wt N 0 = D
            unfold shr
            rw [if_pos h0, if_pos rfl, Nat.zero_add]
          | succ m ih =>
            show sumN (shr D wt N) (m + 1) + shr D wt N (m + 1) = D
            rw [ih]
            unfold shr
            rw [if_pos h0, if_neg (by omega), Nat.add_zero]
        cases n with
        | zero => exact Nat.zero_le _
        | succ m => rw [e2 m]; exact Nat.le_refl _
      exact e N
    omega
  · have := sumN_addle (f := shr D wt N) (h := flo D (sumN wt N) wt) (c := 1) (n := N) (fun k hk => by
      unfold shr
      rw [if_neg h0]
      split <;> omega)
    have h2 := flo_sumD (D := D) (N := N) (wt := wt) (Nat.le_refl N)
    omega
def WO (D : Nat) (wt : Nat → Nat) (N : Nat) : Prop := D ≤ 1000000000 ∧ ∀ k, k < N → wt k ≤ 1200000000
theorem WO.mul {D N : Nat} {wt : Nat → Nat} (h : WO D wt N) {k : Nat} (hk : k < N) : D * wt k < 2 ^ 62 := Nat.lt_of_le_of_lt (Nat.mul_le_mul h.1 (h.2 k hk)) (by decide)
theorem WO.sum {D N : Nat} {wt : Nat → Nat} (h : WO D wt N) (hN : N ≤ 3) : sumN wt N ≤ 3600000000 := by
  have := sumN_le (f := wt) (b := 1200000000) (n := N) h.2
  have h2 : N * 1200000000 ≤ 3 * 1200000000 := Nat.mul_le_mul_right _ hN
  omega
theorem c_app_L36 {bwt : Nat → Int64} {wt : Nat → Nat} {D N : Nat} (hN : N ≤ 3) (hN0 : 0 < N) (hw : WO D wt N) (hb : ∀ k, k < N → bwt k = lN (wt k)) : ∀ (c i : Nat), i + c = N → ∀ (n : Nat) (bsh brm : Nat → Int64), c < n → (∀ k, k < i → bsh k = lN (flo D (sumN wt N) wt k) ∧ brm k = lN (rmo D (sumN wt N) wt k)) →
    ∃ bsh' brm', f_X0_apportion_L36 bwt (nI N) (lN D) (lN (sumN wt N)) n bsh brm (lN (D - sumN (flo D (sumN wt N) wt) i)) (nI i) = some (bsh', brm') ∧ ∀ k, k < N → bsh' k = lN (shr D wt N k) := by
  intro c
  have hWs := hw.sum hN
  induction c with
  | zero =>
    intro i hi n bsh brm hn hB
    obtain ⟨m, rfl⟩ : ∃ k, n = k + 1 := ⟨n - 1, by omega⟩
    have hiN : i = N := by omega
    subst hiN
    unfold f_X0_apportion_L36
    rw [if_pos (nI_le (Nat.le_refl i) (by omega))]
    by_cases h0 : sumN wt i = 0
    · rw [h0, if_pos (show lg_cmp (lN 0) 0 = 0 by decide), show (0 : Int32) = nI 0 from rfl, ck_nI (by decide) (by decide), nI_clamp (by decide)]
      refine ⟨_, _, rfl, fun k hk => ?_⟩
      have hf : ∀ j, flo D 0 wt j = 0 := fun j => Nat.div_zero _
      unfold shr
      rw [if_pos h0]
      by_cases e : k = 0
      · subst e
        rw [pk_uLs, if_pos rfl, sumN_0 (fun j _ => hf j), Nat.sub_zero]
      · rw [pk_uLn e, (hB k hk).1, h0, hf, if_neg e]
    · rw [if_neg (lc_ne0 (Nat.pos_of_ne_zero h0) (by omega))]
      have hrl : ∀ k, rmo D (sumN wt i) wt k < sumN wt i := fun k => Nat.mod_lt _ (Nat.pos_of_ne_zero h0)
      obtain ⟨bsh', brm', e1, e2⟩ := c_spread_loop hN hN0 (show D - sumN (flo D (sumN wt i) wt) i < 2 ^ 62 by have := hw.1; omega) (min (D - sumN (flo D (sumN wt i) wt) i) i) 0 (by omega) FU bsh brm (flo D (sumN wt i) wt) (fun k => rmo D (sumN wt i) wt k + 1) (Nat.lt_of_le_of_lt (Nat.le_trans (Nat.min_le_right _ _) hN) (by decide)) (fun k hk => ⟨by have := hrl k; show rmo D (sumN wt i) wt k + 1 < 2 ^ 62; omega, by
        rw [(hB k hk).2]
        exact (lN_sub (b := 1) (Nat.le_add_left _ _)).symm⟩) (fun k hk => (hB k hk).1)
      have e1 : f_X0_spread bsh brm (nI i) (lN (D - sumN (flo D (sumN wt i) wt) i)) = some (bsh', brm') := e1
      rw [e1, Option.bind_some]
      refine ⟨_, _, rfl, fun k hk => ?_⟩
      show bsh' k = _
      rw [e2 k hk, sprA (r := rmo D (sumN wt i) wt) hN hN0 (fun k hk => rfl) _ k hk]
      unfold shr
      rw [if_neg h0]
  | succ c ih =>
    intro i hi n bsh brm hn hB
    obtain ⟨m, rfl⟩ : ∃ k, n = k + 1 := ⟨n - 1, by omega⟩
    have hi3 : i < N := by omega
    have hfl : f_X6_floorOf (lN D * bwt i) (lN (sumN wt N)) = some (lN (flo D (sumN wt N) wt i)) := by
      rw [hb i hi3, lN_mul]
      by_cases h0 : sumN wt N = 0
      · rw [h0, c_floor0]
        unfold flo
        rw [Nat.div_zero]
      · exact c_floor (hw.mul hi3) (Nat.pos_of_ne_zero h0) (by omega)
    have hrem : lN D * bwt i - lN (flo D (sumN wt N) wt i) * lN (sumN wt N) = lN (rmo D (sumN wt N) wt i) := by
      unfold rmo flo
      rw [hb i hi3, lN_mul, lN_mul, lN_sub (Nat.div_mul_le_self _ _), Nat.mod_eq_sub_div_mul]
    have hs := flo_sumD (D := D) (N := N) (wt := wt) (n := i + 1) (by omega)
    have hs2 : sumN (flo D (sumN wt N) wt) (i + 1) = sumN (flo D (sumN wt N) wt) i + flo D (sumN wt N) wt i := rfl
    unfold f_X0_apportion_L36
    simp only [ck_nI (show i < 3 by omega) (show 3 < 2 ^ 31 by decide), nI_clamp (show i < 2 ^ 31 by omega), pk_uLs]
    rw [if_neg (nI_ge (by omega) (by omega)), hfl, Option.bind_some, hrem, lN_sub (by omega), nI_1, Nat.sub_sub, ← hs2]
    refine ih (i + 1) (by omega) m _ _ (by omega) (fun k hk => ?_)
    by_cases e : k = i
    · subst e; rw [pk_uLs, pk_uLs]; exact ⟨rfl, rfl⟩
    · rw [pk_uLn e, pk_uLn e]; exact hB k (by omega)
theorem c_apportion {bwt bsh brm : Nat → Int64} {wt : Nat → Nat} {D N : Nat} (hN : N ≤ 3) (hN0 : 0 < N) (hw : WO D wt N) (hb : ∀ k, k < N → bwt k = lN (wt k)) :
    ∃ bsh' brm', f_X0_apportion bwt bsh brm (nI N) (lN D) = some (bsh', brm') ∧ ∀ k, k < N → bsh' k = lN (shr D wt N k) := by
  obtain ⟨bsh', brm', e1, e2⟩ := c_app_L36 hN hN0 hw hb N 0 (by omega) FU bsh brm (Nat.lt_of_le_of_lt hN (by decide)) (fun k hk => absurd hk (Nat.not_lt_zero k))
  refine ⟨bsh', brm', ?_, e2⟩
  have : ∀ (c i : Nat), i + c = N → ∀ n, c < n → f_X0_apportion_L5 bwt bsh brm (nI N) (lN D) n (lN (sumN wt i)) (nI i) = some (bsh', brm') := by
    intro c
    induction c with
    | zero =>
      intro i hi n hn
      obtain ⟨m, rfl⟩ : ∃ k, n = k + 1 := ⟨n - 1, by omega⟩
      unfold f_X0_apportion_L5
      rw [if_pos (nI_le (by omega) (by omega)), show i = N by omega]
      exact e1
    | succ c ih =>
      intro i hi n hn
      obtain ⟨m, rfl⟩ : ∃ k, n = k + 1 := ⟨n - 1, by omega⟩
      unfold f_X0_apportion_L5
      rw [if_neg (nI_ge (by omega) (by omega)), ck_nI (by omega) (by decide), nI_clamp (by omega), hb i (by omega), lN_add, nI_1]
      exact ih (i + 1) (by omega) m (by omega)
  exact this N 0 (by omega) FU (Nat.lt_of_le_of_lt hN (by decide))
theorem m_share_loop {mwt : Nat → Int64} {wt : Nat → Nat} {D N k : Nat} (hN : N ≤ 3) (hk : k < N) (hw : WO D wt N) (hb : ∀ k, k < N → mwt k = lN (wt k)) (hW0 : 0 < sumN wt N) : ∀ (c i : Nat), i + c = N → ∀ n, c < n →
    f_X7_share_L48 mwt (nI k) (nI N) (lN D) (lN (sumN wt N)) n (lN (D - sumN (flo D (sumN wt N) wt) i)) (nI (sumN (bf (rmo D (sumN wt N) wt) k) i)) (nI i) = some (lN (shr D wt N k)) := by
  intro c
  have hWs := hw.sum hN
  have hne : ¬ lN (sumN wt N) = 0 := fun z => by have := (pk_lEQ (a := sumN wt N) (b := 0) (by omega) (by decide)).mp z; omega
  have hbf : ∀ i, sumN (bf (rmo D (sumN wt N) wt) k) i ≤ i * 1 := fun i => sumN_le (fun j hj => by unfold bf; split <;> omega)
  have hrl : ∀ k, rmo D (sumN wt N) wt k < sumN wt N := fun k => Nat.mod_lt _ hW0
  have hD := hw.1
  induction c with
  | zero =>
    intro i hi n hn
    obtain ⟨m, rfl⟩ : ∃ k, n = k + 1 := ⟨n - 1, by omega⟩
    have hiN : i = N := by omega
    subst hiN
    have hbi := hbf i
    unfold f_X7_share_L48 nzL shr
    rw [if_pos (nI_le (Nat.le_refl i) (by omega)), ck_nI (by omega) (by decide), nI_clamp (by omega), if_neg hne, hb k hk, lN_mul, pk_lDiv (by have := hw.mul hk; omega) hW0 (by omega), nI_l (by omega), if_neg (show ¬ sumN wt i = 0 by omega)]
    by_cases q : sumN (bf (rmo D (sumN wt i) wt) k) i < D - sumN (flo D (sumN wt i) wt) i
    · rw [if_neg (fun z => by have := (pk_lLE (a := D - sumN (flo D (sumN wt i) wt) i) (b := sumN (bf (rmo D (sumN wt i) wt) k) i) (by omega) (by omega)).mp (lc_ge.mp z); omega), if_pos q]
      exact congrArg some (lN_add _ 1)
    · rw [if_pos (lc_ge.mpr ((pk_lLE (by omega) (by omega)).mpr (by omega))), if_neg q]
      exact congrArg some (lN_add _ 0)
  | succ c ih =>
    intro i hi n hn
    obtain ⟨m, rfl⟩ : ∃ k, n = k + 1 := ⟨n - 1, by omega⟩
    have hiN : i < N := by omega
    have hs := flo_sumD (D := D) (N := N) (wt := wt) (n := i + 1) (by omega)
    have hs2 : sumN (flo D (sumN wt N) wt) (i + 1) = sumN (flo D (sumN wt N) wt) i + flo D (sumN wt N) wt i := rfl
    have e := ih (i + 1) (by omega) m (by omega)
    have hmi := hw.mul hiN
    have hmk := hw.mul hk
    have h1 : (lN D * lN (wt i)) / lN (sumN wt N) = lN (flo D (sumN wt N) wt i) := by rw [lN_mul, pk_lDiv (by omega) hW0 (by omega)]; rfl
    have h2 : lN D * lN (wt i) - lN D * lN (wt i) / lN (sumN wt N) * lN (sumN wt N) = lN (rmo D (sumN wt N) wt i) := by rw [lN_mul, pk_lRem (by omega) hW0 (by omega)]; rfl
    have h3 : lN D * lN (wt k) - lN D * lN (wt k) / lN (sumN wt N) * lN (sumN wt N) = lN (rmo D (sumN wt N) wt k) := by rw [lN_mul, pk_lRem (by omega) hW0 (by omega)]; rfl
    have hri := hrl i
    have hrk := hrl k
    have hb2 : sumN (bf (rmo D (sumN wt N) wt) k) (i + 1) = sumN (bf (rmo D (sumN wt N) wt) k) i + bf (rmo D (sumN wt N) wt) k i := rfl
    rw [hs2, ← Nat.sub_sub, ← lN_sub (by omega), hb2, ← nI_add] at e
    unfold f_X7_share_L48 nzL
    simp only [ck_nI (show i < 3 by omega) (show 3 < 2 ^ 31 by decide), ck_nI (show k < 3 by omega) (show 3 < 2 ^ 31 by decide), nI_clamp (show i < 2 ^ 31 by omega), nI_clamp (show k < 2 ^ 31 by omega)]
    rw [if_neg (nI_ge (by omega) (by omega)), if_neg hne, if_neg hne, if_neg hne, hb i hiN, hb k hk, h2, h3, h1, nI_1 i]
    by_cases q1 : rmo D (sumN wt N) wt k < rmo D (sumN wt N) wt i
    · rw [if_pos ((ldiff_gt (by omega) (by omega)).mpr q1)]
      rw [show bf (rmo D (sumN wt N) wt) k i = 1 from if_pos (Or.inl q1)] at e
      exact e
    · rw [if_neg (fun z => q1 ((ldiff_gt (by omega) (by omega)).mp z))]
      by_cases q2 : rmo D (sumN wt N) wt i = rmo D (sumN wt N) wt k
      · rw [if_pos ((ldiff_eq (by omega) (by omega)).mpr q2)]
        by_cases q3 : i < k
        · rw [if_neg (nI_ge q3 (by omega))]
          rw [show bf (rmo D (sumN wt N) wt) k i = 1 from if_pos (Or.inr ⟨q2, q3⟩)] at e
          exact e
        · rw [if_pos (nI_le (by omega) (by omega))]
          rw [show bf (rmo D (sumN wt N) wt) k i = 0 from if_neg (fun z => z.elim q1 (fun z => q3 z.2))] at e
          exact e
      · rw [if_neg (fun z => q2 ((ldiff_eq (by omega) (by omega)).mp z))]
        rw [show bf (rmo D (sumN wt N) wt) k i = 0 from if_neg (fun z => z.elim q1 (fun z => q2 z.1))] at e
        exact e
theorem m_share {mwt : Nat → Int64} {wt : Nat → Nat} {D N k : Nat} (hN : N ≤ 3) (hk : k < N) (hw : WO D wt N) (hb : ∀ k, k < N → mwt k = lN (wt k)) (h0 : ∀ k, N ≤ k → k < 3 → mwt k = lN 0) : f_X7_share mwt (nI k) (nI N) (lN D) = some (lN (shr D wt N k)) := by
  have hWs := hw.sum hN
  have hsum : mwt 0 + mwt 1 + mwt 2 = lN (sumN wt N) := by
    have : N = 1 ∨ N = 2 ∨ N = 3 := by omega
    rcases this with rfl | rfl | rfl
    · rw [hb 0 (by omega), h0 1 (by omega) (by omega), h0 2 (by omega) (by omega), lN_add, lN_add]
      show _ = lN (0 + wt 0)
      congr 1
      omega
    · rw [hb 0 (by omega), hb 1 (by omega), h0 2 (by omega) (by omega), lN_add, lN_add]
      show _ = lN (0 + wt 0 + wt 1)
      congr 1
      omega
    · rw [hb 0 (by omega), hb 1 (by omega), hb 2 (by omega), lN_add, lN_add]
      show _ = lN (0 + wt 0 + wt 1 + wt 2)
      congr 1
      omega
  unfold f_X7_share
  rw [show (0 : Int32) = nI 0 from rfl, show (1 : Int32) = nI 1 from rfl, show (2 : Int32) = nI 2 from rfl, ck_nI (by decide) (by decide), ck_nI (by decide) (by decide), ck_nI (by decide) (by decide), nI_clamp (by decide), nI_clamp (by decide), nI_clamp (by decide), hsum]
  by_cases e : sumN wt N = 0
  · rw [e, if_pos (show lg_cmp (lN 0) 0 = nI 0 by decide)]
    unfold shr
    rw [if_pos e]
    by_cases ek : k = 0
    · rw [if_pos (show nI k = nI 0 by rw [ek]), if_pos ek]
    · rw [if_neg (show ¬ nI k = nI 0 from fun z => ek ((nI_eq (by omega) (by decide)).mp z)), if_neg ek]
      rfl
  · rw [if_neg (show ¬ lg_cmp (lN (sumN wt N)) 0 = nI 0 from lc_ne0 (Nat.pos_of_ne_zero e) (by omega))]
    exact m_share_loop hN hk hw hb (Nat.pos_of_ne_zero e) N 0 (by omega) FU (Nat.lt_of_le_of_lt hN (by decide))
