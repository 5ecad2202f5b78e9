/-! ===== the pure side: fractions ===== -/
theorem gcd_step (a b : Nat) : Nat.gcd b (a % b) = Nat.gcd a b := by
  rw [Nat.gcd_comm a b, Nat.gcd_rec b a, Nat.gcd_comm]
theorem mod_half {b r k : Nat} (hb : b < 2 ^ (k + 1)) (h0 : 0 < r) (hr : r < b) : b % r < 2 ^ k := by
  have e : 2 ^ (k + 1) = 2 ^ k * 2 := Nat.pow_succ 2 k
  by_cases h : r ≤ 2 ^ k
  · exact Nat.lt_of_lt_of_le (Nat.mod_lt b h0) h
  · rw [Nat.mod_eq_sub_mod (by omega), Nat.mod_eq_of_lt (by omega)]
    omega
theorem lN_rem {a b : Nat} (ha : a < 2 ^ 63) (h0 : 0 < b) (hb : b < 2 ^ 63) : lN a - lN (a / b) * lN b = lN (a % b) := by
  rw [← pk_lDiv ha h0 hb, pk_lRem ha h0 hb]
theorem lc_1 {a : Nat} (h0 : 0 < a) (ha : a < 2 ^ 63) : 0 ≤ lg_cmp (lN a) 1 := lc_ge.mpr ((pk_lLE (a := 1) (by decide) ha).mpr h0)
theorem c_gcd_loop : ∀ (k a b n i : Nat), b < 2 ^ k → a < 2 ^ 62 → b < 2 ^ 62 → 2 * k + 1 + i ≤ 200 → 2 * k + 1 < n → 0 < Nat.gcd a b → f_X6_greatestDivisor_L9 n (lN a) (lN b) (nI i) = some (lN (Nat.gcd a b)) := by
  have h0 : ∀ (a n i : Nat), a < 2 ^ 62 → i < 200 → 0 < n → 0 < a → f_X6_greatestDivisor_L9 n (lN a) (lN 0) (nI i) = some (lN a) := by
    intro a n i ha hi hn h
    obtain ⟨q, rfl⟩ : ∃ z, n = z + 1 := ⟨n - 1, by omega⟩
    unfold f_X6_greatestDivisor_L9
    rw [if_neg (show ¬ (200 : Int32) ≤ nI i from nI_ge (b := 200) hi (by decide)), if_pos (show lg_cmp (lN 0) 0 ≤ 0 by decide), if_pos (lc_1 h (by omega))]
  intro k
  induction k with
  | zero =>
    intro a b n i hk ha hb hi hn hg
    have : b = 0 := by omega
    subst this
    rw [Nat.gcd_zero_right] at hg ⊢
    exact h0 a n i ha (by omega) (by omega) hg
  | succ k ih =>
    intro a b n i hk ha hb hi hn hg
    by_cases e : b = 0
    · subst e
      rw [Nat.gcd_zero_right] at hg ⊢
      exact h0 a n i ha (by omega) (by omega) hg
    · obtain ⟨q, rfl⟩ : ∃ z, n = z + 2 := ⟨n - 2, by omega⟩
      have hr := Nat.mod_lt a (show 0 < b by omega)
      unfold f_X6_greatestDivisor_L9
      rw [if_neg (show ¬ (200 : Int32) ≤ nI i from nI_ge (b := 200) (by omega) (by decide)), if_neg (lc_pos (by omega) (by omega)), c_floor ha (by omega) hb, Option.bind_some, lN_rem (by omega) (by omega) (by omega), nI_1]
      by_cases e2 : a % b = 0
      · rw [← gcd_step, e2, Nat.gcd_zero_right]
        exact h0 b (q + 1) (i + 1) hb (by omega) (by omega) (by omega)
      · have hh := mod_half hk (show 0 < a % b by omega) hr
        have hr2 := Nat.mod_lt b (show 0 < a % b by omega)
        unfold f_X6_greatestDivisor_L9
        rw [if_neg (show ¬ (200 : Int32) ≤ nI (i + 1) from nI_ge (b := 200) (by omega) (by decide)), if_neg (lc_pos (by omega) (by omega)), c_floor hb (by omega) (by omega), Option.bind_some, lN_rem (by omega) (by omega) (by omega), nI_1]
        rw [← gcd_step a b, ← gcd_step b (a % b)]
        exact ih (a % b) (b % (a % b)) q (i + 1 + 1) hh (by omega) (by omega) (by omega) (by omega) (by rw [gcd_step, gcd_step]; exact hg)
theorem c_gcd {a b : Nat} (ha : a < 2 ^ 62) (hb : b < 2 ^ 62) (hg : 0 < Nat.gcd a b) : f_X6_greatestDivisor (lN a) (lN b) = some (lN (Nat.gcd a b)) :=
  c_gcd_loop 62 a b FU 0 hb ha hb (by decide) (by decide) hg
theorem m_gcd_loop : ∀ (k a b n : Nat), b < 2 ^ k → a < 2 ^ 62 → b < 2 ^ 62 → 2 * k + 1 < n → f_X7_common_L6 n (lN a) (lN b) = some (lN (Nat.gcd a b)) := by
  have h0 : ∀ (a n : Nat), 0 < n → f_X7_common_L6 n (lN a) (lN 0) = some (lN a) := by
    intro a n hn
    obtain ⟨q, rfl⟩ : ∃ z, n = z + 1 := ⟨n - 1, by omega⟩
    unfold f_X7_common_L6
    rw [if_pos (show lg_cmp (lN 0) 0 ≤ 0 by decide)]
  intro k
  induction k with
  | zero =>
    intro a b n hk ha hb hn
    have : b = 0 := by omega
    subst this
    rw [Nat.gcd_zero_right]
    exact h0 a n (by omega)
  | succ k ih =>
    intro a b n hk ha hb hn
    by_cases e : b = 0
    · subst e
      rw [Nat.gcd_zero_right]
      exact h0 a n (by omega)
    · obtain ⟨q, rfl⟩ : ∃ z, n = z + 2 := ⟨n - 2, by omega⟩
      have hr := Nat.mod_lt a (show 0 < b by omega)
      unfold f_X7_common_L6 nzL
      rw [if_neg (lc_pos (by omega) (by omega)), if_neg (fun z => by have := (pk_lEQ (a := b) (b := 0) (by omega) (by decide)).mp z; omega), pk_lRem (by omega) (by omega) (by omega)]
      by_cases e2 : a % b = 0
      · rw [← gcd_step, e2, Nat.gcd_zero_right]
        exact h0 b (q + 1) (by omega)
      · have hh := mod_half hk (show 0 < a % b by omega) hr
        have hr2 := Nat.mod_lt b (show 0 < a % b by omega)
        unfold f_X7_common_L6 nzL
        rw [if_neg (lc_pos (by omega) (by omega)), if_neg (fun z => by have := (pk_lEQ (a := a % b) (b := 0) (by omega) (by decide)).mp z; omega), pk_lRem (by omega) (by omega) (by omega)]
        rw [← gcd_step a b, ← gcd_step b (a % b)]
        exact ih (a % b) (b % (a % b)) q hh (by omega) (by omega) (by omega)
theorem m_gcd {a b : Nat} (ha : a < 2 ^ 62) (hb : b < 2 ^ 62) : f_X7_common (lN a) (lN b) = some (lN (Nat.gcd a b)) :=
  m_gcd_loop 62 a b FU hb ha hb (by decide)
/-- a fraction has one lowest form -/
theorem fr_eq {N D Y W : Nat} (h : N * W = Y * D) (hD : 0 < D) (hW : 0 < W) : N / Nat.gcd N D = Y / Nat.gcd Y W ∧ D / Nat.gcd N D = W / Nat.gcd Y W := by
  have g1 : 0 < Nat.gcd N D := Nat.gcd_pos_of_pos_right N hD
  have g2 : 0 < Nat.gcd Y W := Nat.gcd_pos_of_pos_right Y hW
  obtain ⟨G1, hG1⟩ : ∃ z, z = Nat.gcd N D := ⟨_, rfl⟩
  obtain ⟨G2, hG2⟩ : ∃ z, z = Nat.gcd Y W := ⟨_, rfl⟩
  obtain ⟨n, hn⟩ : G1 ∣ N := hG1 ▸ Nat.gcd_dvd_left N D
  obtain ⟨d, hd⟩ : G1 ∣ D := hG1 ▸ Nat.gcd_dvd_right N D
  obtain ⟨y, hy⟩ : G2 ∣ Y := hG2 ▸ Nat.gcd_dvd_left Y W
  obtain ⟨w, hw⟩ : G2 ∣ W := hG2 ▸ Nat.gcd_dvd_right Y W
  have c1 : Nat.Coprime (N / Nat.gcd N D) (D / Nat.gcd N D) := Nat.coprime_div_gcd_div_gcd g1
  have c2 : Nat.Coprime (Y / Nat.gcd Y W) (W / Nat.gcd Y W) := Nat.coprime_div_gcd_div_gcd g2
  rw [← hG1] at g1 c1 ⊢
  rw [← hG2] at g2 c2 ⊢
  have en : N / G1 = n := by rw [hn, Nat.mul_div_cancel_left _ g1]
  have ed : D / G1 = d := by rw [hd, Nat.mul_div_cancel_left _ g1]
  have ey : Y / G2 = y := by rw [hy, Nat.mul_div_cancel_left _ g2]
  have ew : W / G2 = w := by rw [hw, Nat.mul_div_cancel_left _ g2]
  rw [en, ed] at c1
  rw [ey, ew] at c2
  rw [en, ed, ey, ew]
  have hx : n * w = y * d := by
    have : (G1 * G2) * (n * w) = (G1 * G2) * (y * d) := by
      have e1 : (G1 * n) * (G2 * w) = (G2 * y) * (G1 * d) := by rw [← hn, ← hw, ← hy, ← hd]; exact h
      calc (G1 * G2) * (n * w) = (G1 * n) * (G2 * w) := by ac_rfl
        _ = (G2 * y) * (G1 * d) := e1
        _ = (G1 * G2) * (y * d) := by ac_rfl
    exact Nat.eq_of_mul_eq_mul_left (Nat.mul_pos g1 g2) this
  have hwp : 0 < w := by
    apply Nat.pos_of_ne_zero
    intro z
    rw [z, Nat.mul_zero] at hw
    omega
  have hdw : d = w := Nat.dvd_antisymm (Nat.Coprime.dvd_of_dvd_mul_left c1.symm ⟨y, by rw [hx, Nat.mul_comm]⟩) (Nat.Coprime.dvd_of_dvd_mul_left c2.symm ⟨n, by rw [← hx, Nat.mul_comm]⟩)
  refine ⟨?_, hdw⟩
  rw [hdw] at hx
  exact Nat.eq_of_mul_eq_mul_right hwp hx
/-- above and below of X over W in lowest form -/
def fA (W X : Nat) : Nat := X / Nat.gcd X W
def fB (W X : Nat) : Nat := W / Nat.gcd X W
theorem fA_le {W X : Nat} : fA W X ≤ X := Nat.div_le_self _ _
theorem fB_le {W X : Nat} : fB W X ≤ W := Nat.div_le_self _ _
theorem fB_pos {W X : Nat} (hW : 0 < W) : 0 < fB W X := Nat.div_pos (Nat.le_of_dvd hW (Nat.gcd_dvd_right X W)) (Nat.gcd_pos_of_pos_right X hW)
theorem fB_dvd {W X : Nat} : fB W X ∣ W := ⟨Nat.gcd X W, (Nat.div_mul_cancel (Nat.gcd_dvd_right X W)).symm⟩
theorem f_cross {W X : Nat} (hW : 0 < W) : fA W X * W = X * fB W X := by
  have g2 : 0 < Nat.gcd X W := Nat.gcd_pos_of_pos_right X hW
  have e1 : fA W X * Nat.gcd X W = X := Nat.div_mul_cancel (Nat.gcd_dvd_left X W)
  have e2 : fB W X * Nat.gcd X W = W := Nat.div_mul_cancel (Nat.gcd_dvd_right X W)
  calc fA W X * W = fA W X * (fB W X * Nat.gcd X W) := by rw [e2]
    _ = (fA W X * Nat.gcd X W) * fB W X := by ac_rfl
    _ = X * fB W X := by rw [e1]
theorem c_addFraction {cab cbl : Nat → Int64} {W P Y N D p : Nat} (hp : p < 12) (hW : 0 < W) (hW2 : W < 2 ^ 62) (hA : cab p = lN (fA W P)) (hB : cbl p = lN (fB W P)) (hN : N * W = Y * D) (hD : 0 < D) (hN2 : N < 2 ^ 62) (hD2 : D < 2 ^ 62) (hPY : P + Y < 2 ^ 62) :
    f_X1_addFraction cab cbl (nI p) (lN N) (lN D) = some (vp_updL cab p (lN (fA W (P + Y))), vp_updL cbl p (lN (fB W (P + Y)))) := by
  have g1 : 0 < Nat.gcd N D := Nat.gcd_pos_of_pos_right N hD
  obtain ⟨q1, q2⟩ := fr_eq hN hD hW
  have q1 : N / Nat.gcd N D = fA W Y := q1
  have q2 : D / Nat.gcd N D = fB W Y := q2
  have hgl : Nat.gcd N D < 2 ^ 62 := Nat.lt_of_le_of_lt (Nat.le_of_dvd hD (Nat.gcd_dvd_right N D)) hD2
  have bP := fB_pos (X := P) hW
  have bY := fB_pos (X := Y) hW
  have bPl : fB W P ≤ W := fB_le
  have bYl : fB W Y ≤ W := fB_le
  have aYl : fA W Y ≤ Y := fA_le
  have g3 : 0 < Nat.gcd (fB W P) (fB W Y) := Nat.gcd_pos_of_pos_right _ bY
  have hg3 : Nat.gcd (fB W P) (fB W Y) ≤ fB W P := Nat.le_of_dvd bP (Nat.gcd_dvd_left _ _)
  obtain ⟨l, hl⟩ : ∃ z, z = fB W P / Nat.gcd (fB W P) (fB W Y) * fB W Y := ⟨_, rfl⟩
  have hll : l = Nat.lcm (fB W P) (fB W Y) := by
    rw [hl]
    unfold Nat.lcm
    rw [Nat.div_mul_right_comm (Nat.gcd_dvd_left _ _)]
  have hld : l ∣ W := hll ▸ Nat.lcm_dvd fB_dvd fB_dvd
  have hlW : l ≤ W := Nat.le_of_dvd hW hld
  have hl0 : 0 < l := Nat.pos_of_dvd_of_pos hld hW
  have e1 : fB W P * (l / fB W P) = l := Nat.mul_div_cancel' (hll ▸ Nat.dvd_lcm_left _ _)
  have e2 : fB W Y * (l / fB W Y) = l := Nat.mul_div_cancel' (hll ▸ Nat.dvd_lcm_right _ _)
  obtain ⟨u, hu⟩ : ∃ z, z = fA W P * (l / fB W P) + fA W Y * (l / fB W Y) := ⟨_, rfl⟩
  have hnum : u * W = (P + Y) * l := by
    have k1 : fA W P * (l / fB W P) * W = P * l := by
      calc fA W P * (l / fB W P) * W = (fA W P * W) * (l / fB W P) := by ac_rfl
        _ = (P * fB W P) * (l / fB W P) := by rw [f_cross hW]
        _ = P * (fB W P * (l / fB W P)) := by ac_rfl
        _ = P * l := by rw [e1]
    have k2 : fA W Y * (l / fB W Y) * W = Y * l := by
      calc fA W Y * (l / fB W Y) * W = (fA W Y * W) * (l / fB W Y) := by ac_rfl
        _ = (Y * fB W Y) * (l / fB W Y) := by rw [f_cross hW]
        _ = Y * (fB W Y * (l / fB W Y)) := by ac_rfl
        _ = Y * l := by rw [e2]
    rw [hu, Nat.add_mul, Nat.add_mul, k1, k2]
  have hub : u ≤ P + Y := by
    have : u * W ≤ (P + Y) * W := by rw [hnum]; exact Nat.mul_le_mul_left _ hlW
    exact Nat.le_of_mul_le_mul_right this hW
  have g4 : 0 < Nat.gcd u l := Nat.gcd_pos_of_pos_right u hl0
  have hg4 : Nat.gcd u l ≤ l := Nat.le_of_dvd hl0 (Nat.gcd_dvd_right u l)
  obtain ⟨q3, q4⟩ := fr_eq hnum hl0 hW
  unfold f_X1_addFraction
  rw [c_gcd hN2 hD2 g1, Option.bind_some, c_floor hN2 g1 hgl, Option.bind_some, c_floor hD2 g1 hgl, Option.bind_some, q1, q2]
  rw [ck_nI hp (by decide), ck_nI hp (by decide), nI_clamp (by omega), hA, hB]
  rw [c_gcd (by omega) (by omega) g3, Option.bind_some, c_floor (by omega) g3 (by omega), Option.bind_some]
  rw [ck_nI hp (by decide), ck_nI hp (by decide), lN_mul, ← hl, c_floor (by omega) bP (by omega), Option.bind_some, c_floor (by omega) bY (by omega), Option.bind_some, lN_mul, lN_mul, lN_add, ← hu]
  rw [c_gcd (by omega) (by omega) g4, Option.bind_some, c_floor (by omega) g4 (by omega), Option.bind_some, ck_nI hp (by decide), c_floor (by omega) g4 (by omega), Option.bind_some, ck_nI hp (by decide), q3, q4]
  rfl
