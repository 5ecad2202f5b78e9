/-! ===== the pure side: made, its parts ===== -/
def gk (o : Nat → Nat) (p k : Nat) : Nat := if k = 0 then p else o (4 * p + (k - 1))
def am (a b : Nat → Nat) (p x k : Nat) : Nat := if k = 0 then x else x * a (4 * p + (k - 1)) / b (4 * p + (k - 1))
theorem gk_lt {T o a b : Nat → Nat} {osz ogd oup odn mby mbg mbu mbd : Nat → Int32} (h : RP T o a b osz ogd oup odn mby mbg mbu mbd) {p k : Nat} (hp : p < 12) (hk : k ≤ T p) : gk o p k < 12 := by
  unfold gk
  split
  · exact hp
  · exact ((h p hp).2.2.2 (k - 1) (by omega)).1
theorem am_le {T o a b : Nat → Nat} {osz ogd oup odn mby mbg mbu mbd : Nat → Int32} (h : RP T o a b osz ogd oup odn mby mbg mbu mbd) {p k x : Nat} (hp : p < 12) (hk : k ≤ T p) (hx : x ≤ 10000) : am a b p x k ≤ 120000 := by
  unfold am
  split
  · omega
  · obtain ⟨-, -, -, -, -, -, -, -, q, -, -⟩ := (h p hp).2.2.2 (k - 1) (by omega)
    exact Nat.le_trans (Nat.div_le_self _ _) (Nat.mul_le_mul hx q)
theorem m_amountOf {T o a b : Nat → Nat} {osz ogd oup odn mby mbg mbu mbd : Nat → Int32} (h : RP T o a b osz ogd oup odn mby mbg mbu mbd) {p k x : Nat} (hp : p < 12) (hk : k ≤ T p) (hx : x ≤ 10000) : f_X7_amountOf mbu mbd (nI p) (nI k) (nI x).toInt64 = some (lN (am a b p x k)) := by
  obtain ⟨h1, h2, h3, h4⟩ := h p hp
  unfold f_X7_amountOf am nzL
  rw [nI_l (show x < 2 ^ 31 by omega)]
  by_cases e : k = 0
  · rw [if_pos (show nI k = 0 by rw [e]; rfl), if_pos e]
  · rw [if_neg (nI_ne0 (by omega) (by omega)), if_neg e]
    obtain ⟨k', rfl⟩ : ∃ k', k = k' + 1 := ⟨k - 1, by omega⟩
    obtain ⟨-, -, -, -, q1, -, q2, q3, q4, q5, q6⟩ := h4 k' (by omega)
    have hm : x * a (4 * p + k') ≤ 10000 * 12 := Nat.mul_le_mul hx q4
    rw [show (2 : Int32) * nI p + nI (k' + 1) - 1 = nI (2 * p + k') by
      rw [show (2 : Int32) = nI 2 from rfl, pk_mul, nI_add, ← Nat.add_assoc, nI_pred], ck_nI (by omega) (by decide), ck_nI (by omega) (by decide), nI_clamp (by omega), q1, q2, nI_l (by omega), nI_l (by omega), if_neg (fun z => by have := (pk_lEQ (a := b (4 * p + k')) (b := 0) (by omega) (by decide)).mp z; omega), lN_mul, pk_lDiv (by omega) (by omega) (by omega)]
    rfl
theorem m_goodOf {T o a b : Nat → Nat} {osz ogd oup odn mby mbg mbu mbd : Nat → Int32} (h : RP T o a b osz ogd oup odn mby mbg mbu mbd) {p k : Nat} (hp : p < 12) (hk : k ≤ T p) : f_X7_goodOf mbg (nI p) (nI k) = some (nI (gk o p k)) := by
  obtain ⟨h1, h2, h3, h4⟩ := h p hp
  unfold f_X7_goodOf gk
  by_cases e : k = 0
  · rw [if_pos (show nI k = 0 by rw [e]; rfl), if_pos e]
  · rw [if_neg (nI_ne0 (by omega) (by omega)), if_neg e]
    obtain ⟨k', rfl⟩ : ∃ k', k = k' + 1 := ⟨k - 1, by omega⟩
    obtain ⟨-, -, q1, -⟩ := h4 k' (by omega)
    rw [show (2 : Int32) * nI p + nI (k' + 1) - 1 = nI (2 * p + k') by
      rw [show (2 : Int32) = nI 2 from rfl, pk_mul, nI_add, ← Nat.add_assoc, nI_pred], ck_nI (by omega) (by decide), nI_clamp (by omega), q1]
    rfl
theorem c_plan_loop {T o a b : Nat → Nat} {osz ogd oup odn mby mbg mbu mbd : Nat → Int32} (h : RP T o a b osz ogd oup odn mby mbg mbu mbd) {p x : Nat} (hp : p < 12) (hx : x ≤ 10000) : ∀ (c k : Nat), k + c = T p → ∀ (n : Nat) (bgd : Nat → Int32) (bam : Nat → Int64), c < n → (∀ j, j < k + 1 → bgd j = nI (gk o p j) ∧ bam j = lN (am a b p x j)) →
    ∃ bgd' bam', f_X0_plan_L23 osz ogd oup odn (nI p) (nI x) n bgd bam (nI (k + 1)) (nI k) = some (bgd', bam', nI (T p + 1)) ∧ ∀ j, j < T p + 1 → bgd' j = nI (gk o p j) ∧ bam' j = lN (am a b p x j) := by
  intro c
  obtain ⟨h1, h2, h3, h4⟩ := h p hp
  induction c with
  | zero =>
    intro k hk n bgd bam hn hB
    obtain ⟨m, rfl⟩ : ∃ z, n = z + 1 := ⟨n - 1, by omega⟩
    have hkT : k = T p := by omega
    refine ⟨bgd, bam, ?_, by rw [← hkT]; exact hB⟩
    unfold f_X0_plan_L23
    rw [ck_nI hp (by decide), nI_clamp (by omega), h2, if_pos (nI_le (by omega) (by omega)), hkT]
  | succ c ih =>
    intro k hk n bgd bam hn hB
    obtain ⟨m, rfl⟩ : ∃ z, n = z + 1 := ⟨n - 1, by omega⟩
    obtain ⟨q0, q1, -, q2, -, q3, -, q4, q5, q6, q7⟩ := h4 k (by omega)
    have hm : x * a (4 * p + k) ≤ 10000 * 12 := Nat.mul_le_mul hx q5
    have hg : f_X3_goodAt_o ogd (nI p) (nI k) = some (nI (gk o p (k + 1))) := by
      unfold f_X3_goodAt_o
      rw [c_place, Option.bind_some, ck_nI (by omega) (by decide), nI_clamp (by omega), q1]
      rfl
    have hr : f_X3_roundedDown_o oup odn (nI p) (nI k) (nI x) = some (lN (am a b p x (k + 1))) := by
      unfold f_X3_roundedDown_o
      rw [c_place, Option.bind_some, ck_nI (by omega) (by decide), ck_nI (by omega) (by decide), nI_clamp (by omega), q2, q3, nI_l (by omega), nI_l (by omega), nI_l (by omega), lN_mul, c_floor (by omega) (by omega) (by omega), Option.bind_some]
      rfl
    obtain ⟨bgd', bam', e1, e2⟩ := ih (k + 1) (by omega) m (upd bgd (k + 1) (nI (gk o p (k + 1)))) (vp_updL bam (k + 1) (lN (am a b p x (k + 1)))) (by omega) (fun j hj => by
      by_cases e : j = k + 1
      · subst e; rw [pk_us, pk_uLs]; exact ⟨rfl, rfl⟩
      · rw [pk_un e, pk_uLn e]; exact hB j (by omega))
    refine ⟨bgd', bam', ?_, e2⟩
    unfold f_X0_plan_L23
    rw [ck_nI hp (by decide), nI_clamp (by omega), h2, if_neg (nI_ge (by omega) (by omega)), if_neg (show ¬ (2 : Int32) < nI (k + 1) from nI_nlt (a := 2) (by omega) (by decide)), hg, Option.bind_some, ck_nI (by omega) (by decide), hr, Option.bind_some, ck_nI (by omega) (by decide), nI_clamp (by omega), nI_1, nI_1]
    exact e1
theorem c_plan {T o a b : Nat → Nat} {osz ogd oup odn mby mbg mbu mbd bgd : Nat → Int32} {bam : Nat → Int64} {bsz : Int32} (h : RP T o a b osz ogd oup odn mby mbg mbu mbd) {p x : Nat} (hp : p < 12) (hx : x ≤ 10000) :
    ∃ bgd' bam', f_X0_plan osz ogd oup odn bgd bam bsz (nI p) (nI x) = some (bgd', bam', nI (T p + 1)) ∧ ∀ j, j < T p + 1 → bgd' j = nI (gk o p j) ∧ bam' j = lN (am a b p x j) := by
  obtain ⟨bgd', bam', e1, e2⟩ := c_plan_loop h hp hx (T p) 0 (by omega) FU (upd bgd 0 (nI p)) (vp_updL bam 0 (lN x)) (Nat.lt_of_le_of_lt (h p hp).1 (by decide)) (fun j hj => by
    have : j = 0 := by omega
    subst this
    rw [pk_us, pk_uLs]
    exact ⟨rfl, rfl⟩)
  refine ⟨bgd', bam', ?_, e2⟩
  unfold f_X0_plan
  rw [show (0 : Int32) = nI 0 from rfl, ck_nI (by decide) (by decide), ck_nI (by decide) (by decide), nI_clamp (by decide), nI_l (by omega)]
  exact e1
/-- 1 for each that is made -/
def cf (a b : Nat → Nat) (p x k : Nat) : Nat := if am a b p x k = 0 then 0 else 1
theorem cf_le {a b : Nat → Nat} {p x : Nat} (n : Nat) : sumN (cf a b p x) n ≤ n * 1 := sumN_le (fun k _ => by unfold cf; split <;> omega)
theorem c_lots {a b : Nat → Nat} {bam : Nat → Int64} {p x N : Nat} (hN : N ≤ 3) (hb : ∀ j, j < N → bam j = lN (am a b p x j) ∧ am a b p x j ≤ 120000) : f_X0_lotsToAdd bam (nI N) = some (nI (sumN (cf a b p x) N)) := by
  have : ∀ (c i : Nat), i + c = N → ∀ n, c < n → f_X0_lotsToAdd_L4 bam (nI N) n (nI (sumN (cf a b p x) i)) (nI i) = some (nI (sumN (cf a b p x) N)) := by
    intro c
    induction c with
    | zero =>
      intro i hi n hn
      obtain ⟨m, rfl⟩ : ∃ z, n = z + 1 := ⟨n - 1, by omega⟩
      unfold f_X0_lotsToAdd_L4
      rw [if_pos (nI_le (by omega) (by omega)), show i = N by omega]
    | succ c ih =>
      intro i hi n hn
      obtain ⟨m, rfl⟩ : ∃ z, n = z + 1 := ⟨n - 1, by omega⟩
      obtain ⟨q1, q2⟩ := hb i (by omega)
      have e := ih (i + 1) (by omega) m (by omega)
      rw [show sumN (cf a b p x) (i + 1) = sumN (cf a b p x) i + cf a b p x i from rfl, ← nI_add] at e
      unfold f_X0_lotsToAdd_L4
      rw [if_neg (nI_ge (by omega) (by omega)), ck_nI (by omega) (by decide), nI_clamp (by omega), q1, nI_1 i]
      by_cases z : am a b p x i = 0
      · rw [z, if_pos (show lg_cmp (lN 0) 0 ≤ 0 by decide)]
        rw [show cf a b p x i = 0 from if_pos z] at e
        exact e
      · rw [if_neg (lc_pos (Nat.pos_of_ne_zero z) (by omega))]
        rw [show cf a b p x i = 1 from if_neg z] at e
        exact e
  exact this N 0 (by omega) FU (Nat.lt_of_le_of_lt hN (by decide))
/-- what is needed, rounded up -/
def nd (u w : Nat → Nat) (p x k : Nat) : Nat := (x * u (4 * p + k) + w (4 * p + k) - 1) / w (4 * p + k)
theorem nd_lt {S u w : Nat → Nat} (h : UW S u w) {p x k : Nat} (hp : p < 12) (hk : k < S p) (hx : x ≤ 10000) : nd u w p x k < 2 ^ 31 := by
  have := h p hp k hk
  have hm : x * u (4 * p + k) ≤ 10000 * 12 := Nat.mul_le_mul hx this.2.1
  refine Nat.lt_of_le_of_lt (Nat.div_le_self _ _) ?_
  omega
theorem c_rup {S g u w : Nat → Nat} {isz igd iup idn : Nat → Int32} (h : CU S g u w isz igd iup idn) {p x k : Nat} (hp : p < 12) (hk : k < S p) (hx : x ≤ 10000) : f_X3_roundedUp_i iup idn (nI p) (nI k) (nI x) = some (lN (nd u w p x k)) := by
  obtain ⟨a1, a2, a3, a4, a5, a6⟩ := h.2 p hp k hk
  have h4 := (h.1.1 p hp).1
  have hm : x * u (4 * p + k) ≤ 10000 * 12 := Nat.mul_le_mul hx a4
  unfold f_X3_roundedUp_i
  rw [c_place, Option.bind_some, ck_nI (by omega) (by decide), ck_nI (by omega) (by decide), nI_clamp (by omega), a1, a2, nI_l (by omega), nI_l (by omega), nI_l (by omega), lN_mul, c_ceil (by omega) (by omega) (by omega), Option.bind_some]
  rfl
theorem m_rup {S g u w : Nat → Nat} {mns mng mnu mnd : Nat → Int32} (h : MU S g u w mns mng mnu mnd) {p x k : Nat} (hp : p < 12) (hk : k < S p) (hx : x ≤ 10000) : f_X7_up ((nI x).toInt64 * (mnu (4 * p + k)).toInt64) ((mnd (4 * p + k)).toInt64) = some (lN (nd u w p x k)) := by
  obtain ⟨a1, a2, a3, a4, a5, a6⟩ := h.2 p hp k hk
  have hm : x * u (4 * p + k) ≤ 10000 * 12 := Nat.mul_le_mul hx a4
  rw [a1, a2, nI_l (by omega), nI_l (by omega), nI_l (by omega), lN_mul, m_up (by omega) (by omega) (by omega)]
  rfl
theorem stock_lt {lgd ldy : Nat → Int32} {llf ldb : Nat → Int64} {nl t : Nat} {G F B Y : Nat → Nat} (hnl : nl ≤ 200) (hX : LX lgd llf ldb ldy nl t G F B Y) (q : Nat) : sumN (gsum G F q) nl < 2 ^ 31 := by
  have h1 : sumN (gsum G F q) nl ≤ nl * 120000 := sumN_le (fun k hk => by
    unfold gsum
    split
    · exact (hX k hk).2.2.2.1
    · omega)
  have h2 : nl * 120000 ≤ 200 * 120000 := Nat.mul_le_mul_right _ hnl
  omega
theorem c_suffices {S g u w : Nat → Nat} {isz igd iup idn lgd ldy : Nat → Int32} {llf ldb : Nat → Int64} {nl t : Nat} {G F B Y : Nat → Nat} (h : CU S g u w isz igd iup idn) (hnl : nl ≤ 200) (hX : LX lgd llf ldb ldy nl t G F B Y) {p x : Nat} (hp : p < 12) (hx : x ≤ 10000) : ∀ (c k : Nat), k + c = S p → ∀ n, c < n →
    ((∀ z, k ≤ z → z < S p → nd u w p x z ≤ sumN (gsum G F (g (4 * p + z))) nl) ∧ f_X6_suffices_L11 isz igd iup idn lgd llf (nI nl) (nI p) (nI x) n (nI k) = some 1) ∨ ((¬ ∀ z, k ≤ z → z < S p → nd u w p x z ≤ sumN (gsum G F (g (4 * p + z))) nl) ∧ f_X6_suffices_L11 isz igd iup idn lgd llf (nI nl) (nI p) (nI x) n (nI k) = some 0) := by
  intro c
  have h4 := (h.1.1 p hp).1
  induction c with
  | zero =>
    intro k hk n hn
    obtain ⟨m, rfl⟩ : ∃ z, n = z + 1 := ⟨n - 1, by omega⟩
    refine Or.inl ⟨fun z z1 z2 => by omega, ?_⟩
    unfold f_X6_suffices_L11
    rw [ck_nI hp (by decide), nI_clamp (by omega), (h.1.2 p hp).1, if_pos (nI_le (by omega) (by omega))]
  | succ c ih =>
    intro k hk n hn
    obtain ⟨m, rfl⟩ : ∃ z, n = z + 1 := ⟨n - 1, by omega⟩
    have hks : k < S p := by omega
    have hg := (h.1.1 p hp).2 k hks
    have hn1 := nd_lt h.uw hp hks hx
    have hn2 := stock_lt hnl hX (g (4 * p + k))
    unfold f_X6_suffices_L11
    rw [ck_nI hp (by decide), nI_clamp (by omega), (h.1.2 p hp).1, if_neg (nI_ge (by omega) (by omega)), c_goodAt_i h.1 hp hks, Option.bind_some, c_stock hnl hg hX, Option.bind_some, c_rup h hp hks hx, Option.bind_some, nI_1]
    by_cases e : nd u w p x k ≤ sumN (gsum G F (g (4 * p + k))) nl
    · rw [if_pos (lc_ge.mpr ((pk_lLE (by omega) (by omega)).mpr e))]
      refine (ih (k + 1) (by omega) m (by omega)).imp (fun z => ⟨fun y y1 y2 => ?_, z.2⟩) (fun z => ⟨fun q => z.1 (fun y y1 y2 => q y (by omega) y2), z.2⟩)
      by_cases ey : y = k
      · rw [ey]; exact e
      · exact z.1 y (by omega) y2
    · rw [if_neg (fun z => e ((pk_lLE (by omega) (by omega)).mp (lc_ge.mp z)))]
      exact Or.inr ⟨fun q => e (q k (Nat.le_refl _) hks), rfl⟩
/-- the weights -/
def wtk (o a b V : Nat → Nat) (x3 : Int32) (p x k : Nat) : Nat := if x3 = 0 then am a b p x k else am a b p x k * V (gk o p k)
theorem c_weigh {T o a b V : Nat → Nat} {osz ogd oup odn mby mbg mbu mbd vl bgd : Nat → Int32} {bam bwt : Nat → Int64} {x3 : Int32} (h : RP T o a b osz ogd oup odn mby mbg mbu mbd) (hV : ∀ q, q < 12 → V q ≤ 10000 ∧ vl q = nI (V q)) {p x : Nat} (hp : p < 12) (hb : ∀ j, j < T p + 1 → bgd j = nI (gk o p j) ∧ bam j = lN (am a b p x j)) :
    ∃ bwt', f_X0_weigh vl bgd bam bwt (nI (T p + 1)) x3 = some bwt' ∧ ∀ k, k < T p + 1 → bwt' k = lN (wtk o a b V x3 p x k) := by
  have hT := (h p hp).1
  have : ∀ (c i : Nat), i + c = T p + 1 → ∀ (n : Nat) (bwt : Nat → Int64), c < n → (∀ k, k < i → bwt k = lN (wtk o a b V x3 p x k)) → ∃ bwt', f_X0_weigh_L2 vl bgd bam (nI (T p + 1)) x3 n bwt (nI i) = some bwt' ∧ ∀ k, k < T p + 1 → bwt' k = lN (wtk o a b V x3 p x k) := by
    intro c
    induction c with
    | zero =>
      intro i hi n bwt hn hB
      obtain ⟨m, rfl⟩ : ∃ z, n = z + 1 := ⟨n - 1, by omega⟩
      refine ⟨bwt, ?_, fun k hk => hB k (by omega)⟩
      unfold f_X0_weigh_L2
      rw [if_pos (nI_le (by omega) (by omega))]
    | succ c ih =>
      intro i hi n bwt hn hB
      obtain ⟨m, rfl⟩ : ∃ z, n = z + 1 := ⟨n - 1, by omega⟩
      obtain ⟨q1, q2⟩ := hb i (by omega)
      have hg := gk_lt h hp (show i ≤ T p by omega)
      obtain ⟨v1, v2⟩ := hV _ hg
      have hB' : ∀ k, k < i + 1 → vp_updL bwt i (lN (wtk o a b V x3 p x i)) k = lN (wtk o a b V x3 p x k) := fun k hk => by
        by_cases e : k = i
        · subst e; rw [pk_uLs]
        · rw [pk_uLn e]; exact hB k (by omega)
      have e := ih (i + 1) (by omega) m _ (by omega) hB'
      unfold f_X0_weigh_L2
      simp only [ck_nI (show i < 3 by omega) (show 3 < 2 ^ 31 by decide), nI_clamp (show i < 2 ^ 31 by omega), q1, q2, ck_nI hg (show 12 < 2 ^ 31 by decide), nI_clamp (show gk o p i < 2 ^ 31 by omega), v2, nI_l (show V (gk o p i) < 2 ^ 31 by omega), lN_mul, nI_1]
      rw [if_neg (nI_ge (by omega) (by omega))]
      unfold wtk at e ⊢
      by_cases z : x3 = 0
      · simp only [if_pos z] at e ⊢; exact e
      · simp only [if_neg z] at e ⊢; exact e
  exact this (T p + 1) 0 (by omega) FU bwt (Nat.lt_of_le_of_lt (show T p + 1 ≤ 3 by omega) (by decide)) (fun k hk => absurd hk (Nat.not_lt_zero k))
