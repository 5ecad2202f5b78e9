/-! ===== the pure side: the reference's depths ===== -/
/-- the recipes' needs as the reference holds them -/
def MR (mns mng : Nat → Int32) (S g : Nat → Nat) : Prop := GW S g ∧ ∀ p, p < 12 → mns p = nI (S p) ∧ ∀ k, k < S p → mng (4 * p + k) = nI (g (4 * p + k))
theorem m_place (p k : Nat) : (4 : Int32) * nI p + nI k = nI (4 * p + k) := by
  rw [show (4 : Int32) = nI 4 from rfl, pk_mul, nI_add]
/-- m2 is m with p's needs from the k-th on, if m has p -/
def Sw (S g : Nat → Nat) (p k m a a2 : Nat) : Prop := a2 < 4096 ∧ ∀ i, a2.testBit i = true ↔ a.testBit i = true ∨ (m.testBit p = true ∧ ∃ z, k ≤ z ∧ z < S p ∧ g (4 * p + z) = i)
theorem Sw_0 {S g : Nat → Nat} {p k m a : Nat} (ha : a < 4096) (h : ¬ m.testBit p = true ∨ S p ≤ k) : Sw S g p k m a a := by
  refine ⟨ha, fun i => ⟨Or.inl, fun q => q.elim id (fun z => ?_)⟩⟩
  obtain ⟨z1, z, z2, z3, z4⟩ := z
  exact absurd z1 (h.elim id (fun w => by omega))
theorem Sw_1 {S g : Nat → Nat} {p k m a a2 : Nat} (hm : m.testBit p = true) (hk : k < S p) (h : Sw S g p (k + 1) m (a ||| 2 ^ g (4 * p + k)) a2) : Sw S g p k m a a2 := by
  refine ⟨h.1, fun i => ?_⟩
  rw [h.2 i, tb_or]
  constructor
  · rintro ((q | q) | ⟨q1, z, z1, z2, z3⟩)
    · exact Or.inl q
    · exact Or.inr ⟨hm, k, Nat.le_refl _, hk, q.symm⟩
    · exact Or.inr ⟨q1, z, by omega, z2, z3⟩
  · rintro (q | ⟨q1, z, z1, z2, z3⟩)
    · exact Or.inl (Or.inl q)
    · by_cases e : z = k
      · subst e; exact Or.inl (Or.inr z3.symm)
      · exact Or.inr ⟨q1, z, by omega, z2, z3⟩
theorem leads_L27 {mns mng : Nat → Int32} {S g : Nat → Nat} (h : MR mns mng S g) {p : Nat} (hp : p < 12) (k7 k17 : Int32 → Int32 → Option Int32) : ∀ (d k : Nat), k + d = S p → ∀ (n m : Nat), d < n → m < 4096 →
    ∃ m2, f_X7_leads_L27 mns mng (nI p) k7 k17 n (nI m) (nI k) = k17 (nI m2) (nI (p + 1)) ∧ Sw S g p k m m m2 := by
  intro d
  have h4 := (h.1 p hp).1
  induction d with
  | zero =>
    intro k hk n m hn hm
    obtain ⟨q, rfl⟩ : ∃ z, n = z + 1 := ⟨n - 1, by omega⟩
    refine ⟨m, ?_, Sw_0 hm (Or.inr (by omega))⟩
    unfold f_X7_leads_L27
    rw [ck_nI hp (by decide), nI_clamp (by omega), (h.2 p hp).1, if_pos (nI_le (by omega) (by omega)), nI_1]
  | succ d ih =>
    intro k hk n m hn hm
    obtain ⟨q, rfl⟩ : ∃ z, n = z + 1 := ⟨n - 1, by omega⟩
    have hg := (h.1 p hp).2 k (by omega)
    by_cases hb : m.testBit p = true
    · obtain ⟨m2, e1, e2⟩ := ih (k + 1) (by omega) q (m ||| 2 ^ g (4 * p + k)) (by omega) (or_4096 hm hg)
      refine ⟨m2, ?_, Sw_1 hb (by omega) ⟨e2.1, fun i => ?_⟩⟩
      · unfold f_X7_leads_L27
        rw [ck_nI hp (by decide), nI_clamp (by omega), (h.2 p hp).1, if_neg (nI_ge (by omega) (by omega)), if_pos ((m_bit (by omega) hp).mpr hb), m_place, ck_nI (by omega) (by decide), nI_clamp (by omega), (h.2 p hp).2 k (by omega), m_or hm hg, nI_1]
        exact e1
      · rw [e2.2 i]
        have : (m ||| 2 ^ g (4 * p + k)).testBit p = true := tb_or.mpr (Or.inl hb)
        constructor
        · rintro (z | ⟨z1, z⟩)
          · exact Or.inl z
          · exact Or.inr ⟨hb, z⟩
        · rintro (z | ⟨z1, z⟩)
          · exact Or.inl z
          · exact Or.inr ⟨this, z⟩
    · refine ⟨m, ?_, Sw_0 hm (Or.inl hb)⟩
      unfold f_X7_leads_L27
      rw [ck_nI hp (by decide), nI_clamp (by omega), (h.2 p hp).1, if_neg (nI_ge (by omega) (by omega)), if_neg (fun z => hb ((m_bit (by omega) hp).mp z)), nI_1]
theorem leads_L17 {mns mng : Nat → Int32} {S g : Nat → Nat} (h : MR mns mng S g) {r : Nat} (k7 : Int32 → Int32 → Option Int32) (Inv : Nat → Nat → Prop) (hI : ∀ p m m2, p < 12 → m < 4096 → Inv p m → Sw S g p 0 m m m2 → Inv (p + 1) m2) : ∀ (d p : Nat), p + d = 12 → ∀ (n m : Nat), d < n → m < 4096 → Inv p m →
    ∃ m2, f_X7_leads_L17 mns mng (nI r) k7 n (nI m) (nI p) = k7 (nI m2) (nI (r + 1)) ∧ m2 < 4096 ∧ Inv 12 m2 := by
  intro d
  induction d with
  | zero =>
    intro p hp n m hn hm hv
    obtain ⟨q, rfl⟩ : ∃ z, n = z + 1 := ⟨n - 1, by omega⟩
    refine ⟨m, ?_, hm, by rw [show p = 12 by omega] at hv; exact hv⟩
    unfold f_X7_leads_L17
    rw [show p = 12 by omega, if_pos (by decide), nI_1]
  | succ d ih =>
    intro p hp n m hn hm hv
    obtain ⟨q, rfl⟩ : ∃ z, n = z + 1 := ⟨n - 1, by omega⟩
    obtain ⟨m1, a1, a2⟩ := leads_L27 h (show p < 12 by omega) k7 (fun x3 x5 => f_X7_leads_L17 mns mng (nI r) k7 q x3 x5) (S p) 0 (by omega) FU m (Nat.lt_of_le_of_lt (h.1 p (by omega)).1 (by decide)) hm
    obtain ⟨m2, b1, b2, b3⟩ := ih (p + 1) (by omega) q m1 (by omega) a2.1 (hI p m m1 (by omega) hm hv a2)
    refine ⟨m2, ?_, b2, b3⟩
    unfold f_X7_leads_L17
    rw [show (12 : Int32) = nI 12 from rfl, if_neg (nI_ge (by omega) (by omega))]
    exact a1.trans b1
theorem leads_L7 {mns mng : Nat → Int32} {S g : Nat → Nat} (h : MR mns mng S g) {b : Nat} (hb : b < 12) (Inv : Nat → Nat → Nat → Prop) (hI : ∀ r p m m2, p < 12 → m < 4096 → Inv r p m → Sw S g p 0 m m m2 → Inv r (p + 1) m2) (hJ : ∀ r m, Inv r 12 m → Inv (r + 1) 0 m) : ∀ (d r : Nat), r + d = 12 → ∀ (n m : Nat), d < n → m < 4096 → Inv r 0 m →
    ∃ m2, f_X7_leads_L7 mns mng (nI b) n (nI m) (nI r) = some (if m2.testBit b = true then 1 else 0) ∧ m2 < 4096 ∧ Inv 12 0 m2 := by
  intro d
  induction d with
  | zero =>
    intro r hr n m hn hm hv
    obtain ⟨q, rfl⟩ : ∃ z, n = z + 1 := ⟨n - 1, by omega⟩
    refine ⟨m, ?_, hm, by rw [show r = 12 by omega] at hv; exact hv⟩
    unfold f_X7_leads_L7
    rw [show r = 12 by omega, if_pos (by decide)]
    by_cases e : m.testBit b = true
    · rw [if_pos ((m_bit (by omega) hb).mpr e), if_pos e]
    · rw [if_neg (fun z => e ((m_bit (by omega) hb).mp z)), if_neg e]
  | succ d ih =>
    intro r hr n m hn hm hv
    obtain ⟨q, rfl⟩ : ∃ z, n = z + 1 := ⟨n - 1, by omega⟩
    obtain ⟨m1, a1, a2, a3⟩ := leads_L17 h (r := r) (fun x3 x4 => f_X7_leads_L7 mns mng (nI b) q x3 x4) (Inv r) (hI r) 12 0 (by omega) FU m (by decide) hm hv
    obtain ⟨m2, b1, b2, b3⟩ := ih (r + 1) (by omega) q m1 (by omega) a2 (hJ r m1 a3)
    refine ⟨m2, ?_, b2, b3⟩
    unfold f_X7_leads_L7
    rw [show (12 : Int32) = nI 12 from rfl, if_neg (nI_ge (by omega) (by omega))]
    exact a1.trans b1
/-- what is kept while the goods that a leads to are gathered: e goes down along the needs; d is the depth -/
def LInv (S g d : Nat → Nat) (a r p m : Nat) : Prop :=
  m.testBit a = true ∧ (∀ e : Nat → Nat, (∀ p, p < 12 → ∀ k, k < S p → e (g (4 * p + k)) < e p) → ∀ i, m.testBit i = true → e i ≤ e a) ∧
    ∀ i, i < 12 → m.testBit i = true → (4 ≤ d i + r ∨ (i < p ∧ 4 ≤ d i + r + 1)) → ∀ k, k < S i → m.testBit (g (4 * i + k)) = true
theorem LInv_step {S g d : Nat → Nat} (hD : IsD S g d) {a r p m m2 : Nat} (hp : p < 12) (hm : m < 4096) (h : LInv S g d a r p m) (hs : Sw S g p 0 m m m2) : LInv S g d a r (p + 1) m2 := by
  obtain ⟨h1, h2, h3⟩ := h
  have hup : ∀ i, m.testBit i = true → m2.testBit i = true := fun i q => (hs.2 i).mpr (Or.inl q)
  refine ⟨hup a h1, fun e he i hi => ?_, fun i hi12 hi hc k hk => ?_⟩
  · rcases (hs.2 i).mp hi with q | ⟨q1, z, -, z2, z3⟩
    · exact h2 e he i q
    · have a1 := he p hp z z2
      have a2 := h2 e he p q1
      rw [z3] at a1
      omega
  · rcases (hs.2 i).mp hi with q | ⟨q1, z, -, z2, z3⟩
    · by_cases e : i = p
      · subst e
        exact (hs.2 _).mpr (Or.inr ⟨q, k, Nat.zero_le _, hk, rfl⟩)
      · exact hup _ (h3 i hi12 q (by omega) k hk)
    · by_cases q : m.testBit i = true
      · by_cases e : i = p
        · subst e
          exact (hs.2 _).mpr (Or.inr ⟨q, k, Nat.zero_le _, hk, rfl⟩)
        · exact hup _ (h3 i hi12 q (by omega) k hk)
      · exfalso
        by_cases c : 4 ≤ d p + r
        · have := h3 p hp q1 (Or.inl c) z z2
          rw [z3] at this
          exact q this
        · have := hD.need hp z2
          rw [z3] at this
          omega
theorem LInv_next {S g d : Nat → Nat} {a r m : Nat} (h : LInv S g d a r 12 m) : LInv S g d a (r + 1) 0 m := by
  obtain ⟨h1, h2, h3⟩ := h
  exact ⟨h1, h2, fun i hi12 hi hc => h3 i hi12 hi (by omega)⟩
/-- what leads answers: b is among m; m is closed, has a, and goes down -/
theorem m_leads {mns mng : Nat → Int32} {S g d : Nat → Nat} (h : MR mns mng S g) (hD : IsD S g d) (h3 : ∀ p, p < 12 → d p ≤ 3) {a b : Nat} (ha : a < 12) (hb : b < 12) :
    ∃ m, f_X7_leads mns mng (nI a) (nI b) = some (if m.testBit b = true then 1 else 0) ∧ LInv S g d a 12 0 m := by
  have h0 : LInv S g d a 0 0 (2 ^ a) := by
    have hb : ∀ i, (2 ^ a).testBit i = true → i = a := fun i q => by
      rw [Nat.testBit_two_pow, decide_eq_true_iff] at q
      exact q.symm
    refine ⟨by rw [Nat.testBit_two_pow, decide_eq_true_iff], fun e he i hi => by rw [hb i hi]; exact Nat.le_refl _, fun i hi12 hi hc => ?_⟩
    have := h3 i hi12
    omega
  have hlt : 2 ^ a < 4096 := Nat.pow_lt_pow_right (a := 2) (n := 12) (by decide) ha
  obtain ⟨m, e1, e2, e3⟩ := leads_L7 h hb (LInv S g d a) (fun r p m m2 hp hm hv hs => LInv_step hD hp hm hv hs) (fun r m hv => LInv_next hv) 12 0 (by omega) FU (2 ^ a) (by decide) hlt h0
  refine ⟨m, ?_, e3⟩
  unfold f_X7_leads
  rw [m_one ha]
  exact e1
/-! depthOf -/
theorem depth_L26 {mns mng : Nat → Int32} {S g : Nat → Nat} (h : MR mns mng S g) {p m : Nat} (hp : p < 12) (hm : m < 4096) (k6 k16 : Int32 → Int32 → Option Int32) : ∀ (d k : Nat), k + d = S p → ∀ (n a : Nat), d < n → a < 4096 →
    ∃ a2, f_X7_depthOf_L26 mns mng (nI m) (nI p) k6 k16 n (nI a) (nI k) = k16 (nI a2) (nI (p + 1)) ∧ Sw S g p k m a a2 := by
  intro d
  have h4 := (h.1 p hp).1
  induction d with
  | zero =>
    intro k hk n a hn ha
    obtain ⟨q, rfl⟩ : ∃ z, n = z + 1 := ⟨n - 1, by omega⟩
    refine ⟨a, ?_, Sw_0 ha (Or.inr (by omega))⟩
    unfold f_X7_depthOf_L26
    rw [ck_nI hp (by decide), nI_clamp (by omega), (h.2 p hp).1, if_pos (nI_le (by omega) (by omega)), nI_1]
  | succ d ih =>
    intro k hk n a hn ha
    obtain ⟨q, rfl⟩ : ∃ z, n = z + 1 := ⟨n - 1, by omega⟩
    have hg := (h.1 p hp).2 k (by omega)
    by_cases hb : m.testBit p = true
    · obtain ⟨a2, e1, e2⟩ := ih (k + 1) (by omega) q (a ||| 2 ^ g (4 * p + k)) (by omega) (or_4096 ha hg)
      refine ⟨a2, ?_, Sw_1 hb (by omega) e2⟩
      unfold f_X7_depthOf_L26
      rw [ck_nI hp (by decide), nI_clamp (by omega), (h.2 p hp).1, if_neg (nI_ge (by omega) (by omega)), if_pos ((m_bit (by omega) hp).mpr hb), m_place, ck_nI (by omega) (by decide), nI_clamp (by omega), (h.2 p hp).2 k (by omega), m_or ha hg, nI_1]
      exact e1
    · refine ⟨a, ?_, Sw_0 ha (Or.inl hb)⟩
      unfold f_X7_depthOf_L26
      rw [ck_nI hp (by decide), nI_clamp (by omega), (h.2 p hp).1, if_neg (nI_ge (by omega) (by omega)), if_neg (fun z => hb ((m_bit (by omega) hp).mp z)), nI_1]
theorem depth_L16 {mns mng : Nat → Int32} {S g : Nat → Nat} (h : MR mns mng S g) {m : Nat} (hm : m < 4096) (x3 : Int32) (k6 : Int32 → Int32 → Option Int32) : ∀ (d p : Nat), p + d = 12 → ∀ (n a : Nat), d < n → a < 4096 →
    ∃ a2, f_X7_depthOf_L16 mns mng (nI m) x3 k6 n (nI a) (nI p) = k6 (nI a2) (x3 + 1) ∧ a2 < 4096 ∧ ∀ i, a2.testBit i = true ↔ a.testBit i = true ∨ ∃ z, p ≤ z ∧ z < 12 ∧ m.testBit z = true ∧ ∃ k, k < S z ∧ g (4 * z + k) = i := by
  intro d
  induction d with
  | zero =>
    intro p hp n a hn ha
    obtain ⟨q, rfl⟩ : ∃ z, n = z + 1 := ⟨n - 1, by omega⟩
    refine ⟨a, ?_, ha, fun i => ⟨Or.inl, fun w => w.elim id (fun ⟨z, z1, z2, _⟩ => by omega)⟩⟩
    unfold f_X7_depthOf_L16
    rw [show p = 12 by omega, if_pos (by decide)]
  | succ d ih =>
    intro p hp n a hn ha
    obtain ⟨q, rfl⟩ : ∃ z, n = z + 1 := ⟨n - 1, by omega⟩
    obtain ⟨a1, c1, c2⟩ := depth_L26 h (show p < 12 by omega) hm k6 (fun x4 x5 => f_X7_depthOf_L16 mns mng (nI m) x3 k6 q x4 x5) (S p) 0 (by omega) FU a (Nat.lt_of_le_of_lt (h.1 p (by omega)).1 (by decide)) ha
    obtain ⟨a2, b1, b2, b3⟩ := ih (p + 1) (by omega) q a1 (by omega) c2.1
    refine ⟨a2, ?_, b2, fun i => ?_⟩
    · unfold f_X7_depthOf_L16
      rw [show (12 : Int32) = nI 12 from rfl, if_neg (nI_ge (by omega) (by omega))]
      exact c1.trans b1
    · rw [b3 i, c2.2 i]
      constructor
      · rintro ((w | ⟨w1, z, z1, z2, z3⟩) | ⟨z, z1, z2, z3⟩)
        · exact Or.inl w
        · exact Or.inr ⟨p, Nat.le_refl _, by omega, w1, z, z2, z3⟩
        · exact Or.inr ⟨z, by omega, z2, z3⟩
      · rintro (w | ⟨z, z1, z2, z3, k, k1, k2⟩)
        · exact Or.inl (Or.inl w)
        · by_cases e : z = p
          · subst e; exact Or.inl (Or.inr ⟨z3, k, Nat.zero_le _, k1, k2⟩)
          · exact Or.inr ⟨z, by omega, z2, z3, k, k1, k2⟩
theorem depth_L6 {mns mng : Nat → Int32} {S g d : Nat → Nat} (h : MR mns mng S g) (hD : IsD S g d) : ∀ (t n m : Nat) (x3 : Int32), t + 1 < n → m < 4096 → (∀ i, m.testBit i = true → d i ≤ t) → (∃ i, m.testBit i = true ∧ d i = t) →
    f_X7_depthOf_L6 mns mng n (nI m) x3 = some (x3 + 1 + nI t) := by
  intro t
  have hne : ∀ m, m < 4096 → (∃ i, m.testBit i = true ∧ True) → ¬ nI m = 0 := fun m hm ⟨i, hi, _⟩ q => by
    have : m = 0 := (nI_eq (by omega) (by decide)).mp q
    rw [this, Nat.zero_testBit] at hi
    exact absurd hi (by decide)
  induction t with
  | zero =>
    intro n m x3 hn hm h1 h2
    obtain ⟨q, rfl⟩ : ∃ z, n = z + 2 := ⟨n - 2, by omega⟩
    obtain ⟨i, hi, -⟩ := h2
    obtain ⟨a2, b1, b2, b3⟩ := depth_L16 h hm x3 (fun x2 x3 => f_X7_depthOf_L6 mns mng (q + 1) x2 x3) 12 0 (by omega) FU 0 (by decide) (by decide)
    have ha : a2 = 0 := tb_0 (fun i hi => by
      rcases (b3 i).mp hi with w | ⟨z, z1, z2, z3, k, k1, k2⟩
      · rw [Nat.zero_testBit] at w; exact absurd w (by decide)
      · have := hD.need z2 k1
        have := h1 z z3
        omega)
    unfold f_X7_depthOf_L6
    rw [if_neg (hne m hm ⟨i, hi, trivial⟩)]
    refine b1.trans ?_
    rw [ha]
    show f_X7_depthOf_L6 mns mng (q + 1) (nI 0) (x3 + 1) = _
    unfold f_X7_depthOf_L6
    rw [if_pos (show nI 0 = 0 from rfl), show nI 0 = 0 from rfl, Int32.add_zero]
  | succ t ih =>
    intro n m x3 hn hm h1 h2
    obtain ⟨q, rfl⟩ : ∃ z, n = z + 1 := ⟨n - 1, by omega⟩
    obtain ⟨i, hi, hit⟩ := h2
    have hi12 := tb_lt hm hi
    obtain ⟨a2, b1, b2, b3⟩ := depth_L16 h hm x3 (fun x2 x3 => f_X7_depthOf_L6 mns mng q x2 x3) 12 0 (by omega) FU 0 (by decide) (by decide)
    unfold f_X7_depthOf_L6
    rw [if_neg (hne m hm ⟨i, hi, trivial⟩)]
    refine b1.trans ?_
    show f_X7_depthOf_L6 mns mng q (nI a2) (x3 + 1) = _
    have r1 : ∀ j, a2.testBit j = true → d j ≤ t := by
      intro j hj
      rcases (b3 j).mp hj with w | ⟨z, z1, z2, z3, k, k1, k2⟩
      · rw [Nat.zero_testBit] at w; exact absurd w (by decide)
      · have c1 := hD.need z2 k1
        have c2 := h1 z z3
        rw [k2] at c1
        omega
    have r2 : ∃ j, a2.testBit j = true ∧ d j = t := by
      have hm2 := hD i hi12
      obtain ⟨k, k1, k2⟩ := mxk_ex (f := fun k => 1 + d (g (4 * i + k))) (n := S i) (by show 0 < mx S g d i; omega)
      have k2 : 1 + d (g (4 * i + k)) = mx S g d i := k2
      exact ⟨g (4 * i + k), (b3 _).mpr (Or.inr ⟨i, Nat.zero_le _, hi12, hi, k, k1, rfl⟩), by omega⟩
    rw [ih q a2 (x3 + 1) (by omega) b2 r1 r2, ← nI_1, Int32.add_assoc (x3 + 1) 1, Int32.add_comm 1 (nI t)]
theorem m_depthOf {mns mng : Nat → Int32} {S g d : Nat → Nat} (h : MR mns mng S g) (hD : IsD S g d) {p : Nat} (hp : p < 12) (hd : d p < 900) : f_X7_depthOf mns mng (nI p) = some (nI (d p)) := by
  unfold f_X7_depthOf
  have hlt : 2 ^ p < 4096 := Nat.pow_lt_pow_right (a := 2) (n := 12) (by decide) hp
  rw [m_one hp, depth_L6 h hD (d p) FU (2 ^ p) (-1) (Nat.lt_of_le_of_lt (show d p + 1 ≤ 900 by omega) (by decide)) hlt (fun i hi => by
    rw [Nat.testBit_two_pow, decide_eq_true_iff] at hi
    rw [hi]; exact Nat.le_refl _) ⟨p, by rw [Nat.testBit_two_pow, decide_eq_true_iff], rfl⟩]
  rw [show (-1 : Int32) + 1 = 0 by decide, Int32.zero_add]
