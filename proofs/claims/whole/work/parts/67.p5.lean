/-! ===== the pure side: needs ===== -/
/-- the recipes' needs, by class and reference -/
def RN (S g u w : Nat → Nat) (isz igd iup idn mns mng mnu mnd : Nat → Int32) : Prop :=
  GW S g ∧ ∀ p, p < 12 → isz p = nI (S p) ∧ mns p = nI (S p) ∧ ∀ k, k < S p → igd (4 * p + k) = nI (g (4 * p + k)) ∧ mng (4 * p + k) = nI (g (4 * p + k)) ∧ iup (4 * p + k) = nI (u (4 * p + k)) ∧ mnu (4 * p + k) = nI (u (4 * p + k)) ∧ idn (4 * p + k) = nI (w (4 * p + k)) ∧ mnd (4 * p + k) = nI (w (4 * p + k)) ∧ 1 ≤ u (4 * p + k) ∧ u (4 * p + k) ≤ 12 ∧ 1 ≤ w (4 * p + k) ∧ w (4 * p + k) ≤ 12
def RI (isz igd iup idn dep mns mng mnu mnd : Nat → Int32) : Prop :=
  ∃ S g u w d : Nat → Nat, RN S g u w isz igd iup idn mns mng mnu mnd ∧ IsD S g d ∧ ∀ p, p < 12 → d p ≤ 3 ∧ dep p = nI (d p)
theorem RN.cr {S g u w : Nat → Nat} {isz igd iup idn mns mng mnu mnd : Nat → Int32} (h : RN S g u w isz igd iup idn mns mng mnu mnd) : CR isz igd S g := ⟨h.1, fun p hp => ⟨(h.2 p hp).1, fun k hk => ((h.2 p hp).2.2 k hk).1⟩⟩
theorem RN.mr {S g u w : Nat → Nat} {isz igd iup idn mns mng mnu mnd : Nat → Int32} (h : RN S g u w isz igd iup idn mns mng mnu mnd) : MR mns mng S g := ⟨h.1, fun p hp => ⟨(h.2 p hp).2.1, fun k hk => ((h.2 p hp).2.2 k hk).2.1⟩⟩
theorem c_told_loop {isz igd : Nat → Int32} {S g : Nat → Nat} (h : CR isz igd S g) {p q : Nat} (hp : p < 12) (hq : q < 12) : ∀ (d k : Nat), k + d = S p → ∀ n, d < n →
    ((∃ z, k ≤ z ∧ z < S p ∧ g (4 * p + z) = q) ∧ f_X3_isTold_i_L2 isz igd (nI p) (nI q) n (nI k) = some 1) ∨ ((¬ ∃ z, k ≤ z ∧ z < S p ∧ g (4 * p + z) = q) ∧ f_X3_isTold_i_L2 isz igd (nI p) (nI q) n (nI k) = some 0) := by
  intro d
  have h4 := (h.1 p hp).1
  induction d with
  | zero =>
    intro k hk n hn
    obtain ⟨m, rfl⟩ : ∃ z, n = z + 1 := ⟨n - 1, by omega⟩
    refine Or.inr ⟨fun ⟨z, z1, z2, z3⟩ => by omega, ?_⟩
    unfold f_X3_isTold_i_L2
    rw [ck_nI hp (by decide), nI_clamp (by omega), (h.2 p hp).1, if_pos (nI_le (by omega) (by omega))]
  | succ d ih =>
    intro k hk n hn
    obtain ⟨m, rfl⟩ : ∃ z, n = z + 1 := ⟨n - 1, by omega⟩
    have hg := (h.1 p hp).2 k (by omega)
    unfold f_X3_isTold_i_L2
    rw [ck_nI hp (by decide), nI_clamp (by omega), (h.2 p hp).1, if_neg (nI_ge (by omega) (by omega)), c_goodAt_i h hp (by omega), Option.bind_some, nI_1]
    by_cases e : g (4 * p + k) = q
    · rw [if_pos (by rw [e])]
      exact Or.inl ⟨⟨k, Nat.le_refl _, by omega, e⟩, rfl⟩
    · rw [if_neg (fun z => e ((nI_eq (by omega) (by omega)).mp z))]
      refine (ih (k + 1) (by omega) m (by omega)).imp (fun z => ⟨?_, z.2⟩) (fun z => ⟨?_, z.2⟩)
      · obtain ⟨⟨z, z1, z2, z3⟩, -⟩ := z
        exact ⟨z, by omega, z2, z3⟩
      · rintro ⟨y, y1, y2, y3⟩
        by_cases c : y = k
        · subst c; exact e y3
        · exact z.1 ⟨y, by omega, y2, y3⟩
theorem c_told {isz igd : Nat → Int32} {S g : Nat → Nat} (h : CR isz igd S g) {p q : Nat} (hp : p < 12) (hq : q < 12) :
    ((∃ z, z < S p ∧ g (4 * p + z) = q) ∧ f_X3_isTold_i isz igd (nI p) (nI q) = some 1) ∨ ((¬ ∃ z, z < S p ∧ g (4 * p + z) = q) ∧ f_X3_isTold_i isz igd (nI p) (nI q) = some 0) := by
  refine (c_told_loop h hp hq (S p) 0 (by omega) FU (Nat.lt_of_le_of_lt (h.1 p hp).1 (by decide))).imp (fun z => ⟨?_, z.2⟩) (fun z => ⟨?_, z.2⟩)
  · obtain ⟨⟨z, z1, z2, z3⟩, -⟩ := z
    exact ⟨z, z2, z3⟩
  · rintro ⟨y, y2, y3⟩
    exact z.1 ⟨y, Nat.zero_le _, y2, y3⟩
theorem m_told1 {mns mng : Nat → Int32} {S g : Nat → Nat} (h : MR mns mng S g) {p q : Nat} (hp : p < 12) : ∀ (d k : Nat), k + d = S p → ∀ n, d < n → f_X7_isNeed_L5 mns mng (nI p) (nI q) n 1 (nI k) = some 1 := by
  intro d
  have h4 := (h.1 p hp).1
  induction d with
  | zero =>
    intro k hk n hn
    obtain ⟨m, rfl⟩ : ∃ z, n = z + 1 := ⟨n - 1, by omega⟩
    unfold f_X7_isNeed_L5
    rw [ck_nI hp (by decide), nI_clamp (by omega), (h.2 p hp).1, if_pos (nI_le (by omega) (by omega))]
    rfl
  | succ d ih =>
    intro k hk n hn
    obtain ⟨m, rfl⟩ : ∃ z, n = z + 1 := ⟨n - 1, by omega⟩
    unfold f_X7_isNeed_L5
    rw [ck_nI hp (by decide), nI_clamp (by omega), (h.2 p hp).1, if_neg (nI_ge (by omega) (by omega)), if_neg (by decide), nI_1]
    exact ih (k + 1) (by omega) m (by omega)
theorem m_told_loop {mns mng : Nat → Int32} {S g : Nat → Nat} (h : MR mns mng S g) {p q : Nat} (hp : p < 12) (hq : q < 12) : ∀ (d k : Nat), k + d = S p → ∀ n, d < n →
    ((∃ z, k ≤ z ∧ z < S p ∧ g (4 * p + z) = q) ∧ f_X7_isNeed_L5 mns mng (nI p) (nI q) n 0 (nI k) = some 1) ∨ ((¬ ∃ z, k ≤ z ∧ z < S p ∧ g (4 * p + z) = q) ∧ f_X7_isNeed_L5 mns mng (nI p) (nI q) n 0 (nI k) = some 0) := by
  intro d
  have h4 := (h.1 p hp).1
  induction d with
  | zero =>
    intro k hk n hn
    obtain ⟨m, rfl⟩ : ∃ z, n = z + 1 := ⟨n - 1, by omega⟩
    refine Or.inr ⟨fun ⟨z, z1, z2, z3⟩ => by omega, ?_⟩
    unfold f_X7_isNeed_L5
    rw [ck_nI hp (by decide), nI_clamp (by omega), (h.2 p hp).1, if_pos (nI_le (by omega) (by omega))]
    rfl
  | succ d ih =>
    intro k hk n hn
    obtain ⟨m, rfl⟩ : ∃ z, n = z + 1 := ⟨n - 1, by omega⟩
    have hg := (h.1 p hp).2 k (by omega)
    unfold f_X7_isNeed_L5
    rw [ck_nI hp (by decide), nI_clamp (by omega), (h.2 p hp).1, if_neg (nI_ge (by omega) (by omega)), if_pos rfl, m_place, ck_nI (by omega) (by decide), nI_clamp (by omega), (h.2 p hp).2 k (by omega), nI_1]
    by_cases e : g (4 * p + k) = q
    · rw [if_pos (by rw [e])]
      exact Or.inl ⟨⟨k, Nat.le_refl _, by omega, e⟩, m_told1 h hp d (k + 1) (by omega) m (by omega)⟩
    · rw [if_neg (fun z => e ((nI_eq (by omega) (by omega)).mp z))]
      refine (ih (k + 1) (by omega) m (by omega)).imp (fun z => ⟨?_, z.2⟩) (fun z => ⟨?_, z.2⟩)
      · obtain ⟨⟨z, z1, z2, z3⟩, -⟩ := z
        exact ⟨z, by omega, z2, z3⟩
      · rintro ⟨y, y1, y2, y3⟩
        by_cases c : y = k
        · subst c; exact e y3
        · exact z.1 ⟨y, by omega, y2, y3⟩
theorem m_told {mns mng : Nat → Int32} {S g : Nat → Nat} (h : MR mns mng S g) {p q : Nat} (hp : p < 12) (hq : q < 12) :
    ((∃ z, z < S p ∧ g (4 * p + z) = q) ∧ f_X7_isNeed mns mng (nI p) (nI q) = some 1) ∨ ((¬ ∃ z, z < S p ∧ g (4 * p + z) = q) ∧ f_X7_isNeed mns mng (nI p) (nI q) = some 0) := by
  refine (m_told_loop h hp hq (S p) 0 (by omega) FU (Nat.lt_of_le_of_lt (h.1 p hp).1 (by decide))).imp (fun z => ⟨?_, z.2⟩) (fun z => ⟨?_, z.2⟩)
  · obtain ⟨⟨z, z1, z2, z3⟩, -⟩ := z
    exact ⟨z, z2, z3⟩
  · rintro ⟨y, y2, y3⟩
    exact z.1 ⟨y, Nat.zero_le _, y2, y3⟩
/-- a graph that goes down has depths -/
def itD (S g : Nat → Nat) : Nat → Nat → Nat
  | 0 => fun _ => 0
  | n + 1 => fun p => mx S g (itD S g n) p
theorem exD {S g f : Nat → Nat} (W : GW S g) (hf : ∀ p, p < 12 → ∀ k, k < S p → f (g (4 * p + k)) < f p) (h7 : ∀ p, p < 12 → f p ≤ 7) : ∃ d, IsD S g d ∧ ∀ p, p < 12 → d p ≤ 7 := by
  have h1 : ∀ n p, p < 12 → f p < n → itD S g n p = itD S g (n + 1) p := by
    intro n
    induction n with
    | zero => intro p hp h; omega
    | succ n ih =>
      intro p hp h
      show mxk _ _ = mxk _ _
      refine mxk_congr (fun k hk => ?_)
      have := hf p hp k hk
      rw [ih _ ((W p hp).2 k hk) (by omega)]
  have h2 : ∀ n p, p < 12 → itD S g n p ≤ f p := by
    intro n
    induction n with
    | zero => intro p hp; exact Nat.zero_le _
    | succ n ih =>
      intro p hp
      show mxk _ _ ≤ _
      refine mxk_le (fun k hk => ?_)
      have := hf p hp k hk
      have := ih _ ((W p hp).2 k hk)
      omega
  refine ⟨itD S g 8, fun p hp => ?_, fun p hp => Nat.le_trans (h2 8 p hp) (h7 p hp)⟩
  have := h7 p hp
  exact h1 8 p hp (by omega)
theorem nd_J {mth : Int32} {mns mng mnu mnd : Nat → Int32} {p D n : Nat} (hp : p < 12) (hD : D < 1000) (hn : mns p = nI (n + 1)) :
    (ck (nI p) 12 <| if nI D ≤ 3 then f_X7_needs_J203 mth mns mng mnu mnd (nI D) (nI p) (mns (nI p).toNatClampNeg) 0 else f_X7_needs_J203 mth mns mng mnu mnd (nI D) (nI p) (mns (nI p).toNatClampNeg) 1) =
      if D ≤ 3 then some (1, mth, upd mns p (nI (n + 1)), mng, mnu, mnd) else some (0, mth, upd mns p (nI n), mng, mnu, mnd) := by
  unfold f_X7_needs_J203
  rw [ck_nI hp (by decide), ck_nI hp (by decide), ck_nI hp (by decide), nI_clamp (by omega), hn]
  by_cases e : D ≤ 3
  · rw [if_pos (show nI D ≤ 3 from nI_le e (by decide)), if_pos (show nI D ≤ 3 from nI_le e (by decide)), if_pos e, Int32.sub_zero]
  · rw [if_neg (show ¬ nI D ≤ 3 from nI_ge (a := 3) (by omega) (by omega)), if_neg (show ¬ nI D ≤ 3 from nI_ge (a := 3) (by omega) (by omega)), if_neg e, nI_pred]
theorem nd_L148 {mth : Int32} {mns mng mnu mnd : Nat → Int32} {S g d : Nat → Nat} (h : MR mns mng S g) (hD : IsD S g d) (h7 : ∀ p, p < 12 → d p ≤ 7) {p n : Nat} (hp : p < 12) (hn : mns p = nI (n + 1)) : ∀ (c i : Nat), i + c = 12 → ∀ z, c < z →
    f_X7_needs_L148 mth mns mng mnu mnd (nI p) z (nI (mxk d i)) (nI i) = if mxk d 12 ≤ 3 then some (1, mth, upd mns p (nI (n + 1)), mng, mnu, mnd) else some (0, mth, upd mns p (nI n), mng, mnu, mnd) := by
  intro c
  induction c with
  | zero =>
    intro i hi z hz
    obtain ⟨q, rfl⟩ : ∃ y, z = y + 1 := ⟨z - 1, by omega⟩
    unfold f_X7_needs_L148
    rw [show i = 12 by omega, if_pos (by decide)]
    exact nd_J hp (Nat.lt_of_le_of_lt (mxk_le (fun k hk => h7 k hk)) (by decide)) hn
  | succ c ih =>
    intro i hi z hz
    obtain ⟨q, rfl⟩ : ∃ y, z = y + 1 := ⟨z - 1, by omega⟩
    have hi12 : i < 12 := by omega
    have h7i := h7 i hi12
    have hmk : mxk d i ≤ 7 := mxk_le (fun k hk => h7 k (by omega))
    have hs : mxk d (i + 1) = max (mxk d i) (d i) := rfl
    unfold f_X7_needs_L148
    rw [show (12 : Int32) = nI 12 from rfl, if_neg (nI_ge (by omega) (by omega)), m_depthOf h hD hi12 (by omega), Option.bind_some, Option.bind_some, nI_1]
    by_cases e : d i ≤ mxk d i
    · rw [if_pos (nI_le e (by omega)), ← ih (i + 1) (by omega) q (by omega), hs, Nat.max_eq_left e]
    · rw [if_neg (nI_ge (by omega) (by omega)), ← ih (i + 1) (by omega) q (by omega), hs, Nat.max_eq_right (by omega)]
/-- the recipes with one need more -/
theorem RN.add {S g u w : Nat → Nat} {isz igd iup idn mns mng mnu mnd : Nat → Int32} (h : RN S g u w isz igd iup idn mns mng mnu mnd) {p q a b : Nat} (hp : p < 12) (hq : q < 12) (ha : 1 ≤ a ∧ a ≤ 12) (hb : 1 ≤ b ∧ b ≤ 12) (hS : S p < 4) :
    RN (updN S p (S p + 1)) (updN g (4 * p + S p) q) (updN u (4 * p + S p) a) (updN w (4 * p + S p) b) (upd isz p (nI (S p + 1))) (upd igd (4 * p + S p) (nI q)) (upd iup (4 * p + S p) (nI a)) (upd idn (4 * p + S p) (nI b)) (upd mns p (nI (S p + 1))) (upd mng (4 * p + S p) (nI q)) (upd mnu (4 * p + S p) (nI a)) (upd mnd (4 * p + S p) (nI b)) := by
  have hne : ∀ r, r < 12 → ∀ k, k < S r → 4 * r + k ≠ 4 * p + S p := fun r hr k hk e => by
    have := (h.1 r hr).1
    have : r = p := by omega
    subst this
    omega
  have hold : ∀ r, r < 12 → ∀ k, k < updN S p (S p + 1) r → (r = p ∧ k = S p) ∨ (k < S r) := fun r hr k hk => by
    by_cases e : r = p
    · subst e; rw [updN_s] at hk; omega
    · rw [updN_n e] at hk; exact Or.inr hk
  refine ⟨fun r hr => ⟨?_, fun k hk => ?_⟩, fun r hr => ⟨?_, ?_, fun k hk => ?_⟩⟩
  · by_cases e : r = p
    · subst e; rw [updN_s]; omega
    · rw [updN_n e]; exact (h.1 r hr).1
  · rcases hold r hr k hk with ⟨rfl, rfl⟩ | hk
    · rw [updN_s]; exact hq
    · rw [updN_n (hne r hr k hk)]; exact (h.1 r hr).2 k hk
  · by_cases e : r = p
    · subst e; rw [updN_s, pk_us]
    · rw [updN_n e, pk_un e]; exact (h.2 r hr).1
  · by_cases e : r = p
    · subst e; rw [updN_s, pk_us]
    · rw [updN_n e, pk_un e]; exact (h.2 r hr).2.1
  · rcases hold r hr k hk with ⟨rfl, rfl⟩ | hk
    · simp only [updN_s, pk_us]
      exact ⟨trivial, trivial, trivial, trivial, trivial, trivial, ha.1, ha.2, hb.1, hb.2⟩
    · have e := hne r hr k hk
      simp only [updN_n e, pk_un e]
      exact (h.2 r hr).2.2 k hk
/-- the class keeps what it wrote of a refused need; its size goes back -/
theorem RN.back {S g u w : Nat → Nat} {isz igd iup idn mns mng mnu mnd : Nat → Int32} (h : RN S g u w isz igd iup idn mns mng mnu mnd) {p : Nat} {x1 x2 x3 y1 y2 y3 : Int32} (hp : p < 12) (hS : S p < 4) {isz' mns' : Nat → Int32} (hi : ∀ r, r < 12 → isz' r = nI (S r)) (hm : ∀ r, r < 12 → mns' r = nI (S r)) :
    RN S g u w isz' (upd igd (4 * p + S p) x1) (upd iup (4 * p + S p) x2) (upd idn (4 * p + S p) x3) mns' (upd mng (4 * p + S p) y1) (upd mnu (4 * p + S p) y2) (upd mnd (4 * p + S p) y3) := by
  have hne : ∀ r, r < 12 → ∀ k, k < S r → 4 * r + k ≠ 4 * p + S p := fun r hr k hk e => by
    have := (h.1 r hr).1
    have : r = p := by omega
    subst this
    omega
  refine ⟨h.1, fun r hr => ⟨hi r hr, hm r hr, fun k hk => ?_⟩⟩
  have e := hne r hr k hk
  simp only [pk_un e]
  exact (h.2 r hr).2.2 k hk
theorem RN.backC {S g u w : Nat → Nat} {isz igd iup idn mns mng mnu mnd : Nat → Int32} (h : RN S g u w isz igd iup idn mns mng mnu mnd) {p : Nat} {x1 x2 x3 : Int32} (hp : p < 12) (hS : S p < 4) {isz' : Nat → Int32} (hi : ∀ r, r < 12 → isz' r = nI (S r)) :
    RN S g u w isz' (upd igd (4 * p + S p) x1) (upd iup (4 * p + S p) x2) (upd idn (4 * p + S p) x3) mns mng mnu mnd := by
  have hne : ∀ r, r < 12 → ∀ k, k < S r → 4 * r + k ≠ 4 * p + S p := fun r hr k hk e => by
    have := (h.1 r hr).1
    have : r = p := by omega
    subst this
    omega
  refine ⟨h.1, fun r hr => ⟨hi r hr, (h.2 r hr).2.1, fun k hk => ?_⟩⟩
  have e := hne r hr k hk
  simp only [pk_un e]
  exact (h.2 r hr).2.2 k hk
