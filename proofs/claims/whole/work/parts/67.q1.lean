/-! ===== the pure side: yields, prior, in, look ===== -/
def RP (T o a b : Nat → Nat) (osz ogd oup odn mby mbg mbu mbd : Nat → Int32) : Prop :=
  ∀ p, p < 12 → T p ≤ 2 ∧ osz p = nI (T p) ∧ mby p = nI (T p) ∧ ∀ k, k < T p → o (4 * p + k) < 12 ∧ ogd (4 * p + k) = nI (o (4 * p + k)) ∧ mbg (2 * p + k) = nI (o (4 * p + k)) ∧ oup (4 * p + k) = nI (a (4 * p + k)) ∧ mbu (2 * p + k) = nI (a (4 * p + k)) ∧ odn (4 * p + k) = nI (b (4 * p + k)) ∧ mbd (2 * p + k) = nI (b (4 * p + k)) ∧ 1 ≤ a (4 * p + k) ∧ a (4 * p + k) ≤ 12 ∧ 1 ≤ b (4 * p + k) ∧ b (4 * p + k) ≤ 12
def RO (osz ogd oup odn mby mbg mbu mbd : Nat → Int32) : Prop := ∃ T o a b, RP T o a b osz ogd oup odn mby mbg mbu mbd
theorem c_told_o {T o a b : Nat → Nat} {osz ogd oup odn mby mbg mbu mbd : Nat → Int32} (h : RP T o a b osz ogd oup odn mby mbg mbu mbd) {p q : Nat} (hp : p < 12) (hq : q < 12) (hT : T p < 2) : f_X3_isTold_o osz ogd (nI p) (nI q) = some (if T p = 1 ∧ o (4 * p) = q then 1 else 0) := by
  obtain ⟨h1, h2, h3, h4⟩ := h p hp
  unfold f_X3_isTold_o
  rw [show FU = 998 + 1 + 1 from rfl]
  unfold f_X3_isTold_o_L2
  rw [ck_nI hp (by decide), nI_clamp (by omega), h2, show (0 : Int32) = nI 0 from rfl]
  by_cases e : T p = 0
  · rw [if_pos (nI_le (by omega) (by decide)), if_neg (fun z => by omega)]
  · obtain ⟨k1, k2, -⟩ := h4 0 (by omega)
    rw [Nat.add_zero] at k1 k2
    rw [if_neg (nI_ge (by omega) (by omega))]
    unfold f_X3_goodAt_o
    rw [c_place, Option.bind_some, ck_nI (by omega) (by decide), nI_clamp (by omega), Nat.add_zero, k2, Option.bind_some]
    by_cases e2 : o (4 * p) = q
    · rw [if_pos (by rw [e2]), if_pos ⟨by omega, e2⟩]
    · rw [if_neg (fun z => e2 ((nI_eq (by omega) (by omega)).mp z)), if_neg (fun z => e2 z.2)]
      unfold f_X3_isTold_o_L2
      rw [ck_nI hp (by decide), nI_clamp (by omega), h2, nI_1, if_pos (nI_le (by omega) (by omega))]
      rfl
theorem RP.add {T o a b : Nat → Nat} {osz ogd oup odn mby mbg mbu mbd : Nat → Int32} (h : RP T o a b osz ogd oup odn mby mbg mbu mbd) {p q x y : Nat} (hp : p < 12) (hq : q < 12) (hx : 1 ≤ x ∧ x ≤ 12) (hy : 1 ≤ y ∧ y ≤ 12) (hT : T p < 2) :
    RP (updN T p (T p + 1)) (updN o (4 * p + T p) q) (updN a (4 * p + T p) x) (updN b (4 * p + T p) y) (upd osz p (nI (T p + 1))) (upd ogd (4 * p + T p) (nI q)) (upd oup (4 * p + T p) (nI x)) (upd odn (4 * p + T p) (nI y)) (upd mby p (nI (T p + 1))) (upd mbg (2 * p + T p) (nI q)) (upd mbu (2 * p + T p) (nI x)) (upd mbd (2 * p + T p) (nI y)) := by
  intro r hr
  obtain ⟨h1, h2, h3, h4⟩ := h r hr
  by_cases e : r = p
  · subst e
    rw [updN_s, pk_us, pk_us]
    refine ⟨by omega, rfl, rfl, fun k hk => ?_⟩
    by_cases ek : k = T r
    · subst ek
      simp only [updN_s, pk_us]
      exact ⟨hq, trivial, trivial, trivial, trivial, trivial, trivial, hx.1, hx.2, hy.1, hy.2⟩
    · have e1 : 4 * r + k ≠ 4 * r + T r := by omega
      have e2 : 2 * r + k ≠ 2 * r + T r := by omega
      simp only [updN_n e1, pk_un e1, pk_un e2]
      exact h4 k (by omega)
  · rw [updN_n e, pk_un e, pk_un e]
    refine ⟨h1, h2, h3, fun k hk => ?_⟩
    have e1 : 4 * r + k ≠ 4 * p + T p := by omega
    have e2 : 2 * r + k ≠ 2 * p + T p := by omega
    simp only [updN_n e1, pk_un e1, pk_un e2]
    exact h4 k hk
theorem op_yields {hs osz ogd oup odn mby mbg mbu mbd : Nat → Int32} {mth : Int32} (h : RO osz ogd oup odn mby mbg mbu mbd) (x1 x2 x3 x4 : Int32) :
    ∃ (r : Int32 ⊕ String) (osz' ogd' oup' odn' : Nat → Int32) (v th : Int32) (mby' mbg' mbu' mbd' : Nat → Int32),
      f_X6_yields hs osz ogd oup odn x1 x2 x3 x4 = some (r, osz', ogd', oup', odn') ∧ f_X7_yields mth hs mby mbg mbu mbd x1 x2 x3 x4 = some (v, th, mby', mbg', mbu', mbd') ∧ An r th v eI ∧ RO osz' ogd' oup' odn' mby' mbg' mbu' mbd' := by
  unfold f_X6_yields f_X7_yields
  rw [m_part_sel]
  by_cases hbad : wi x1 0 11 = 0 ∨ wi x2 0 11 = 0 ∨ wi x3 1 12 = 0 ∨ wi x4 1 12 = 0
  · rw [c_checkPart_bad hbad, if_pos hbad, Option.bind_some, xb_r]
    refine ⟨_, _, _, _, _, 0, 1, mby, mbg, mbu, mbd, rfl, ?_, Or.inr ⟨_, rfl, rfl, rfl⟩, h⟩
    unfold f_X7_yields_J28 f_X7_yields_J29
    rw [if_pos (by decide)]
  · have hb1 : ¬ wi x1 0 11 = 0 := fun z => hbad (Or.inl z)
    have hb2 : ¬ wi x2 0 11 = 0 := fun z => hbad (Or.inr (Or.inl z))
    have hb3 : ¬ wi x3 1 12 = 0 := fun z => hbad (Or.inr (Or.inr (Or.inl z)))
    have hb4 : ¬ wi x4 1 12 = 0 := fun z => hbad (Or.inr (Or.inr (Or.inr z)))
    rw [c_checkPart_ok hb1 hb2 hb3 hb4, if_neg hbad, Option.bind_some, xb_l]
    obtain ⟨p, -, hp, rfl⟩ := wi_nat (by decide) (by decide) hb1
    obtain ⟨q, -, hq, rfl⟩ := wi_nat (by decide) (by decide) hb2
    obtain ⟨x, hx1, hx2, rfl⟩ := wi_nat (by decide) (by decide) hb3
    obtain ⟨y, hy1, hy2, rfl⟩ := wi_nat (by decide) (by decide) hb4
    have hp : p < 12 := by omega
    have hq : q < 12 := by omega
    clear hbad hb1 hb2 hb3 hb4
    obtain ⟨T, o, a, b, hR⟩ := id h
    obtain ⟨h1, h2, h3, h4⟩ := hR p hp
    have hm2 : (2 : Int32) * nI p = nI (2 * p) := by rw [show (2 : Int32) = nI 2 from rfl, pk_mul]
    have hJ87 : T p < 2 → f_X7_yields_J87 0 mby mbg mbu mbd (nI p) (nI q) (nI x) (nI y) = some (1, 0, upd mby p (nI (T p + 1)), upd mbg (2 * p + T p) (nI q), upd mbu (2 * p + T p) (nI x), upd mbd (2 * p + T p) (nI y)) := fun hT => by
      unfold f_X7_yields_J87
      rw [nI_clamp (by omega), h3, hm2, nI_add, nI_1]
      simp only [ck_nI (show p < 12 by omega) (show 12 < 2 ^ 31 by decide), ck_nI (show 2 * p + T p < 24 by omega) (show 24 < 2 ^ 31 by decide), nI_clamp (show 2 * p + T p < 2 ^ 31 by omega)]
    unfold f_X5_addByProduct f_X7_yields_J29
    rw [if_neg (show ¬ (0 : Int32) < 0 by decide)]
    rw [ck_nI hp (by decide), ck_nI hp (by decide), nI_clamp (by omega)]
    by_cases h0 : hs p = 0
    · rw [if_pos h0, if_pos h0, Option.bind_some, if_pos rfl]
      exact ⟨_, _, _, _, _, _, _, _, _, _, _, rfl, rfl, Or.inl ⟨rfl, rfl⟩, h⟩
    rw [if_neg h0, if_neg h0]
    unfold f_X3_add_o
    by_cases hpq : p = q
    · rw [if_pos (show nI p = nI q by rw [hpq]), if_pos (show nI p = nI q by rw [hpq]), Option.bind_some, if_pos rfl, Option.bind_some, if_pos rfl]
      exact ⟨_, _, _, _, _, _, _, _, _, _, _, rfl, rfl, Or.inl ⟨rfl, rfl⟩, h⟩
    have hpq' : ¬ nI p = nI q := fun z => hpq ((nI_eq (by omega) (by omega)).mp z)
    have hkp : ∀ {β : Type} {x : Option β}, ck (nI p) 12 x = x := ck_nI hp (by decide)
    rw [if_neg hpq', if_neg hpq']
    simp only [hkp]
    rw [nI_clamp (by omega), h2, h3]
    by_cases hT : T p = 2
    · rw [if_pos (show (2 : Int32) ≤ nI (T p) by rw [hT]; decide), if_pos (show nI (T p) = 2 by rw [hT]; rfl), Option.bind_some, if_pos rfl, Option.bind_some, if_pos rfl]
      exact ⟨_, _, _, _, _, _, _, _, _, _, _, rfl, rfl, Or.inl ⟨rfl, rfl⟩, h⟩
    have hT2 : T p < 2 := by omega
    rw [if_neg (show ¬ (2 : Int32) ≤ nI (T p) from nI_ge (b := 2) hT2 (by decide)), if_neg (show ¬ nI (T p) = 2 from fun z => hT ((nI_eq (b := 2) (by omega) (by decide)).mp z)), c_told_o hR hp hq hT2, Option.bind_some, hm2]
    by_cases ht : T p = 1 ∧ o (4 * p) = q
    · obtain ⟨k1, k2, k3, -⟩ := h4 0 (by omega)
      rw [Nat.add_zero] at k1 k2 k3
      rw [Nat.add_zero] at k3
      rw [if_pos ht, if_neg (show ¬ (1 : Int32) = 0 by decide), Option.bind_some, if_pos rfl, Option.bind_some, if_pos rfl, if_pos (show nI (T p) = 1 by rw [ht.1]; rfl), ck_nI (show 2 * p < 24 by omega) (by decide), nI_clamp (by omega), k3, if_pos (by rw [ht.2])]
      exact ⟨_, _, _, _, _, _, _, _, _, _, _, rfl, rfl, Or.inl ⟨rfl, rfl⟩, h⟩
    · rw [if_neg ht, if_pos rfl, c_place, Option.bind_some]
      simp only [ck_nI (show 4 * p + T p < 48 by omega) (show 48 < 2 ^ 31 by decide), nI_clamp (show 4 * p + T p < 2 ^ 31 by omega), nI_clamp (show p < 2 ^ 31 by omega), nI_1, Option.bind_some]
      rw [if_neg (show ¬ (1 : Int32) = 0 by decide), Option.bind_some, if_neg (show ¬ (1 : Int32) = 0 by decide), hJ87 hT2]
      refine ⟨_, _, _, _, _, 1, 0, _, _, _, _, rfl, ?_, Or.inl ⟨rfl, rfl⟩, _, _, _, _, hR.add hp hq ⟨hx1, hx2⟩ ⟨hy1, hy2⟩ hT2⟩
      by_cases e : T p = 1
      · obtain ⟨k1, k2, k3, -⟩ := h4 0 (by omega)
        rw [Nat.add_zero] at k1 k2 k3
        rw [Nat.add_zero] at k3
        rw [if_pos (show nI (T p) = 1 by rw [e]; rfl), ck_nI (show 2 * p < 24 by omega) (by decide), nI_clamp (by omega), k3, if_neg (fun z => ht ⟨e, (nI_eq (by omega) (by omega)).mp z⟩)]
      · rw [if_neg (show ¬ nI (T p) = 1 from fun z => e ((nI_eq (b := 1) (by omega) (by decide)).mp z))]
/-- the prior exports: how many, what is left of each -/
def PI (plf : Nat → Int64) (np : Nat) : Prop := np ≤ 40 ∧ ∀ i, i < np → ∃ P : Nat, P ≤ 10000 ∧ plf i = lN P
theorem op_prior {pgd pun : Nat → Int32} {plf : Nat → Int64} {np : Nat} {mth : Int32} (h : PI plf np) (x1 x2 x3 : Int32) :
    ∃ (r : Int32 ⊕ String) (pgd' : Nat → Int32) (plf' : Nat → Int64) (pun' : Nat → Int32) (np' : Nat) (v th : Int32), f_X6_prior pgd plf pun (nI np) x1 x2 x3 = some (r, pgd', plf', pun', nI np') ∧ f_X7_prior mth (nI np) pgd pun plf x1 x2 x3 = some (v, th, nI np', pgd', pun', plf') ∧ An r th v eS ∧ PI plf' np' := by
  unfold f_X6_prior f_X7_prior f_X7_prior_J32 f_X7_prior_J50
  rw [c_isGood, m_isGood, show f_X6_isWithin x2 1 10000 = _ from c_within x2 1 10000, show f_X6_isWithin x3 0 100000 = _ from c_within x3 0 100000, show f_X7_within x2.toInt64 1 10000 = _ from m_within x2 (a := 1) (b := 10000) (by decide) (by decide), show f_X7_within x3.toInt64 0 100000 = _ from m_within x3 (a := 0) (b := 100000) (by decide) (by decide), Option.bind_some, Option.bind_some, Option.bind_some, Option.bind_some, Option.bind_some, Option.bind_some, if_neg (show ¬ (1 : Int32) ≤ 0 by decide), if_neg (show ¬ (2 : Int32) ≤ 0 by decide), if_pos (show (0 : Int32) ≤ 0 by decide)]
  by_cases h1 : wi x1 0 11 = 0
  · rw [if_pos h1, if_pos h1]; exact ⟨_, _, _, _, _, _, _, rfl, rfl, Or.inr ⟨_, rfl, Or.inl ⟨rfl, rfl⟩⟩, h⟩
  rw [if_neg h1, if_neg h1]
  by_cases h2 : wi x2 1 10000 = 0
  · rw [if_pos h2, if_pos h2]; exact ⟨_, _, _, _, _, _, _, rfl, rfl, Or.inr ⟨_, rfl, Or.inl ⟨rfl, rfl⟩⟩, h⟩
  rw [if_neg h2, if_neg h2]
  by_cases h3 : wi x3 0 100000 = 0
  · rw [if_pos h3, if_pos h3]; exact ⟨_, _, _, _, _, _, _, rfl, rfl, Or.inr ⟨_, rfl, Or.inl ⟨rfl, rfl⟩⟩, h⟩
  rw [if_neg h3, if_neg h3]
  have hnp := h.1
  by_cases h4 : np = 40
  · rw [if_neg (show ¬ nI np < 40 by rw [h4]; decide), if_pos (show nI np = 40 by rw [h4]; rfl)]
    exact ⟨_, _, _, _, _, _, _, rfl, rfl, Or.inr ⟨_, rfl, Or.inr ⟨rfl, rfl⟩⟩, h⟩
  · obtain ⟨v, hv1, hv2, rfl⟩ := wi_nat (by decide) (by decide) h2
    rw [if_pos (show nI np < 40 from nI_lt (b := 40) (by omega) (by decide)), if_neg (show ¬ nI np = 40 from fun z => h4 ((nI_eq (b := 40) (by omega) (by decide)).mp z))]
    unfold f_X4_add
    rw [if_neg (show ¬ (40 : Int32) ≤ nI np from nI_ge (b := 40) (by omega) (by decide))]
    simp only [ck_nI (show np < 40 by omega) (show 40 < 2 ^ 31 by decide), nI_clamp (show np < 2 ^ 31 by omega), nI_1, Option.bind_some]
    refine ⟨_, _, _, _, np + 1, _, _, rfl, rfl, Or.inl ⟨rfl, rfl⟩, by omega, fun i hi => ?_⟩
    by_cases e : i = np
    · subst e; exact ⟨v, hv2, by rw [pk_uLs]; exact nI_l (by omega)⟩
    · rw [pk_uLn e]; exact h.2 i (by omega)
/-- a lot more -/
theorem LX_add {lgd ldy : Nat → Int32} {llf ldb : Nat → Int64} {nl t g f b : Nat} {G F B Y : Nat → Nat} (h : LX lgd llf ldb ldy nl t G F B Y) (hg : g < 12) (hf : f ≤ 120000) : LX (upd lgd nl (nI g)) (vp_updL llf nl (lN f)) (vp_updL ldb nl (lN b)) (upd ldy nl (nI t)) (nl + 1) t (updN G nl g) (updN F nl f) (updN B nl b) (updN Y nl t) := by
  intro i hi
  by_cases e : i = nl
  · subst e
    simp only [updN_s, pk_us, pk_uLs]
    exact ⟨trivial, hg, trivial, hf, trivial, trivial, Nat.le_refl _⟩
  · simp only [updN_n e, pk_un e, pk_uLn e]
    exact h i (by omega)
theorem LI_add {lgd ldy : Nat → Int32} {llf ldb : Nat → Int64} {nl t T g f b : Nat} (h : LI lgd llf ldb ldy nl t T) (hn : nl < 200) (hg : g < 12) (hf : f ≤ 120000) (hT : T + b ≤ 1000000000) : LI (upd lgd nl (nI g)) (vp_updL llf nl (lN f)) (vp_updL ldb nl (lN b)) (upd ldy nl (nI t)) (nl + 1) t (T + b) := by
  obtain ⟨a1, a2, a3, G, F, B, Y, hX, hS⟩ := h
  refine ⟨by omega, a2, hT, _, _, _, _, LX_add hX hg hf, ?_⟩
  show sumN (updN B nl b) nl + updN B nl b nl ≤ _
  rw [updN_s, sumN_congr (g := B) (fun i hi => updN_n (by omega))]
  omega
theorem c_isOpen {pgd pun : Nat → Int32} {plf : Nat → Int64} {i : Nat} {g tod : Int32} (hi : i < 40) : f_X4_isOpen pgd plf pun (nI i) g tod = some (if pgd i = g ∧ ¬ lg_cmp (plf i) 0 ≤ 0 ∧ ¬ pun i < tod then 1 else 0) := by
  unfold f_X4_isOpen
  simp only [ck_nI hi (show 40 < 2 ^ 31 by decide), nI_clamp (show i < 2 ^ 31 by omega)]
  by_cases h1 : pgd i = g
  · rw [if_pos h1]
    by_cases h2 : lg_cmp (plf i) 0 ≤ 0
    · rw [if_pos h2, if_neg (fun z => z.2.1 h2)]
    · rw [if_neg h2]
      by_cases h3 : pun i < tod
      · rw [if_pos h3, if_neg (fun z => z.2.2 h3)]
      · rw [if_neg h3, if_pos ⟨h1, h2, h3⟩]
  · rw [if_neg h1, if_neg (fun z => h1 z.1)]
/-- the reference leaves a prior as it is -/
theorem m_in_J150 {mdi : Int64} {mll mld mpl : Nat → Int64} {x4 : Int32} {i : Nat} (hi : i < 40) {k88 : Int64 → (Nat → Int64) → (Nat → Int64) → (Nat → Int64) → Int32 → Option (Int32 × Int32 × Int32 × Int64 × Int64 × (Nat → Int32) × (Nat → Int32) × (Nat → Int64) × (Nat → Int64) × (Nat → Int64))} :
    f_X7_in_J150 mdi mll mld mpl x4 (nI i) k88 = k88 mdi mll mld mpl (nI (i + 1)) := by
  unfold f_X7_in_J150 f_X7_in_J151 f_X7_in_J197 f_X7_in_J221
  rw [if_pos rfl, if_pos rfl, ck_nI hi (by decide), ck_nI hi (by decide), nI_clamp (by omega), Int64.sub_zero, updL_same rfl, nI_1]
theorem meet_loop {lgd ldy pgd pun : Nat → Int32} {nl t np i0 : Nat} {mth mlo : Int32} {mim : Int64} {g : Int32} (hg : lgd i0 = g) (hi0 : i0 < nl) (hnp : np ≤ 40) : ∀ (c i : Nat), i + c = np → ∀ (n1 n2 : Nat) (llf ldb plf : Nat → Int64) (T : Nat) (z dis : Int64), c < n1 → c < n2 → LI lgd llf ldb ldy nl t T → PI plf np →
    ∃ (llf' ldb' plf' : Nat → Int64) (e : Int64), f_X4_meet_L23 lgd pgd pun (nI np) (nI i0) (nI t) n1 llf ldb plf z (nI i) = some (z + e, llf', ldb', plf') ∧
      f_X7_in_L88 mth mlo (nI np) (nI t) mim lgd ldy pgd pun g (nI i0) n2 dis llf ldb plf (nI i) = some (nI i0, mth, mlo, mim, dis + e, lgd, ldy, llf', ldb', plf') ∧ LI lgd llf' ldb' ldy nl t T ∧ PI plf' np := by
  intro c
  induction c with
  | zero =>
    intro i hi n1 n2 llf ldb plf T z dis h1 h2 hL hP
    obtain ⟨m1, rfl⟩ : ∃ k, n1 = k + 1 := ⟨n1 - 1, by omega⟩
    obtain ⟨m2, rfl⟩ : ∃ k, n2 = k + 1 := ⟨n2 - 1, by omega⟩
    refine ⟨llf, ldb, plf, 0, ?_, ?_, hL, hP⟩
    · unfold f_X4_meet_L23
      rw [if_pos (nI_le (by omega) (by omega)), Int64.add_zero]
    · unfold f_X7_in_L88
      rw [if_pos (nI_le (by omega) (by omega)), Int64.add_zero]
  | succ c ih =>
    intro i hi n1 n2 llf ldb plf T z dis h1 h2 hL hP
    obtain ⟨m1, rfl⟩ : ∃ k, n1 = k + 1 := ⟨n1 - 1, by omega⟩
    obtain ⟨m2, rfl⟩ : ∃ k, n2 = k + 1 := ⟨n2 - 1, by omega⟩
    obtain ⟨a1, a2, a3, G, F, B, Y, hX, hS⟩ := id hL
    obtain ⟨b1, b2, b3, b4, b5, b6, b7⟩ := hX i0 hi0
    obtain ⟨P, hP1, hP2⟩ := hP.2 i (by omega)
    have hi40 : i < 40 := by omega
    have hge : ¬ nI np ≤ nI i := nI_ge (by omega) (by omega)
    have hcl : (nI i0).toNatClampNeg = i0 := nI_clamp (by omega)
    have hci : (nI i).toNatClampNeg = i := nI_clamp (by omega)
    have hk2 : ∀ {β : Type} {x : Option β}, ck (nI i0) 200 x = x := ck_nI (by omega) (by decide)
    have hk4 : ∀ {β : Type} {x : Option β}, ck (nI i) 40 x = x := ck_nI (by omega) (by decide)
    by_cases hF0 : F i0 = 0
    · -- nothing is left of the lot: the class stops, the reference goes on to no effect
      have hF0' : lg_cmp (llf i0) 0 ≤ 0 := by rw [b3, hF0]; decide
      have hskip : f_X7_in_L88 mth mlo (nI np) (nI t) mim lgd ldy pgd pun g (nI i0) (m2 + 1) dis llf ldb plf (nI i) = f_X7_in_L88 mth mlo (nI np) (nI t) mim lgd ldy pgd pun g (nI i0) m2 dis llf ldb plf (nI (i + 1)) := by
        conv => lhs; unfold f_X7_in_L88
        simp only [hk4, hk2, hci, hcl, m_in_J150 hi40]
        rw [if_neg hge, if_pos hF0']
        split
        · split
          · rfl
          · split <;> rfl
        · rfl
      obtain ⟨llf', ldb', plf', e, q1, q2, q3, q4⟩ := ih (i + 1) (by omega) m1 m2 llf ldb plf T z dis (by omega) (by omega) hL hP
      -- the class would not go on either
      have hstop : ∀ n j, f_X4_meet_L23 lgd pgd pun (nI np) (nI i0) (nI t) (n + 1) llf ldb plf z (nI j) = some (z, llf, ldb, plf) := fun n j => by
        unfold f_X4_meet_L23
        rw [hk2, hcl, if_pos hF0']
        split <;> rfl
      obtain ⟨m3, rfl⟩ : ∃ k, m1 = k + 1 := ⟨m1 - 1, by omega⟩
      refine ⟨llf', ldb', plf', e, ?_, hskip.trans q2, q3, q4⟩
      rw [hstop, ← hstop m3 (i + 1)]
      exact q1
    · have hFp : ¬ lg_cmp (llf i0) 0 ≤ 0 := by rw [b3]; exact lc_pos (by omega) (by omega)
      by_cases hop : pgd i = g ∧ ¬ lg_cmp (plf i) 0 ≤ 0 ∧ ¬ pun i < nI t
      · have hP0 : 0 < P := by
          apply Nat.pos_of_ne_zero
          intro z
          apply hop.2.1
          rw [hP2, z]
          decide
        have hBT : B i0 ≤ T := Nat.le_trans (sumN_ge hi0) hS
        obtain ⟨x, hx⟩ : ∃ x, x = if F i0 < P then F i0 else P := ⟨_, rfl⟩
        have hxF : x ≤ F i0 := by rw [hx]; split <;> omega
        have hxP : x ≤ P := by rw [hx]; split <;> omega
        have hmin : (if llf i0 < plf i then llf i0 else plf i) = lN x := by
          rw [hx, b3, hP2]
          by_cases q : F i0 < P
          · rw [if_pos q, if_pos ((pk_lLT (by omega) (by omega)).mpr q)]
          · rw [if_neg q, if_neg (fun z => q ((pk_lLT (by omega) (by omega)).mp z))]
        have hdl := tkd_le (D := B i0) hxF
        have hX2 := LX_take (x := x) (d := tkd (B i0) (F i0) x) hX hi0
        have hsum := sumN_upd (f := B) (i := i0) (v := B i0 - tkd (B i0) (F i0) x) (n := nl) hi0
        have hP' : PI (vp_updL plf i (lN (P - x))) np := ⟨hnp, fun j hj => by
          by_cases e : j = i
          · subst e; exact ⟨P - x, by omega, pk_uLs⟩
          · rw [pk_uLn e]; exact hP.2 j hj⟩
        obtain ⟨llf', ldb', plf', e, q1, q2, q3, q4⟩ := ih (i + 1) (by omega) m1 m2 (vp_updL llf i0 (lN (F i0 - x))) (vp_updL ldb i0 (lN (B i0 - tkd (B i0) (F i0) x))) (vp_updL plf i (lN (P - x))) T (z + lN (tkd (B i0) (F i0) x)) (dis + lN (tkd (B i0) (F i0) x)) (by omega) (by omega) ⟨a1, a2, a3, _, _, _, _, hX2, by omega⟩ hP'
        refine ⟨llf', ldb', plf', lN (tkd (B i0) (F i0) x) + e, ?_, ?_, q3, q4⟩
        · unfold f_X4_meet_L23
          rw [if_neg hge, hk2, hcl, if_neg hFp, hk2, hg, c_isOpen hi40, if_pos hop, Option.bind_some, if_neg (by decide), hk4, hk2, hci, hmin, c_takeFrom (by omega) b3 b5 b4 (by omega) (by omega) hxF, Option.bind_some, hk4, hk4, hP2, lN_sub hxP, nI_1, ← Int64.add_assoc]
          exact q1
        · unfold f_X7_in_L88
          rw [if_neg hge, hk4, hci, if_pos hop.1, hk4, if_neg hop.2.2, hk4, if_neg hop.2.1, hk2, hcl, if_neg hFp]
          unfold f_X7_in_J151 f_X7_in_J197 f_X7_in_J221
          rw [if_neg (show ¬ (1 : Int32) = 0 by decide), if_neg (show ¬ (1 : Int32) = 0 by decide), if_neg (show ¬ (1 : Int32) = 0 by decide), hk4, hk2, hk4, hk2, hci, hcl]
          have hfin : ∀ y : Int64, y = lN x → ((f_X7_takeOf llf ldb (nI i0) y).bind fun o2 => ck (nI i) 40 <| ck (nI i) 40 <| f_X7_in_L88 mth mlo (nI np) (nI t) mim lgd ldy pgd pun g (nI i0) m2 (dis + o2.1) o2.2.1 o2.2.2 (vp_updL plf i (plf i - y)) (nI i + 1)) = some (nI i0, mth, mlo, mim, dis + (lN (tkd (B i0) (F i0) x) + e), lgd, ldy, llf', ldb', plf') := by
            intro y hy
            rw [hy, m_takeOf (by omega) b3 b5 b4 (by omega) (by omega) hxF, Option.bind_some, hk4, hk4, hP2, lN_sub hxP, nI_1, ← Int64.add_assoc]
            exact q2
          by_cases q : 0 ≤ lg_cmp (plf i) (llf i0)
          · rw [if_pos q]
            refine hfin _ ?_
            rw [← hmin]
            have hle : llf i0 ≤ plf i := lc_ge.mp q
            rw [b3, hP2] at hle ⊢
            have hle : F i0 ≤ P := (pk_lLE (by omega) (by omega)).mp hle
            by_cases q2 : F i0 < P
            · rw [if_pos ((pk_lLT (by omega) (by omega)).mpr q2)]
            · rw [if_neg (fun z => q2 ((pk_lLT (by omega) (by omega)).mp z)), show F i0 = P by omega]
          · rw [if_neg q]
            refine hfin _ ?_
            rw [← hmin, if_neg (fun z => q (lc_ge.mpr (Int64.le_of_lt z)))]
      · obtain ⟨llf', ldb', plf', e, q1, q2, q3, q4⟩ := ih (i + 1) (by omega) m1 m2 llf ldb plf T z dis (by omega) (by omega) hL hP
        refine ⟨llf', ldb', plf', e, ?_, ?_, q3, q4⟩
        · unfold f_X4_meet_L23
          rw [if_neg hge, hk2, hcl, if_neg hFp, hk2, hg, c_isOpen hi40, if_neg hop, Option.bind_some, if_pos rfl, nI_1]
          exact q1
        · unfold f_X7_in_L88
          simp only [hk4, hk2, hci, hcl, m_in_J150 hi40]
          rw [if_neg hge]
          by_cases r1 : pgd i = g
          · rw [if_pos r1]
            by_cases r2 : pun i < nI t
            · rw [if_pos r2]; exact q2
            · rw [if_neg r2]
              by_cases r3 : lg_cmp (plf i) 0 ≤ 0
              · rw [if_pos r3]; exact q2
              · exact absurd ⟨r1, r3, r2⟩ hop
          · rw [if_neg r1]; exact q2
theorem op_in {lgd ldy pgd pun : Nat → Int32} {llf ldb plf : Nat → Int64} {nl t T np : Nat} {mth : Int32} {imp dis : Int64} (h : LI lgd llf ldb ldy nl t T) (hT : T + 1000000 ≤ 1000000000) (hP : PI plf np) (x1 x2 x3 : Int32) :
    ∃ (r : Int32 ⊕ String) (lgd' : Nat → Int32) (llf' ldb' : Nat → Int64) (ldy' : Nat → Int32) (nl' : Nat) (plf' : Nat → Int64) (imp' dis' : Int64) (v th : Int32), f_X6_in lgd llf ldb ldy (nI nl) pgd plf pun (nI np) (nI t) imp dis x1 x2 x3 = some (r, lgd', llf', ldb', ldy', nI nl', plf', imp', dis') ∧
      f_X7_in mth (nI nl) (nI np) (nI t) imp dis lgd ldy llf ldb pgd pun plf x1 x2 x3 = some (v, th, nI nl', imp', dis', lgd', ldy', llf', ldb', plf') ∧ An r th v eS ∧ LI lgd' llf' ldb' ldy' nl' t (T + 1000000) ∧ PI plf' np := by
  have hL0 : LI lgd llf ldb ldy nl t (T + 1000000) := LI_mono h (by omega) hT
  have hnl := h.1
  unfold f_X6_in f_X7_in
  rw [c_isGood, m_isGood, show f_X6_isWithin x2 1 10000 = _ from c_within x2 1 10000, show f_X6_isWithin x3 0 1000000 = _ from c_within x3 0 1000000, show f_X7_within x2.toInt64 1 10000 = _ from m_within x2 (a := 1) (b := 10000) (by decide) (by decide), show f_X7_within x3.toInt64 0 1000000 = _ from m_within x3 (a := 0) (b := 1000000) (by decide) (by decide), Option.bind_some, Option.bind_some, Option.bind_some, Option.bind_some, Option.bind_some, Option.bind_some]
  have hJ32 : f_X7_in_J32 (nI nl) (nI np) (nI t) imp dis lgd ldy llf ldb pgd pun plf x1 x2 x3 = some (0, 1, nI nl, imp, dis, lgd, ldy, llf, ldb, plf) := by
    unfold f_X7_in_J32 f_X7_in_J51
    rw [if_neg (by decide)]
  rw [hJ32]
  by_cases h1 : wi x1 0 11 = 0
  · rw [if_pos h1, if_pos h1]; exact ⟨_, _, _, _, _, _, _, _, _, _, _, rfl, rfl, Or.inr ⟨_, rfl, Or.inl ⟨rfl, rfl⟩⟩, hL0, hP⟩
  rw [if_neg h1, if_neg h1]
  by_cases h2 : wi x2 1 10000 = 0
  · rw [if_pos h2, if_pos h2]; exact ⟨_, _, _, _, _, _, _, _, _, _, _, rfl, rfl, Or.inr ⟨_, rfl, Or.inl ⟨rfl, rfl⟩⟩, hL0, hP⟩
  rw [if_neg h2, if_neg h2]
  by_cases h3 : wi x3 0 1000000 = 0
  · rw [if_pos h3, if_pos h3]; exact ⟨_, _, _, _, _, _, _, _, _, _, _, rfl, rfl, Or.inr ⟨_, rfl, Or.inl ⟨rfl, rfl⟩⟩, hL0, hP⟩
  rw [if_neg h3, if_neg h3]
  unfold f_X2_free
  rw [show (200 : Int32) = nI 200 from rfl, pk_sub hnl, Option.bind_some]
  by_cases h4 : nl = 200
  · rw [if_neg (show ¬ (1 : Int32) ≤ nI (200 - nl) by rw [h4]; decide), if_pos (show nI nl = nI 200 by rw [h4])]
    unfold f_X7_in_J51
    rw [if_neg (by decide)]
    exact ⟨_, _, _, _, _, _, _, _, _, _, _, rfl, rfl, Or.inr ⟨_, rfl, Or.inr ⟨rfl, rfl⟩⟩, hL0, hP⟩
  · obtain ⟨p, -, hp, rfl⟩ := wi_nat (by decide) (by decide) h1
    obtain ⟨f, hf1, hf2, rfl⟩ := wi_nat (by decide) (by decide) h2
    obtain ⟨b, -, hb2, rfl⟩ := wi_nat (by decide) (by decide) h3
    rw [if_pos (show (1 : Int32) ≤ nI (200 - nl) from nI_le (a := 1) (by omega) (by omega)), if_neg (show ¬ nI nl = nI 200 from fun z => h4 ((nI_eq (by omega) (by decide)).mp z))]
    have hadd : f_X2_add lgd llf ldb ldy (nI nl) (nI p) (nI f).toInt64 (nI b).toInt64 (nI t) = some (nI nl, upd lgd nl (nI p), vp_updL llf nl (lN f), vp_updL ldb nl (lN b), upd ldy nl (nI t), nI (nl + 1)) := by
      unfold f_X2_add
      rw [if_pos (show nI nl < 200 from nI_lt (b := 200) (by omega) (by decide))]
      simp only [ck_nI (show nl < 200 by omega) (show 200 < 2 ^ 31 by decide), nI_clamp (show nl < 2 ^ 31 by omega), nI_1, nI_pred, nI_l (show f < 2 ^ 31 by omega), nI_l (show b < 2 ^ 31 by omega)]
    have hnew : f_X7_newLot (nI nl) (nI t) lgd ldy llf ldb (nI p) (nI f).toInt64 (nI b).toInt64 = some (nI nl, nI (nl + 1), upd lgd nl (nI p), upd ldy nl (nI t), vp_updL llf nl (lN f), vp_updL ldb nl (lN b)) := by
      unfold f_X7_newLot
      simp only [ck_nI (show nl < 200 by omega) (show 200 < 2 ^ 31 by decide), nI_clamp (show nl < 2 ^ 31 by omega), nI_1, nI_pred, nI_l (show f < 2 ^ 31 by omega), nI_l (show b < 2 ^ 31 by omega)]
    have hL1 : LI (upd lgd nl (nI p)) (vp_updL llf nl (lN f)) (vp_updL ldb nl (lN b)) (upd ldy nl (nI t)) (nl + 1) t (T + 1000000) := LI_mono (LI_add h (by omega) (show p < 12 by omega) (by omega) (show T + b ≤ 1000000000 by omega)) (by omega) hT
    obtain ⟨llf', ldb', plf', e, q1, q2, q3, q4⟩ := meet_loop (mth := 0) (mlo := nI (nl + 1)) (mim := imp + (nI b).toInt64) (g := nI p) (pgd := pgd) (pun := pun) (show upd lgd nl (nI p) nl = nI p from pk_us) (show nl < nl + 1 by omega) hP.1 np 0 (by omega) FU FU _ _ plf _ 0 dis (Nat.lt_of_le_of_lt hP.1 (by decide)) (Nat.lt_of_le_of_lt hP.1 (by decide)) hL1 hP
    unfold f_X7_in_J51
    rw [if_pos (by decide), hadd, hnew, Option.bind_some, Option.bind_some]
    unfold f_X4_meet
    rcases wi_place (x := nI nl) (n := nl + 1) (by omega) with ⟨w1, w2⟩ | ⟨w1, w2⟩
    · exact absurd w2 (fun z => z.elim (nI_pos (by omega)) (nI_ge (by omega) (by omega)))
    · have q1 : f_X4_meet_L23 (upd lgd nl (nI p)) pgd pun (nI np) (nI nl) (nI t) FU (vp_updL llf nl (lN f)) (vp_updL ldb nl (lN b)) plf 0 0 = _ := q1
      have q2 : f_X7_in_L88 0 (nI (nl + 1)) (nI np) (nI t) (imp + (nI b).toInt64) (upd lgd nl (nI p)) (upd ldy nl (nI t)) pgd pun (nI p) (nI nl) FU dis (vp_updL llf nl (lN f)) (vp_updL ldb nl (lN b)) plf 0 = _ := q2
      show ∃ _ _ _ _ _ _ _ _ _ _ _, Option.bind (Option.bind (f_X6_isWithin (nI nl) 0 (nI (nl + 1) - 1)) _) _ = _ ∧ _
      rw [w1, Option.bind_some, if_neg (show ¬ (1 : Int32) = 0 by decide), q1, q2, Option.bind_some, Int64.zero_add]
      exact ⟨_, _, _, _, _, nl + 1, _, _, _, _, _, rfl, rfl, Or.inl ⟨rfl, rfl⟩, q3, q4⟩
