/-! ===== the pure side: the small calls ===== -/
def eS (n : String) (th : Int32) : Prop := (n = "java/lang/IllegalArgumentException" ∧ th = 1) ∨ (n = "java/lang/IllegalStateException" ∧ th = 2)
def eX (n : String) (th : Int32) : Prop := n = "java/lang/IndexOutOfBoundsException" ∧ th = 1
def eA (n : String) (th : Int32) : Prop := (n = "java/lang/IllegalArgumentException" ∧ th = 1) ∨ (n = "java/lang/ArithmeticException" ∧ th = 2)
def RV (vl mvl : Nat → Int32) : Prop := ∀ p, p < 12 → ∃ v : Nat, v ≤ 10000 ∧ vl p = nI v ∧ mvl p = nI v
theorem op_value {vl mvl : Nat → Int32} {mth : Int32} (h : RV vl mvl) (x1 x2 : Int32) : ∃ (r : Int32) (vl' mvl' : Nat → Int32), f_X6_value vl x1 x2 = some (r, vl') ∧ f_X7_value mth mvl x1 x2 = some (r, 0, mvl') ∧ RV vl' mvl' := by
  unfold f_X6_value f_X7_value
  rw [c_isGood, m_isGood, show (10000 : Int32) = nI 10000 from rfl, show f_X6_isWithin x2 0 (nI 10000) = _ from c_within x2 0 10000, show f_X7_within x2.toInt64 0 10000 = _ from m_within x2 (a := 0) (b := 10000) (by decide) (by decide), Option.bind_some, Option.bind_some, Option.bind_some, Option.bind_some]
  by_cases h1 : wi x1 0 11 = 0
  · rw [if_pos h1, if_pos h1]; exact ⟨_, _, _, rfl, rfl, h⟩
  rw [if_neg h1, if_neg h1]
  by_cases h2 : wi x2 0 10000 = 0
  · rw [if_pos h2, if_pos h2]; exact ⟨_, _, _, rfl, rfl, h⟩
  rw [if_neg h2, if_neg h2]
  obtain ⟨p, -, hp, rfl⟩ := wi_nat (by decide) (by decide) h1
  obtain ⟨v, -, hv, rfl⟩ := wi_nat (by decide) (by decide) h2
  rw [ck_nI (by omega) (by decide), ck_nI (by omega) (by decide), nI_clamp (by omega)]
  refine ⟨_, _, _, rfl, rfl, fun q hq => ?_⟩
  by_cases e : q = p
  · subst e; exact ⟨v, hv, pk_us, pk_us⟩
  · rw [pk_un e, pk_un e]; exact h q hq
theorem op_recipe {hs : Nat → Int32} {rsz mth : Int32} (x1 : Int32) : ∃ (r : Int32) (hs' : Nat → Int32) (rsz' : Int32), f_X6_recipe hs rsz x1 = some (r, hs', rsz') ∧ f_X7_recipe mth rsz hs x1 = some (r, 0, rsz', hs') := by
  unfold f_X6_recipe f_X7_recipe
  rw [c_isGood, m_isGood, Option.bind_some, Option.bind_some]
  by_cases h1 : wi x1 0 11 = 0
  · rw [if_pos h1, if_pos h1]; exact ⟨_, _, _, rfl, rfl⟩
  rw [if_neg h1, if_neg h1]
  obtain ⟨p, -, hp, rfl⟩ := wi_nat (by decide) (by decide) h1
  rw [ck_nI (by omega) (by decide), ck_nI (by omega) (by decide), ck_nI (by omega) (by decide), ck_nI (by omega) (by decide), nI_clamp (by omega)]
  by_cases h2 : hs p = 0
  · rw [if_pos h2, if_pos h2]; exact ⟨_, _, _, rfl, rfl⟩
  · rw [if_neg h2, if_neg h2]; exact ⟨_, _, _, rfl, rfl⟩
theorem op_day {mth : Int32} {t : Nat} (ht : t ≤ 100000) (x1 : Int32) : ∃ (r : Int32) (t' : Nat), f_X6_day (nI t) x1 = some (r, nI t') ∧ f_X7_day mth (nI t) x1 = some (r, 0, nI t') ∧ t ≤ t' ∧ t' ≤ 100000 := by
  unfold f_X6_day f_X7_day
  rw [show (100000 : Int32) = nI 100000 from rfl, c_within, Option.bind_some]
  by_cases h1 : wi x1 t 100000 = 0
  · rw [if_pos h1]
    have h2 := wi_0 h1
    refine ⟨0, t, rfl, ?_, Nat.le_refl _, ht⟩
    by_cases h3 : x1 < nI t
    · rw [if_pos h3]
    · rw [if_neg h3, if_neg (fun z => h2 ⟨Int32.not_lt.mp h3, z⟩)]
  · rw [if_neg h1]
    obtain ⟨v, hv1, hv2, rfl⟩ := wi_nat (by omega) (by decide) h1
    refine ⟨1, v, rfl, ?_, hv1, hv2⟩
    rw [if_neg (nI_nlt hv1 (by omega)), if_pos (nI_le hv2 (by decide))]
theorem op_count {rsz lsz psz tod mth : Int32} (x1 : Int32) : ∃ r : Int32, f_X6_count rsz lsz psz tod x1 = some r ∧ f_X7_count mth lsz rsz psz tod x1 = some (r, 0) := by
  unfold f_X6_count f_X7_count
  by_cases h0 : x1 = 0
  · rw [if_pos h0, if_pos h0]; exact ⟨_, rfl, rfl⟩
  rw [if_neg h0, if_neg h0]
  by_cases h1 : x1 = 1
  · rw [if_pos h1, if_pos h1]; exact ⟨_, rfl, rfl⟩
  rw [if_neg h1, if_neg h1]
  by_cases h2 : x1 = 2
  · rw [if_pos h2, if_pos h2]; exact ⟨_, rfl, rfl⟩
  rw [if_neg h2, if_neg h2]
  by_cases h3 : x1 = 3
  · rw [if_pos h3, if_pos h3]; exact ⟨_, rfl, rfl⟩
  rw [if_neg h3, if_neg h3]
  exact ⟨_, rfl, rfl⟩
theorem op_quotient {mth : Int32} (x1 x2 : Int32) : ∃ (r : Int64 ⊕ String) (v : Int64) (th : Int32), f_X6_quotient x1 x2 = some r ∧ f_X7_quotient mth x1 x2 = some (v, th) ∧ An r th v eA := by
  unfold f_X6_quotient f_X7_quotient f_X7_quotient_J25 f_X7_quotient_J38 nzI
  rw [show f_X6_isWithin x1 0 1000000000 = _ from c_within x1 0 1000000000, show f_X6_isWithin x2 0 1000000000 = _ from c_within x2 0 1000000000, show f_X7_within x1.toInt64 0 1000000000 = _ from m_within x1 (a := 0) (b := 1000000000) (by decide) (by decide), show f_X7_within x2.toInt64 0 1000000000 = _ from m_within x2 (a := 0) (b := 1000000000) (by decide) (by decide), Option.bind_some, Option.bind_some, Option.bind_some, Option.bind_some, if_neg (show ¬ (1 : Int32) ≤ 0 by decide), if_neg (show ¬ (2 : Int32) ≤ 0 by decide), if_pos (show (0 : Int32) ≤ 0 by decide)]
  by_cases h1 : wi x1 0 1000000000 = 0
  · rw [if_pos h1, if_pos h1]; exact ⟨_, _, _, rfl, rfl, Or.inr ⟨_, rfl, Or.inl ⟨rfl, rfl⟩⟩⟩
  rw [if_neg h1, if_neg h1]
  by_cases h2 : wi x2 0 1000000000 = 0
  · rw [if_pos h2, if_pos h2]; exact ⟨_, _, _, rfl, rfl, Or.inr ⟨_, rfl, Or.inl ⟨rfl, rfl⟩⟩⟩
  rw [if_neg h2, if_neg h2]
  by_cases h3 : x2 = 0
  · rw [if_pos h3, if_pos h3]; exact ⟨_, _, _, rfl, rfl, Or.inr ⟨_, rfl, Or.inr ⟨rfl, rfl⟩⟩⟩
  rw [if_neg h3, if_neg h3, if_neg h3, if_neg h3]
  exact ⟨_, _, _, rfl, rfl, Or.inl ⟨rfl, rfl⟩⟩
/-- a place: among the first n, or not -/
theorem wi_place {x : Int32} {n : Nat} (hn : n < 2 ^ 30) : (f_X6_isWithin x 0 (nI n - 1) = some 0 ∧ (x < 0 ∨ nI n ≤ x)) ∨ (f_X6_isWithin x 0 (nI n - 1) = some 1 ∧ ∃ j, j < n ∧ x = nI j) := by
  unfold f_X6_isWithin
  by_cases h0 : x < 0
  · rw [if_pos h0]; exact Or.inl ⟨rfl, Or.inl h0⟩
  rw [if_neg h0]
  obtain ⟨j, hj, rfl⟩ := nI_of h0
  cases n with
  | zero =>
    rw [if_pos (by
      rw [show nI 0 - 1 = (-1 : Int32) by decide]
      apply Int32.lt_iff_toInt_lt.mpr
      rw [nI_toInt hj, show ((-1 : Int32)).toInt = -1 by decide]
      omega)]
    exact Or.inl ⟨rfl, Or.inr (nI_le (Nat.zero_le _) hj)⟩
  | succ n =>
    rw [nI_pred]
    by_cases h : n < j
    · rw [if_pos (nI_lt h hj)]
      exact Or.inl ⟨rfl, Or.inr (nI_le (by omega) hj)⟩
    · rw [if_neg (nI_nlt (by omega) (by omega))]
      exact Or.inr ⟨rfl, j, by omega, rfl⟩
theorem wi03 {x : Int32} : wi x 0 3 = 0 ↔ (x < 0 ∨ (4 : Int32) ≤ x) := by
  constructor
  · intro h
    have h2 := wi_0 h
    by_cases h0 : x < 0
    · exact Or.inl h0
    · refine Or.inr ?_
      have : ¬ x ≤ nI 3 := fun z => h2 ⟨Int32.not_lt.mp h0, z⟩
      obtain ⟨j, hj, rfl⟩ := nI_of h0
      have : ¬ j ≤ 3 := fun z => this (nI_le z (by decide))
      exact nI_le (a := 4) (by omega) hj
  · intro h
    apply Classical.byContradiction
    intro q
    obtain ⟨v, v1, v2, rfl⟩ := wi_nat (by decide) (by decide) q
    rcases h with h | h
    · exact nI_pos (by omega) h
    · exact nI_ge (b := 4) (by omega) (by decide) h
theorem op_lot {lgd ldy : Nat → Int32} {llf ldb : Nat → Int64} {nl : Nat} {mth : Int32} (hn : nl ≤ 200) (x1 x2 : Int32) : ∃ (r : Int64 ⊕ String) (v : Int64) (th : Int32), f_X6_lot lgd llf ldb ldy (nI nl) x1 x2 = some r ∧ f_X7_lot mth (nI nl) lgd ldy llf ldb x1 x2 = some (v, th) ∧ An r th v eX := by
  unfold f_X6_lot f_X7_lot f_X7_lot_J26 f_X7_lot_J27
  rw [if_neg (show ¬ (1 : Int32) ≤ 0 by decide), if_pos (show (0 : Int32) ≤ 0 by decide), show f_X6_isWithin x2 0 3 = _ from c_within x2 0 3]
  rcases wi_place (x := x1) (n := nl) (by omega) with ⟨e, h⟩ | ⟨e, j, hj, rfl⟩
  · rw [e, Option.bind_some, if_pos rfl]
    by_cases h0 : x1 < 0
    · rw [if_pos h0]; exact ⟨_, _, _, rfl, rfl, Or.inr ⟨_, rfl, rfl, rfl⟩⟩
    · rw [if_neg h0, if_pos (h.resolve_left h0)]; exact ⟨_, _, _, rfl, rfl, Or.inr ⟨_, rfl, rfl, rfl⟩⟩
  · rw [e, Option.bind_some, if_neg (show ¬ (1 : Int32) = 0 by decide), if_neg (nI_pos (by omega)), if_neg (nI_ge hj (by omega)), Option.bind_some]
    by_cases h2 : wi x2 0 3 = 0
    · rw [if_pos h2]
      by_cases h0 : x2 < 0
      · rw [if_pos h0]; exact ⟨_, _, _, rfl, rfl, Or.inr ⟨_, rfl, rfl, rfl⟩⟩
      · rw [if_neg h0, if_pos ((wi03.mp h2).resolve_left h0)]; exact ⟨_, _, _, rfl, rfl, Or.inr ⟨_, rfl, rfl, rfl⟩⟩
    · rw [if_neg h2, if_neg (fun z => h2 (wi03.mpr (Or.inl z))), if_neg (fun z => h2 (wi03.mpr (Or.inr z)))]
      simp only [ck_nI (show j < 200 by omega) (show 200 < 2 ^ 31 by decide), nI_clamp (show j < 2 ^ 31 by omega)]
      by_cases k0 : x2 = 0
      · rw [if_pos k0, if_pos k0]; exact ⟨_, _, _, rfl, rfl, Or.inl ⟨rfl, rfl⟩⟩
      rw [if_neg k0, if_neg k0]
      by_cases k1 : x2 = 1
      · rw [if_pos k1, if_pos k1]; exact ⟨_, _, _, rfl, rfl, Or.inl ⟨rfl, rfl⟩⟩
      rw [if_neg k1, if_neg k1]
      by_cases k2 : x2 = 2
      · rw [if_pos k2, if_pos k2]; exact ⟨_, _, _, rfl, rfl, Or.inl ⟨rfl, rfl⟩⟩
      rw [if_neg k2, if_neg k2]
      exact ⟨_, _, _, rfl, rfl, Or.inl ⟨rfl, rfl⟩⟩
/-- the reference's sum goes over all goods -/
theorem m_sum_loop {lgd ldy : Nat → Int32} {llf ldb : Nat → Int64} {nl t : Nat} {G F B Y : Nat → Nat} {mth x1 : Int32} {imp dis owe itr : Int64} (hnl : nl ≤ 200) (hX : LX lgd llf ldb ldy nl t G F B Y) : ∀ (c i : Nat), i + c = 12 → ∀ (n a : Nat), c < n →
    f_X7_sum_L10 mth (nI nl) imp dis owe itr lgd ldb x1 n (lN a) (nI i) = f_X7_sum_L10 mth (nI nl) imp dis owe itr lgd ldb x1 1 (lN (a + rs (fun g => sumN (gsum G B g) nl) i c)) (nI 12) := by
  intro c
  induction c with
  | zero =>
    intro i hi n a hn
    obtain ⟨m, rfl⟩ : ∃ k, n = k + 1 := ⟨n - 1, by omega⟩
    rw [show i = 12 by omega]
    unfold f_X7_sum_L10
    rw [if_pos (show (12 : Int32) ≤ nI 12 by decide), if_pos (show (12 : Int32) ≤ nI 12 by decide)]
    rfl
  | succ c ih =>
    intro i hi n a hn
    obtain ⟨m, rfl⟩ : ∃ k, n = k + 1 := ⟨n - 1, by omega⟩
    have e := ih (i + 1) (by omega) m (a + sumN (gsum G B i) nl) (by omega)
    rw [Nat.add_assoc] at e
    have e : f_X7_sum_L10 mth (nI nl) imp dis owe itr lgd ldb x1 m (lN (a + sumN (gsum G B i) nl)) (nI (i + 1)) = f_X7_sum_L10 mth (nI nl) imp dis owe itr lgd ldb x1 1 (lN (a + rs (fun g => sumN (gsum G B g) nl) i (c + 1))) (nI 12) := e
    rw [← e]
    conv => lhs; unfold f_X7_sum_L10
    rw [show (12 : Int32) = nI 12 from rfl, if_neg (nI_ge (by omega) (by omega)), m_debt, c_debt hnl (by omega) hX, Option.bind_some, lN_add, nI_1]
theorem op_sum {lgd ldy : Nat → Int32} {llf ldb : Nat → Int64} {nl t T : Nat} {mth : Int32} {imp dis owe itr : Int64} (h : LI lgd llf ldb ldy nl t T) (x1 : Int32) : ∃ r : Int64, f_X6_sum ldb (nI nl) imp dis owe itr x1 = some r ∧ f_X7_sum mth (nI nl) imp dis owe itr lgd ldb x1 = some (r, 0) := by
  obtain ⟨a1, a2, a3, G, F, B, Y, hX, hS⟩ := h
  have e := m_sum_loop (mth := 0) (x1 := x1) (imp := imp) (dis := dis) (owe := owe) (itr := itr) a1 hX 12 0 (by omega) FU 0 (by decide)
  rw [rs_all, goods_sum (fun i hi => (hX i hi).2.1), Nat.zero_add] at e
  have e : f_X7_sum mth (nI nl) imp dis owe itr lgd ldb x1 = _ := e
  rw [e]
  unfold f_X6_sum f_X7_sum_L10
  rw [if_pos (show (12 : Int32) ≤ nI 12 by decide), c_whole a1 hX, Option.bind_some]
  by_cases h0 : x1 = 0
  · rw [if_pos h0, if_pos h0]; exact ⟨_, rfl, rfl⟩
  rw [if_neg h0, if_neg h0]
  by_cases h1 : x1 = 1
  · rw [if_pos h1, if_pos h1]; exact ⟨_, rfl, rfl⟩
  rw [if_neg h1, if_neg h1]
  by_cases h2 : x1 = 2
  · rw [if_pos h2, if_pos h2]; exact ⟨_, rfl, rfl⟩
  rw [if_neg h2, if_neg h2]
  by_cases h3 : x1 = 3
  · rw [if_pos h3, if_pos h3]; exact ⟨_, rfl, rfl⟩
  rw [if_neg h3, if_neg h3]
  by_cases h4 : x1 = 4
  · rw [if_pos h4, if_pos h4]; exact ⟨_, rfl, rfl⟩
  rw [if_neg h4, if_neg h4]
  exact ⟨_, rfl, rfl⟩
theorem LI_mono {lgd ldy : Nat → Int32} {llf ldb : Nat → Int64} {nl t T T' : Nat} (h : LI lgd llf ldb ldy nl t T) (h1 : T ≤ T') (h2 : T' ≤ 1000000000) : LI lgd llf ldb ldy nl t T' := by
  obtain ⟨a1, a2, a3, G, F, B, Y, hX, hS⟩ := h
  exact ⟨a1, a2, h2, G, F, B, Y, hX, by omega⟩
theorem LI_day {lgd ldy : Nat → Int32} {llf ldb : Nat → Int64} {nl t t' T : Nat} (h : LI lgd llf ldb ldy nl t T) (h1 : t ≤ t') (h2 : t' ≤ 100000) : LI lgd llf ldb ldy nl t' T := by
  obtain ⟨a1, a2, a3, G, F, B, Y, hX, hS⟩ := h
  exact ⟨a1, h2, a3, G, F, B, Y, fun i hi => by
    obtain ⟨b1, b2, b3, b4, b5, b6, b7⟩ := hX i hi
    exact ⟨b1, b2, b3, b4, b5, b6, by omega⟩, hS⟩
theorem c_checkTaking (x1 x2 : Int32) : f_X6_checkTaking x1 x2 = some (if wi x1 0 11 = 0 ∨ x2 < 1 then .inr "java/lang/IllegalArgumentException" else .inl ()) := by
  unfold f_X6_checkTaking
  rw [c_isGood, Option.bind_some]
  by_cases h1 : wi x1 0 11 = 0
  · rw [if_pos h1, if_pos (Or.inl h1)]
  · rw [if_neg h1]
    by_cases h2 : x2 < 1
    · rw [if_neg (fun z => Int32.not_lt.mpr z h2), if_pos (Or.inr h2)]
    · rw [if_pos (Int32.not_lt.mp h2), if_neg (fun z => z.elim h1 h2)]
theorem m_take_sel {β : Type} {x1 x2 : Int32} {A C : Option β} : ((f_X7_isGood x1).bind fun o1 => if o1 = 0 then A else if x2 < 1 then A else C) = if wi x1 0 11 = 0 ∨ x2 < 1 then A else C := by
  rw [m_isGood, Option.bind_some]
  by_cases h1 : wi x1 0 11 = 0
  · rw [if_pos h1, if_pos (Or.inl h1)]
  · rw [if_neg h1]
    by_cases h2 : x2 < 1
    · rw [if_pos h2, if_pos (Or.inr h2)]
    · rw [if_neg h2, if_neg (fun z => z.elim h1 h2)]
theorem pos_nat {x : Int32} (h : ¬ x < 1) : ∃ n, n < 2 ^ 31 ∧ x = nI n := nI_of (fun z => h (by
  rw [Int32.lt_iff_toInt_lt] at z ⊢
  rw [show (0 : Int32).toInt = 0 by decide] at z
  rw [show (1 : Int32).toInt = 1 by decide]
  omega))
theorem op_export {lgd ldy : Nat → Int32} {llf ldb : Nat → Int64} {nl t T : Nat} {mth : Int32} {lti dis mtd mti : Int64} (h : LI lgd llf ldb ldy nl t T) (x1 x2 : Int32) :
    ∃ (r : Int64 ⊕ String) (llf' ldb' : Nat → Int64) (lti' dis' v : Int64) (th : Int32) (mtd' mti' : Int64), f_X6_export lgd llf ldb ldy (nI nl) lti (nI t) dis x1 x2 = some (r, llf', ldb', lti', dis') ∧ f_X7_export mth (nI nl) (nI t) dis lgd ldy llf ldb mtd mti x1 x2 = some (v, th, dis', llf', ldb', mtd', mti') ∧ An r th v eI ∧ LI lgd llf' ldb' ldy nl t T := by
  unfold f_X6_export f_X7_export
  rw [c_checkTaking, Option.bind_some, m_take_sel]
  by_cases hb : wi x1 0 11 = 0 ∨ x2 < 1
  · rw [if_pos hb, if_pos hb, xb_r]
    unfold f_X7_export_J17 f_X7_export_J18
    rw [if_neg (by decide)]
    exact ⟨_, _, _, _, _, _, _, _, _, rfl, rfl, Or.inr ⟨_, rfl, rfl, rfl⟩, h⟩
  · rw [if_neg hb, if_neg hb, xb_l]
    obtain ⟨p, -, hp, rfl⟩ := wi_nat (by decide) (by decide) (fun z => hb (Or.inl z))
    obtain ⟨n, hn, rfl⟩ := pos_nat (fun z => hb (Or.inr z))
    obtain ⟨a1, a2, a3, G, F, B, Y, hX, hS⟩ := id h
    unfold f_X7_export_J18
    rw [if_pos (by decide), m_stock, c_stock a1 (show p < 12 by omega) hX, Option.bind_some, Option.bind_some]
    by_cases hc : 0 ≤ lg_cmp (lN (sumN (gsum G F p) nl)) (nI n).toInt64
    · rw [if_pos hc, if_pos hc, nI_l hn]
      obtain ⟨llf', ldb', ti', e, q1, q2, q3, q4⟩ := take_eq (lti := lti) (mtd := mtd) (mti := mti) (show p < 12 by omega) (show n < 2 ^ 60 by omega) h
      rw [q1, q2, Option.bind_some, Option.bind_some]
      exact ⟨_, _, _, _, _, _, _, _, _, rfl, rfl, Or.inl ⟨rfl, rfl⟩, LI_mono q4 (Nat.sub_le _ _) a3⟩
    · rw [if_neg hc, if_neg hc]
      exact ⟨_, _, _, _, _, _, _, _, _, rfl, rfl, Or.inl ⟨rfl, rfl⟩, h⟩
theorem op_release {lgd ldy : Nat → Int32} {llf ldb : Nat → Int64} {nl t T : Nat} {mth : Int32} {lti owe itr mtd mti : Int64} (h : LI lgd llf ldb ldy nl t T) (x1 x2 : Int32) :
    ∃ (r : Int64 ⊕ String) (llf' ldb' : Nat → Int64) (lti' owe' itr' v : Int64) (th : Int32) (mtd' mti' : Int64), f_X6_release lgd llf ldb ldy (nI nl) lti (nI t) owe itr x1 x2 = some (r, llf', ldb', lti', owe', itr') ∧ f_X7_release mth (nI nl) (nI t) owe itr lgd ldy llf ldb mtd mti x1 x2 = some (v, th, owe', itr', llf', ldb', mtd', mti') ∧ An r th v eI ∧ LI lgd llf' ldb' ldy nl t T := by
  unfold f_X6_release f_X7_release
  rw [c_checkTaking, Option.bind_some, m_take_sel]
  by_cases hb : wi x1 0 11 = 0 ∨ x2 < 1
  · rw [if_pos hb, if_pos hb, xb_r]
    unfold f_X7_release_J17 f_X7_release_J18
    rw [if_neg (by decide)]
    exact ⟨_, _, _, _, _, _, _, _, _, _, rfl, rfl, Or.inr ⟨_, rfl, rfl, rfl⟩, h⟩
  · rw [if_neg hb, if_neg hb, xb_l]
    obtain ⟨p, -, hp, rfl⟩ := wi_nat (by decide) (by decide) (fun z => hb (Or.inl z))
    obtain ⟨n, hn, rfl⟩ := pos_nat (fun z => hb (Or.inr z))
    obtain ⟨a1, a2, a3, G, F, B, Y, hX, hS⟩ := id h
    unfold f_X7_release_J18
    rw [if_pos (by decide), m_stock, c_stock a1 (show p < 12 by omega) hX, Option.bind_some, Option.bind_some]
    by_cases hc : 0 ≤ lg_cmp (lN (sumN (gsum G F p) nl)) (nI n).toInt64
    · rw [if_pos hc, if_pos hc, nI_l hn]
      obtain ⟨llf', ldb', ti', e, q1, q2, q3, q4⟩ := take_eq (lti := lti) (mtd := mtd) (mti := mti) (show p < 12 by omega) (show n < 2 ^ 60 by omega) h
      rw [q1, q2, Option.bind_some, Option.bind_some]
      exact ⟨_, _, _, _, _, _, _, _, _, _, rfl, rfl, Or.inl ⟨rfl, rfl⟩, LI_mono q4 (Nat.sub_le _ _) a3⟩
    · rw [if_neg hc, if_neg hc]
      exact ⟨_, _, _, _, _, _, _, _, _, _, rfl, rfl, Or.inl ⟨rfl, rfl⟩, h⟩
