/-! ===== the pure side: the call needs ===== -/
/-- an answer or one exception: r of the class, th and v of the reference -/
def An {α : Type} (r : α ⊕ String) (th : Int32) (v : α) (E : String → Int32 → Prop) : Prop := (r = .inl v ∧ th = 0) ∨ ∃ n, r = .inr n ∧ E n th
def eI (n : String) (th : Int32) : Prop := n = "java/lang/IllegalArgumentException" ∧ th = 1
theorem c_checkPart_bad {x1 x2 x3 x4 : Int32} (h : wi x1 0 11 = 0 ∨ wi x2 0 11 = 0 ∨ wi x3 1 12 = 0 ∨ wi x4 1 12 = 0) : f_X6_checkPart x1 x2 x3 x4 = some (.inr "java/lang/IllegalArgumentException") := by
  unfold f_X6_checkPart
  rw [c_isGood, c_isGood, show (1 : Int32) = nI 1 from rfl, show (12 : Int32) = nI 12 from rfl, c_within, c_within, Option.bind_some, Option.bind_some, Option.bind_some, Option.bind_some]
  by_cases h1 : wi x1 0 11 = 0
  · rw [if_pos h1]
  · rw [if_neg h1]
    by_cases h2 : wi x2 0 11 = 0
    · rw [if_pos h2]
    · rw [if_neg h2]
      by_cases h3 : wi x3 1 12 = 0
      · rw [if_pos h3]
      · rw [if_neg h3, if_pos (h.resolve_left h1 |>.resolve_left h2 |>.resolve_left h3)]
theorem c_checkPart_ok {x1 x2 x3 x4 : Int32} (h1 : ¬ wi x1 0 11 = 0) (h2 : ¬ wi x2 0 11 = 0) (h3 : ¬ wi x3 1 12 = 0) (h4 : ¬ wi x4 1 12 = 0) : f_X6_checkPart x1 x2 x3 x4 = some (.inl ()) := by
  unfold f_X6_checkPart
  rw [c_isGood, c_isGood, show (1 : Int32) = nI 1 from rfl, show (12 : Int32) = nI 12 from rfl, c_within, c_within, Option.bind_some, Option.bind_some, Option.bind_some, Option.bind_some, if_neg h1, if_neg h2, if_neg h3, if_neg h4]
theorem m_isPart (x3 x4 : Int32) : f_X7_isPart x3 x4 = some (if wi x3 1 12 = 0 ∨ wi x4 1 12 = 0 then 0 else 1) := by
  unfold f_X7_isPart
  rw [show (1 : Int64) = lN 1 from rfl, show (12 : Int64) = lN 12 from rfl, m_within x3 (by decide) (by decide), m_within x4 (by decide) (by decide), Option.bind_some, Option.bind_some]
  by_cases h3 : wi x3 1 12 = 0
  · rw [if_pos h3, if_pos (Or.inl h3)]
  · rw [if_neg h3]
    by_cases h4 : wi x4 1 12 = 0
    · rw [if_pos h4, if_pos (Or.inr h4)]
    · rw [if_neg h4, if_neg (fun z => z.elim h3 h4)]
theorem m_part_sel {β : Type} {x1 x2 x3 x4 : Int32} {A B : Option β} :
    ((f_X7_isGood x1).bind fun o1 => if o1 = 0 then A else (f_X7_isGood x2).bind fun o4 => if o4 = 0 then A else (f_X7_isPart x3 x4).bind fun o7 => if o7 = 0 then A else B) = if wi x1 0 11 = 0 ∨ wi x2 0 11 = 0 ∨ wi x3 1 12 = 0 ∨ wi x4 1 12 = 0 then A else B := by
  rw [m_isGood, m_isGood, m_isPart, Option.bind_some, Option.bind_some, Option.bind_some]
  by_cases h1 : wi x1 0 11 = 0
  · rw [if_pos h1, if_pos (Or.inl h1)]
  · rw [if_neg h1]
    by_cases h2 : wi x2 0 11 = 0
    · rw [if_pos h2, if_pos (Or.inr (Or.inl h2))]
    · rw [if_neg h2]
      by_cases h3 : wi x3 1 12 = 0 ∨ wi x4 1 12 = 0
      · rw [if_pos h3, if_pos rfl, if_pos (Or.inr (Or.inr h3))]
      · rw [if_neg h3, if_neg (by decide), if_neg (fun z => z.elim h1 (fun z => z.elim h2 h3))]
theorem c_addNeed_no {hs isz igd iup idn dep : Nat → Int32} {S g : Nat → Nat} {x3 x4 : Int32} (h : CR isz igd S g) {p q : Nat} (hp : p < 12) (hq : q < 12) (hc : hs p = 0 ∨ p = q ∨ S p = 4 ∨ ∃ z, z < S p ∧ g (4 * p + z) = q) :
    f_X5_addNeed hs isz igd iup idn dep (nI p) (nI q) x3 x4 = some (0, isz, igd, iup, idn, dep) := by
  have hS4 := (h.1 p hp).1
  unfold f_X5_addNeed
  rw [ck_nI hp (by decide), nI_clamp (by omega)]
  by_cases h0 : hs p = 0
  · rw [if_pos h0]
  rw [if_neg h0]
  unfold f_X3_add_i
  by_cases hpq : p = q
  · rw [if_pos (by rw [hpq]), Option.bind_some, if_pos rfl]
  rw [if_neg (fun z => hpq ((nI_eq (by omega) (by omega)).mp z)), ck_nI hp (by decide), nI_clamp (by omega), (h.2 p hp).1]
  by_cases h4 : S p = 4
  · rw [if_pos (show (4 : Int32) ≤ nI (S p) by rw [h4]; decide), Option.bind_some, if_pos rfl]
  rw [if_neg (show ¬ (4 : Int32) ≤ nI (S p) from nI_ge (b := 4) (by omega) (by decide))]
  rcases c_told h hp hq with ⟨ht, e1⟩ | ⟨ht, e1⟩
  · rw [e1, Option.bind_some, if_neg (by decide), Option.bind_some, if_pos rfl]
  · exact absurd (((hc.resolve_left h0).resolve_left hpq).resolve_left h4) ht
theorem c_addNeed_new {hs isz igd iup idn dep : Nat → Int32} {S g : Nat → Nat} {x3 x4 : Int32} (h : CR isz igd S g) {p q : Nat} (hp : p < 12) (hq : q < 12) (h0 : ¬ hs p = 0) (hpq : ¬ p = q) (h4 : S p < 4) (ht : ¬ ∃ z, z < S p ∧ g (4 * p + z) = q) :
    f_X5_addNeed hs isz igd iup idn dep (nI p) (nI q) x3 x4 = (f_X5_measureDepths (upd isz p (nI (S p + 1))) (upd igd (4 * p + S p) (nI q)) dep).bind fun o6 =>
      if o6.1 ≤ 3 then some (1, upd isz p (nI (S p + 1)), upd igd (4 * p + S p) (nI q), upd iup (4 * p + S p) x3, upd idn (4 * p + S p) x4, o6.2)
      else (f_X3_dropLast_i (upd isz p (nI (S p + 1))) (nI p)).bind fun o9 => (f_X5_measureDepths o9 (upd igd (4 * p + S p) (nI q)) o6.2).bind fun o11 => some (0, o9, upd igd (4 * p + S p) (nI q), upd iup (4 * p + S p) x3, upd idn (4 * p + S p) x4, o11.2) := by
  unfold f_X5_addNeed
  rw [ck_nI hp (by decide), nI_clamp (by omega), if_neg h0]
  unfold f_X3_add_i
  rw [if_neg (fun z => hpq ((nI_eq (by omega) (by omega)).mp z)), ck_nI hp (by decide), nI_clamp (by omega), (h.2 p hp).1, if_neg (show ¬ (4 : Int32) ≤ nI (S p) from nI_ge (b := 4) (by omega) (by decide))]
  rcases c_told h hp hq with ⟨z, -⟩ | ⟨-, e1⟩
  · exact absurd z ht
  rw [e1, Option.bind_some, if_pos rfl, ck_nI hp (by decide), c_place, Option.bind_some, ck_nI (by omega) (by decide), ck_nI (by omega) (by decide), ck_nI (by omega) (by decide), ck_nI hp (by decide), ck_nI hp (by decide), nI_clamp (by omega), nI_1, Option.bind_some, if_neg (show ¬ (1 : Int32) = 0 by decide)]
theorem m_addNeed_no {hs mns mng mnu mnd : Nat → Int32} {S g : Nat → Nat} {x3 x4 : Int32} (h : MR mns mng S g) {p q : Nat} (hp : p < 12) (hq : q < 12) (hc : hs p = 0 ∨ p = q ∨ S p = 4 ∨ ∃ z, z < S p ∧ g (4 * p + z) = q) :
    f_X7_needs_J29 hs mns mng mnu mnd (nI p) (nI q) x3 x4 0 = some (0, 0, mns, mng, mnu, mnd) := by
  have hS4 := (h.1 p hp).1
  unfold f_X7_needs_J29
  rw [if_neg (show ¬ (0 : Int32) < 0 by decide), ck_nI hp (by decide), nI_clamp (by omega)]
  by_cases h0 : hs p = 0
  · rw [if_pos h0]
  rw [if_neg h0]
  by_cases hpq : p = q
  · rw [if_pos (by rw [hpq])]
  rw [if_neg (fun z => hpq ((nI_eq (by omega) (by omega)).mp z))]
  rcases m_told h hp hq with ⟨ht, e1⟩ | ⟨ht, e1⟩
  · rw [e1, Option.bind_some, if_neg (by decide)]
  · rw [e1, Option.bind_some, if_pos rfl, ck_nI hp (by decide), (h.2 p hp).1]
    rcases ((hc.resolve_left h0).resolve_left hpq) with h4 | z
    · rw [h4, if_pos (show nI 4 = 4 from rfl)]
    · exact absurd z ht
theorem m_addNeed_new {hs mns mng mnu mnd : Nat → Int32} {S g : Nat → Nat} {x3 x4 : Int32} (h : MR mns mng S g) {p q : Nat} (hp : p < 12) (hq : q < 12) (h0 : ¬ hs p = 0) (hpq : ¬ p = q) (h4 : S p < 4) (ht : ¬ ∃ z, z < S p ∧ g (4 * p + z) = q) :
    f_X7_needs_J29 hs mns mng mnu mnd (nI p) (nI q) x3 x4 0 = (f_X7_leads mns mng (nI q) (nI p)).bind fun o10 => if o10 = 0 then f_X7_needs_L148 0 (upd mns p (nI (S p + 1))) (upd mng (4 * p + S p) (nI q)) (upd mnu (4 * p + S p) x3) (upd mnd (4 * p + S p) x4) (nI p) FU 0 0 else some (0, 0, mns, mng, mnu, mnd) := by
  unfold f_X7_needs_J29
  rw [if_neg (show ¬ (0 : Int32) < 0 by decide), ck_nI hp (by decide), nI_clamp (by omega), if_neg h0, if_neg (fun z => hpq ((nI_eq (by omega) (by omega)).mp z))]
  rcases m_told h hp hq with ⟨z, -⟩ | ⟨-, e1⟩
  · exact absurd z ht
  rw [e1, Option.bind_some, if_pos rfl, ck_nI hp (by decide), (h.2 p hp).1, if_neg (fun z => by have := (nI_eq (b := 4) (by omega) (by decide)).mp z; omega)]
  rw [m_place, ck_nI hp (by decide), ck_nI (by omega) (by decide), ck_nI hp (by decide), ck_nI (by omega) (by decide), ck_nI hp (by decide), ck_nI (by omega) (by decide), ck_nI hp (by decide), ck_nI hp (by decide), nI_clamp (by omega), nI_1]
theorem op_needs {hs isz igd iup idn dep mns mng mnu mnd : Nat → Int32} {mth : Int32} (h : RI isz igd iup idn dep mns mng mnu mnd) (x1 x2 x3 x4 : Int32) :
    ∃ (r : Int32 ⊕ String) (isz' igd' iup' idn' dep' : Nat → Int32) (v th : Int32) (mns' mng' mnu' mnd' : Nat → Int32),
      f_X6_needs hs isz igd iup idn dep x1 x2 x3 x4 = some (r, isz', igd', iup', idn', dep') ∧ f_X7_needs mth hs mns mng mnu mnd x1 x2 x3 x4 = some (v, th, mns', mng', mnu', mnd') ∧ An r th v eI ∧ RI isz' igd' iup' idn' dep' mns' mng' mnu' mnd' := by
  unfold f_X6_needs f_X7_needs
  rw [m_part_sel]
  by_cases hbad : wi x1 0 11 = 0 ∨ wi x2 0 11 = 0 ∨ wi x3 1 12 = 0 ∨ wi x4 1 12 = 0
  · rw [c_checkPart_bad hbad, if_pos hbad, Option.bind_some, xb_r]
    refine ⟨_, _, _, _, _, _, 0, 1, mns, mng, mnu, mnd, rfl, ?_, Or.inr ⟨_, rfl, rfl, rfl⟩, h⟩
    unfold f_X7_needs_J28 f_X7_needs_J29
    rw [if_pos (by decide)]
  · have hb1 : ¬ wi x1 0 11 = 0 := fun z => hbad (Or.inl z)
    have hb2 : ¬ wi x2 0 11 = 0 := fun z => hbad (Or.inr (Or.inl z))
    have hb3 : ¬ wi x3 1 12 = 0 := fun z => hbad (Or.inr (Or.inr (Or.inl z)))
    have hb4 : ¬ wi x4 1 12 = 0 := fun z => hbad (Or.inr (Or.inr (Or.inr z)))
    rw [c_checkPart_ok hb1 hb2 hb3 hb4, if_neg hbad, Option.bind_some, xb_l]
    obtain ⟨p, -, hp, rfl⟩ := wi_nat (by decide) (by decide) hb1
    obtain ⟨q, -, hq, rfl⟩ := wi_nat (by decide) (by decide) hb2
    obtain ⟨a, ha1, ha2, rfl⟩ := wi_nat (by decide) (by decide) hb3
    obtain ⟨b, hb1', hb2', rfl⟩ := wi_nat (by decide) (by decide) hb4
    have hp : p < 12 := by omega
    have hq : q < 12 := by omega
    clear hbad hb1 hb2 hb3 hb4
    obtain ⟨S, g, u, w, d, hR, hD, hd⟩ := id h
    have hS4 := (hR.1 p hp).1
    by_cases hc : hs p = 0 ∨ p = q ∨ S p = 4 ∨ ∃ z, z < S p ∧ g (4 * p + z) = q
    · rw [c_addNeed_no hR.cr hp hq hc, m_addNeed_no hR.mr hp hq hc, Option.bind_some, if_pos rfl]
      exact ⟨_, _, _, _, _, _, _, _, _, _, _, _, rfl, rfl, Or.inl ⟨rfl, rfl⟩, h⟩
    have h0 : ¬ hs p = 0 := fun z => hc (Or.inl z)
    have hpq : ¬ p = q := fun z => hc (Or.inr (Or.inl z))
    have hS : S p < 4 := Nat.lt_of_le_of_ne hS4 (fun z => hc (Or.inr (Or.inr (Or.inl z))))
    have ht : ¬ ∃ z, z < S p ∧ g (4 * p + z) = q := fun z => hc (Or.inr (Or.inr (Or.inr z)))
    have hN := hR.add (q := q) (a := a) (b := b) hp hq ⟨ha1, ha2⟩ ⟨hb1', hb2'⟩ hS
    obtain ⟨dep1, v1, M1, c1, c2, c3⟩ := c_measure (dep := dep) hN.cr
    have hM48 : M1 ≤ 48 := c3.2.2.2.1
    have hback : ∀ r, r < 12 → upd (upd isz p (nI (S p + 1))) p (nI (S p)) r = nI (S r) := fun r hr => by
      by_cases e : r = p
      · subst e; rw [pk_us]
      · rw [pk_un e, pk_un e]; exact (hR.2 r hr).1
    -- what the class answers
    have hacceptC : M1 ≤ 3 → f_X5_addNeed hs isz igd iup idn dep (nI p) (nI q) (nI a) (nI b) = some (1, upd isz p (nI (S p + 1)), upd igd (4 * p + S p) (nI q), upd iup (4 * p + S p) (nI a), upd idn (4 * p + S p) (nI b), dep1) := fun hM => by
      rw [c_addNeed_new hR.cr hp hq h0 hpq hS ht, c1, Option.bind_some]
      exact if_pos (show nI M1 ≤ 3 from nI_le (b := 3) hM (by decide))
    have hrefuse : ¬ M1 ≤ 3 → ∃ dep2, f_X5_addNeed hs isz igd iup idn dep (nI p) (nI q) (nI a) (nI b) = some (0, upd (upd isz p (nI (S p + 1))) p (nI (S p)), upd igd (4 * p + S p) (nI q), upd iup (4 * p + S p) (nI a), upd idn (4 * p + S p) (nI b), dep2) ∧ ∀ r, r < 12 → dep2 r = nI (d r) := by
      intro hM
      have hcr : CR (upd (upd isz p (nI (S p + 1))) p (nI (S p))) (upd igd (4 * p + S p) (nI q)) S g := (hR.backC (x1 := nI q) (x2 := nI a) (x3 := nI b) hp hS hback).cr
      obtain ⟨dep2, v2, M2, k1, k2, k3⟩ := c_measure (dep := dep1) hcr
      have hM2 : M2 ≤ 3 := k3.2.2.2.2.2 d 3 hD (fun p hp => (hd p hp).1)
      have hu := IsD.uniq hR.1 (MI_end hR.1 k3 hM2).1 hD
      refine ⟨dep2, ?_, fun r hr => by rw [k2 r hr, hu r hr]⟩
      rw [c_addNeed_new hR.cr hp hq h0 hpq hS ht, c1, Option.bind_some]
      refine (if_neg (show ¬ nI M1 ≤ 3 from nI_ge (a := 3) (by omega) (by omega))).trans ?_
      unfold f_X3_dropLast_i
      rw [ck_nI hp (by decide), ck_nI hp (by decide), ck_nI hp (by decide), nI_clamp (by omega), pk_us, if_neg (nI_nle (by omega) (by omega)), nI_pred, Option.bind_some, k1, Option.bind_some]
    -- the reference
    rw [m_addNeed_new hR.mr hp hq h0 hpq hS ht]
    obtain ⟨m, l1, l2, l3, l4⟩ := m_leads hR.mr hD (fun p hp => (hd p hp).1) hq hp
    rw [l1]
    by_cases hlead : m.testBit p = true
    · -- a circle: nobody has depths
      rw [if_pos hlead]
      have hM : ¬ M1 ≤ 3 := fun hM => by
        obtain ⟨i1, -⟩ := MI_end hN.1 c3 hM
        have e1 := i1.need (p := p) (k := S p) hp (by rw [updN_s]; omega)
        rw [updN_s] at e1
        have e2 := l3 v1 (fun r hr k hk => by
          have hne : 4 * r + k ≠ 4 * p + S p := fun e => by
            have := (hR.1 r hr).1
            have : r = p := by omega
            subst this
            omega
          have := i1.need (p := r) (k := k) hr (by
            by_cases e : r = p
            · subst e; rw [updN_s]; omega
            · rw [updN_n e]; exact hk)
          rw [updN_n hne] at this
          omega) p hlead
        omega
      obtain ⟨dep2, r1, r2⟩ := hrefuse hM
      rw [r1, Option.bind_some, if_pos rfl]
      exact ⟨.inl 0, _, _, _, _, dep2, 0, 0, mns, mng, mnu, mnd, rfl, rfl, Or.inl ⟨rfl, rfl⟩, S, g, u, w, d, hR.backC (x1 := nI q) (x2 := nI a) (x3 := nI b) hp hS hback, hD, fun r hr => ⟨(hd r hr).1, r2 r hr⟩⟩
    · rw [if_neg hlead]
      -- the new graph goes down
      obtain ⟨e, hE, h7⟩ := exD (f := fun r => if m.testBit r = true then d r else d r + 4) hN.1 (fun r hr k hk => by
        by_cases hrk : r = p ∧ k = S p
        · obtain ⟨rfl, rfl⟩ := hrk
          show (if m.testBit (updN g (4 * r + S r) q (4 * r + S r)) = true then d (updN g (4 * r + S r) q (4 * r + S r)) else d (updN g (4 * r + S r) q (4 * r + S r)) + 4) < if m.testBit r = true then d r else d r + 4
          rw [updN_s, if_pos l2, if_neg hlead]
          have := (hd q hq).1
          omega
        · have hk' : k < S r := by
            by_cases e : r = p
            · subst e; rw [updN_s] at hk; omega
            · rw [updN_n e] at hk; exact hk
          have hne : 4 * r + k ≠ 4 * p + S p := fun e => by
            have := (hR.1 r hr).1
            have : r = p := by omega
            subst this
            omega
          have hdn := hD.need hr hk'
          show (if m.testBit (updN g (4 * p + S p) q (4 * r + k)) = true then d (updN g (4 * p + S p) q (4 * r + k)) else d (updN g (4 * p + S p) q (4 * r + k)) + 4) < if m.testBit r = true then d r else d r + 4
          rw [updN_n hne]
          by_cases hb : m.testBit r = true
          · rw [if_pos hb, if_pos (l4 r hr hb (Or.inl (by omega)) k hk')]; omega
          · rw [if_neg hb]; split <;> omega) (fun r hr => by
        have := (hd r hr).1
        show (if m.testBit r = true then d r else d r + 4) ≤ 7
        split <;> omega)
      have hL := nd_L148 (mth := 0) (mnu := upd mnu (4 * p + S p) (nI a)) (mnd := upd mnd (4 * p + S p) (nI b)) hN.mr hE h7 hp (show upd mns p (nI (S p + 1)) p = nI (S p + 1) from pk_us) 12 0 (by omega) FU (by decide)
      have hL : f_X7_needs_L148 0 (upd mns p (nI (S p + 1))) (upd mng (4 * p + S p) (nI q)) (upd mnu (4 * p + S p) (nI a)) (upd mnd (4 * p + S p) (nI b)) (nI p) FU 0 0 = _ := hL
      have hupd : ∀ z : Int32, upd (upd mns p (nI (S p + 1))) p z = upd mns p z := fun z => by
        funext r
        by_cases e : r = p
        · subst e; rw [pk_us, pk_us]
        · rw [pk_un e, pk_un e, pk_un e]
      rw [hupd, hupd] at hL
      by_cases hacc : mxk e 12 ≤ 3
      · have hM : M1 ≤ 3 := c3.2.2.2.2.2 e 3 hE (fun r hr => Nat.le_trans (le_mxk hr) hacc)
        obtain ⟨i1, i2⟩ := MI_end hN.1 c3 hM
        rw [if_pos hacc] at hL
        rw [hacceptC hM, Option.bind_some, if_neg (show ¬ (1 : Int32) = 0 by decide)]
        exact ⟨.inl 1, _, _, _, _, dep1, 1, 0, _, _, _, _, rfl, hL, Or.inl ⟨rfl, rfl⟩, _, _, _, _, v1, hN, i1, fun r hr => ⟨i2 r hr, c2 r hr⟩⟩
      · have hM : ¬ M1 ≤ 3 := fun hM => by
          obtain ⟨i1, i2⟩ := MI_end hN.1 c3 hM
          have hu := IsD.uniq hN.1 hE i1
          exact hacc (mxk_le (fun k hk => by rw [hu k hk]; exact i2 k hk))
        obtain ⟨dep2, r1, r2⟩ := hrefuse hM
        rw [if_neg hacc] at hL
        rw [r1, Option.bind_some, if_pos rfl]
        refine ⟨.inl 0, _, _, _, _, dep2, 0, 0, _, _, _, _, rfl, hL, Or.inl ⟨rfl, rfl⟩, S, g, u, w, d, hR.back (x1 := nI q) (x2 := nI a) (x3 := nI b) hp hS hback (fun r hr => ?_), hD, fun r hr => ⟨(hd r hr).1, r2 r hr⟩⟩
        by_cases e : r = p
        · subst e; rw [pk_us]
        · rw [pk_un e]; exact (hR.2 r hr).2.1
