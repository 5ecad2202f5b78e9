/-! ===== the pure side: the chain ===== -/
abbrev WH : Nat := 21300003648000
/-- one part of the chain of p to t: what p's k-th need brings -/
def cT (g u w X : Nat → Nat) (p k : Nat) : Nat := X (g (4 * p + k)) * u (4 * p + k) / w (4 * p + k)
def c0 (t p : Nat) : Nat := if p = t then WH else 0
def IsX (S g u w X : Nat → Nat) (t : Nat) : Prop := ∀ p, p < 12 → X p = c0 t p + sumN (cT g u w X p) (S p)
def itX (S g u w : Nat → Nat) (t : Nat) : Nat → Nat → Nat
  | 0 => fun _ => 0
  | n + 1 => fun p => c0 t p + sumN (cT g u w (itX S g u w t n) p) (S p)
theorem exX {S g u w d : Nat → Nat} (W : GW S g) (hD : IsD S g d) (h3 : ∀ p, p < 12 → d p ≤ 3) (t : Nat) : ∃ X, IsX S g u w X t := by
  have h1 : ∀ n p, p < 12 → d p < n → itX S g u w t n p = itX S g u w t (n + 1) p := by
    intro n
    induction n with
    | zero => intro p hp h; omega
    | succ n ih =>
      intro p hp h
      show c0 t p + sumN _ _ = c0 t p + sumN _ _
      congr 1
      refine sumN_congr (fun k hk => ?_)
      have := hD.need hp hk
      show itX S g u w t n _ * _ / _ = itX S g u w t (n + 1) _ * _ / _
      rw [ih _ ((W p hp).2 k hk) (by omega)]
  refine ⟨itX S g u w t 4, fun p hp => ?_⟩
  have := h3 p hp
  exact h1 4 p hp (by omega)
/-- ups and downs -/
def UW (S u w : Nat → Nat) : Prop := ∀ p, p < 12 → ∀ k, k < S p → 1 ≤ u (4 * p + k) ∧ u (4 * p + k) ≤ 12 ∧ 1 ≤ w (4 * p + k) ∧ w (4 * p + k) ≤ 12
theorem dvd12 {w : Nat} (h1 : 1 ≤ w) (h2 : w ≤ 12) : w ∣ 27720 := by
  match w, h1, h2 with
  | 1, _, _ => decide
  | 2, _, _ => decide
  | 3, _, _ => decide
  | 4, _, _ => decide
  | 5, _, _ => decide
  | 6, _, _ => decide
  | 7, _, _ => decide
  | 8, _, _ => decide
  | 9, _, _ => decide
  | 10, _, _ => decide
  | 11, _, _ => decide
  | 12, _, _ => decide
  | k + 13, _, h => omega
theorem sumN_dvd {f : Nat → Nat} {m : Nat} : ∀ {n : Nat}, (∀ k, k < n → m ∣ f k) → m ∣ sumN f n
  | 0, _ => Nat.dvd_zero m
  | n + 1, h => Nat.dvd_add (sumN_dvd (fun k hk => h k (by omega))) (h n (by omega))
theorem sumN_le {f : Nat → Nat} {b : Nat} : ∀ {n : Nat}, (∀ k, k < n → f k ≤ b) → sumN f n ≤ n * b
  | 0, _ => Nat.zero_le _
  | n + 1, h => by
    have := sumN_le (f := f) (b := b) (n := n) (fun k hk => h k (by omega))
    have := h n (by omega)
    rw [Nat.add_mul]
    show sumN f n + f n ≤ _
    omega
theorem sumN_0 {f : Nat → Nat} : ∀ {n : Nat}, (∀ k, k < n → f k = 0) → sumN f n = 0
  | 0, _ => rfl
  | n + 1, h => by
    show sumN f n + f n = 0
    rw [sumN_0 (fun k hk => h k (by omega)), h n (by omega)]
theorem sumN_mono {f : Nat → Nat} {k : Nat} : ∀ {n : Nat}, k ≤ n → sumN f k ≤ sumN f n
  | 0, h => by rw [show k = 0 by omega]; exact Nat.le_refl _
  | n + 1, h => by
    by_cases e : k = n + 1
    · rw [e]; exact Nat.le_refl _
    · have := sumN_mono (f := f) (k := k) (n := n) (by omega)
      show _ ≤ sumN f n + f n
      omega
theorem X_dvd {S g u w d X : Nat → Nat} {t : Nat} (W : GW S g) (hU : UW S u w) (hD : IsD S g d) (h3 : ∀ p, p < 12 → d p ≤ 3) (hX : IsX S g u w X t) : ∀ n p, p < 12 → d p ≤ n → 27720 ^ (3 - d p) ∣ X p := by
  intro n
  have hstep : ∀ p, p < 12 → (∀ k, k < S p → 27720 ^ (3 - d (g (4 * p + k))) ∣ X (g (4 * p + k))) → 27720 ^ (3 - d p) ∣ X p := by
    intro p hp h
    rw [hX p hp]
    refine Nat.dvd_add ?_ (sumN_dvd (fun k hk => ?_))
    · unfold c0
      split
      · exact Nat.dvd_trans (Nat.pow_dvd_pow 27720 (show 3 - d p ≤ 3 by omega)) (show 27720 ^ 3 ∣ WH by decide)
      · exact Nat.dvd_zero _
    · have hk2 := hU p hp k hk
      have hdn := hD.need hp hk
      have hp3 := h3 p hp
      obtain ⟨y, hy⟩ := h k hk
      obtain ⟨c, hc⟩ := dvd12 hk2.2.2.1 hk2.2.2.2
      obtain ⟨j, hj⟩ : ∃ j, 3 - d (g (4 * p + k)) = j + 1 := ⟨2 - d (g (4 * p + k)), by omega⟩
      unfold cT
      rw [hj, Nat.pow_succ] at hy
      have e : X (g (4 * p + k)) * u (4 * p + k) = w (4 * p + k) * (27720 ^ j * (c * y * u (4 * p + k))) := by
        calc X (g (4 * p + k)) * u (4 * p + k) = 27720 ^ j * 27720 * y * u (4 * p + k) := by rw [hy]
          _ = 27720 ^ j * (w (4 * p + k) * c) * y * u (4 * p + k) := by rw [← hc]
          _ = w (4 * p + k) * (27720 ^ j * (c * y * u (4 * p + k))) := by ac_rfl
      rw [e, Nat.mul_div_cancel_left _ (by omega)]
      exact Nat.dvd_trans (Nat.pow_dvd_pow 27720 (show 3 - d p ≤ j by omega)) (Nat.dvd_mul_right _ _)
  induction n with
  | zero =>
    intro p hp h
    exact hstep p hp (fun k hk => by have := hD.need hp hk; omega)
  | succ n ih =>
    intro p hp h
    exact hstep p hp (fun k hk => ih _ ((W p hp).2 k hk) (by have := hD.need hp hk; omega))
/-- a part of the chain is whole -/
theorem X_exact {S g u w d X : Nat → Nat} {t : Nat} (W : GW S g) (hU : UW S u w) (hD : IsD S g d) (h3 : ∀ p, p < 12 → d p ≤ 3) (hX : IsX S g u w X t) {p k : Nat} (hp : p < 12) (hk : k < S p) : cT g u w X p k * w (4 * p + k) = X (g (4 * p + k)) * u (4 * p + k) := by
  have hk2 := hU p hp k hk
  have hdn := hD.need hp hk
  have hp3 := h3 p hp
  have h1 := X_dvd W hU hD h3 hX _ _ ((W p hp).2 k hk) (Nat.le_refl _)
  have h2 : w (4 * p + k) ∣ X (g (4 * p + k)) := by
    refine Nat.dvd_trans (dvd12 hk2.2.2.1 hk2.2.2.2) (Nat.dvd_trans ?_ h1)
    obtain ⟨j, hj⟩ : ∃ j, 3 - d (g (4 * p + k)) = j + 1 := ⟨2 - d (g (4 * p + k)), by omega⟩
    rw [hj, Nat.pow_succ]
    exact Nat.dvd_mul_left _ _
  exact Nat.div_mul_cancel (Nat.dvd_trans h2 (Nat.dvd_mul_right _ _))
def cB : Nat → Nat
  | 0 => WH
  | n + 1 => WH + 48 * cB n
theorem X_le {S g u w d X : Nat → Nat} {t : Nat} (W : GW S g) (hU : UW S u w) (hD : IsD S g d) (hX : IsX S g u w X t) : ∀ n p, p < 12 → d p ≤ n → X p ≤ cB n := by
  intro n
  have hc : ∀ p, c0 t p ≤ WH := fun p => by unfold c0; split <;> omega
  induction n with
  | zero =>
    intro p hp h
    rw [hX p hp, sumN_0 (fun k hk => by have := hD.need hp hk; omega)]
    exact hc p
  | succ n ih =>
    intro p hp h
    rw [hX p hp]
    have h4 := (W p hp).1
    have : sumN (cT g u w X p) (S p) ≤ S p * (12 * cB n) := sumN_le (fun k hk => by
      have hk2 := hU p hp k hk
      have := ih _ ((W p hp).2 k hk) (by have := hD.need hp hk; omega)
      unfold cT
      refine Nat.le_trans (Nat.div_le_self _ _) ?_
      rw [Nat.mul_comm 12]
      exact Nat.mul_le_mul this hk2.2.1)
    have h5 : S p * (12 * cB n) ≤ 4 * (12 * cB n) := Nat.mul_le_mul_right _ h4
    have := hc p
    show _ ≤ WH + 48 * cB n
    omega
theorem X_zero {S g u w d X : Nat → Nat} {t : Nat} (W : GW S g) (hD : IsD S g d) (hX : IsX S g u w X t) : ∀ n p, p < 12 → d p ≤ n → d p < d t → X p = 0 := by
  intro n
  have hc : ∀ p, d p < d t → c0 t p = 0 := fun p h => by
    unfold c0
    exact if_neg (fun e => by rw [e] at h; omega)
  induction n with
  | zero =>
    intro p hp h ht
    rw [hX p hp, hc p ht, sumN_0 (fun k hk => by have := hD.need hp hk; omega)]
  | succ n ih =>
    intro p hp h ht
    rw [hX p hp, hc p ht, sumN_0 (fun k hk => by
      have := hD.need hp hk
      unfold cT
      rw [ih _ ((W p hp).2 k hk) (by omega) (by omega), Nat.zero_mul, Nat.zero_div])]
theorem X_t {S g u w d X : Nat → Nat} {t : Nat} (W : GW S g) (hD : IsD S g d) (hX : IsX S g u w X t) (ht : t < 12) : X t = c0 t t := by
  rw [hX t ht, sumN_0 (fun k hk => by
    have := hD.need ht hk
    unfold cT
    rw [X_zero W hD hX _ _ ((W t ht).2 k hk) (Nat.le_refl _) (by omega), Nat.zero_mul, Nat.zero_div]), Nat.add_zero]
/-- the recipes as the class holds them, ups and downs too -/
def CU (S g u w : Nat → Nat) (isz igd iup idn : Nat → Int32) : Prop :=
  CR isz igd S g ∧ ∀ p, p < 12 → ∀ k, k < S p → iup (4 * p + k) = nI (u (4 * p + k)) ∧ idn (4 * p + k) = nI (w (4 * p + k)) ∧ 1 ≤ u (4 * p + k) ∧ u (4 * p + k) ≤ 12 ∧ 1 ≤ w (4 * p + k) ∧ w (4 * p + k) ≤ 12
theorem CU.uw {S g u w : Nat → Nat} {isz igd iup idn : Nat → Int32} (h : CU S g u w isz igd iup idn) : UW S u w := fun p hp k hk => (h.2 p hp k hk).2.2
theorem RN.cu {S g u w : Nat → Nat} {isz igd iup idn mns mng mnu mnd : Nat → Int32} (h : RN S g u w isz igd iup idn mns mng mnu mnd) : CU S g u w isz igd iup idn := ⟨h.cr, fun p hp k hk => by
  obtain ⟨a1, a2, a3, a4, a5, a6, a7⟩ := (h.2 p hp).2.2 k hk
  exact ⟨a3, a5, a7⟩⟩
/-- the class's fractions are those of Z, but of X where done -/
def FR (cab cbl : Nat → Int64) (Z : Nat → Nat) : Prop := ∀ p, p < 12 → cab p = lN (fA WH (Z p)) ∧ cbl p = lN (fB WH (Z p))
theorem FR_upd {cab cbl : Nat → Int64} {Z : Nat → Nat} {p v : Nat} (h : FR cab cbl Z) : FR (vp_updL cab p (lN (fA WH v))) (vp_updL cbl p (lN (fB WH v))) (updN Z p v) := by
  intro q hq
  by_cases e : q = p
  · subst e; rw [pk_uLs, pk_uLs, updN_s]; exact ⟨rfl, rfl⟩
  · rw [pk_uLn e, pk_uLn e, updN_n e]; exact h q hq
theorem c_gather {S g u w d X : Nat → Nat} {isz igd iup idn : Nat → Int32} {t : Nat} (h : CU S g u w isz igd iup idn) (hD : IsD S g d) (h3 : ∀ p, p < 12 → d p ≤ 3) (hX : IsX S g u w X t) {p : Nat} (hp : p < 12) : ∀ (c k : Nat), k + c = S p → ∀ (n : Nat) (cab cbl : Nat → Int64) (Z : Nat → Nat), c < n → FR cab cbl Z → Z p = c0 t p + sumN (cT g u w X p) k → (∀ q, q < 12 → d q < d p → Z q = X q) →
    ∃ cab' cbl', f_X1_gather_L2 isz igd iup idn (nI p) n cab cbl (nI k) = some (cab', cbl') ∧ FR cab' cbl' (updN Z p (X p)) := by
  intro c
  have W := h.1.1
  have hU := h.uw
  have h4 := (W p hp).1
  induction c with
  | zero =>
    intro k hk n cab cbl Z hn hF hZ hq
    obtain ⟨m, rfl⟩ : ∃ z, n = z + 1 := ⟨n - 1, by omega⟩
    refine ⟨cab, cbl, ?_, ?_⟩
    · unfold f_X1_gather_L2
      rw [ck_nI hp (by decide), nI_clamp (by omega), (h.1.2 p hp).1, if_pos (nI_le (by omega) (by omega))]
    · have : updN Z p (X p) = Z := by
        funext q
        by_cases e : q = p
        · subst e; rw [updN_s, hZ, hX q hp, show k = S q by omega]
        · rw [updN_n e]
      rw [this]
      exact hF
  | succ c ih =>
    intro k hk n cab cbl Z hn hF hZ hq
    obtain ⟨m, rfl⟩ : ∃ z, n = z + 1 := ⟨n - 1, by omega⟩
    have hks : k < S p := by omega
    have hg := (W p hp).2 k hks
    have hdn := hD.need hp hks
    have hp3 := h3 p hp
    obtain ⟨a1, a2, a3, a4, a5, a6⟩ := h.2 p hp k hks
    have hFq := hF _ hg
    rw [hq _ hg (by omega)] at hFq
    have hXq : X (g (4 * p + k)) ≤ cB 2 := X_le W hU hD hX 2 _ hg (by omega)
    have hXp : X p ≤ cB 3 := X_le W hU hD hX 3 _ hp (by omega)
    have hb2 : cB 2 = 2353 * WH := by decide
    have hb3 : cB 3 = 112945 * WH := by decide
    have hAl : fA WH (X (g (4 * p + k))) ≤ X (g (4 * p + k)) := fA_le
    have hBl : fB WH (X (g (4 * p + k))) ≤ WH := fB_le
    have hBp : 0 < fB WH (X (g (4 * p + k))) := fB_pos (by decide)
    have hsum : c0 t p + sumN (cT g u w X p) k + cT g u w X p k ≤ X p := by
      rw [hX p hp, Nat.add_assoc]
      exact Nat.add_le_add_left (sumN_mono (f := cT g u w X p) (k := k + 1) (n := S p) (by omega)) _
    have hcross : fA WH (X (g (4 * p + k))) * u (4 * p + k) * WH = cT g u w X p k * (fB WH (X (g (4 * p + k))) * w (4 * p + k)) := by
      have e1 := f_cross (W := WH) (X := X (g (4 * p + k))) (by decide)
      have e2 := X_exact W hU hD h3 hX hp hks
      calc fA WH (X (g (4 * p + k))) * u (4 * p + k) * WH = (fA WH (X (g (4 * p + k))) * WH) * u (4 * p + k) := by ac_rfl
        _ = (X (g (4 * p + k)) * fB WH (X (g (4 * p + k)))) * u (4 * p + k) := by rw [e1]
        _ = (X (g (4 * p + k)) * u (4 * p + k)) * fB WH (X (g (4 * p + k))) := by ac_rfl
        _ = (cT g u w X p k * w (4 * p + k)) * fB WH (X (g (4 * p + k))) := by rw [e2]
        _ = cT g u w X p k * (fB WH (X (g (4 * p + k))) * w (4 * p + k)) := by ac_rfl
    have hNb : fA WH (X (g (4 * p + k))) * u (4 * p + k) < 2 ^ 62 := Nat.lt_of_le_of_lt (Nat.mul_le_mul (Nat.le_trans hAl hXq) a4) (by rw [hb2]; decide)
    have hDb : fB WH (X (g (4 * p + k))) * w (4 * p + k) < 2 ^ 62 := Nat.lt_of_le_of_lt (Nat.mul_le_mul hBl a6) (by decide)
    have hadd := c_addFraction (W := WH) (P := Z p) (Y := cT g u w X p k) hp (by decide) (by decide) (hF p hp).1 (hF p hp).2 hcross (Nat.mul_pos hBp a5) hNb hDb (by rw [hZ]; exact Nat.lt_of_le_of_lt (Nat.le_trans hsum hXp) (by rw [hb3]; decide))
    obtain ⟨cab', cbl', e1, e2⟩ := ih (k + 1) (by omega) m _ _ (updN Z p (Z p + cT g u w X p k)) (by omega) (FR_upd hF) (by rw [updN_s, hZ, Nat.add_assoc]; rfl) (fun q hq1 hq2 => by rw [updN_n (fun e => by rw [e] at hq2; omega)]; exact hq q hq1 hq2)
    refine ⟨cab', cbl', ?_, ?_⟩
    · unfold f_X1_gather_L2
      rw [ck_nI hp (by decide), nI_clamp (by omega), (h.1.2 p hp).1, if_neg (nI_ge (by omega) (by omega)), c_place, Option.bind_some, ck_nI (by omega) (by decide), nI_clamp (by omega), (h.1.2 p hp).2 k hks, ck_nI hg (by decide), ck_nI (by omega) (by decide), ck_nI hg (by decide), ck_nI (by omega) (by decide), nI_clamp (by omega), a1, a2, hFq.1, hFq.2, nI_l (by omega), nI_l (by omega), lN_mul, lN_mul, hadd, Option.bind_some, nI_1]
      exact e1
    · have : updN (updN Z p (Z p + cT g u w X p k)) p (X p) = updN Z p (X p) := by
        funext q
        by_cases e : q = p
        · subst e; rw [updN_s, updN_s]
        · rw [updN_n e, updN_n e, updN_n e]
      rw [← this]
      exact e2
/-- what is done at level r before i -/
def dnX (d X : Nat → Nat) (t r i : Nat) : Nat → Nat := fun p => if d p < r ∨ (d p = r ∧ p < i) then X p else c0 t p
theorem c_trace_L47 {S g u w d X : Nat → Nat} {isz igd iup idn dep : Nat → Int32} {t : Nat} (h : CU S g u w isz igd iup idn) (hD : IsD S g d) (h3 : ∀ p, p < 12 → d p ≤ 3 ∧ dep p = nI (d p)) (hX : IsX S g u w X t) (ht : t < 12) {r : Nat} (hr : r < 4) (k39 : (Nat → Int64) → (Nat → Int64) → Int32 → Option ((Nat → Int64) × (Nat → Int64))) : ∀ (c i : Nat), i + c = 12 → ∀ (n : Nat) (cab cbl : Nat → Int64), c < n → FR cab cbl (dnX d X t r i) →
    ∃ cab' cbl', f_X1_trace_L47 isz igd iup idn dep (nI t) (nI r) k39 n cab cbl (nI i) = k39 cab' cbl' (nI (r + 1)) ∧ FR cab' cbl' (dnX d X t r 12) := by
  intro c
  have h3' : ∀ p, p < 12 → d p ≤ 3 := fun p hp => (h3 p hp).1
  induction c with
  | zero =>
    intro i hi n cab cbl hn hF
    obtain ⟨m, rfl⟩ : ∃ z, n = z + 1 := ⟨n - 1, by omega⟩
    refine ⟨cab, cbl, ?_, by rw [show i = 12 by omega] at hF; exact hF⟩
    unfold f_X1_trace_L47
    rw [show i = 12 by omega, if_pos (by decide), nI_1]
  | succ c ih =>
    intro i hi n cab cbl hn hF
    obtain ⟨m, rfl⟩ : ∃ z, n = z + 1 := ⟨n - 1, by omega⟩
    have hi12 : i < 12 := by omega
    have hdi := h3 i hi12
    unfold f_X1_trace_L47
    rw [show (12 : Int32) = nI 12 from rfl, if_neg (nI_ge (by omega) (by omega)), ck_nI hi12 (by decide), nI_clamp (by omega), hdi.2, nI_1]
    by_cases e : d i = r
    · rw [if_pos (by rw [e])]
      by_cases et : i = t
      · rw [if_pos (by rw [et])]
        refine ih (i + 1) (by omega) m cab cbl (by omega) ?_
        have : dnX d X t r (i + 1) = dnX d X t r i := by
          funext q
          unfold dnX
          by_cases eq : q = i
          · rw [if_pos (Or.inr ⟨by rw [eq]; exact e, by omega⟩), if_neg (fun z => by subst eq; omega), eq, et]
            exact X_t h.1.1 hD hX ht
          · by_cases c : d q < r ∨ (d q = r ∧ q < i)
            · rw [if_pos c, if_pos (c.imp id (fun z => ⟨z.1, by omega⟩))]
            · rw [if_neg c, if_neg (fun z => c (z.imp id (fun z => ⟨z.1, by omega⟩)))]
        rw [this]
        exact hF
      · rw [if_neg (fun z => et ((nI_eq (by omega) (by omega)).mp z))]
        obtain ⟨cab1, cbl1, q1, q2⟩ := c_gather h hD h3' hX hi12 (S i) 0 (by omega) FU cab cbl (dnX d X t r i) (Nat.lt_of_le_of_lt (h.1.1 i hi12).1 (by decide)) hF (by unfold dnX; rw [if_neg (fun z => by omega)]; rfl) (fun q hq1 hq2 => by unfold dnX; rw [if_pos (Or.inl (by omega))])
        have q1 : f_X1_gather isz igd iup idn cab cbl (nI i) = some (cab1, cbl1) := q1
        rw [q1, Option.bind_some]
        refine ih (i + 1) (by omega) m cab1 cbl1 (by omega) ?_
        have : dnX d X t r (i + 1) = updN (dnX d X t r i) i (X i) := by
          funext q
          by_cases eq : q = i
          · subst eq
            rw [updN_s]
            unfold dnX
            rw [if_pos (Or.inr ⟨e, by omega⟩)]
          · rw [updN_n eq]
            unfold dnX
            by_cases c : d q < r ∨ (d q = r ∧ q < i)
            · rw [if_pos c, if_pos (c.imp id (fun z => ⟨z.1, by omega⟩))]
            · rw [if_neg c, if_neg (fun z => c (z.imp id (fun z => ⟨z.1, by omega⟩)))]
        rw [this]
        exact q2
    · rw [if_neg (fun z => e ((nI_eq (by omega) (by omega)).mp z))]
      refine ih (i + 1) (by omega) m cab cbl (by omega) ?_
      have : dnX d X t r (i + 1) = dnX d X t r i := by
        funext q
        unfold dnX
        by_cases c : d q < r ∨ (d q = r ∧ q < i)
        · rw [if_pos c, if_pos (c.imp id (fun z => ⟨z.1, by omega⟩))]
        · rw [if_neg c, if_neg (fun z => c (z.imp id (fun z => ⟨z.1, by
            have : q ≠ i := fun eq => e (eq ▸ z.1)
            omega⟩)))]
      rw [this]
      exact hF
theorem c_trace_L39 {S g u w d X : Nat → Nat} {isz igd iup idn dep : Nat → Int32} {t : Nat} (h : CU S g u w isz igd iup idn) (hD : IsD S g d) (h3 : ∀ p, p < 12 → d p ≤ 3 ∧ dep p = nI (d p)) (hX : IsX S g u w X t) (ht : t < 12) : ∀ (c r : Nat), r + c = 4 → ∀ (n : Nat) (cab cbl : Nat → Int64), c < n → FR cab cbl (dnX d X t r 0) →
    ∃ cab' cbl', f_X1_trace_L39 isz igd iup idn dep (nI t) n cab cbl (nI r) = some (cab', cbl') ∧ FR cab' cbl' X := by
  intro c
  induction c with
  | zero =>
    intro r hr n cab cbl hn hF
    obtain ⟨m, rfl⟩ : ∃ z, n = z + 1 := ⟨n - 1, by omega⟩
    refine ⟨cab, cbl, ?_, fun p hp => ?_⟩
    · unfold f_X1_trace_L39
      rw [show r = 4 by omega, if_pos (by decide)]
    · have h1 := hF p hp
      unfold dnX at h1
      rw [if_pos (Or.inl (by have := (h3 p hp).1; omega))] at h1
      exact h1
  | succ c ih =>
    intro r hr n cab cbl hn hF
    obtain ⟨m, rfl⟩ : ∃ z, n = z + 1 := ⟨n - 1, by omega⟩
    obtain ⟨cab1, cbl1, a1, a2⟩ := c_trace_L47 h hD h3 hX ht (show r < 4 by omega) (fun cab cbl x3 => f_X1_trace_L39 isz igd iup idn dep (nI t) m cab cbl x3) 12 0 (by omega) FU cab cbl (by decide) hF
    obtain ⟨cab2, cbl2, b1, b2⟩ := ih (r + 1) (by omega) m cab1 cbl1 (by omega) (fun p hp => by
      have h1 := a2 p hp
      unfold dnX at h1 ⊢
      by_cases c : d p < r ∨ (d p = r ∧ p < 12)
      · rw [if_pos c] at h1; rw [if_pos (Or.inl (by omega))]; exact h1
      · rw [if_neg c] at h1; rw [if_neg (fun z => by omega)]; exact h1)
    refine ⟨cab2, cbl2, ?_, b2⟩
    unfold f_X1_trace_L39
    rw [show (3 : Int32) = nI 3 from rfl, if_neg (nI_nlt (by omega) (by omega))]
    exact a1.trans b1
theorem c_trace_L2 {S g u w d X : Nat → Nat} {isz igd iup idn dep : Nat → Int32} {t : Nat} (h : CU S g u w isz igd iup idn) (hD : IsD S g d) (h3 : ∀ p, p < 12 → d p ≤ 3 ∧ dep p = nI (d p)) (hX : IsX S g u w X t) (ht : t < 12) : ∀ (c i : Nat), i + c = 12 → ∀ (n : Nat) (cab cbl : Nat → Int64), c < n → (∀ p, p < i → cab p = lN (fA WH (c0 t p)) ∧ cbl p = lN (fB WH (c0 t p))) →
    ∃ cab' cbl', f_X1_trace_L2 isz igd iup idn dep (nI t) n cab cbl (nI i) = some (cab', cbl') ∧ FR cab' cbl' X := by
  intro c
  induction c with
  | zero =>
    intro i hi n cab cbl hn hF
    obtain ⟨m, rfl⟩ : ∃ z, n = z + 1 := ⟨n - 1, by omega⟩
    obtain ⟨cab1, cbl1, a1, a2⟩ := c_trace_L39 h hD h3 hX ht 3 1 (by omega) FU cab cbl (by decide) (fun p hp => by
      have h1 := hF p (by omega)
      unfold dnX
      by_cases c : d p < 1 ∨ (d p = 1 ∧ p < 0)
      · rw [if_pos c]
        have : X p = c0 t p := by
          rw [hX p hp, sumN_0 (fun k hk => by have := hD.need hp hk; omega)]
          rfl
        rw [this]
        exact h1
      · rw [if_neg c]
        exact h1)
    refine ⟨cab1, cbl1, ?_, a2⟩
    unfold f_X1_trace_L2
    rw [show i = 12 by omega, if_pos (by decide)]
    exact a1
  | succ c ih =>
    intro i hi n cab cbl hn hF
    obtain ⟨m, rfl⟩ : ∃ z, n = z + 1 := ⟨n - 1, by omega⟩
    unfold f_X1_trace_L2
    rw [show (12 : Int32) = nI 12 from rfl, if_neg (nI_ge (by omega) (by omega)), ck_nI (by omega) (by decide), ck_nI (by omega) (by decide), ck_nI (by omega) (by decide), ck_nI (by omega) (by decide), nI_clamp (by omega), nI_1]
    by_cases e : i = t
    · rw [if_pos (by rw [e])]
      refine ih (i + 1) (by omega) m _ _ (by omega) (fun p hp => ?_)
      by_cases ep : p = i
      · subst ep
        rw [pk_uLs, pk_uLs]
        unfold c0
        rw [if_pos e]
        exact ⟨by decide +kernel, by decide +kernel⟩
      · rw [pk_uLn ep, pk_uLn ep]; exact hF p (by omega)
    · rw [if_neg (fun z => e ((nI_eq (by omega) (by omega)).mp z))]
      refine ih (i + 1) (by omega) m _ _ (by omega) (fun p hp => ?_)
      by_cases ep : p = i
      · subst ep
        rw [pk_uLs, pk_uLs]
        unfold c0
        rw [if_neg e]
        exact ⟨by decide +kernel, by decide +kernel⟩
      · rw [pk_uLn ep, pk_uLn ep]; exact hF p (by omega)
theorem c_trace {S g u w d X : Nat → Nat} {isz igd iup idn dep : Nat → Int32} {cab cbl : Nat → Int64} {t : Nat} (h : CU S g u w isz igd iup idn) (hD : IsD S g d) (h3 : ∀ p, p < 12 → d p ≤ 3 ∧ dep p = nI (d p)) (hX : IsX S g u w X t) (ht : t < 12) :
    ∃ cab' cbl', f_X1_trace isz igd iup idn dep cab cbl (nI t) = some (cab', cbl') ∧ FR cab' cbl' X :=
  c_trace_L2 h hD h3 hX ht 12 0 (by omega) FU cab cbl (by decide) (fun p hp => absurd hp (Nat.not_lt_zero p))
