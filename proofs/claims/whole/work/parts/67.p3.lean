/-! ===== the pure side: bits ===== -/
theorem sm32 (i : Nat) (h : i < 12) : ((nI i &&& 31).toBitVec.smod 32).toNat = i := by
  match i, h with
  | 0, _ => decide
  | 1, _ => decide
  | 2, _ => decide
  | 3, _ => decide
  | 4, _ => decide
  | 5, _ => decide
  | 6, _ => decide
  | 7, _ => decide
  | 8, _ => decide
  | 9, _ => decide
  | 10, _ => decide
  | 11, _ => decide
  | k + 12, h => omega
theorem m_bit {m i : Nat} (hm : m < 2 ^ 31) (hi : i < 12) : (((nI m >>> (nI i &&& 31)) &&& 1) = 1) ↔ m.testBit i = true := by
  rw [pk_shrN hm _ i (sm32 i hi), pk_andN (Nat.lt_of_le_of_lt (Nat.div_le_self _ _) (by omega)) 1 (by decide), Nat.testBit_eq_decide_div_mod_eq, decide_eq_true_iff]
  exact nI_eq (by have := Nat.mod_lt (m / 2 ^ i) (show 0 < 2 ^ 1 by decide); omega) (by decide)
theorem m_one {j : Nat} (hj : j < 12) : (1 : Int32) <<< (nI j &&& 31) = nI (2 ^ j) := by
  have h2 : 2 ^ j ≤ 2 ^ 11 := Nat.pow_le_pow_right (by decide) (by omega)
  rw [show (1 : Int32) = nI 1 from rfl, pk_shlN _ j (sm32 j hj) (by omega), Nat.one_mul]
theorem nI_or (a b : Nat) (ha : a < 2 ^ 31) (hb : b < 2 ^ 31) : nI a ||| nI b = nI (a ||| b) := by
  have h : a ||| b < 2 ^ 31 := Nat.or_lt_two_pow ha hb
  apply Int32.toBitVec_inj.mp
  apply BitVec.eq_of_toNat_eq
  rw [Int32.toBitVec_or, BitVec.toNat_or, pk_tn (by omega), pk_tn (by omega), pk_tn (by omega)]
theorem m_or {m j : Nat} (hm : m < 4096) (hj : j < 12) : nI m ||| ((1 : Int32) <<< (nI j &&& 31)) = nI (m ||| 2 ^ j) := by
  have h2 : 2 ^ j ≤ 2 ^ 11 := Nat.pow_le_pow_right (by decide) (by omega)
  rw [m_one hj, nI_or m (2 ^ j) (by omega) (by omega)]
theorem or_4096 {m j : Nat} (hm : m < 4096) (hj : j < 12) : m ||| 2 ^ j < 4096 := Nat.or_lt_two_pow (n := 12) hm (Nat.pow_lt_pow_right (by decide) hj)
theorem tb_or {m j i : Nat} : (m ||| 2 ^ j).testBit i = true ↔ m.testBit i = true ∨ i = j := by
  rw [Nat.testBit_or, Bool.or_eq_true, Nat.testBit_two_pow, decide_eq_true_iff]
  exact ⟨fun h => h.imp id Eq.symm, fun h => h.imp id Eq.symm⟩
theorem tb_lt {m i : Nat} (hm : m < 4096) (h : m.testBit i = true) : i < 12 := by
  apply Nat.lt_of_not_le
  intro q
  rw [Nat.testBit_lt_two_pow (Nat.lt_of_lt_of_le hm (show 2 ^ 12 ≤ 2 ^ i from Nat.pow_le_pow_right (by decide) q))] at h
  exact absurd h (by decide)
theorem tb_0 {m : Nat} (h : ∀ i, ¬ m.testBit i = true) : m = 0 := by
  apply Nat.eq_of_testBit_eq
  intro i
  rw [Nat.zero_testBit]
  cases e : m.testBit i with
  | true => exact absurd e (h i)
  | false => rfl
/-! ===== the pure side: depths ===== -/
def mxk (f : Nat → Nat) : Nat → Nat
  | 0 => 0
  | n + 1 => max (mxk f n) (f n)
theorem le_mxk {f : Nat → Nat} : ∀ {n k : Nat}, k < n → f k ≤ mxk f n
  | 0, k, h => absurd h (Nat.not_lt_zero k)
  | n + 1, k, h => by
    unfold mxk
    by_cases e : k = n
    · subst e; exact Nat.le_max_right _ _
    · exact Nat.le_trans (le_mxk (by omega)) (Nat.le_max_left _ _)
theorem mxk_le {f : Nat → Nat} {b : Nat} : ∀ {n : Nat}, (∀ k, k < n → f k ≤ b) → mxk f n ≤ b
  | 0, _ => Nat.zero_le _
  | n + 1, h => by
    unfold mxk
    exact Nat.max_le.mpr ⟨mxk_le (fun k hk => h k (by omega)), h n (by omega)⟩
theorem mxk_mono {f g : Nat → Nat} {n : Nat} (h : ∀ k, k < n → f k ≤ g k) : mxk f n ≤ mxk g n := mxk_le (fun k hk => Nat.le_trans (h k hk) (le_mxk hk))
theorem mxk_congr {f g : Nat → Nat} {n : Nat} (h : ∀ k, k < n → f k = g k) : mxk f n = mxk g n := Nat.le_antisymm (mxk_mono (fun k hk => Nat.le_of_eq (h k hk))) (mxk_mono (fun k hk => Nat.le_of_eq (h k hk).symm))
theorem mxk_ex {f : Nat → Nat} : ∀ {n : Nat}, 0 < mxk f n → ∃ k, k < n ∧ f k = mxk f n
  | 0, h => absurd h (Nat.lt_irrefl 0)
  | n + 1, h => by
    unfold mxk at h ⊢
    by_cases e : mxk f n ≤ f n
    · exact ⟨n, by omega, by omega⟩
    · obtain ⟨k, hk, he⟩ := mxk_ex (f := f) (n := n) (by omega)
      exact ⟨k, by omega, by omega⟩
/-- the depth of p by its needs' depths -/
def mx (S g v : Nat → Nat) (p : Nat) : Nat := mxk (fun k => 1 + v (g (4 * p + k))) (S p)
def IsD (S g d : Nat → Nat) : Prop := ∀ p, p < 12 → d p = mx S g d p
def GW (S g : Nat → Nat) : Prop := ∀ p, p < 12 → S p ≤ 4 ∧ ∀ k, k < S p → g (4 * p + k) < 12
theorem IsD.need {S g d : Nat → Nat} (h : IsD S g d) {p k : Nat} (hp : p < 12) (hk : k < S p) : 1 + d (g (4 * p + k)) ≤ d p := by
  rw [h p hp]
  exact le_mxk (f := fun k => 1 + d (g (4 * p + k))) hk
theorem IsD.uniq {S g d e : Nat → Nat} (w : GW S g) (hd : IsD S g d) (he : IsD S g e) : ∀ p, p < 12 → d p = e p := by
  have : ∀ n p, p < 12 → d p ≤ n → d p = e p := by
    intro n
    induction n with
    | zero =>
      intro p hp h0
      rw [he p hp, hd p hp]
      refine mxk_congr (fun k hk => ?_)
      have := hd.need hp hk
      omega
    | succ n ih =>
      intro p hp h0
      rw [he p hp, hd p hp]
      refine mxk_congr (fun k hk => ?_)
      have := hd.need hp hk
      rw [ih _ ((w p hp).2 k hk) (by omega)]
  exact fun p hp => this (d p) p hp (Nat.le_refl _)
theorem mx_mono {S g v w : Nat → Nat} (W : GW S g) (h : ∀ q, q < 12 → v q ≤ w q) {p : Nat} (hp : p < 12) : mx S g v p ≤ mx S g w p := mxk_mono (fun k hk => Nat.add_le_add_left (h _ ((W p hp).2 k hk)) 1)
/-- the class's measuring: round r, before p = i -/
def MI (S g : Nat → Nat) (r i : Nat) (v : Nat → Nat) (M : Nat) : Prop :=
  (∀ p, p < 12 → v p ≤ mx S g v p) ∧ (∀ p, p < 12 → mx S g v p = v p ∨ (if p < i then r + 1 else r) + 1 ≤ mx S g v p) ∧ (∀ p, p < 12 → v p ≤ M) ∧ M ≤ 12 * r + i ∧ (∀ d, IsD S g d → ∀ p, p < 12 → v p ≤ d p) ∧ (∀ d B, IsD S g d → (∀ p, p < 12 → d p ≤ B) → M ≤ B)
theorem MI_0 {S g : Nat → Nat} : MI S g 0 0 (fun _ => 0) 0 := by
  refine ⟨fun p _ => Nat.zero_le _, fun p _ => ?_, fun p _ => Nat.le_refl _, Nat.le_refl _, fun d _ p _ => Nat.zero_le _, fun d B _ _ => Nat.zero_le _⟩
  rw [if_neg (Nat.not_lt_zero p)]
  show _ = 0 ∨ _
  omega
theorem MI_next {S g v : Nat → Nat} {r M : Nat} (h : MI S g r 12 v M) : MI S g (r + 1) 0 v M := by
  obtain ⟨h1, h2, h3, h4, h5, h6⟩ := h
  refine ⟨h1, fun p hp => ?_, h3, by omega, h5, h6⟩
  have := h2 p hp
  rw [if_pos hp] at this
  rw [if_neg (Nat.not_lt_zero p)]
  exact this
theorem MI_step {S g v : Nat → Nat} {r i M : Nat} (W : GW S g) (hi : i < 12) (h : MI S g r i v M) : MI S g r (i + 1) (updN v i (mx S g v i)) (max M (mx S g v i)) := by
  obtain ⟨h1, h2, h3, h4, h5, h6⟩ := h
  have hup : ∀ q, q < 12 → v q ≤ updN v i (mx S g v i) q := by
    intro q hq
    by_cases e : q = i
    · subst e; rw [updN_s]; exact h1 q hq
    · rw [updN_n e]; exact Nat.le_refl _
  have hmm : ∀ p, p < 12 → mx S g v p ≤ mx S g (updN v i (mx S g v i)) p := fun p hp => mx_mono W hup hp
  have hmi : mx S g v i ≤ 1 + M := mxk_le (fun k hk => Nat.add_le_add_left (h3 _ ((W i hi).2 k hk)) 1)
  refine ⟨fun p hp => ?_, fun p hp => ?_, fun p hp => ?_, ?_, fun d hd p hp => ?_, fun d B hd hB => ?_⟩
  · by_cases e : p = i
    · subst e; rw [updN_s]; exact hmm p hp
    · rw [updN_n e]; exact Nat.le_trans (h1 p hp) (hmm p hp)
  · by_cases hc : mx S g v i = v i
    · have hsame : updN v i (mx S g v i) = v := by
        funext q
        by_cases e : q = i
        · subst e; rw [updN_s, hc]
        · rw [updN_n e]
      rw [hsame]
      by_cases e : p = i
      · subst e; exact Or.inl hc
      · have := h2 p hp
        by_cases q : p < i
        · rw [if_pos q] at this; rw [if_pos (by omega)]; exact this
        · rw [if_neg q] at this; rw [if_neg (by omega)]; exact this
    · have hbig : r + 1 ≤ mx S g v i := by
        have := h2 i hi
        rw [if_neg (Nat.lt_irrefl i)] at this
        omega
      have hcnt : (if p < i + 1 then r + 1 else r) ≤ r + 1 := by split <;> omega
      by_cases hs : mx S g (updN v i (mx S g v i)) p = mx S g v p
      · by_cases e : p = i
        · subst e; rw [updN_s]; exact Or.inl hs
        · rw [updN_n e, hs]
          have := h2 p hp
          by_cases q : p < i
          · rw [if_pos q] at this; rw [if_pos (by omega)]; exact this
          · rw [if_neg q] at this; rw [if_neg (by omega)]; exact this
      · refine Or.inr ?_
        have hgt : mx S g v p < mx S g (updN v i (mx S g v i)) p := Nat.lt_of_le_of_ne (hmm p hp) (fun q => hs q.symm)
        obtain ⟨k, hk, he⟩ := mxk_ex (f := fun k => 1 + updN v i (mx S g v i) (g (4 * p + k))) (n := S p) (Nat.lt_of_le_of_lt (Nat.zero_le _) hgt)
        have he : 1 + updN v i (mx S g v i) (g (4 * p + k)) = mx S g (updN v i (mx S g v i)) p := he
        by_cases e : g (4 * p + k) = i
        · rw [e, updN_s] at he
          omega
        · rw [updN_n e] at he
          have : 1 + v (g (4 * p + k)) ≤ mx S g v p := le_mxk (f := fun k => 1 + v (g (4 * p + k))) hk
          omega
  · by_cases e : p = i
    · subst e; rw [updN_s]; exact Nat.le_max_right _ _
    · rw [updN_n e]; exact Nat.le_trans (h3 p hp) (Nat.le_max_left _ _)
  · exact Nat.max_le.mpr ⟨by omega, by omega⟩
  · by_cases e : p = i
    · subst e; rw [updN_s, hd p hp]; exact mx_mono W (h5 d hd) hp
    · rw [updN_n e]; exact h5 d hd p hp
  · refine Nat.max_le.mpr ⟨h6 d B hd hB, ?_⟩
    refine Nat.le_trans (mx_mono W (h5 d hd) hi) ?_
    rw [← hd i hi]
    exact hB i hi
theorem MI_end {S g v : Nat → Nat} {M : Nat} (W : GW S g) (h : MI S g 4 0 v M) (hM : M ≤ 3) : IsD S g v ∧ ∀ p, p < 12 → v p ≤ 3 := by
  obtain ⟨h1, h2, h3, h4, h5, h6⟩ := h
  refine ⟨fun p hp => ?_, fun p hp => Nat.le_trans (h3 p hp) hM⟩
  have := h2 p hp
  rw [if_neg (Nat.not_lt_zero p)] at this
  have hmi : mx S g v p ≤ 1 + M := mxk_le (fun k hk => Nat.add_le_add_left (h3 _ ((W p hp).2 k hk)) 1)
  omega
/-- the recipes' needs as the class holds them -/
def CR (isz igd : Nat → Int32) (S g : Nat → Nat) : Prop := GW S g ∧ ∀ p, p < 12 → isz p = nI (S p) ∧ ∀ k, k < S p → igd (4 * p + k) = nI (g (4 * p + k))
theorem c_place (p k : Nat) : f_X3_place (nI p) (nI k) = some (nI (4 * p + k)) := by
  unfold f_X3_place
  rw [show (4 : Int32) = nI 4 from rfl, pk_mul, nI_add, Nat.mul_comm]
theorem c_goodAt_i {isz igd : Nat → Int32} {S g : Nat → Nat} (h : CR isz igd S g) {p k : Nat} (hp : p < 12) (hk : k < S p) : f_X3_goodAt_i igd (nI p) (nI k) = some (nI (g (4 * p + k))) := by
  have := (h.1 p hp).1
  unfold f_X3_goodAt_i
  rw [c_place, Option.bind_some, ck_nI (by omega) (by decide), nI_clamp (by omega), (h.2 p hp).2 k hk]
theorem c_dbn_loop {isz igd dep : Nat → Int32} {S g v : Nat → Nat} (h : CR isz igd S g) (hv : ∀ q, q < 12 → dep q = nI (v q) ∧ v q < 1000) {p : Nat} (hp : p < 12) : ∀ (d k : Nat), k + d = S p → ∀ n, d < n →
    f_X5_depthByNeeds_L4 isz igd dep (nI p) n (nI (mxk (fun k => 1 + v (g (4 * p + k))) k)) (nI k) = some (nI (mx S g v p)) := by
  intro d
  have h4 := (h.1 p hp).1
  induction d with
  | zero =>
    intro k hk n hn
    obtain ⟨m, rfl⟩ : ∃ z, n = z + 1 := ⟨n - 1, by omega⟩
    unfold f_X5_depthByNeeds_L4
    rw [ck_nI hp (by decide), nI_clamp (by omega), (h.2 p hp).1, if_pos (nI_le (by omega) (by omega)), show k = S p by omega]
    rfl
  | succ d ih =>
    intro k hk n hn
    obtain ⟨m, rfl⟩ : ∃ z, n = z + 1 := ⟨n - 1, by omega⟩
    have hg := (h.1 p hp).2 k (by omega)
    have hvg := hv _ hg
    have hmk : mxk (fun k => 1 + v (g (4 * p + k))) k ≤ 1001 := mxk_le (fun z hz => by have := (hv _ ((h.1 p hp).2 z (by omega))).2; omega)
    unfold f_X5_depthByNeeds_L4
    rw [ck_nI hp (by decide), nI_clamp (by omega), (h.2 p hp).1, if_neg (nI_ge (by omega) (by omega)), c_goodAt_i h hp (by omega), Option.bind_some, ck_nI hg (by decide), nI_clamp (by omega), hvg.1, show (1 : Int32) = nI 1 from rfl, nI_add, nI_add]
    have e : (if nI (mxk (fun k => 1 + v (g (4 * p + k))) k) < nI (1 + v (g (4 * p + k))) then nI (1 + v (g (4 * p + k))) else nI (mxk (fun k => 1 + v (g (4 * p + k))) k)) = nI (mxk (fun k => 1 + v (g (4 * p + k))) (k + 1)) := by
      show _ = nI (max (mxk (fun k => 1 + v (g (4 * p + k))) k) (1 + v (g (4 * p + k))))
      by_cases q : mxk (fun k => 1 + v (g (4 * p + k))) k < 1 + v (g (4 * p + k))
      · rw [if_pos (nI_lt q (by omega)), Nat.max_eq_right (by omega)]
      · rw [if_neg (nI_nlt (by omega) (by omega)), Nat.max_eq_left (by omega)]
    rw [e]
    exact ih (k + 1) (by omega) m (by omega)
theorem c_dbn {isz igd dep : Nat → Int32} {S g v : Nat → Nat} (h : CR isz igd S g) (hv : ∀ q, q < 12 → dep q = nI (v q) ∧ v q < 1000) {p : Nat} (hp : p < 12) : f_X5_depthByNeeds isz igd dep (nI p) = some (nI (mx S g v p)) :=
  c_dbn_loop h hv hp (S p) 0 (by omega) FU (Nat.lt_of_le_of_lt (h.1 p hp).1 (by decide))
theorem md_L32 {isz igd : Nat → Int32} {S g : Nat → Nat} (h : CR isz igd S g) {r : Nat} (hr : r < 4) (k25 : (Nat → Int32) → Int32 → Int32 → Option (Int32 × (Nat → Int32))) : ∀ (d i : Nat), i + d = 12 → ∀ (n : Nat) (dep : Nat → Int32) (v : Nat → Nat) (M : Nat), d < n → (∀ q, q < 12 → dep q = nI (v q)) → MI S g r i v M →
    ∃ (dep' : Nat → Int32) (v' : Nat → Nat) (M' : Nat), f_X5_measureDepths_L32 isz igd (nI r) k25 n dep (nI M) (nI i) = k25 dep' (nI M') (nI (r + 1)) ∧ (∀ q, q < 12 → dep' q = nI (v' q)) ∧ MI S g r 12 v' M' := by
  intro d
  induction d with
  | zero =>
    intro i hi n dep v M hn hv hM
    obtain ⟨m, rfl⟩ : ∃ z, n = z + 1 := ⟨n - 1, by omega⟩
    refine ⟨dep, v, M, ?_, hv, by rw [show i = 12 by omega] at hM; exact hM⟩
    unfold f_X5_measureDepths_L32
    rw [show i = 12 by omega, if_pos (by decide), nI_1]
  | succ d ih =>
    intro i hi n dep v M hn hv hM
    obtain ⟨m, rfl⟩ : ∃ z, n = z + 1 := ⟨n - 1, by omega⟩
    have hM4 := hM.2.2.2.1
    have hv2 : ∀ q, q < 12 → dep q = nI (v q) ∧ v q < 1000 := fun q hq => ⟨hv q hq, by have := hM.2.2.1 q hq; omega⟩
    have hi12 : i < 12 := by omega
    have hmi : mx S g v i ≤ 1 + M := mxk_le (fun k hk => Nat.add_le_add_left (hM.2.2.1 _ ((h.1 i hi12).2 k hk)) 1)
    obtain ⟨dep', v', M', e1, e2, e3⟩ := ih (i + 1) (by omega) m (upd dep i (nI (mx S g v i))) (updN v i (mx S g v i)) (max M (mx S g v i)) (by omega) (fun q hq => by
      by_cases e : q = i
      · subst e; rw [pk_us, updN_s]
      · rw [pk_un e, updN_n e]; exact hv q hq) (MI_step h.1 hi12 hM)
    refine ⟨dep', v', M', ?_, e2, e3⟩
    unfold f_X5_measureDepths_L32
    rw [show (12 : Int32) = nI 12 from rfl, if_neg (nI_ge (by omega) (by omega)), c_dbn h hv2 hi12, Option.bind_some, ck_nI hi12 (by decide), ck_nI hi12 (by decide), nI_clamp (by omega), pk_us, nI_1]
    have e : (if nI M < nI (mx S g v i) then nI (mx S g v i) else nI M) = nI (max M (mx S g v i)) := by
      by_cases q : M < mx S g v i
      · rw [if_pos (nI_lt q (by omega)), Nat.max_eq_right (by omega)]
      · rw [if_neg (nI_nlt (by omega) (by omega)), Nat.max_eq_left (by omega)]
    rw [e]
    exact e1
theorem md_L25 {isz igd : Nat → Int32} {S g : Nat → Nat} (h : CR isz igd S g) : ∀ (d r : Nat), r + d = 4 → ∀ (n : Nat) (dep : Nat → Int32) (v : Nat → Nat) (M : Nat), d < n → (∀ q, q < 12 → dep q = nI (v q)) → MI S g r 0 v M →
    ∃ (dep' : Nat → Int32) (v' : Nat → Nat) (M' : Nat), f_X5_measureDepths_L25 isz igd n dep (nI M) (nI r) = some (nI M', dep') ∧ (∀ q, q < 12 → dep' q = nI (v' q)) ∧ MI S g 4 0 v' M' := by
  intro d
  induction d with
  | zero =>
    intro r hr n dep v M hn hv hM
    obtain ⟨m, rfl⟩ : ∃ z, n = z + 1 := ⟨n - 1, by omega⟩
    refine ⟨dep, v, M, ?_, hv, by rw [show r = 4 by omega] at hM; exact hM⟩
    unfold f_X5_measureDepths_L25
    rw [show r = 4 by omega, if_pos (by decide)]
  | succ d ih =>
    intro r hr n dep v M hn hv hM
    obtain ⟨m, rfl⟩ : ∃ z, n = z + 1 := ⟨n - 1, by omega⟩
    obtain ⟨dep1, v1, M1, a1, a2, a3⟩ := md_L32 h (show r < 4 by omega) (fun dep x1 x2 => f_X5_measureDepths_L25 isz igd m dep x1 x2) 12 0 (by omega) FU dep v M (by decide) hv hM
    obtain ⟨dep', v', M', b1, b2, b3⟩ := ih (r + 1) (by omega) m dep1 v1 M1 (by omega) a2 (MI_next a3)
    refine ⟨dep', v', M', ?_, b2, b3⟩
    unfold f_X5_measureDepths_L25
    rw [show (3 : Int32) = nI 3 from rfl, if_neg (nI_nlt (by omega) (by omega))]
    exact a1.trans b1
theorem md_L4 {isz igd : Nat → Int32} {S g : Nat → Nat} (h : CR isz igd S g) : ∀ (d i : Nat), i + d = 12 → ∀ (n : Nat) (dep : Nat → Int32), d < n → (∀ q, q < i → dep q = nI 0) →
    ∃ (dep' : Nat → Int32) (v' : Nat → Nat) (M' : Nat), f_X5_measureDepths_L4 isz igd 0 n dep (nI i) = some (nI M', dep') ∧ (∀ q, q < 12 → dep' q = nI (v' q)) ∧ MI S g 4 0 v' M' := by
  intro d
  induction d with
  | zero =>
    intro i hi n dep hn hv
    obtain ⟨m, rfl⟩ : ∃ z, n = z + 1 := ⟨n - 1, by omega⟩
    obtain ⟨dep', v', M', b1, b2, b3⟩ := md_L25 h 4 0 (by omega) FU dep (fun _ => 0) 0 (by decide) (fun q hq => hv q (by omega)) MI_0
    refine ⟨dep', v', M', ?_, b2, b3⟩
    unfold f_X5_measureDepths_L4
    rw [show i = 12 by omega, if_pos (by decide)]
    exact b1
  | succ d ih =>
    intro i hi n dep hn hv
    obtain ⟨m, rfl⟩ : ∃ z, n = z + 1 := ⟨n - 1, by omega⟩
    obtain ⟨dep', v', M', b1, b2, b3⟩ := ih (i + 1) (by omega) m (upd dep i (nI 0)) (by omega) (fun q hq => by
      by_cases e : q = i
      · subst e; rw [pk_us]
      · rw [pk_un e]; exact hv q (by omega))
    refine ⟨dep', v', M', ?_, b2, b3⟩
    unfold f_X5_measureDepths_L4
    rw [show (12 : Int32) = nI 12 from rfl, if_neg (nI_ge (by omega) (by omega)), ck_nI (by omega) (by decide), nI_clamp (by omega), nI_1]
    exact b1
theorem c_measure {isz igd dep : Nat → Int32} {S g : Nat → Nat} (h : CR isz igd S g) : ∃ (dep' : Nat → Int32) (v' : Nat → Nat) (M' : Nat), f_X5_measureDepths isz igd dep = some (nI M', dep') ∧ (∀ q, q < 12 → dep' q = nI (v' q)) ∧ MI S g 4 0 v' M' :=
  md_L4 h 12 0 (by omega) FU dep (by decide) (fun q hq => absurd hq (Nat.not_lt_zero q))
