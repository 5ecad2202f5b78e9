/-! ===== the pure side: lots ===== -/
def sumN (f : Nat → Nat) : Nat → Nat
  | 0 => 0
  | n + 1 => sumN f n + f n
def updN (f : Nat → Nat) (i v : Nat) : Nat → Nat := fun j => if j = i then v else f j
theorem updN_s {f : Nat → Nat} {i v : Nat} : updN f i v i = v := if_pos rfl
theorem updN_n {f : Nat → Nat} {i j v : Nat} (h : j ≠ i) : updN f i v j = f j := if_neg h
theorem sumN_ge {f : Nat → Nat} : ∀ {n i : Nat}, i < n → f i ≤ sumN f n
  | 0, i, h => absurd h (Nat.not_lt_zero i)
  | n + 1, i, h => by
    unfold sumN
    by_cases e : i = n
    · subst e; omega
    · have := sumN_ge (f := f) (n := n) (i := i) (by omega)
      omega
theorem sumN_congr {f g : Nat → Nat} : ∀ {n : Nat}, (∀ i, i < n → f i = g i) → sumN f n = sumN g n
  | 0, _ => rfl
  | n + 1, h => by
    unfold sumN
    rw [sumN_congr (n := n) (fun i hi => h i (by omega)), h n (by omega)]
theorem sumN_upd {f : Nat → Nat} {i v : Nat} : ∀ {n : Nat}, i < n → sumN (updN f i v) n + f i = sumN f n + v
  | 0, h => absurd h (Nat.not_lt_zero i)
  | n + 1, h => by
    unfold sumN
    by_cases e : i = n
    · subst e
      rw [updN_s, sumN_congr (g := f) (fun j hj => updN_n (by omega))]
      omega
    · have := sumN_upd (f := f) (i := i) (v := v) (n := n) (by omega)
      rw [updN_n (fun q => e q.symm)]
      omega
/-- the lots by their numbers: good, left, debt, day -/
def LX (lgd : Nat → Int32) (llf ldb : Nat → Int64) (ldy : Nat → Int32) (nl t : Nat) (G F B Y : Nat → Nat) : Prop :=
  ∀ i, i < nl → lgd i = nI (G i) ∧ G i < 12 ∧ llf i = lN (F i) ∧ F i ≤ 120000 ∧ ldb i = lN (B i) ∧ ldy i = nI (Y i) ∧ Y i ≤ t
def LI (lgd : Nat → Int32) (llf ldb : Nat → Int64) (ldy : Nat → Int32) (nl t T : Nat) : Prop :=
  nl ≤ 200 ∧ t ≤ 100000 ∧ T ≤ 1000000000 ∧ ∃ G F B Y : Nat → Nat, LX lgd llf ldb ldy nl t G F B Y ∧ sumN B nl ≤ T
theorem lc_pos {a : Nat} (h : 0 < a) (ha : a < 2 ^ 63) : ¬ lg_cmp (lN a) 0 ≤ 0 := fun q => lc_le.mp q ((pk_lLT (a := 0) (by decide) ha).mpr h)
theorem lc_ne0 {a : Nat} (h : 0 < a) (ha : a < 2 ^ 63) : ¬ lg_cmp (lN a) 0 = 0 := fun q => by have := (pk_lEQ (a := a) (b := 0) ha (by decide)).mp (lc_eq.mp q); omega
theorem c_floor {a b : Nat} (ha : a < 2 ^ 62) (h0 : 0 < b) (hb : b < 2 ^ 62) : f_X6_floorOf (lN a) (lN b) = some (lN (a / b)) := by
  unfold f_X6_floorOf nzL
  rw [if_pos (show 0 ≤ lg_cmp (lN b) 1 from lc_ge.mpr ((pk_lLE (a := 1) (by decide) (by omega)).mpr (by omega))), if_neg (fun e => by have := (pk_lEQ (a := b) (b := 0) (by omega) (by decide)).mp e; omega), pk_lDiv (by omega) h0 (by omega)]
theorem c_floor0 {x : Int64} : f_X6_floorOf x (lN 0) = some (lN 0) := by
  unfold f_X6_floorOf
  rw [if_neg (by decide)]
  rfl
theorem c_ceil {a b : Nat} (ha : a < 2 ^ 61) (h0 : 0 < b) (hb : b < 2 ^ 61) : f_X6_ceilOf (lN a) (lN b) = some (lN ((a + b - 1) / b)) := by
  unfold f_X6_ceilOf
  rw [lN_add, show (1 : Int64) = lN 1 from rfl, lN_sub (by omega), c_floor (by omega) h0 (by omega)]
  rfl
theorem m_up {a b : Nat} (ha : a < 2 ^ 61) (h0 : 0 < b) (hb : b < 2 ^ 61) : f_X7_up (lN a) (lN b) = some (lN ((a + b - 1) / b)) := by
  unfold f_X7_up nzL
  have hne : ¬ lN b = 0 := fun e => by have := (pk_lEQ (a := b) (b := 0) (by omega) (by decide)).mp e; omega
  rw [if_neg hne, if_neg hne, pk_lRem (by omega) h0 (by omega), pk_lDiv (by omega) h0 (by omega)]
  have hm := Nat.mod_lt a h0
  have hd := Nat.div_add_mod a b
  by_cases h : a % b = 0
  · rw [h, if_pos (by decide), show (0 : Int64) = lN 0 from rfl, lN_add]
    congr 2
    have : (a + b - 1) / b = a / b := by
      rw [show a + b - 1 = (b - 1) + b * (a / b) by omega, Nat.add_mul_div_left _ _ h0, Nat.div_eq_of_lt (by omega)]
      omega
    omega
  · rw [if_neg (lc_pos (by omega) (by omega)), show (1 : Int64) = lN 1 from rfl, lN_add]
    congr 2
    rw [show a + b - 1 = (a % b - 1) + b * (a / b + 1) by rw [Nat.mul_add]; omega, Nat.add_mul_div_left _ _ h0, Nat.div_eq_of_lt (show a % b - 1 < b by omega)]
    omega
/-- the debt of x of a lot with L left and the debt D -/
def tkd (D L x : Nat) : Nat := if x = L then D else D * x / L
theorem tkd_le {D L x : Nat} (h : x ≤ L) : tkd D L x ≤ D := by
  unfold tkd
  split
  · exact Nat.le_refl _
  · exact Nat.div_le_of_le_mul (by rw [Nat.mul_comm L D]; exact Nat.mul_le_mul_left D h)
theorem mul_small {a b : Nat} (ha : a ≤ 1000000000) (hb : b ≤ 1000000000) : a * b < 2 ^ 61 := by
  have := Nat.mul_le_mul ha hb
  omega
theorem c_takeFrom {llf ldb : Nat → Int64} {i F B x : Nat} (hi : i < 200) (hF : llf i = lN F) (hB : ldb i = lN B) (h1 : F ≤ 120000) (h2 : B ≤ 1000000000) (h0 : 0 < F) (hx : x ≤ F) :
    f_X2_takeFrom llf ldb (nI i) (lN x) = some (lN (tkd B F x), vp_updL llf i (lN (F - x)), vp_updL ldb i (lN (B - tkd B F x))) := by
  have hn : (200 : Nat) < 2 ^ 31 := by decide
  unfold f_X2_takeFrom tkd
  simp only [ck_nI hi hn, nI_clamp (show i < 2 ^ 31 by omega), hF, hB]
  by_cases e : x = F
  · rw [if_pos (lc_eq.mpr (by rw [e])), if_pos e, lN_sub hx, lN_sub (Nat.le_refl B)]
  · rw [if_neg (fun q => e ((pk_lEQ (by omega) (by omega)).mp (lc_eq.mp q))), if_neg e, lN_mul, c_floor (Nat.lt_of_lt_of_le (mul_small h2 (by omega : x ≤ 1000000000)) (by decide)) h0 (by omega), lN_sub hx]
    show some (lN (B * x / F), _, vp_updL ldb i (lN B - lN (B * x / F))) = _
    rw [lN_sub (Nat.div_le_of_le_mul (by rw [Nat.mul_comm F B]; exact Nat.mul_le_mul_left B hx))]
theorem m_takeOf {llf ldb : Nat → Int64} {i F B x : Nat} (hi : i < 200) (hF : llf i = lN F) (hB : ldb i = lN B) (h1 : F ≤ 120000) (h2 : B ≤ 1000000000) (h0 : 0 < F) (hx : x ≤ F) :
    f_X7_takeOf llf ldb (nI i) (lN x) = some (lN (tkd B F x), vp_updL llf i (lN (F - x)), vp_updL ldb i (lN (B - tkd B F x))) := by
  have hn : (200 : Nat) < 2 ^ 31 := by decide
  unfold f_X7_takeOf f_X7_takeOf_J35 tkd nzL
  simp only [ck_nI hi hn, nI_clamp (show i < 2 ^ 31 by omega), hF, hB]
  by_cases e : x = F
  · rw [if_pos (lc_eq.mpr (by rw [e])), if_pos e, lN_sub hx, lN_sub (Nat.le_refl B)]
  · rw [if_neg (fun q => e ((pk_lEQ (by omega) (by omega)).mp (lc_eq.mp q))), if_neg e, if_neg (fun q => by have := (pk_lEQ (a := F) (b := 0) (by omega) (by decide)).mp q; omega), lN_mul, pk_lDiv (Nat.lt_of_lt_of_le (mul_small h2 (by omega : x ≤ 1000000000)) (by decide)) h0 (by omega), lN_sub hx, lN_sub (Nat.div_le_of_le_mul (by rw [Nat.mul_comm F B]; exact Nat.mul_le_mul_left B hx))]
theorem sub_toL {t y : Nat} (h : y ≤ t) (ht : t ≤ 100000) : (nI t - nI y).toInt64 = lN (t - y) := by
  rw [pk_sub h]
  exact nI_l (by omega)
theorem c_months {ldy : Nat → Int32} {i t y : Nat} (hi : i < 200) (hy : ldy i = nI y) (h : y ≤ t) (ht : t ≤ 100000) : f_X2_months ldy (nI i) (nI t) = some (lN ((t - y + 30 - 1) / 30)) := by
  unfold f_X2_months
  rw [ck_nI hi (by decide), nI_clamp (by omega), hy, sub_toL h ht, show (30 : Int64) = lN 30 from rfl, c_ceil (by omega) (by decide) (by decide)]
  rfl
theorem m_months {ldy : Nat → Int32} {i t y : Nat} (hy : ldy i = nI y) (h : y ≤ t) (ht : t ≤ 100000) : f_X7_up ((nI t - ldy i).toInt64) 30 = some (lN ((t - y + 30 - 1) / 30)) := by
  rw [hy, sub_toL h ht, show (30 : Int64) = lN 30 from rfl, m_up (by omega) (by decide) (by decide)]
theorem LX_take {lgd : Nat → Int32} {llf ldb : Nat → Int64} {ldy : Nat → Int32} {nl t i x d : Nat} {G F B Y : Nat → Nat} (h : LX lgd llf ldb ldy nl t G F B Y) (hi : i < nl) : LX lgd (vp_updL llf i (lN (F i - x))) (vp_updL ldb i (lN (B i - d))) ldy nl t G (updN F i (F i - x)) (updN B i (B i - d)) Y := by
  intro j hj
  obtain ⟨h1, h2, h3, h4, h5, h6, h7⟩ := h j hj
  by_cases e : j = i
  · subst e
    exact ⟨h1, h2, by rw [pk_uLs, updN_s], by rw [updN_s]; omega, by rw [pk_uLs, updN_s], h6, h7⟩
  · exact ⟨h1, h2, by rw [pk_uLn e, updN_n e]; exact h3, by rw [updN_n e]; exact h4, by rw [pk_uLn e, updN_n e]; exact h5, h6, h7⟩
/-- nothing is left to take: the reference goes on and changes nothing -/
theorem m_take0 {lgd ldy : Nat → Int32} {nl g t : Nat} (hnl : nl ≤ 200) {llf ldb : Nat → Int64} {dt ti : Int64} : ∀ (d i : Nat), i + d = nl → ∀ n : Nat, d < n →
    f_X7_take_L16 (nI nl) (nI t) lgd ldy (nI g) n llf ldb dt ti (lN 0) (nI i) = some (llf, ldb, dt, ti) := by
  intro d
  induction d with
  | zero =>
    intro i hi n hn
    cases n with
    | zero => omega
    | succ n =>
      unfold f_X7_take_L16
      rw [if_pos (nI_le (by omega) (by omega))]
  | succ d ih =>
    intro i hi n hn
    cases n with
    | zero => omega
    | succ n =>
      unfold f_X7_take_L16
      rw [if_neg (nI_ge (by omega) (by omega)), ck_nI (by omega) (by decide), nI_1, ck_nI (by omega) (by decide), ih (i + 1) (by omega) n (by omega)]
      rw [if_pos (show lg_cmp (lN 0) 0 = 0 from lc_eq.mpr rfl)]
      split
      · split <;> rfl
      · rfl
theorem take_loop {lgd ldy : Nat → Int32} {nl g t : Nat} (hnl : nl ≤ 200) (ht : t ≤ 100000) (hg : g < 12) : ∀ (d i : Nat), i + d = nl → ∀ (n1 n2 : Nat), d < n1 → d < n2 → ∀ (llf ldb : Nat → Int64) (rest T : Nat) (ti dt : Int64), rest < 2 ^ 60 → LI lgd llf ldb ldy nl t T →
    ∃ (llf' ldb' : Nat → Int64) (ti' : Int64) (e : Nat), f_X2_take_L14 lgd ldy (nI nl) (nI g) (nI t) n1 llf ldb ti (lN rest) dt (nI i) = some (dt + lN e, llf', ldb', ti') ∧
      f_X7_take_L16 (nI nl) (nI t) lgd ldy (nI g) n2 llf ldb dt ti (lN rest) (nI i) = some (llf', ldb', dt + lN e, ti') ∧ e ≤ T ∧ LI lgd llf' ldb' ldy nl t (T - e) := by
  intro d
  induction d with
  | zero =>
    intro i hi n1 n2 h1 h2 llf ldb rest T ti dt hr hL
    refine ⟨llf, ldb, ti, 0, ?_, ?_, Nat.zero_le _, by rw [Nat.sub_zero]; exact hL⟩
    · cases n1 with
      | zero => omega
      | succ n1 =>
        unfold f_X2_take_L14
        rw [if_pos (nI_le (by omega) (by omega)), show lN 0 = 0 from rfl, Int64.add_zero]
    · cases n2 with
      | zero => omega
      | succ n2 =>
        unfold f_X7_take_L16
        rw [if_pos (nI_le (by omega) (by omega)), show lN 0 = 0 from rfl, Int64.add_zero]
  | succ d ih =>
    intro i hi n1 n2 h1 h2 llf ldb rest T ti dt hr hL
    obtain ⟨m1, rfl⟩ : ∃ k, n1 = k + 1 := ⟨n1 - 1, by omega⟩
    obtain ⟨m2, rfl⟩ : ∃ k, n2 = k + 1 := ⟨n2 - 1, by omega⟩
    have hge : ¬ nI nl ≤ nI i := nI_ge (by omega) (by omega)
    by_cases hr0 : rest = 0
    · subst hr0
      refine ⟨llf, ldb, ti, 0, ?_, ?_, Nat.zero_le _, by rw [Nat.sub_zero]; exact hL⟩
      · unfold f_X2_take_L14
        rw [if_neg hge, if_pos (show lg_cmp (lN 0) 0 ≤ 0 by decide), show lN 0 = 0 from rfl, Int64.add_zero]
      · rw [m_take0 hnl (d + 1) i hi (m2 + 1) h2, show lN 0 = 0 from rfl, Int64.add_zero]
    · obtain ⟨a1, a2, a3, G, F, B, Y, hX, hS⟩ := id hL
      obtain ⟨b1, b2, b3, b4, b5, b6, b7⟩ := hX i (by omega)
      have hpos : ¬ lg_cmp (lN rest) 0 ≤ 0 := fun q => lc_le.mp q ((pk_lLT (a := 0) (by decide) (by omega)).mpr (by omega))
      have hne0 : ¬ lg_cmp (lN rest) 0 = 0 := fun q => by have := (pk_lEQ (a := rest) (b := 0) (by omega) (by decide)).mp (lc_eq.mp q); omega
      have hcl : (nI i).toNatClampNeg = i := nI_clamp (by omega)
      have hck : ∀ {β : Type} {x : Option β}, ck (nI i) 200 x = x := ck_nI (by omega) (by decide)
      by_cases hgi : G i = g
      · by_cases hF0 : F i = 0
        · obtain ⟨llf', ldb', ti', e, q1, q2, q3, q4⟩ := ih (i + 1) (by omega) m1 m2 (by omega) (by omega) llf ldb rest T ti dt hr hL
          refine ⟨llf', ldb', ti', e, ?_, ?_, q3, q4⟩
          · unfold f_X2_take_L14
            rw [if_neg hge, if_neg hpos, hck, hcl, b1, hgi, if_pos rfl, hck, b3, hF0, if_pos (show lg_cmp (lN 0) 0 ≤ 0 by decide), nI_1, q1]
          · unfold f_X7_take_L16
            rw [if_neg hge, hck, hcl, b1, hgi, if_pos rfl, hck, b3, hF0, if_pos (show lg_cmp (lN 0) 0 = 0 by decide), nI_1, q2]
        · have hBT : B i ≤ T := Nat.le_trans (sumN_ge (by omega)) hS
          obtain ⟨x, hx⟩ : ∃ x, x = if F i < rest then F i else rest := ⟨_, rfl⟩
          have hxF : x ≤ F i := by rw [hx]; split <;> omega
          have hxr : x ≤ rest := by rw [hx]; split <;> omega
          have hmin : (if lN (F i) < lN rest then lN (F i) else lN rest) = lN x := by
            rw [hx]
            by_cases q : F i < rest
            · rw [if_pos q, if_pos ((pk_lLT (by omega) (by omega)).mpr q)]
            · rw [if_neg q, if_neg (fun z => q ((pk_lLT (by omega) (by omega)).mp z))]
          have hdl := tkd_le (D := B i) hxF
          have hX2 := LX_take (x := x) (d := tkd (B i) (F i) x) hX (show i < nl by omega)
          have hsum := sumN_upd (f := B) (i := i) (v := B i - tkd (B i) (F i) x) (n := nl) (by omega)
          obtain ⟨mo, hmo⟩ : ∃ z, z = lN ((t - Y i + 30 - 1) / 30) := ⟨_, rfl⟩
          obtain ⟨llf', ldb', ti', e, q1, q2, q3, q4⟩ := ih (i + 1) (by omega) m1 m2 (by omega) (by omega) (vp_updL llf i (lN (F i - x))) (vp_updL ldb i (lN (B i - tkd (B i) (F i) x))) (rest - x) (T - tkd (B i) (F i) x) (ti + lN (tkd (B i) (F i) x) * mo / 100) (dt + lN (tkd (B i) (F i) x)) (by omega) ⟨a1, a2, by omega, _, _, _, _, hX2, by omega⟩
          refine ⟨llf', ldb', ti', tkd (B i) (F i) x + e, ?_, ?_, by omega, by rw [Nat.sub_add_eq]; exact q4⟩
          · unfold f_X2_take_L14
            rw [if_neg hge, if_neg hpos, hck, hcl, b1, hgi, if_pos rfl, hck, b3, if_neg (lc_pos (by omega) (by omega)), hck, hmin, c_takeFrom (by omega) b3 b5 b4 (by omega) (by omega) hxF]
            rw [Option.bind_some, c_months (by omega) b6 b7 ht, ← hmo, Option.bind_some, lN_sub hxr, nI_1]
            rw [← lN_add, ← Int64.add_assoc]
            exact q1
          · unfold f_X7_take_L16 f_X7_take_J83
            rw [if_neg hge, hck, hcl, b1, hgi, if_pos rfl, hck, b3, if_neg (fun q => by have := (pk_lEQ (a := F i) (b := 0) (by omega) (by decide)).mp (lc_eq.mp q); omega), if_neg hne0, hck]
            have hfin : ∀ z : Int64, z = lN x → ((f_X7_takeOf llf ldb (nI i) z).bind fun o1 => ck (nI i) 200 <| (f_X7_up ((nI t - ldy i).toInt64) 30).bind fun o4 => f_X7_take_L16 (nI nl) (nI t) lgd ldy (nI g) m2 o1.2.1 o1.2.2 (dt + o1.1) (ti + o1.1 * o4 / 100) (lN rest - z) (nI i + 1)) = some (llf', ldb', dt + lN (tkd (B i) (F i) x + e), ti') := by
              intro z hz
              rw [hz, m_takeOf (by omega) b3 b5 b4 (by omega) (by omega) hxF]
              rw [Option.bind_some, hck, m_months b6 b7 ht, ← hmo, Option.bind_some, lN_sub hxr, nI_1]
              rw [← lN_add, ← Int64.add_assoc]
              exact q2
            by_cases q : F i < rest
            · rw [if_neg (fun z => by have := (pk_lLE (a := rest) (b := F i) (by omega) (by omega)).mp (lc_ge.mp z); omega), hck]
              exact hfin _ (by rw [hx, if_pos q])
            · rw [if_pos (lc_ge.mpr ((pk_lLE (by omega) (by omega)).mpr (by omega)))]
              exact hfin _ (by rw [hx, if_neg q])
      · have hne : ¬ nI (G i) = nI g := fun q => hgi ((nI_eq (by omega) (by omega)).mp q)
        obtain ⟨llf', ldb', ti', e, q1, q2, q3, q4⟩ := ih (i + 1) (by omega) m1 m2 (by omega) (by omega) llf ldb rest T ti dt hr hL
        refine ⟨llf', ldb', ti', e, ?_, ?_, q3, q4⟩
        · unfold f_X2_take_L14
          rw [if_neg hge, if_neg hpos, hck, hcl, b1, if_neg hne, nI_1, q1]
        · unfold f_X7_take_L16
          rw [if_neg hge, hck, hcl, b1, if_neg hne, nI_1, q2]
theorem take_eq {lgd ldy : Nat → Int32} {llf ldb : Nat → Int64} {nl g t T n : Nat} {lti mtd mti : Int64} (hg : g < 12) (hn : n < 2 ^ 60) (hL : LI lgd llf ldb ldy nl t T) :
    ∃ (llf' ldb' : Nat → Int64) (ti' : Int64) (e : Nat), f_X2_take lgd llf ldb ldy (nI nl) lti (nI g) (lN n) (nI t) = some (lN e, llf', ldb', ti') ∧ f_X7_take (nI nl) (nI t) lgd ldy llf ldb mtd mti (nI g) (lN n) = some (llf', ldb', lN e, ti') ∧ e ≤ T ∧ LI lgd llf' ldb' ldy nl t (T - e) := by
  obtain ⟨llf', ldb', ti', e, q1, q2, q3, q4⟩ := take_loop hL.1 hL.2.1 hg nl 0 (by omega) FU FU (Nat.lt_of_le_of_lt hL.1 (by decide)) (Nat.lt_of_le_of_lt hL.1 (by decide)) llf ldb n T 0 0 hn hL
  rw [Int64.zero_add] at q1 q2
  exact ⟨llf', ldb', ti', e, q1, q2, q3, q4⟩
