theorem nk_mem : ∀ q ∈ nkQ, Cond.methodLinkNest q.1 q.2.1 q.2.2 RX6 ∈ lw_tbl := by decide +kernel
theorem sk_mem : ∀ q ∈ skQ, Cond.stringRef RX6 q.1 q.2 ∈ lw_tbl := by decide +kernel
theorem xk_mem : (∀ X ∈ ekQ, Cond.castable X X ∈ lw_tbl) ∧ ∀ Y ∈ edQ, Cond.declares (Bundle.initS Y) ∈ lw_tbl := by decide +kernel
theorem zk_mem : Cond.laysStatic Bundle.tN "UNASSIGNED_STACK" Bundle.steD ∈ lw_tbl ∧ Cond.laysStatic Bundle.tN "SUPPRESSED_SENTINEL" Bundle.listD ∈ lw_tbl ∧ Cond.initialized Bundle.tN ∈ lw_tbl ∧ Cond.arrayClass .int ∈ lw_tbl ∧ Cond.arrayClass .long ∈ lw_tbl ∧ Cond.arrayClass .boolean ∈ lw_tbl := by decide +kernel
theorem lw_nk {s : State} {args : Array Value} (hts : ∀ w ∈ lw_tbl, w.before args s = true) (h6 : ∃ c6, s.vm.findClass RX6 = some c6) : nk s := by
  obtain ⟨c6, h6⟩ := h6
  refine ⟨fun q hq => va_Nw.of rfl (hts _ (nk_mem q hq)), fun q hq => ?_⟩
  have h1 := hts _ (sk_mem q hq)
  obtain ⟨k, cf, i, a, hk, hcf, hcp, -, hr, hev⟩ := Cond.stringRef_spec h6 h1
  exact ⟨a, vk_R.of h1 hev⟩
theorem lw_arr {s : State} {args : Array Value} {ty : FieldType} (h : (Cond.arrayClass ty).before args s = true) : ∃ cA : ClassId, ArrOfT s cA ty ∧ s.vm.findClass ("[" ++ ty.toString) = some cA := by
  obtain ⟨cA, kA, comp, h1, h2, h3⟩ := Cond.arrayClass_spec h
  exact ⟨cA, fun n z => ⟨fun k h => (by cases h), kA, h2, comp, h3⟩, h1⟩
set_option maxHeartbeats 8000000 in
set_option maxRecDepth 100000 in
/-- THE LAW, from its entry -/
theorem whole_start {p : Program} {e : Env} {s : State} {m : MethodId} {below : List Frame} {meth : Method} {c : Code} (l : Launch) (hl0 : l.stackTraces = false) {b L : Nat} {xs : Nat → Int32} (hL : L ≤ 2560) (C0 : lw_At p s m meth c b L xs) : W p l e room_1 s m #[Value.ref b] below meth c s.heap [] 0 0 (lw_Z below #[Value.ref b] s) (entryFrame m ([Value.ref b] : List Value).toArray 8) := by
  obtain ⟨hx, hb, hr, hml, hown, hts, hX, hbl, hlocks, hgv⟩ := id C0
  have hAz : ∀ q : Nat, s.heap.size ≤ q → (fun z : Nat => s.heap.size ≤ z) q := fun _ h => h
  have hflat := flat_of_before _ hgv
  obtain ⟨ccX0, iSX0, hKnX0⟩ := u_known (C := RX0) (T := TX0) (N := 6) (n := 6) hts (fun w h => wsL_law_in w (inlX0 w h)) (hts (.instantiable RX0 6) (by decide +kernel))
  obtain ⟨ccX1, iSX1, hKnX1⟩ := u_known (C := RX1) (T := TX1) (N := 2) (n := 2) hts (fun w h => wsL_law_in w (inlX1 w h)) (hts (.instantiable RX1 2) (by decide +kernel))
  obtain ⟨ccX2, iSX2, hKnX2⟩ := u_known (C := RX2) (T := TX2) (N := 6) (n := 6) hts (fun w h => wsL_law_in w (inlX2 w h)) (hts (.instantiable RX2 6) (by decide +kernel))
  obtain ⟨ccX3, iSX3, hKnX3⟩ := u_known (C := RX3) (T := TX3) (N := 5) (n := 5) hts (fun w h => wsL_law_in w (inlX3 w h)) (hts (.instantiable RX3 5) (by decide +kernel))
  obtain ⟨ccX4, iSX4, hKnX4⟩ := u_known (C := RX4) (T := TX4) (N := 4) (n := 4) hts (fun w h => wsL_law_in w (inlX4 w h)) (hts (.instantiable RX4 4) (by decide +kernel))
  obtain ⟨ccX5, iSX5, hKnX5⟩ := u_known (C := RX5) (T := TX5) (N := 5) (n := 5) hts (fun w h => wsL_law_in w (inlX5 w h)) (hts (.instantiable RX5 5) (by decide +kernel))
  obtain ⟨ccX6, iSX6, hKnX6⟩ := u_known (C := RX6) (T := TX6) (N := 11) (n := 11) hts (fun w h => wsL_law_in w (inlX6 w h)) (hts (.instantiable RX6 11) (by decide +kernel))
  obtain ⟨ccX7, iSX7, hKnX7⟩ := u_known (C := RX7) (T := TX7) (N := 30) (n := 30) hts (fun w h => wsL_law_in w (inlX7 w h)) (hts (.instantiable RX7 30) (by decide +kernel))
  obtain ⟨dC, dI, hKc⟩ : ∃ (dC : Nat → ClassId) (dI : Nat → Nat → Nat), ∀ (k : Nat) (q : vw_C), vwCl[k]? = some q → u_Kn s q.1 q.2.1 q.2.2 (dC k) (dI k) := by
    refine ⟨fun k => if k = 0 then ccX0 else if k = 1 then ccX1 else if k = 2 then ccX2 else if k = 3 then ccX3 else if k = 4 then ccX4 else if k = 5 then ccX5 else if k = 6 then ccX6 else ccX7, fun k => if k = 0 then iSX0 else if k = 1 then iSX1 else if k = 2 then iSX2 else if k = 3 then iSX3 else if k = 4 then iSX4 else if k = 5 then iSX5 else if k = 6 then iSX6 else iSX7, ?_⟩
    intro k q hq
    match k, hq with
    | 0, hq => cases hq; exact hKnX0
    | 1, hq => cases hq; exact hKnX1
    | 2, hq => cases hq; exact hKnX2
    | 3, hq => cases hq; exact hKnX3
    | 4, hq => cases hq; exact hKnX4
    | 5, hq => cases hq; exact hKnX5
    | 6, hq => cases hq; exact hKnX6
    | 7, hq => cases hq; exact hKnX7
    | k + 8, hq => simp [vwCl] at hq
  obtain ⟨cI, aI, rI⟩ := lw_arr (hts _ zk_mem.2.2.2.1)
  obtain ⟨cJ, aJ, rJ⟩ := lw_arr (hts _ zk_mem.2.2.2.2.1)
  obtain ⟨cZ, aZ, rZ⟩ := lw_arr (hts _ zk_mem.2.2.2.2.2)
  have hK : va_K (dC, dI) vwCl (gT cI cJ cZ) s := by
    refine ⟨hKc, fun k q hq => ?_⟩
    match k, hq with
    | 0, hq => cases hq; exact ⟨aI, rI⟩
    | 1, hq => cases hq; exact ⟨aJ, rJ⟩
    | 2, hq => cases hq; exact ⟨aZ, rZ⟩
    | k + 3, hq => simp [gT] at hq
  have hN : nk s := lw_nk hts ⟨_, hKnX6.2.1⟩
  have hxk : xk s := ⟨fun X hX => va_Nw.of rfl (hts _ (xk_mem.1 X hX)), fun Y hY => va_Nw.of rfl (hts _ (xk_mem.2 Y hY))⟩
  have hyk : yk s := ⟨va_Nc.of (hflat _ (by decide +kernel)), va_Nc.of (hflat _ (by decide +kernel))⟩
  have hout : ∀ z : Nat, z < s.heap.size → ¬ (fun z : Nat => s.heap.size ≤ z) z := fun z h => Nat.not_le.mpr h
  have hgs : gS (fun z : Nat => s.heap.size ≤ z) s s.heap := ⟨vx_Zqof (hts _ zk_mem.1) (hts _ zk_mem.2.2.1) (hflat _ (by decide +kernel)) hout, vx_Zqof (hts _ zk_mem.2.1) (hts _ zk_mem.2.2.1) (hflat _ (by decide +kernel)) hout⟩
  have hV : gV l s (fun z : Nat => s.heap.size ≤ z) := ⟨hl0, hgs, hxk, hyk⟩
  have C : gC p s m #[Value.ref b] meth c cL_law 8 ret wsL_law RL (fun z : Nat => s.heap.size ≤ z) := ⟨hx, hb, hr, hml, hown, fun w h => hts w (wsL_law_in w h), hlocks, hN, hAz⟩
  replace hts : ∀ w ∈ wsL_law, w.before #[Value.ref b] s = true := fun w h => hts w (wsL_law_in w h)
  have E : vE s (fun z : Nat => s.heap.size ≤ z) (dC, dI) (gT cI cJ cZ) [] s.heap [] := ⟨fun k q h => by simp at h, hK, ⟨fun i j p q h => by simp at h, fun k q h => by simp at h⟩, va_S.rf⟩
  have hl := lv_entry ([.ref b]) (n := 8) (Nat.le_of_ble_eq_true rfl)
  rw [lg_entry_eq]
  generalize (lg_sl ([.ref b]) ++ List.replicate (8 - (lg_sl ([.ref b])).length) Slot.unset).toArray = ls at hl ⊢
  have hl : lv_has ls 8 [(0, .ref b)] := hl
  refine g_new C E 6 [.null, .null, .null, .null, .null, .null, .int 0, .long 0, .long 0, .long 0, .long 0] tyX6 tyX6_ok inlX6 (List.mem_append_left _ (List.mem_append_left _ (List.mem_append_left _ (List.mem_append_left _ (List.mem_of_getElem? (i := 0) rfl))))) (List.mem_append_left _ (List.mem_append_left _ (List.mem_append_left _ (List.mem_append_left _ (List.mem_of_getElem? (i := 1) rfl))))) (List.mem_append_left _ (List.mem_append_left _ (List.mem_append_left _ (List.mem_append_left _ (List.mem_of_getElem? (i := 2) rfl))))) rfl df_X6 (Nat.le_of_ble_eq_true rfl) (Nat.le_of_ble_eq_true rfl) dL_law_0 (fun q6 H E => ?_)
  refine lv_dup hx hb dL_law_3 rfl ?_
  refine g_callI (w := []) (x := (q6, .inr (6, [.null, .null, .null, .null, .null, .null, .int 0, .long 0, .long 0, .long 0, .long 0]))) C E (g_runI (As := []) (rest := [.ref q6]) C (vE_last E) c_X6_init (cwI 0 hts gL_law_X6_init rfl rfl rfl (hts (.initialized RX6) (List.mem_append_left _ (List.mem_append_left _ (List.mem_append_left _ (List.mem_append_left _ (List.mem_of_getElem? (i := 2) rfl)))))) (hts (.methodLink RL 55 yX6_init) (List.mem_append_left _ (List.mem_append_left _ (List.mem_append_left _ (List.mem_append_left _ (List.mem_of_getElem? (i := 7) rfl)))))) (hts (.instanceMethod yX6_init) (List.mem_append_left _ (List.mem_append_left _ (List.mem_append_left _ (List.mem_append_left _ (List.mem_of_getElem? (i := 8) rfl)))))) rfl hd_X6_init ⟨(Nat.le_of_ble_eq_true rfl), (Nat.le_of_ble_eq_true rfl)⟩) rfl hl.1 rfl (Nat.le_of_ble_eq_true rfl) dL_law_4 ⟨(Nat.le_of_ble_eq_true rfl), (Nat.le_of_ble_eq_true rfl)⟩) [] rfl rfl (show ∀ i ∈ ([] : List Nat), i ∉ [0] from by decide) (fun u6 H locs hu E2 => ?_)
  obtain ⟨hu0, hvX6⟩ := hu
  subst hu0
  replace E := E2
  refine lv_astore_n (lv' := [(1, .ref (u6.1 0)), (0, .ref b)]) hx hb dL_law_7 rfl hl (by decide) rfl (fun ls hl => ?_)
  have E : vE s (fun z : Nat => s.heap.size ≤ z) (dC, dI) (gT cI cJ cZ) (cW u6.1 cI cJ cZ u6.2 (fun _ => 0) (fun _ => 0) (fun _ => 0) (fun _ => 0) (fun _ => 0) (fun _ => 0) (fun _ => 0) (fun _ => 0) (fun _ => 0) (fun _ => 0) 0 (fun _ => 0) (fun _ => 0) (fun _ => 0) (fun _ => 0) 0 0 (fun _ => 0) (fun _ => 0) (fun _ => 0) 0 (fun _ => 0) (fun _ => 0) (fun _ => 0) (fun _ => 0) (fun _ => 0) 0 (fun _ => 0) (fun _ => 0) 0 0 0 0 0) H _ := E
  refine g_new C E 7 [.int 0, .int 0, .int 0, .int 0, .int 0, .long 0, .long 0, .long 0, .long 0, .null, .null, .null, .null, .null, .null, .null, .null, .null, .null, .null, .null, .null, .null, .null, .null, .null, .long 0, .long 0, .null, .null] tyX7 tyX7_ok inlX7 (List.mem_append_left _ (List.mem_append_left _ (List.mem_append_left _ (List.mem_append_left _ (List.mem_of_getElem? (i := 3) rfl))))) (List.mem_append_left _ (List.mem_append_left _ (List.mem_append_left _ (List.mem_append_left _ (List.mem_of_getElem? (i := 4) rfl))))) (List.mem_append_left _ (List.mem_append_left _ (List.mem_append_left _ (List.mem_append_left _ (List.mem_of_getElem? (i := 5) rfl))))) rfl df_X7 (Nat.le_of_ble_eq_true rfl) (Nat.le_of_ble_eq_true rfl) dL_law_8 (fun q7 H E => ?_)
  refine lv_dup hx hb dL_law_11 rfl ?_
  refine g_callI (w := (cW u6.1 cI cJ cZ u6.2 (fun _ => 0) (fun _ => 0) (fun _ => 0) (fun _ => 0) (fun _ => 0) (fun _ => 0) (fun _ => 0) (fun _ => 0) (fun _ => 0) (fun _ => 0) 0 (fun _ => 0) (fun _ => 0) (fun _ => 0) (fun _ => 0) 0 0 (fun _ => 0) (fun _ => 0) (fun _ => 0) 0 (fun _ => 0) (fun _ => 0) (fun _ => 0) (fun _ => 0) (fun _ => 0) 0 (fun _ => 0) (fun _ => 0) 0 0 0 0 0)) (x := (q7, .inr (7, [.int 0, .int 0, .int 0, .int 0, .int 0, .long 0, .long 0, .long 0, .long 0, .null, .null, .null, .null, .null, .null, .null, .null, .null, .null, .null, .null, .null, .null, .null, .null, .null, .long 0, .long 0, .null, .null]))) C E (g_runI (As := []) (rest := [.ref q7]) C (vE_last E) c_X7_init (cwI 0 hts gL_law_X7_init rfl rfl rfl (hts (.initialized RX7) (List.mem_append_left _ (List.mem_append_left _ (List.mem_append_left _ (List.mem_append_left _ (List.mem_of_getElem? (i := 5) rfl)))))) (hts (.methodLink RL 58 yX7_init) (List.mem_append_left _ (List.mem_append_left _ (List.mem_append_left _ (List.mem_append_left _ (List.mem_of_getElem? (i := 85) rfl)))))) (hts (.instanceMethod yX7_init) (List.mem_append_left _ (List.mem_append_left _ (List.mem_append_left _ (List.mem_append_left _ (List.mem_of_getElem? (i := 86) rfl)))))) rfl hd_X7_init ⟨(Nat.le_of_ble_eq_true rfl), (Nat.le_of_ble_eq_true rfl)⟩) rfl hl.1 rfl (Nat.le_of_ble_eq_true rfl) dL_law_12 ⟨(Nat.le_of_ble_eq_true rfl), (Nat.le_of_ble_eq_true rfl)⟩) [0, 1, 2, 3, 4, 5, 6, 7, 8, 9, 10, 11, 12, 13, 14, 15, 16, 17, 18, 19, 20, 21, 22, 23, 24, 25, 26, 27, 28, 29, 30, 31, 32] rfl rfl (show ∀ i ∈ ([0, 1, 2, 3, 4, 5, 6, 7, 8, 9, 10, 11, 12, 13, 14, 15, 16, 17, 18, 19, 20, 21, 22, 23, 24, 25, 26, 27, 28, 29, 30, 31, 32] : List Nat), i ∉ [33] from by decide) (fun u7 H locs hu E2 => ?_)
  obtain ⟨hu0, hvX7⟩ := hu
  subst hu0
  replace E := E2
  refine lv_astore_n (lv' := [(2, .ref (u7.1 0)), (1, .ref (u6.1 0)), (0, .ref b)]) hx hb dL_law_15 rfl hl (by decide) rfl (fun ls hl => ?_)
  refine lv_iconst (v := 1) hx hb dL_law_16 (by decide) ?_
  refine g_newJ C E 1 (List.mem_append_left _ (List.mem_append_left _ (List.mem_append_left _ (List.mem_append_left _ (List.mem_of_getElem? (i := 6) rfl))))) (by decide) (by decide) (by decide) (Nat.le_of_ble_eq_true rfl) (Nat.le_of_ble_eq_true rfl) dL_law_17 (fun q H E => ?_)
  refine lv_astore_n (lv' := [(3, .ref q), (2, .ref (u7.1 0)), (1, .ref (u6.1 0)), (0, .ref b)]) hx hb dL_law_19 rfl hl (by decide) rfl (fun ls hl => ?_)
  refine lv_iconst (v := 0) hx hb dL_law_20 (by decide) ?_
  refine lv_istore (lv' := [(4, .int 0), (3, .ref q), (2, .ref (u7.1 0)), (1, .ref (u6.1 0)), (0, .ref b)]) hx hb dL_law_21 hl (by decide) rfl (fun ls hl => ?_)
  refine W.widen (k := 54 + 0) (n := 2581 + 6 * 0) (by decide) (by decide) ?_
  replace E : vE s (fun z : Nat => s.heap.size ≤ z) (dC, dI) (gT cI cJ cZ) (((cW u6.1 cI cJ cZ u6.2 (fun _ => 0) (fun _ => 0) (fun _ => 0) (fun _ => 0) (fun _ => 0) (fun _ => 0) (fun _ => 0) (fun _ => 0) (fun _ => 0) (fun _ => 0) 0 (fun _ => 0) (fun _ => 0) (fun _ => 0) (fun _ => 0) 0 0 (fun _ => 0) (fun _ => 0) (fun _ => 0) 0 (fun _ => 0) (fun _ => 0) (fun _ => 0) (fun _ => 0) (fun _ => 0) 0 (fun _ => 0) (fun _ => 0) 0 0 0 0 0) ++ [(q, .inl (cJ, 1, .inr (.inl (fun _ => 0))))]) ++ (mW u7.1 cI cJ cZ 0 0 0 0 0 0 0 0 0 u7.2 (fun _ => 0) (fun _ => 0) (fun _ => 0) (fun _ => 0) (fun _ => 0) (fun _ => 0) (fun _ => 0) (fun _ => 0) (fun _ => 0) (fun _ => 0) (fun _ => 0) (fun _ => 0) (fun _ => 0) (fun _ => 0) (fun _ => 0) (fun _ => 0) 0 0 (fun _ => 0) (fun _ => 0))) H _ := ⟨va_P.swap E.1, E.2.1, va_D.swap E.2.2.1, E.2.2.2⟩
  exact w_L_law_L23 C hV hX hbl 514 u6.2 (fun _ => 0) (fun _ => 0) (fun _ => 0) (fun _ => 0) (fun _ => 0) (fun _ => 0) (fun _ => 0) (fun _ => 0) (fun _ => 0) (fun _ => 0) 0 (fun _ => 0) (fun _ => 0) (fun _ => 0) (fun _ => 0) 0 0 (fun _ => 0) (fun _ => 0) (fun _ => 0) 0 (fun _ => 0) (fun _ => 0) (fun _ => 0) (fun _ => 0) (fun _ => 0) 0 (fun _ => 0) (fun _ => 0) 0 0 0 0 0 (fun _ => 0) 0 0 0 0 0 0 0 0 0 u7.2 (fun _ => 0) (fun _ => 0) (fun _ => 0) (fun _ => 0) (fun _ => 0) (fun _ => 0) (fun _ => 0) (fun _ => 0) (fun _ => 0) (fun _ => 0) (fun _ => 0) (fun _ => 0) (fun _ => 0) (fun _ => 0) (fun _ => 0) (fun _ => 0) 0 0 (fun _ => 0) (fun _ => 0) 0 0 _ _ _ (by decide) E (lv_sub hl [4, 3, 2, 1, 0] rfl) (law_pure hL hvX6 hvX7)
