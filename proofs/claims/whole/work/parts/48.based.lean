/-! A call on a part of the world: the rest stays. -/
section GF
variable {p : Program} {l : Launch} {e : Env} {R : Room} {s : State} {m : MethodId} {args : Array Value} {below : List Frame} {meth : Method} {c : Code} {H H1 : Heap} {locs locs1 : List Loc} {cells slots : Nat} {Q : State → Prop}
variable {cc : ByteArray} {pc maxL : Nat} {ls : Array Slot} {rest st0 : List Value} {D : va_G} {A : Nat → Prop} {b : Nat} {tys : List (ClassId × FieldType)} {w w' u v wc wc' wr : va_W} {ret : Option FieldType} {ws : List Cond} {own : String}
theorem app_l {k : Nat} {q : Nat × va_E} (h : u[k]? = some q) : (u ++ v)[k]? = some q := by
  rw [List.getElem?_append_left (List.getElem?_eq_some_iff.mp h).1]
  exact h
theorem app_r {k : Nat} {q : Nat × va_E} (h : v[k]? = some q) : (u ++ v)[u.length + k]? = some q := by
  rw [List.getElem?_append_right (Nat.le_add_right _ _), Nat.add_sub_cancel_left]
  exact h
theorem vE_left (E : vE s A D tys (u ++ v) H locs) : vE s A D tys u H locs := ⟨fun k q hk => E.1 k q (app_l hk), E.2.1, ⟨fun i j p q hi hj h => E.2.2.1.1 i j p q (app_l hi) (app_l hj) h, fun k q hk => E.2.2.1.2 k q (app_l hk)⟩, E.2.2.2⟩
theorem vE_right (E : vE s A D tys (u ++ v) H locs) : vE s A D tys v H locs := ⟨fun k q hk => E.1 _ q (app_r hk), E.2.1, ⟨fun i j p q hi hj h => Nat.add_left_cancel (E.2.2.1.1 _ _ p q (app_r hi) (app_r hj) h), fun k q hk => E.2.2.1.2 _ q (app_r hk)⟩, E.2.2.2⟩
theorem vE_swap (E : vE s A D tys (u ++ v) H locs) : vE s A D tys (v ++ u) H locs := ⟨va_P.swap (a := []) (b := u) (c := v) E.1, E.2.1, va_D.swap (a := []) (b := u) (c := v) E.2.2.1, E.2.2.2⟩
theorem g_apart (E : vE s A D tys (wc ++ wr) H locs) {k : Nat} {q : Nat × va_E} (h : wr[k]? = some q) : q.1 < H.size ∧ ¬ va_A wc H.size q.1 := by
  have hl := (E.1 _ q (app_r h)).lt
  refine ⟨hl, fun g => ?_⟩
  rcases g with ⟨k2, z, g⟩ | g
  · have h1 := E.2.2.1.1 k2 (wc.length + k) (q.1, z) q (app_l g) (app_r h) rfl
    have h2 := (List.getElem?_eq_some_iff.mp g).1
    omega
  · omega
theorem g_frame (E : vE s A D tys (wc ++ wr) H locs) (hA : ∀ q : Nat, s.heap.size ≤ q → A q) {t : State} (ht : t.heap = H1) (hk : ∀ q : Nat, q < H.size → ¬ va_A wc H.size q → H1[q]? = H[q]?) (hB : gB D tys wc' (va_A wc H.size) t) (hS : va_S A s.heap H1 locs1) : vE s A D tys (wc' ++ wr) H1 locs1 := by
  obtain ⟨hP1, hK1, hD1⟩ := hB
  rw [ht] at hP1
  have hF := g_free (vE_left E) hA
  refine ⟨va_P.app hP1 (fun k q hq => ((vE_right E).1 k q hq).kept (hk q.1 (g_apart E hq).1 (g_apart E hq).2)), E.2.1, va_D.app (hD1.weaken (fun k q _ h => hF q.1 h)) (vE_right E).2.2.1 (fun i j x y hx hy hxy => ?_), hS⟩
  exact (g_apart E hy).2 (by rw [← hxy]; exact hD1.2 i x hx)
theorem g_calliF {r : Int32} {a : Array Value} (C : gC p s m args meth c cc maxL ret ws own A) (E : vE s A D tys (wc ++ wr) H locs) (hr : va_Run p l e R s m args below meth c H locs cells slots 0 0 (F0 m pc ls st0) rest (gQi D tys (va_A wc H.size) wc' r a) (va_A wc H.size))
    (kk : ∀ (H1 : Heap) (locs1 : List Loc), vE s A D tys (wc' ++ wr) H1 locs1 → W p l e R s m args below meth c H1 locs1 cells slots Q (F0 m (pc + 3) ls (.int r :: rest))) : W p l e R s m args below meth c H locs cells slots Q (F0 m pc ls st0) := by
  obtain ⟨hx, hb, -, hml, hown, hts, hlocks, hN, hA⟩ := C
  have hF := g_free (vE_left E) hA
  refine va_calli hr E.2.2.2 (fun q _ h => hF q h) hF (fun r1 u t H1 locs1 ht hvm hw hB hz1 hk1 hS => ?_)
  subst hw
  exact kk H1 locs1 (g_frame E hA ht hk1 hB hS)
theorem g_calllF {r : Int64} {a : Array Value} (C : gC p s m args meth c cc maxL ret ws own A) (E : vE s A D tys (wc ++ wr) H locs) (hr : va_Run p l e R s m args below meth c H locs cells slots 0 0 (F0 m pc ls st0) rest (gQl D tys (va_A wc H.size) wc' r a) (va_A wc H.size))
    (kk : ∀ (H1 : Heap) (locs1 : List Loc), vE s A D tys (wc' ++ wr) H1 locs1 → W p l e R s m args below meth c H1 locs1 cells slots Q (F0 m (pc + 3) ls (.long r :: rest))) : W p l e R s m args below meth c H locs cells slots Q (F0 m pc ls st0) := by
  obtain ⟨hx, hb, -, hml, hown, hts, hlocks, hN, hA⟩ := C
  have hF := g_free (vE_left E) hA
  refine va_calll hr E.2.2.2 (fun q _ h => hF q h) hF (fun r1 u t H1 locs1 ht hvm hw hB hz1 hk1 hS => ?_)
  subst hw
  exact kk H1 locs1 (g_frame E hA ht hk1 hB hS)
/-- a wrapper's call: it makes at most one cell -/
theorem g_calliW {r : Int32} {a : Array Value} {mc ms : Nat} (C : gC p s m args meth c cc maxL ret ws own A) (E : vE s A D tys (wc ++ wr) H locs) (hr : va_Run p l e R s m args below meth c H locs cells slots mc ms (F0 m pc ls st0) rest (gQi D tys (va_A wc H.size) wc' r a) (va_A wc H.size))
    (kk : ∀ (H1 : Heap) (locs1 : List Loc), vE s A D tys (wc' ++ wr) H1 locs1 → W p l e R s m args below meth c H1 locs1 (cells + mc) (slots + ms) Q (F0 m (pc + 3) ls (.int r :: rest))) : W p l e R s m args below meth c H locs cells slots Q (F0 m pc ls st0) := by
  obtain ⟨hx, hb, -, hml, hown, hts, hlocks, hN, hA⟩ := C
  have hF := g_free (vE_left E) hA
  refine va_calli hr E.2.2.2 (fun q _ h => hF q h) hF (fun r1 u t H1 locs1 ht hvm hw hB hz1 hk1 hS => ?_)
  subst hw
  exact kk H1 locs1 (g_frame E hA ht hk1 hB hS)
end GF
/-! the law's wrappers: try, catch -/
abbrev nIAE : String := "java/lang/IllegalArgumentException"
abbrev nISE : String := "java/lang/IllegalStateException"
abbrev nIOE : String := "java/lang/IndexOutOfBoundsException"
abbrev nARE : String := "java/lang/ArithmeticException"
def yk (U : State) : Prop := va_Nc nISE nIAE U ∧ va_Nc nARE nIAE U
theorem yk.moved {u U : State} (hvm : u.vm.Alike U.vm) (h : yk u) : yk U := ⟨va_Nc.moved hvm h.1, va_Nc.moved hvm h.2⟩
def gPW (D : va_G) (tys : List (ClassId × FieldType)) (w : va_W) (sz : Nat) (U : State) : Prop := gPX D tys w sz U ∧ yk U
theorem gPW_blind {D : va_G} {tys : List (ClassId × FieldType)} {w : va_W} {sz : Nat} {av : List Value} : FrameBlind (va_Pc av (gPW D tys w sz)) := fun a U g mk q => by
  obtain ⟨q0, q1, q2⟩ := q
  obtain ⟨-, h1⟩ := gPX_blind (av := av) a U g mk ⟨q0, q1⟩
  exact ⟨q0, h1, yk.moved (u := U) (U := U.calling g mk a) (Vm.Alike.refl U.vm) q2⟩
abbrev gMWi (l : Launch) (y : MethodName) (ws : List Cond) (rm : Room) (D : va_G) (tys : List (ClassId × FieldType)) (w w' : va_W) (sz : Nat) (av : List Value) (r : Int32) : Prop := Met l y ws rm (va_Pc av (gPW D tys w sz)) (gQi D tys (va_A w sz) w' r) 1 6 (va_A w sz)
def gV (l : Launch) (s : State) (A : Nat → Prop) : Prop := l.stackTraces = false ∧ gS A s s.heap ∧ xk s ∧ yk s
theorem gw_of {l : Launch} {y : MethodName} {ws ws' : List Cond} {rm : Room} {D : va_G} {tys : List (ClassId × FieldType)} {w : va_W} {sz : Nat} {av : List Value} {cc : ByteArray} {maxL mc ms : Nat} {ret : Option FieldType} {hh : List (Nat × Nat × Nat × Nat)} {Qc : Array Value → State → Outcome → State → Prop} (hl0 : l.stackTraces = false)
    (hy : plainName y.cls = true) (hw : ws = Cond.codeWith y cc maxL ret hh :: ws') (hn : (lg_sl av).length ≤ maxL)
    (body : ∀ (p : Program) (e : Env) (s : State) (m : MethodId) (below : List Frame) (meth : Method) (c : Code) (A : Nat → Prop) (ls : Array Slot), A = va_A w sz → gC p s m av.toArray meth c cc maxL ret ws y.cls A → gV l s A → c.exceptionTable.toList = tableOf hh → lv_has ls maxL (lv_args 0 av) → vE s A D tys w s.heap [] →
      W p l e rm s m av.toArray below meth c s.heap [] 0 0 (MQ below Qc av.toArray s mc ms (va_A w sz)) (F0 m 0 ls [])) : Met l y ws rm (va_Pc av (gPW D tys w sz)) Qc mc ms (va_A w sz) := by
  refine va_MetW (cc := cc) (maxL := maxL) (ret := ret) (hh := hh) hy hw ?_
  intro p e s m args below meth c s₁ B hml hv
  obtain ⟨rfl, ⟨⟨hsz, hP, hK, hD0, hN⟩, hS0, hxk⟩, hyk⟩ := hv
  subst hsz
  have hD := hD0.self (sz := s.heap.size)
  have hl := lv_entry av (n := maxL) hn
  have hts := atoms_spec (ws := ws) B.pre
  rw [lg_entry_eq]
  exact body p e s m below meth c (va_A w s.heap.size) _ rfl ⟨B.exec, B.bytes, B.returns, hml, findClass_of_methodNamed B.named, hts, B.notSynchronized, hN, fun q h => Or.inr h⟩ ⟨hl0, hS0, hxk, hyk⟩ (vx_table (x := y) B (hts _ (by rw [hw]; exact List.mem_cons_self))) hl ⟨hP, hK, hD, va_S.rf⟩
section GV
variable {p : Program} {l : Launch} {e : Env} {R : Room} {s : State} {m : MethodId} {args : Array Value} {below : List Frame} {meth : Method} {c : Code} {H H1 : Heap} {locs locs1 : List Loc} {cells slots : Nat} {Q : State → Prop}
variable {cc : ByteArray} {pc maxL : Nat} {ls : Array Slot} {rest st0 : List Value} {D : va_G} {A : Nat → Prop} {b : Nat} {tys : List (ClassId × FieldType)} {w w' wc wc' wr : va_W} {ret : Option FieldType} {ws : List Cond} {own : String}
variable {y : MethodName} {bytes : ByteArray} {maxY n index : Nat} {rety : Option FieldType} {wy : List Cond} {rm : Room} {Qc : Array Value → State → Outcome → State → Prop} {XC : String → State → State → Prop} {Cn : String} {As : List Value}
theorem g_runXV (C : gC p s m args meth c cc maxL ret ws own A) (E : vE s A D tys w H locs) (hV : gV l s A) (hM : vx_Met l y wy rm (va_Pc (.ref b :: As) (gPX D tys w H.size)) Qc XC 1 6 (va_A w H.size)) (cw : CallW R s args own Cn index y bytes maxY rety wy rm 1 6 n) {q0 ci : Nat} {fs : List Value} {q : vw_C} (he : w[q0]? = some (b, .inr (ci, fs))) (hc : vwCl[ci]? = some q) (hq : q.1 = Cn)
    (hn : As.length = n) (hl : ls.size = maxL) (hst : st0 = As.reverse ++ .ref b :: rest) (hW : (rest.map fun v => v.category).sum ≤ 8) (hdg : decode cc pc = .ok (.invokevirtual index, 3)) (hf : cells + 1 ≤ R.cells ∧ slots + 6 ≤ R.slots) :
    vx_Run p l e R s m args below meth c H locs cells slots 1 6 (F0 m pc ls st0) rest (Qc (Value.ref b :: As).toArray) XC (va_A w H.size) := by
  obtain ⟨hx, hb, hr, hml, hown, hts, hlocks, hN, hA⟩ := C
  have hrv := va_recv E.2.1 E.1 hc he
  rw [hq] at hrv
  exact vx_runV (As := As) (rest := rest) ⟨hx, hb, hml, hown, hts⟩ hM cw ⟨gPX_blind, hrv, gx_pre E hN hA hV.2.1 hV.2.2.1⟩ rfl hn hl hst (lv_room (m := m) (pc := pc) (ls := ls) (rest := st0) hW) hdg hf
theorem g_runSW {hh : List (Nat × Nat × Nat × Nat)} (C : gC p s m args meth c cc maxL ret ws own A) (E : vE s A D tys w H locs) (hV : gV l s A) (hM : Met l y wy rm (va_Pc As (gPW D tys w H.size)) Qc 1 6 (va_A w H.size)) (cw : vx_CSW R s args own index y bytes maxY rety hh wy rm 1 6 n)
    (hn : As.length = n) (hl : ls.size = maxL) (hst : st0 = As.reverse ++ rest) (hW : (rest.map fun v => v.category).sum ≤ 8) (hdg : decode cc pc = .ok (.invokestatic index, 3)) (hf : cells + 1 ≤ R.cells ∧ slots + 6 ≤ R.slots) :
    va_Run p l e R s m args below meth c H locs cells slots 1 6 (F0 m pc ls st0) rest (Qc As.toArray) (va_A w H.size) := by
  obtain ⟨hx, hb, hr, hml, hown, hts, hlocks, hN, hA⟩ := C
  refine vx_runSW (As := As) (rest := rest) ⟨hx, hb, hml, hown, hts⟩ hM cw ⟨gPW_blind, fun U hU hW => ?_⟩ rfl hn hl hst (lv_room (m := m) (pc := pc) (ls := ls) (rest := st0) hW) hdg hf
  obtain ⟨e1, e2⟩ := gx_pre (av := As) E hN hA hV.2.1 hV.2.2.1 U hU hW
  exact ⟨e1, e2, yk.moved hW.alike hV.2.2.2⟩
theorem gw_calli {a : Array Value} {oc : Int32 ⊕ String} (C : gC p s m args meth c cc maxL ret ws own A) (E : vE s A D tys (wc ++ wr) H locs) (hr : vx_Run p l e R s m args below meth c H locs cells slots 1 6 (F0 m pc ls st0) rest (gQXi D tys (va_A wc H.size) wc' oc a) (gXC D tys (va_A wc H.size) wc' oc) (va_A wc H.size))
    (kx : ∀ (En : String) (ce : Cell) (q9 : Addr) (H1 : Heap) (locs1 : List Loc), oc = Sum.inr En → vE s A D tys (wc' ++ wr) H1 locs1 → H1[q9]? = some ce → ce.vm = .none → s.vm.findClass En = some ce.cls → vx_W p l e R s m args below meth c H1 locs1 (cells + 1) (slots + 6) Q (F0 m pc ls rest) q9)
    (kk : ∀ (r : Int32) (H1 : Heap) (locs1 : List Loc), oc = Sum.inl r → vE s A D tys (wc' ++ wr) H1 locs1 → W p l e R s m args below meth c H1 locs1 (cells + 1) (slots + 6) Q (F0 m (pc + 3) ls (.int r :: rest))) : W p l e R s m args below meth c H locs cells slots Q (F0 m pc ls st0) := by
  obtain ⟨hx, hb, -, hml, hown, hts, hlocks, hN, hA⟩ := C
  have hF := g_free (vE_left E) hA
  exact vx_calli hr E.2.2.2 (fun q _ h => hF q h) hF (fun q _ h => hF q h) (fun En ce q9 u t H1 locs1 ht hvm _ hB hz1 hk1 hS hq hv hcl => kx En ce q9 H1 locs1 hB.1 (g_frame E hA ht hk1 hB.2 hS) hq hv hcl) (fun r u t H1 locs1 ht hvm hw hB hz1 hk1 hS => kk r H1 locs1 hw (g_frame E hA ht hk1 hB hS))
theorem gw_calll {a : Array Value} {oc : Int64 ⊕ String} (C : gC p s m args meth c cc maxL ret ws own A) (E : vE s A D tys (wc ++ wr) H locs) (hr : vx_Run p l e R s m args below meth c H locs cells slots 1 6 (F0 m pc ls st0) rest (gQXl D tys (va_A wc H.size) wc' oc a) (gXC D tys (va_A wc H.size) wc' oc) (va_A wc H.size))
    (kx : ∀ (En : String) (ce : Cell) (q9 : Addr) (H1 : Heap) (locs1 : List Loc), oc = Sum.inr En → vE s A D tys (wc' ++ wr) H1 locs1 → H1[q9]? = some ce → ce.vm = .none → s.vm.findClass En = some ce.cls → vx_W p l e R s m args below meth c H1 locs1 (cells + 1) (slots + 6) Q (F0 m pc ls rest) q9)
    (kk : ∀ (r : Int64) (H1 : Heap) (locs1 : List Loc), oc = Sum.inl r → vE s A D tys (wc' ++ wr) H1 locs1 → W p l e R s m args below meth c H1 locs1 (cells + 1) (slots + 6) Q (F0 m (pc + 3) ls (.long r :: rest))) : W p l e R s m args below meth c H locs cells slots Q (F0 m pc ls st0) := by
  obtain ⟨hx, hb, -, hml, hown, hts, hlocks, hN, hA⟩ := C
  have hF := g_free (vE_left E) hA
  exact vx_calll hr E.2.2.2 (fun q _ h => hF q h) hF (fun q _ h => hF q h) (fun En ce q9 u t H1 locs1 ht hvm _ hB hz1 hk1 hS hq hv hcl => kx En ce q9 H1 locs1 hB.1 (g_frame E hA ht hk1 hB.2 hS) hq hv hcl) (fun r u t H1 locs1 ht hvm hw hB hz1 hk1 hS => kk r H1 locs1 hw (g_frame E hA ht hk1 hB hS))
theorem gw_iret {r : Int32} (C : gC p s m args meth c cc maxL (some .int) ws own A) (E : vE s A D tys w' H locs) (hdg : decode cc pc = .ok (.ireturn, 1)) : W p l e R s m args below meth c H locs cells slots (MQ below (gQi D tys A w' r) args s cells slots A) (F0 m pc ls [.int r]) := by
  obtain ⟨hx, hb, hr, hml, hown, hts, hlocks, hN, hA⟩ := C
  exact W.iret hx hb hr (fun t ht hW => ⟨⟨r, (), rfl, rfl, by rw [ht]; exact E.1, va_K.moved hW.alike E.2.1, E.2.2.1⟩, E.2.2.2.F ht⟩) E.2.2.2.2.2 hdg
end GV
