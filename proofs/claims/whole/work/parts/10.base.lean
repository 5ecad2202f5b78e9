/-! The words in which every contract here is said: the array types, the nest's links and the texts, a world before, behind and within a method. -/
abbrev gT (cI cJ cZ : ClassId) : List (ClassId × FieldType) := [(cI, .int), (cJ, .long), (cZ, .boolean)]
def nkQ : List (String × Nat × MethodName) := [(RX6, 15, yX5_init), (RX6, 22, yX2_init), (RX6, 29, yX4_init), (RX6, 36, yX0_init), (RX6, 43, yX1_init), (RX0, 45, yX6_floorOf), (RX1, 54, yX6_greatestDivisor), (RX1, 58, yX6_floorOf), (RX2, 49, yX6_floorOf), (RX2, 54, yX6_ceilOf), (RX3, 44, yX6_ceilOf), (RX3, 48, yX6_floorOf), (RX4, 33, yX6_isWithin)]
def skQ : List (Nat × String) := [(119, "no such good with needs, or no such amount"), (175, "no such good, amount or day"), (178, "no room for a prior export"), (183, "no such goods or side"), (198, "no such good or what"), (214, "no such lot or what"), (233, "not 0 .. 1000000000"), (237, "a yield of 0"), (248, "no such goods, or up or down is not 1 .. 12"), (250, "no such good, or an amount below 1"), (78, "no such good, amount or debt"), (89, "no room for a lot")]
def nk (U : State) : Prop := (∀ q ∈ nkQ, va_Nw (.methodLinkNest q.1 q.2.1 q.2.2 RX6) U) ∧ ∀ q ∈ skQ, ∃ sa : Nat, vk_R RX6 q.1 q.2 sa U
theorem nk.warm {s U : State} (hW : s.WarmedH U.vm) (h : nk s) : nk U := ⟨fun q hq => va_Nw.warmM hW (h.1 q hq), fun q hq => by
  obtain ⟨sa, hs⟩ := h.2 q hq
  exact ⟨sa, vk_R.warm hW hs⟩⟩
theorem nk.same {u U : State} (hv : U.vm = u.vm) (h : nk u) : nk U := ⟨fun q hq => va_Nw.same rfl hv.symm (h.1 q hq), fun q hq => by
  obtain ⟨sa, hs⟩ := h.2 q hq
  exact ⟨sa, vk_R.same hv hs⟩⟩
/-- what a method finds -/
def gP (D : va_G) (tys : List (ClassId × FieldType)) (w : va_W) (sz : Nat) (U : State) : Prop := U.heap.size = sz ∧ va_P D vwCl w U.heap ∧ va_K D vwCl tys U ∧ va_D (fun _ => True) w ∧ nk U
/-- what it leaves -/
def gB (D : va_G) (tys : List (ClassId × FieldType)) (w : va_W) (A : Nat → Prop) (t : State) : Prop := va_P D vwCl w t.heap ∧ va_K D vwCl tys t ∧ va_D A w
/-- where a walk stands -/
def vE (s : State) (A : Nat → Prop) (D : va_G) (tys : List (ClassId × FieldType)) (w : va_W) (H : Heap) (locs : List Loc) : Prop := va_P D vwCl w H ∧ va_K D vwCl tys s ∧ va_D A w ∧ va_S A s.heap H locs
theorem gP_blind {D : va_G} {tys : List (ClassId × FieldType)} {w : va_W} {sz : Nat} {av : List Value} : FrameBlind (va_Pc av (gP D tys w sz)) := fun a U g mk q => by
  obtain ⟨q0, q1, qP, qK, qD, qN⟩ := q
  exact ⟨q0, q1, qP, va_K.moved (u := U) (U := U.calling g mk a) (Vm.Alike.refl U.vm) qK, qD, nk.same rfl qN⟩
abbrev gQi (D : va_G) (tys : List (ClassId × FieldType)) (A : Nat → Prop) (w' : va_W) (r : Int32) : Array Value → State → Outcome → State → Prop := va_Qi (fun (x : Int32) (_ : Unit) => x = r) (fun _ => gB D tys w' A) A
abbrev gQl (D : va_G) (tys : List (ClassId × FieldType)) (A : Nat → Prop) (w' : va_W) (r : Int64) : Array Value → State → Outcome → State → Prop := va_Ql (fun (x : Int64) (_ : Unit) => x = r) (fun _ => gB D tys w' A) A
abbrev gQv (D : va_G) (tys : List (ClassId × FieldType)) (A : Nat → Prop) (w' : va_W) : Array Value → State → Outcome → State → Prop := va_Qv (fun (_ : Unit) => True) (fun _ => gB D tys w' A) A
/-- contracts: from the world w with the arguments av to the world w' -/
abbrev gMi (l : Launch) (y : MethodName) (ws : List Cond) (rm : Room) (D : va_G) (tys : List (ClassId × FieldType)) (w w' : va_W) (sz : Nat) (av : List Value) (r : Int32) : Prop := Met l y ws rm (va_Pc av (gP D tys w sz)) (gQi D tys (va_A w sz) w' r) 0 0 (va_A w sz)
abbrev gMl (l : Launch) (y : MethodName) (ws : List Cond) (rm : Room) (D : va_G) (tys : List (ClassId × FieldType)) (w w' : va_W) (sz : Nat) (av : List Value) (r : Int64) : Prop := Met l y ws rm (va_Pc av (gP D tys w sz)) (gQl D tys (va_A w sz) w' r) 0 0 (va_A w sz)
abbrev gMv (l : Launch) (y : MethodName) (ws : List Cond) (rm : Room) (D : va_G) (tys : List (ClassId × FieldType)) (w w' : va_W) (sz : Nat) (av : List Value) : Prop := Met l y ws rm (va_Pc av (gP D tys w sz)) (gQv D tys (va_A w sz) w') 0 0 (va_A w sz)
/-- the facts of a walk that don't change -/
def gC (p : Program) (s : State) (m : MethodId) (args : Array Value) (meth : Method) (c : Code) (cc : ByteArray) (maxL : Nat) (ret : Option FieldType) (ws : List Cond) (own : String) (A : Nat → Prop) : Prop :=
  p.tables.exec = Jvm.exec ∧ c.code = cc ∧ meth.sig.returnType = ret ∧ c.maxLocals = maxL ∧ s.vm.findClass own = some m.cls ∧ (∀ w ∈ ws, w.before args s = true) ∧ meth.locks = false ∧ nk s ∧ ∀ q : Nat, s.heap.size ≤ q → A q
theorem g_of {l : Launch} {y : MethodName} {ws ws' : List Cond} {rm : Room} {D : va_G} {tys : List (ClassId × FieldType)} {w : va_W} {sz : Nat} {av : List Value} {cc : ByteArray} {maxL : Nat} {ret : Option FieldType} {Qc : Array Value → State → Outcome → State → Prop}
    (hy : plainName y.cls = true) (hw : ws = Cond.code y cc maxL ret :: ws') (hn : (lg_sl av).length ≤ maxL)
    (body : ∀ (p : Program) (e : Env) (s : State) (m : MethodId) (below : List Frame) (meth : Method) (c : Code) (A : Nat → Prop) (ls : Array Slot), A = va_A w sz → gC p s m av.toArray meth c cc maxL ret ws y.cls A → lv_has ls maxL (lv_args 0 av) → vE s A D tys w s.heap [] →
      W p l e rm s m av.toArray below meth c s.heap [] 0 0 (MQ below Qc av.toArray s 0 0 (va_A w sz)) (F0 m 0 ls [])) : Met l y ws rm (va_Pc av (gP D tys w sz)) Qc 0 0 (va_A w sz) := by
  refine Met.ofW (cc := cc) (maxL := maxL) (ret := ret) hy hw ?_
  intro p e s m args below meth c s₁ B hml hv
  obtain ⟨rfl, hsz, hP, hK, hD0, hN⟩ := hv
  subst hsz
  have hD := hD0.self (sz := s.heap.size)
  have hl := lv_entry av (n := maxL) hn
  rw [lg_entry_eq]
  exact body p e s m below meth c (va_A w s.heap.size) _ rfl ⟨B.exec, B.bytes, B.returns, hml, findClass_of_methodNamed B.named, atoms_spec (ws := ws) B.pre, B.notSynchronized, hN, fun q h => Or.inr h⟩ hl ⟨hP, hK, hD, va_S.rf⟩
section GW
variable {p : Program} {l : Launch} {e : Env} {R : Room} {s : State} {m : MethodId} {args : Array Value} {below : List Frame} {meth : Method} {c : Code} {H : Heap} {locs : List Loc} {cells slots : Nat} {Q : State → Prop}
variable {cc : ByteArray} {pc maxL : Nat} {ls : Array Slot} {rest st0 : List Value} {D : va_G} {A : Nat → Prop} {b : Nat} {tys : List (ClassId × FieldType)} {w w' : va_W} {ret : Option FieldType} {ws : List Cond} {own : String} {cI cJ cZ : ClassId}
theorem g_iret {r : Int32} (C : gC p s m args meth c cc maxL (some .int) ws own A) (E : vE s A D tys w' H locs) (hdg : decode cc pc = .ok (.ireturn, 1)) : W p l e R s m args below meth c H locs 0 0 (MQ below (gQi D tys A w' r) args s 0 0 A) (F0 m pc ls [.int r]) := by
  obtain ⟨hx, hb, hr, hml, hown, hts, hlocks, hN, hA⟩ := C
  exact W.iret hx hb hr (fun t ht hW => ⟨⟨r, (), rfl, rfl, by rw [ht]; exact E.1, va_K.moved hW.alike E.2.1, E.2.2.1⟩, E.2.2.2.F ht⟩) E.2.2.2.2.2 hdg
theorem g_zret {r : Int32} (C : gC p s m args meth c cc maxL (some .boolean) ws own A) (E : vE s A D tys w' H locs) (hz : narrow .boolean (.int r) = .int r) (hdg : decode cc pc = .ok (.ireturn, 1)) : W p l e R s m args below meth c H locs 0 0 (MQ below (gQi D tys A w' r) args s 0 0 A) (F0 m pc ls [.int r]) := by
  obtain ⟨hx, hb, hr, hml, hown, hts, hlocks, hN, hA⟩ := C
  exact W.zret hx hb hr hz (fun t ht hW => ⟨⟨r, (), rfl, rfl, by rw [ht]; exact E.1, va_K.moved hW.alike E.2.1, E.2.2.1⟩, E.2.2.2.F ht⟩) E.2.2.2.2.2 hdg
theorem g_lret {r : Int64} (C : gC p s m args meth c cc maxL (some .long) ws own A) (E : vE s A D tys w' H locs) (hdg : decode cc pc = .ok (.lreturn, 1)) : W p l e R s m args below meth c H locs 0 0 (MQ below (gQl D tys A w' r) args s 0 0 A) (F0 m pc ls [.long r]) := by
  obtain ⟨hx, hb, hr, hml, hown, hts, hlocks, hN, hA⟩ := C
  exact W.lret hx hb hr (fun t ht hW => ⟨⟨r, (), rfl, rfl, by rw [ht]; exact E.1, va_K.moved hW.alike E.2.1, E.2.2.1⟩, E.2.2.2.F ht⟩) E.2.2.2.2.2 hdg
theorem g_vret (C : gC p s m args meth c cc maxL none ws own A) (E : vE s A D tys w' H locs) (hdg : decode cc pc = .ok (.return_, 1)) : W p l e R s m args below meth c H locs 0 0 (MQ below (gQv D tys A w') args s 0 0 A) (F0 m pc ls []) := by
  obtain ⟨hx, hb, hr, hml, hown, hts, hlocks, hN, hA⟩ := C
  exact W.vret hx hb hr (fun t ht hW => ⟨⟨(), rfl, trivial, by rw [ht]; exact E.1, va_K.moved hW.alike E.2.1, E.2.2.1⟩, E.2.2.2.F ht⟩) E.2.2.2.2.2 hdg
theorem g_free (E : vE s A D tys w H locs) (hA : ∀ q : Nat, s.heap.size ≤ q → A q) : ∀ q, va_A w H.size q → A q := by
  intro q h
  rcases h with ⟨k, z, h⟩ | h
  · exact E.2.2.1.2 k (q, z) h
  · exact hA q (Nat.le_trans E.2.2.2.1 h)
theorem g_pre (E : vE s A D tys w H locs) (hN : nk s) {av : List Value} : ∀ U : State, U.heap = H → s.WarmedH U.vm → va_Pc av (gP D tys w H.size) av.toArray U := fun U hU hW => ⟨rfl, by rw [hU], by rw [hU]; exact E.1, va_K.moved hW.alike E.2.1, E.2.2.1.weaken (fun _ _ _ _ => trivial), nk.warm hW hN⟩
section Runs9
variable {y : MethodName} {bytes : ByteArray} {maxY mc ms n index : Nat} {rety : Option FieldType} {wy : List Cond} {rm : Room} {Qc : Array Value → State → Outcome → State → Prop} {Cn : String} {As : List Value}
theorem g_runV (C : gC p s m args meth c cc maxL ret ws own A) (E : vE s A D tys w H locs) (hM : Met l y wy rm (va_Pc (.ref b :: As) (gP D tys w H.size)) Qc mc ms (va_A w H.size)) (cw : CallW R s args own Cn index y bytes maxY rety wy rm mc ms n) {q0 ci : Nat} {fs : List Value} {q : vw_C} (he : w[q0]? = some (b, .inr (ci, fs))) (hc : vwCl[ci]? = some q) (hq : q.1 = Cn)
    (hn : As.length = n) (hl : ls.size = maxL) (hst : st0 = As.reverse ++ .ref b :: rest) (hW : (rest.map fun v => v.category).sum ≤ 8) (hdg : decode cc pc = .ok (.invokevirtual index, 3)) (hf : cells + mc ≤ R.cells ∧ slots + ms ≤ R.slots) :
    va_Run p l e R s m args below meth c H locs cells slots mc ms (F0 m pc ls st0) rest (Qc (Value.ref b :: As).toArray) (va_A w H.size) := by
  obtain ⟨hx, hb, hr, hml, hown, hts, hlocks, hN, hA⟩ := C
  have hrv := va_recv E.2.1 E.1 hc he
  rw [hq] at hrv
  exact va_runV (As := As) (rest := rest) ⟨hx, hb, hml, hown, hts⟩ hM cw ⟨gP_blind, hrv, g_pre E hN⟩ rfl hn hl hst (lv_room (m := m) (pc := pc) (ls := ls) (rest := st0) hW) hdg hf
theorem g_runS (C : gC p s m args meth c cc maxL ret ws own A) (E : vE s A D tys w H locs) (hM : Met l y wy rm (va_Pc As (gP D tys w H.size)) Qc mc ms (va_A w H.size)) (cw : CallB R s args own index y bytes maxY rety wy rm mc ms n ∧ (Cond.static y).before args s = true)
    (hn : As.length = n) (hl : ls.size = maxL) (hst : st0 = As.reverse ++ rest) (hW : (rest.map fun v => v.category).sum ≤ 8) (hdg : decode cc pc = .ok (.invokestatic index, 3)) (hf : cells + mc ≤ R.cells ∧ slots + ms ≤ R.slots) :
    va_Run p l e R s m args below meth c H locs cells slots mc ms (F0 m pc ls st0) rest (Qc As.toArray) (va_A w H.size) := by
  obtain ⟨hx, hb, hr, hml, hown, hts, hlocks, hN, hA⟩ := C
  exact va_runS (As := As) (rest := rest) ⟨hx, hb, hml, hown, hts⟩ hM cw ⟨gP_blind, g_pre E hN⟩ rfl hn hl hst (lv_room (m := m) (pc := pc) (ls := ls) (rest := st0) hW) hdg hf
theorem g_runSN (C : gC p s m args meth c cc maxL ret ws own A) (E : vE s A D tys w H locs) (hM : Met l y wy rm (va_Pc As (gP D tys w H.size)) Qc mc ms (va_A w H.size)) (cw : va_CN R s args own index y RX6 bytes maxY rety wy rm mc ms n ∧ (Cond.static y).before args s = true ∧ True)
    (hn : As.length = n) (hl : ls.size = maxL) (hst : st0 = As.reverse ++ rest) (hW : (rest.map fun v => v.category).sum ≤ 8) (hdg : decode cc pc = .ok (.invokestatic index, 3)) (hf : cells + mc ≤ R.cells ∧ slots + ms ≤ R.slots) :
    va_Run p l e R s m args below meth c H locs cells slots mc ms (F0 m pc ls st0) rest (Qc As.toArray) (va_A w H.size) := by
  obtain ⟨hx, hb, hr, hml, hown, hts, hlocks, hN, hA⟩ := C
  exact va_runSN (As := As) (rest := rest) ⟨hx, hb, hml, hown, hts⟩ hM cw ⟨gP_blind, g_pre E hN⟩ rfl hn hl hst (lv_room (m := m) (pc := pc) (ls := ls) (rest := st0) hW) hdg hf
end Runs9
theorem g_calli {r : Int32} {a : Array Value} (C : gC p s m args meth c cc maxL ret ws own A) (E : vE s A D tys w H locs) (hr : va_Run p l e R s m args below meth c H locs cells slots 0 0 (F0 m pc ls st0) rest (gQi D tys (va_A w H.size) w' r a) (va_A w H.size))
    (kk : ∀ (H1 : Heap) (locs1 : List Loc), vE s A D tys w' H1 locs1 → W p l e R s m args below meth c H1 locs1 cells slots Q (F0 m (pc + 3) ls (.int r :: rest))) : W p l e R s m args below meth c H locs cells slots Q (F0 m pc ls st0) := by
  obtain ⟨hx, hb, -, hml, hown, hts, hlocks, hN, hA⟩ := C
  have hF := g_free E hA
  refine va_calli hr E.2.2.2 (fun q _ h => hF q h) hF (fun r1 u t H1 locs1 ht hvm hw hB hz1 hk1 hS => ?_)
  subst hw
  obtain ⟨hP1, hK1, hD1⟩ := hB
  exact kk H1 locs1 ⟨by rw [← ht]; exact hP1, E.2.1, hD1.weaken (fun k q _ h => hF q.1 h), hS⟩
theorem g_calll {r : Int64} {a : Array Value} (C : gC p s m args meth c cc maxL ret ws own A) (E : vE s A D tys w H locs) (hr : va_Run p l e R s m args below meth c H locs cells slots 0 0 (F0 m pc ls st0) rest (gQl D tys (va_A w H.size) w' r a) (va_A w H.size))
    (kk : ∀ (H1 : Heap) (locs1 : List Loc), vE s A D tys w' H1 locs1 → W p l e R s m args below meth c H1 locs1 cells slots Q (F0 m (pc + 3) ls (.long r :: rest))) : W p l e R s m args below meth c H locs cells slots Q (F0 m pc ls st0) := by
  obtain ⟨hx, hb, -, hml, hown, hts, hlocks, hN, hA⟩ := C
  have hF := g_free E hA
  refine va_calll hr E.2.2.2 (fun q _ h => hF q h) hF (fun r1 u t H1 locs1 ht hvm hw hB hz1 hk1 hS => ?_)
  subst hw
  obtain ⟨hP1, hK1, hD1⟩ := hB
  exact kk H1 locs1 ⟨by rw [← ht]; exact hP1, E.2.1, hD1.weaken (fun k q _ h => hF q.1 h), hS⟩
theorem g_callv {a : Array Value} (C : gC p s m args meth c cc maxL ret ws own A) (E : vE s A D tys w H locs) (hr : va_Run p l e R s m args below meth c H locs cells slots 0 0 (F0 m pc ls st0) rest (gQv D tys (va_A w H.size) w' a) (va_A w H.size))
    (kk : ∀ (H1 : Heap) (locs1 : List Loc), vE s A D tys w' H1 locs1 → W p l e R s m args below meth c H1 locs1 cells slots Q (F0 m (pc + 3) ls rest)) : W p l e R s m args below meth c H locs cells slots Q (F0 m pc ls st0) := by
  obtain ⟨hx, hb, -, hml, hown, hts, hlocks, hN, hA⟩ := C
  have hF := g_free E hA
  refine va_callv hr E.2.2.2 (fun q _ h => hF q h) hF (fun u t H1 locs1 ht hvm hw hB hz1 hk1 hS => ?_)
  obtain ⟨hP1, hK1, hD1⟩ := hB
  exact kk H1 locs1 ⟨by rw [← ht]; exact hP1, E.2.1, hD1.weaken (fun k q _ h => hF q.1 h), hS⟩
/-- rows on arrays and fields, over vE -/
theorem g_iald (C : gC p s m args meth c cc maxL ret ws own A) (E : vE s A D (gT cI cJ cZ) w H locs) (q0 : Nat) {n : Nat} {f : Nat → Int32} {i : Int32} (ha : w[q0]? = some (b, .inl (cI, n, .inl f))) (hin : vp_in i n) (hdg : decode cc pc = .ok (.iaload, 1))
    (kk : W p l e R s m args below meth c H locs cells slots Q (F0 m (pc + 1) ls (.int (f i.toNatClampNeg) :: rest))) : W p l e R s m args below meth c H locs cells slots Q (F0 m pc ls (.int i :: .ref b :: rest)) := va_iald C.1 C.2.1 E.2.1 E.1 q0 0 ha rfl hin hdg kk
theorem g_lald (C : gC p s m args meth c cc maxL ret ws own A) (E : vE s A D (gT cI cJ cZ) w H locs) (q0 : Nat) {n : Nat} {f : Nat → Int64} {i : Int32} (ha : w[q0]? = some (b, .inl (cJ, n, .inr (.inl f)))) (hin : vp_in i n) (hdg : decode cc pc = .ok (.laload, 1))
    (kk : W p l e R s m args below meth c H locs cells slots Q (F0 m (pc + 1) ls (.long (f i.toNatClampNeg) :: rest))) : W p l e R s m args below meth c H locs cells slots Q (F0 m pc ls (.int i :: .ref b :: rest)) := va_lald C.1 C.2.1 E.2.1 E.1 q0 1 ha rfl hin hdg kk
theorem g_zald (C : gC p s m args meth c cc maxL ret ws own A) (E : vE s A D (gT cI cJ cZ) w H locs) (q0 : Nat) {n : Nat} {f : Nat → Int32} {i : Int32} (ha : w[q0]? = some (b, .inl (cZ, n, .inl f))) (hin : vp_in i n) (hdg : decode cc pc = .ok (.baload, 1))
    (kk : W p l e R s m args below meth c H locs cells slots Q (F0 m (pc + 1) ls (.int (f i.toNatClampNeg) :: rest))) : W p l e R s m args below meth c H locs cells slots Q (F0 m pc ls (.int i :: .ref b :: rest)) := va_zald C.1 C.2.1 E.2.1 E.1 q0 2 ha rfl hin hdg kk
theorem g_iast (C : gC p s m args meth c cc maxL ret ws own A) (E : vE s A D (gT cI cJ cZ) w H locs) (q0 : Nat) {n : Nat} {f : Nat → Int32} {i x : Int32} (ha : w[q0]? = some (b, .inl (cI, n, .inl f))) (hin : vp_in i n) (hdg : decode cc pc = .ok (.iastore, 1)) (hw : w.set q0 (b, .inl (cI, n, .inl (upd f i.toNatClampNeg x))) = w')
    (kk : ∀ (H1 : Heap) (locs1 : List Loc), vE s A D (gT cI cJ cZ) w' H1 locs1 → W p l e R s m args below meth c H1 locs1 cells slots Q (F0 m (pc + 1) ls rest)) : W p l e R s m args below meth c H locs cells slots Q (F0 m pc ls (.int x :: .int i :: .ref b :: rest)) := by
  subst hw
  exact va_iast C.1 C.2.1 E.2.1 E.1 E.2.2.1 E.2.2.2 q0 0 ha rfl hin hdg (fun H1 locs1 hP hD hS => kk H1 locs1 ⟨hP, E.2.1, hD, hS⟩)
theorem g_last (C : gC p s m args meth c cc maxL ret ws own A) (E : vE s A D (gT cI cJ cZ) w H locs) (q0 : Nat) {n : Nat} {f : Nat → Int64} {i : Int32} {x : Int64} (ha : w[q0]? = some (b, .inl (cJ, n, .inr (.inl f)))) (hin : vp_in i n) (hdg : decode cc pc = .ok (.lastore, 1)) (hw : w.set q0 (b, .inl (cJ, n, .inr (.inl (vp_updL f i.toNatClampNeg x)))) = w')
    (kk : ∀ (H1 : Heap) (locs1 : List Loc), vE s A D (gT cI cJ cZ) w' H1 locs1 → W p l e R s m args below meth c H1 locs1 cells slots Q (F0 m (pc + 1) ls rest)) : W p l e R s m args below meth c H locs cells slots Q (F0 m pc ls (.long x :: .int i :: .ref b :: rest)) := by
  subst hw
  exact va_last C.1 C.2.1 E.2.1 E.1 E.2.2.1 E.2.2.2 q0 1 ha rfl hin hdg (fun H1 locs1 hP hD hS => kk H1 locs1 ⟨hP, E.2.1, hD, hS⟩)
theorem g_zast (C : gC p s m args meth c cc maxL ret ws own A) (E : vE s A D (gT cI cJ cZ) w H locs) (q0 : Nat) {n : Nat} {f : Nat → Int32} {i x : Int32} (ha : w[q0]? = some (b, .inl (cZ, n, .inl f))) (hin : vp_in i n) (hdg : decode cc pc = .ok (.bastore, 1)) (hw : w.set q0 (b, .inl (cZ, n, .inl (upd f i.toNatClampNeg (vp_nar .boolean x)))) = w')
    (kk : ∀ (H1 : Heap) (locs1 : List Loc), vE s A D (gT cI cJ cZ) w' H1 locs1 → W p l e R s m args below meth c H1 locs1 cells slots Q (F0 m (pc + 1) ls rest)) : W p l e R s m args below meth c H locs cells slots Q (F0 m pc ls (.int x :: .int i :: .ref b :: rest)) := by
  subst hw
  exact va_zast C.1 C.2.1 E.2.1 E.1 E.2.2.1 E.2.2.2 q0 2 ha rfl hin hdg (fun H1 locs1 hP hD hS => kk H1 locs1 ⟨hP, E.2.1, hD, hS⟩)
theorem g_get (C : gC p s m args meth c cc maxL ret ws own A) (E : vE s A D tys w H locs) (q0 : Nat) {Cn ref : String} {T : u_T} {N ci index : Nat} {fs : List Value} {v : Value} (k : Nat) (hin : ∀ x ∈ u_ws Cn T N, x ∈ ws) (he : w[q0]? = some (b, .inr (ci, fs))) (hc : vwCl[ci]? = some (Cn, T, N)) (hk : k < N) (hl : Cond.fieldLink own index ref (T k).2.1 (T k).2.2.1 ∈ ws) (hd : (T k).1 = ref) (hv : fs[k]? = some v) (hdg : decode cc pc = .ok (.getfield index, 3))
    (kk : W p l e R s m args below meth c H locs cells slots Q (F0 m (pc + 3) ls (v :: rest))) : W p l e R s m args below meth c H locs cells slots Q (F0 m pc ls (.ref b :: rest)) := by
  obtain ⟨hx, hb, hr, hml, hown, hts, hlocks, hN, hA⟩ := C
  exact va_get hx hb hts hin hown E.2.1 E.1 q0 he hc k hk (hts _ hl) (fun x h => by rw [← hd]; exact h) hv hdg kk
theorem g_put (C : gC p s m args meth c cc maxL ret ws own A) (E : vE s A D tys w H locs) (q0 : Nat) {Cn ref : String} {T : u_T} {N ci index : Nat} {fs : List Value} {v : Value} {ty : FieldType} (k : Nat) (ty0 : Nat → FieldType) (hty : ∀ j, j < N → parseFieldDescriptor (T j).2.2.1 = some (ty0 j)) (hnm : ∀ a, a < N → ∀ b, b < N → a ≠ b → (T a).2.1 ≠ (T b).2.1) (hin : ∀ x ∈ u_ws Cn T N, x ∈ ws) (he : w[q0]? = some (b, .inr (ci, fs))) (hc : vwCl[ci]? = some (Cn, T, N)) (hk : k < N) (hl : Cond.fieldLink own index ref (T k).2.1 (T k).2.2.1 ∈ ws) (hd : (T k).1 = ref) (hfin : (T k).2.2.2 = false) (hpd : ty0 k = ty) (hn : narrow ty v = v) (hfit : fits ty v = true) (hlen : k < fs.length) (hdg : decode cc pc = .ok (.putfield index, 3)) (hw : w.set q0 (b, .inr (ci, fs.set k v)) = w')
    (kk : ∀ (H1 : Heap) (locs1 : List Loc), vE s A D tys w' H1 locs1 → W p l e R s m args below meth c H1 locs1 cells slots Q (F0 m (pc + 3) ls rest)) : W p l e R s m args below meth c H locs cells slots Q (F0 m pc ls (v :: .ref b :: rest)) := by
  obtain ⟨hx, hb, hr, hml, hown, hts, hlocks, hN, hA⟩ := C
  subst hw
  subst hpd
  exact va_put hx hb hts hin ty0 hty hnm hown E.2.1 E.1 E.2.2.1 E.2.2.2 q0 he hc k hk (hts _ hl) (fun x h => by rw [← hd]; exact h) hfin (hty k hk) hn hfit hlen hdg (fun H1 locs1 hP hD hS => kk H1 locs1 ⟨hP, E.2.1, hD, hS⟩)
end GW
/-! the pure side: an index that is tested, a step that may fail -/
def ck {β : Type} (i : Int32) (n : Nat) (x : Option β) : Option β := if ¬ (i < 0 ∨ n ≤ i.toNatClampNeg) then x else none
theorem ck_some {β : Type} {i : Int32} {n : Nat} {x : Option β} {o : β} (h : ck i n x = some o) : vp_in i n ∧ x = some o := by
  unfold ck at h
  by_cases hc : ¬ (i < 0 ∨ n ≤ i.toNatClampNeg)
  · rw [if_pos hc] at h
    exact ⟨hc, h⟩
  · rw [if_neg hc] at h
    cases h
theorem ck_nI {β : Type} {j n : Nat} {x : Option β} (h : j < n) (hn : n < 2 ^ 31) : ck (nI j) n x = x := if_pos (vp_in_nI h hn)
def okZ {β : Type} (r : Int32) (x : Option β) : Option β := if r = 0 ∨ r = 1 then x else none
theorem okZ_some {β : Type} {r : Int32} {x : Option β} {o : β} (h : okZ r x = some o) : narrow .boolean (.int r) = .int r ∧ x = some o := by
  unfold okZ at h
  by_cases hc : r = 0 ∨ r = 1
  · rw [if_pos hc] at h
    refine ⟨?_, h⟩
    rcases hc with rfl | rfl <;> rfl
  · rw [if_neg hc] at h
    cases h
def nzL {β : Type} (d : Int64) (x : Option β) : Option β := if d = 0 then none else x
theorem nzL_some {β : Type} {d : Int64} {x : Option β} {o : β} (h : nzL d x = some o) : ¬ d = 0 ∧ x = some o := by
  unfold nzL at h
  by_cases hc : d = 0
  · rw [if_pos hc] at h
    cases h
  · rw [if_neg hc] at h
    exact ⟨hc, h⟩
def nzI {β : Type} (d : Int32) (x : Option β) : Option β := if d = 0 then none else x
theorem nzI_some {β : Type} {d : Int32} {x : Option β} {o : β} (h : nzI d x = some o) : ¬ d = 0 ∧ x = some o := by
  unfold nzI at h
  by_cases hc : d = 0
  · rw [if_pos hc] at h
    cases h
  · rw [if_neg hc] at h
    exact ⟨hc, h⟩
theorem bd_some {α β : Type} {x : Option α} {k : α → Option β} {o : β} (h : x.bind k = some o) : ∃ r, x = some r ∧ k r = some o := by
  cases x with
  | none => cases h
  | some r => exact ⟨r, rfl, h⟩
