/-! Methods that return or throw: the same words, with the one case more. -/
def ekQ : List String := ["java/lang/IllegalArgumentException", "java/lang/IllegalStateException", "java/lang/IndexOutOfBoundsException", "java/lang/ArithmeticException"]
def edQ : List String := ["java/lang/RuntimeException", "java/lang/Exception", "java/lang/Throwable"]
def xk (U : State) : Prop := (∀ X ∈ ekQ, va_Nw (.castable X X) U) ∧ ∀ Y ∈ edQ, va_Nw (.declares (Bundle.initS Y)) U
def eb (X : String) : List Cond := .castable X X :: edQ.map (fun Y => .declares (Bundle.initS Y))
theorem decl_moved {x : MethodName} {u U : State} (hvm : u.vm.Alike U.vm) (h : va_Nw (.declares x) u) : va_Nw (.declares x) U := va_tabs rfl (rfl : (u.setVm U.vm).vm = U.vm) (by rw [Cond.declares_setVm hvm]; exact h)
theorem cast_moved {a b : String} {u U : State} (hvm : u.vm.Alike U.vm) (h : va_Nw (.castable a b) u) : va_Nw (.castable a b) U := by
  obtain ⟨x, y, h1, h2, h3⟩ := Cond.castable_spec (show (Cond.castable a b).holds #[] u none u [] = true from h)
  have e1 : U.vm.findClass a = some x := by rw [hvm.findClass]; exact h1
  have e2 : U.vm.findClass b = some y := by rw [hvm.findClass]; exact h2
  have e3 : U.vm.assignable x y = true := by rw [hvm.assignable]; exact h3
  show (Cond.castable a b).holds #[] U none U [] = true
  simp [Cond.holds, Cond.value, e1, e2, e3]
theorem xk.moved {u U : State} (hvm : u.vm.Alike U.vm) (h : xk u) : xk U := ⟨fun X hX => cast_moved hvm (h.1 X hX), fun Y hY => decl_moved hvm (h.2 Y hY)⟩
theorem xk.eb {args : Array Value} {s : State} (h : xk s) {X : String} (hX : X ∈ ekQ) : ∀ w ∈ eb X, w.before args s = true := by
  intro w hw
  rcases List.mem_cons.mp hw with rfl | hw
  · exact va_Nw.use rfl (h.1 X hX)
  · obtain ⟨Y, hY, rfl⟩ := List.mem_map.mp hw
    exact va_Nw.use rfl (h.2 Y hY)
def gS (A : Nat → Prop) (U : State) (H : Heap) : Prop := vx_Zq Bundle.tN "UNASSIGNED_STACK" Bundle.steD A U H ∧ vx_Zq Bundle.tN "SUPPRESSED_SENTINEL" Bundle.listD A U H
def gPX (D : va_G) (tys : List (ClassId × FieldType)) (w : va_W) (sz : Nat) (U : State) : Prop := gP D tys w sz U ∧ gS (va_A w sz) U U.heap ∧ xk U
theorem gPX_blind {D : va_G} {tys : List (ClassId × FieldType)} {w : va_W} {sz : Nat} {av : List Value} : FrameBlind (va_Pc av (gPX D tys w sz)) := fun a U g mk q => by
  obtain ⟨q0, q1, q2, q3⟩ := q
  obtain ⟨-, h1⟩ := gP_blind (av := av) a U g mk ⟨q0, q1⟩
  exact ⟨q0, h1, ⟨vx_Zq.moved (u := U) (U := U.calling g mk a) (Vm.Alike.refl U.vm) q2.1, vx_Zq.moved (u := U) (U := U.calling g mk a) (Vm.Alike.refl U.vm) q2.2⟩, xk.moved (u := U) (U := U.calling g mk a) (Vm.Alike.refl U.vm) q3⟩
abbrev gQXi (D : va_G) (tys : List (ClassId × FieldType)) (A : Nat → Prop) (w' : va_W) (o : Int32 ⊕ String) : Array Value → State → Outcome → State → Prop := va_Qi (fun (x : Int32) (_ : Unit) => o = Sum.inl x) (fun _ => gB D tys w' A) A
abbrev gQXl (D : va_G) (tys : List (ClassId × FieldType)) (A : Nat → Prop) (w' : va_W) (o : Int64 ⊕ String) : Array Value → State → Outcome → State → Prop := va_Ql (fun (x : Int64) (_ : Unit) => o = Sum.inl x) (fun _ => gB D tys w' A) A
abbrev gQXv (D : va_G) (tys : List (ClassId × FieldType)) (A : Nat → Prop) (w' : va_W) (o : Unit ⊕ String) : Array Value → State → Outcome → State → Prop := va_Qv (fun (_ : Unit) => o = Sum.inl ()) (fun _ => gB D tys w' A) A
abbrev gXC {α : Type} (D : va_G) (tys : List (ClassId × FieldType)) (A : Nat → Prop) (w' : va_W) (o : α ⊕ String) : String → State → State → Prop := vx_X (fun (_ : Unit) => True) (fun En (_ : Unit) t => o = Sum.inr En ∧ gB D tys w' A t) A
abbrev gMXi (l : Launch) (y : MethodName) (ws : List Cond) (rm : Room) (D : va_G) (tys : List (ClassId × FieldType)) (w w' : va_W) (sz : Nat) (av : List Value) (o : Int32 ⊕ String) : Prop := vx_Met l y ws rm (va_Pc av (gPX D tys w sz)) (gQXi D tys (va_A w sz) w' o) (gXC D tys (va_A w sz) w' o) 1 6 (va_A w sz)
abbrev gMXl (l : Launch) (y : MethodName) (ws : List Cond) (rm : Room) (D : va_G) (tys : List (ClassId × FieldType)) (w w' : va_W) (sz : Nat) (av : List Value) (o : Int64 ⊕ String) : Prop := vx_Met l y ws rm (va_Pc av (gPX D tys w sz)) (gQXl D tys (va_A w sz) w' o) (gXC D tys (va_A w sz) w' o) 1 6 (va_A w sz)
abbrev gMXv (l : Launch) (y : MethodName) (ws : List Cond) (rm : Room) (D : va_G) (tys : List (ClassId × FieldType)) (w w' : va_W) (sz : Nat) (av : List Value) (o : Unit ⊕ String) : Prop := vx_Met l y ws rm (va_Pc av (gPX D tys w sz)) (gQXv D tys (va_A w sz) w' o) (gXC D tys (va_A w sz) w' o) 1 6 (va_A w sz)
abbrev gXi (below : List Frame) (args : Array Value) (s : State) (D : va_G) (tys : List (ClassId × FieldType)) (A : Nat → Prop) (w' : va_W) (o : Int32 ⊕ String) : State → Prop := vx_MQ below (gQXi D tys A w' o) (gXC D tys A w' o) args s 1 6 A
abbrev gXl (below : List Frame) (args : Array Value) (s : State) (D : va_G) (tys : List (ClassId × FieldType)) (A : Nat → Prop) (w' : va_W) (o : Int64 ⊕ String) : State → Prop := vx_MQ below (gQXl D tys A w' o) (gXC D tys A w' o) args s 1 6 A
abbrev gXv (below : List Frame) (args : Array Value) (s : State) (D : va_G) (tys : List (ClassId × FieldType)) (A : Nat → Prop) (w' : va_W) (o : Unit ⊕ String) : State → Prop := vx_MQ below (gQXv D tys A w' o) (gXC D tys A w' o) args s 1 6 A
def gZ (l : Launch) (s : State) (A : Nat → Prop) (c : Code) : Prop := l.stackTraces = false ∧ gS A s s.heap ∧ (∀ x ∈ c.exceptionTable.toList, False) ∧ xk s
theorem gx_of {l : Launch} {y : MethodName} {ws ws' : List Cond} {rm : Room} {D : va_G} {tys : List (ClassId × FieldType)} {w : va_W} {sz : Nat} {av : List Value} {cc : ByteArray} {maxL : Nat} {ret : Option FieldType} {Qc : Array Value → State → Outcome → State → Prop} {XC : String → State → State → Prop} (hl0 : l.stackTraces = false)
    (hy : plainName y.cls = true) (hw : ws = Cond.code y cc maxL ret :: ws') (hn : (lg_sl av).length ≤ maxL)
    (body : ∀ (p : Program) (e : Env) (s : State) (m : MethodId) (below : List Frame) (meth : Method) (c : Code) (A : Nat → Prop) (ls : Array Slot), A = va_A w sz → gC p s m av.toArray meth c cc maxL ret ws y.cls A → gZ l s A c → lv_has ls maxL (lv_args 0 av) → vE s A D tys w s.heap [] →
      W p l e rm s m av.toArray below meth c s.heap [] 0 0 (vx_MQ below Qc XC av.toArray s 1 6 (va_A w sz)) (F0 m 0 ls [])) : vx_Met l y ws rm (va_Pc av (gPX D tys w sz)) Qc XC 1 6 (va_A w sz) := by
  refine vx_ofW (cc := cc) (maxL := maxL) (ret := ret) hy hw ?_
  intro p e s m args below meth c s₁ B hml hno hv
  obtain ⟨rfl, ⟨hsz, hP, hK, hD0, hN⟩, hS0, hxk⟩ := hv
  subst hsz
  have hD := hD0.self (sz := s.heap.size)
  have hl := lv_entry av (n := maxL) hn
  rw [lg_entry_eq]
  exact body p e s m below meth c (va_A w s.heap.size) _ rfl ⟨B.exec, B.bytes, B.returns, hml, findClass_of_methodNamed B.named, atoms_spec (ws := ws) B.pre, B.notSynchronized, hN, fun q h => Or.inr h⟩ ⟨hl0, hS0, hno, hxk⟩ hl ⟨hP, hK, hD, va_S.rf⟩
section GX
variable {p : Program} {l : Launch} {e : Env} {R : Room} {s : State} {m : MethodId} {args : Array Value} {below : List Frame} {meth : Method} {c : Code} {H : Heap} {locs : List Loc} {cells slots : Nat} {Q : State → Prop}
variable {cc : ByteArray} {pc maxL : Nat} {ls : Array Slot} {rest st0 : List Value} {D : va_G} {A : Nat → Prop} {b : Nat} {tys : List (ClassId × FieldType)} {w w' : va_W} {ret : Option FieldType} {ws : List Cond} {own : String}
theorem gx_iret {r : Int32} (C : gC p s m args meth c cc maxL (some .int) ws own A) (E : vE s A D tys w' H locs) (hc : cells ≤ 1) (hs : slots ≤ 6) (hdg : decode cc pc = .ok (.ireturn, 1)) : W p l e R s m args below meth c H locs cells slots (gXi below args s D tys A w' (.inl r)) (F0 m pc ls [.int r]) := by
  obtain ⟨hx, hb, hr, hml, hown, hts, hlocks, hN, hA⟩ := C
  refine W.widen hc hs (vx_ret ?_)
  exact W.iret hx hb hr (fun t ht hW => ⟨⟨r, (), rfl, rfl, by rw [ht]; exact E.1, va_K.moved hW.alike E.2.1, E.2.2.1⟩, E.2.2.2.F ht⟩) E.2.2.2.2.2 hdg
theorem gx_lret {r : Int64} (C : gC p s m args meth c cc maxL (some .long) ws own A) (E : vE s A D tys w' H locs) (hc : cells ≤ 1) (hs : slots ≤ 6) (hdg : decode cc pc = .ok (.lreturn, 1)) : W p l e R s m args below meth c H locs cells slots (gXl below args s D tys A w' (.inl r)) (F0 m pc ls [.long r]) := by
  obtain ⟨hx, hb, hr, hml, hown, hts, hlocks, hN, hA⟩ := C
  refine W.widen hc hs (vx_ret ?_)
  exact W.lret hx hb hr (fun t ht hW => ⟨⟨r, (), rfl, rfl, by rw [ht]; exact E.1, va_K.moved hW.alike E.2.1, E.2.2.1⟩, E.2.2.2.F ht⟩) E.2.2.2.2.2 hdg
theorem gx_vret (C : gC p s m args meth c cc maxL none ws own A) (E : vE s A D tys w' H locs) (hc : cells ≤ 1) (hs : slots ≤ 6) (hdg : decode cc pc = .ok (.return_, 1)) : W p l e R s m args below meth c H locs cells slots (gXv below args s D tys A w' (.inl ())) (F0 m pc ls []) := by
  obtain ⟨hx, hb, hr, hml, hown, hts, hlocks, hN, hA⟩ := C
  refine W.widen hc hs (vx_ret ?_)
  exact W.vret hx hb hr (fun t ht hW => ⟨⟨(), rfl, rfl, by rw [ht]; exact E.1, va_K.moved hW.alike E.2.1, E.2.2.1⟩, E.2.2.2.F ht⟩) E.2.2.2.2.2 hdg
/-- 'throw new En("text")' of ProcessYields -/
theorem gx_throw {α : Type} {Qc : Array Value → State → Outcome → State → Prop} {En text : String} {ik is ic : Nat} {o : α ⊕ String} (C : gC p s m args meth c cc maxL ret ws RX6 A) (hZ : gZ l s A c) (E : vE s A D tys w' H locs) (ho : o = Sum.inr En) (hE : En ∈ ekQ) (hcls : Bundle.fit En = true)
    (hk : Cond.classLink RX6 ik En ∈ ws) (hini : Cond.initialized En ∈ ws) (htx : (is, text) ∈ skQ)
    (hat : ∀ w ∈ (vx_atS RX6 ic En ["java/lang/RuntimeException", "java/lang/Exception"]).filter goodWord, w ∈ ws)
    (hnb : ∀ w ∈ (vx_atS RX6 ic En ["java/lang/RuntimeException", "java/lang/Exception"]).filter (fun w => !goodWord w), w ∈ eb En)
    (hgood : ∀ w ∈ Cond.classLink RX6 ik En :: Cond.initialized En :: vx_atS RX6 ic En ["java/lang/RuntimeException", "java/lang/Exception"], vx_ot w = true)
    (hl : ls.size = maxL) (d0 : decode cc pc = .ok (.new ik, 3)) (d3 : decode cc (pc + 3) = .ok (.dup, 1)) (d4 : decode cc (pc + 4) = .ok (.ldc is, 2)) (d6 : decode cc (pc + 6) = .ok (.invokespecial ic, 3)) (d9 : decode cc (pc + 9) = .ok (.athrow, 1))
    (hRf : 6 ≤ R.frames) (hRl : (rest.map fun v => v.category).sum + 82 ≤ R.locals) (hRc : cells + 1 ≤ R.cells) (hRs : slots + 6 ≤ R.slots) (hc : cells + 1 ≤ 1) (hs : slots + 6 ≤ 6) :
    W p l e R s m args below meth c H locs cells slots (vx_MQ below Qc (gXC D tys A w' o) args s 1 6 A) (F0 m pc ls rest) := by
  obtain ⟨hx, hb, hr, hml, hown, hts, hlocks, hN, hA⟩ := C
  obtain ⟨hl0, hS0, hno, hxk⟩ := hZ
  obtain ⟨sa, hsa⟩ := hN.2 _ htx
  refine vx_throwS (text := text) (sa := sa) (A := A) hx hb hl0 hown hcls (by decide +kernel) (hts _ hk) (hts _ hini) hsa
    (vx_hat (fun w hw => hts w (hat w hw)) hnb (hxk.eb hE)) hgood hS0.1 hS0.2 E.2.2.2 (hl.trans hml.symm) d0 d3 d4 d6 d9 (fun x h => (hno x h).elim)
    hRf hRl hRc hRs hlocks (fun t hv h1 h2 => ⟨(), trivial, ⟨ho, E.1.kept (fun k q hq => h2 q.1 (E.1 k q hq).lt), va_K.moved hv E.2.1, E.2.2.1⟩, Nat.le_trans E.2.2.2.1 h1, fun q g1 g2 => ?_⟩) E.2.2.2.2.2 hc hs
  rw [h2 q (Nat.lt_of_lt_of_le g1 E.2.2.2.1)]
  exact E.2.2.2.2.1 q g1 g2
theorem gx_pre (E : vE s A D tys w H locs) (hN : nk s) (hA : ∀ q : Nat, s.heap.size ≤ q → A q) (hS0 : gS A s s.heap) (hxk : xk s) {av : List Value} : ∀ U : State, U.heap = H → s.WarmedH U.vm → va_Pc av (gPX D tys w H.size) av.toArray U := fun U hU hW => by
  obtain ⟨e1, e2⟩ := g_pre (av := av) E hN U hU hW
  refine ⟨e1, e2, ⟨?_, ?_⟩, xk.moved hW.alike hxk⟩
  · rw [hU]; exact ((vx_Zq.moved hW.alike (hS0.1.kept E.2.2.2.2.1)).narrow (g_free E hA))
  · rw [hU]; exact ((vx_Zq.moved hW.alike (hS0.2.kept E.2.2.2.2.1)).narrow (g_free E hA))
section RunsX9
variable {y : MethodName} {bytes : ByteArray} {maxY n index : Nat} {rety : Option FieldType} {wy : List Cond} {rm : Room} {Qc : Array Value → State → Outcome → State → Prop} {XC : String → State → State → Prop} {Cn : String} {As : List Value}
theorem g_runXS (C : gC p s m args meth c cc maxL ret ws own A) (E : vE s A D tys w H locs) (hZ : gZ l s A c) (hM : vx_Met l y wy rm (va_Pc As (gPX D tys w H.size)) Qc XC 1 6 (va_A w H.size)) (cw : CallB R s args own index y bytes maxY rety wy rm 1 6 n ∧ (Cond.static y).before args s = true)
    (hn : As.length = n) (hl : ls.size = maxL) (hst : st0 = As.reverse ++ rest) (hW : (rest.map fun v => v.category).sum ≤ 8) (hdg : decode cc pc = .ok (.invokestatic index, 3)) (hf : cells + 1 ≤ R.cells ∧ slots + 6 ≤ R.slots) :
    vx_Run p l e R s m args below meth c H locs cells slots 1 6 (F0 m pc ls st0) rest (Qc As.toArray) XC (va_A w H.size) := by
  obtain ⟨hx, hb, hr, hml, hown, hts, hlocks, hN, hA⟩ := C
  exact vx_runS (As := As) (rest := rest) ⟨hx, hb, hml, hown, hts⟩ hM cw ⟨gPX_blind, gx_pre E hN hA hZ.2.1 hZ.2.2.2⟩ rfl hn hl hst (lv_room (m := m) (pc := pc) (ls := ls) (rest := st0) hW) hdg hf
end RunsX9
theorem gx_lift {α : Type} {o : α ⊕ String} {w1 : va_W} (E : vE s A D tys w H locs) (hA : ∀ q : Nat, s.heap.size ≤ q → A q) {t : State} {H1 : Heap} {locs1 : List Loc} (ht : t.heap = H1) (hB : gB D tys w1 (va_A w H.size) t) (hS : va_S A s.heap H1 locs1) : vE s A D tys w1 H1 locs1 := by
  obtain ⟨hP1, hK1, hD1⟩ := hB
  exact ⟨by rw [← ht]; exact hP1, E.2.1, hD1.weaken (fun k q _ h => g_free E hA q.1 h), hS⟩
/-- a void callee that throws or returns, within a method that lets it pass -/
theorem g_xcallv {α : Type} {Qd : Array Value → State → Outcome → State → Prop} {oc : Unit ⊕ String} {o : α ⊕ String} {wf : va_W} {a : Array Value} (C : gC p s m args meth c cc maxL ret ws own A) (hZ : gZ l s A c) (E : vE s A D tys w H locs) (hc : cells + 1 ≤ 1) (hs : slots + 6 ≤ 6)
    (hr : vx_Run p l e R s m args below meth c H locs cells slots 1 6 (F0 m pc ls st0) rest (gQXv D tys (va_A w H.size) w' oc a) (gXC D tys (va_A w H.size) w' oc) (va_A w H.size))
    (hwx : ∀ En : String, oc = Sum.inr En → o = Sum.inr En ∧ wf = w')
    (kk : oc = Sum.inl () → ∀ (H1 : Heap) (locs1 : List Loc), vE s A D tys w' H1 locs1 → W p l e R s m args below meth c H1 locs1 1 6 (vx_MQ below Qd (gXC D tys A wf o) args s 1 6 A) (F0 m (pc + 3) ls rest)) : W p l e R s m args below meth c H locs cells slots (vx_MQ below Qd (gXC D tys A wf o) args s 1 6 A) (F0 m pc ls st0) := by
  obtain ⟨hx, hb, -, hml, hown, hts, hlocks, hN, hA⟩ := C
  have hF := g_free E hA
  have hcz : cells = 0 := by omega
  have hsz : slots = 0 := by omega
  subst hcz
  subst hsz
  refine vx_callv hr E.2.2.2 (fun q _ h => hF q h) hF (fun q _ h => hF q h) (fun En ce q9 u t H1 locs1 ht hvm _ hB hz1 hk1 hS hq hv hcl => ?_) (fun u t H1 locs1 ht hvm hw hB hz1 hk1 hS => kk hw H1 locs1 (gx_lift (o := oc) E hA ht hB hS))
  obtain ⟨e1, e2⟩ := hwx En hB.1
  have E1 := gx_lift (o := oc) E hA ht hB.2 hS
  subst e2
  exact vx_out (fun x h => (hZ.2.2.1 x h).elim) hlocks hq hv hcl (fun t2 ht2 hv2 => ⟨(), trivial, ⟨e1, by rw [ht2]; exact E1.1, va_K.moved hv2 E1.2.1, E1.2.2.1⟩, E1.2.2.2.F ht2⟩) E1.2.2.2.2.2 (Nat.le_refl _) (Nat.le_refl _)
end GX
/-- what follows a call that returned, or that threw -/
def xb {α β : Type} (o : α ⊕ String) (k : α → Option β) (kx : String → Option β) : Option β := match o with
  | .inl r => k r
  | .inr En => kx En
theorem xb_l {α β : Type} {r : α} {k : α → Option β} {kx : String → Option β} : xb (.inl r) k kx = k r := rfl
theorem xb_r {α β : Type} {En : String} {k : α → Option β} {kx : String → Option β} : xb (.inr En) k kx = kx En := rfl
theorem nb_IAE : ∀ w ∈ (vx_atS RX6 80 "java/lang/IllegalArgumentException" ["java/lang/RuntimeException", "java/lang/Exception"]).filter (fun w => !goodWord w), w ∈ eb "java/lang/IllegalArgumentException" := by decide +kernel
theorem nb_ISE : ∀ w ∈ (vx_atS RX6 91 "java/lang/IllegalStateException" ["java/lang/RuntimeException", "java/lang/Exception"]).filter (fun w => !goodWord w), w ∈ eb "java/lang/IllegalStateException" := by decide +kernel
theorem nb_IOE : ∀ w ∈ (vx_atS RX6 200 "java/lang/IndexOutOfBoundsException" ["java/lang/RuntimeException", "java/lang/Exception"]).filter (fun w => !goodWord w), w ∈ eb "java/lang/IndexOutOfBoundsException" := by decide +kernel
theorem nb_ARE : ∀ w ∈ (vx_atS RX6 239 "java/lang/ArithmeticException" ["java/lang/RuntimeException", "java/lang/Exception"]).filter (fun w => !goodWord w), w ∈ eb "java/lang/ArithmeticException" := by decide +kernel
theorem gg_IAE : ∀ w ∈ Cond.classLink RX6 76 "java/lang/IllegalArgumentException" :: Cond.initialized "java/lang/IllegalArgumentException" :: vx_atS RX6 80 "java/lang/IllegalArgumentException" ["java/lang/RuntimeException", "java/lang/Exception"], vx_ot w = true := by decide +kernel
theorem gg_ISE : ∀ w ∈ Cond.classLink RX6 87 "java/lang/IllegalStateException" :: Cond.initialized "java/lang/IllegalStateException" :: vx_atS RX6 91 "java/lang/IllegalStateException" ["java/lang/RuntimeException", "java/lang/Exception"], vx_ot w = true := by decide +kernel
theorem gg_IOE : ∀ w ∈ Cond.classLink RX6 196 "java/lang/IndexOutOfBoundsException" :: Cond.initialized "java/lang/IndexOutOfBoundsException" :: vx_atS RX6 200 "java/lang/IndexOutOfBoundsException" ["java/lang/RuntimeException", "java/lang/Exception"], vx_ot w = true := by decide +kernel
theorem gg_ARE : ∀ w ∈ Cond.classLink RX6 235 "java/lang/ArithmeticException" :: Cond.initialized "java/lang/ArithmeticException" :: vx_atS RX6 239 "java/lang/ArithmeticException" ["java/lang/RuntimeException", "java/lang/Exception"], vx_ot w = true := by decide +kernel
