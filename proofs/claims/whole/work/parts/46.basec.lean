/-! Constructors: a world that grows; the addresses of what is made come with the answer. -/
abbrev gMc {S : Type} (l : Launch) (y : MethodName) (ws : List Cond) (rm : Room) (D : va_G) (tys : List (ClassId × FieldType)) (w : va_W) (post : S → Prop) (w' : S → va_W) (sz : Nat) (av : List Value) (mc ms : Nat) : Prop := Met l y ws rm (va_Pc av (gP D tys w sz)) (va_Qv post (fun u => gB D tys (w' u) (va_A w sz)) (va_A w sz)) mc ms (va_A w sz)
theorem gc_of {l : Launch} {y : MethodName} {ws ws' : List Cond} {rm : Room} {D : va_G} {tys : List (ClassId × FieldType)} {w : va_W} {sz : Nat} {av : List Value} {cc : ByteArray} {maxL mc ms : Nat} {ret : Option FieldType} {Qc : Array Value → State → Outcome → State → Prop}
    (hy : plainName y.cls = true) (hw : ws = Cond.code y cc maxL ret :: ws') (hn : (lg_sl av).length ≤ maxL)
    (body : ∀ (p : Program) (e : Env) (s : State) (m : MethodId) (below : List Frame) (meth : Method) (c : Code) (A : Nat → Prop) (ls : Array Slot), A = va_A w sz → gC p s m av.toArray meth c cc maxL ret ws y.cls A → meth.name = y.name → lv_has ls maxL (lv_args 0 av) → vE s A D tys w s.heap [] →
      W p l e rm s m av.toArray below meth c s.heap [] 0 0 (MQ below Qc av.toArray s mc ms (va_A w sz)) (F0 m 0 ls [])) : Met l y ws rm (va_Pc av (gP D tys w sz)) Qc mc ms (va_A w sz) := by
  refine Met.ofW (cc := cc) (maxL := maxL) (ret := ret) hy hw ?_
  intro p e s m args below meth c s₁ B hml hv
  obtain ⟨rfl, hsz, hP, hK, hD0, hN⟩ := hv
  subst hsz
  have hD := hD0.self (sz := s.heap.size)
  have hl := lv_entry av (n := maxL) hn
  rw [lg_entry_eq]
  exact body p e s m below meth c (va_A w s.heap.size) _ rfl ⟨B.exec, B.bytes, B.returns, hml, findClass_of_methodNamed B.named, atoms_spec (ws := ws) B.pre, B.notSynchronized, hN, fun q h => Or.inr h⟩ (name_of_methodNamed B.named B.method).1 hl ⟨hP, hK, hD, va_S.rf⟩
theorem gc_tys {D : va_G} {cI cJ cZ cA : ClassId} {ty : FieldType} {s : State} (hK : va_K D vwCl (gT cI cJ cZ ++ [(cA, ty)]) s) : (ty = .int → cA = cI) ∧ (ty = .long → cA = cJ) ∧ (ty = .boolean → cA = cZ) := by
  have h3 := (hK.2 3 (cA, ty) rfl).2
  refine ⟨fun e => ?_, fun e => ?_, fun e => ?_⟩
  · have h := (hK.2 0 (cI, .int) rfl).2
    subst e
    exact Option.some.inj (Eq.trans (Eq.symm h3) h)
  · have h := (hK.2 1 (cJ, .long) rfl).2
    subst e
    exact Option.some.inj (Eq.trans (Eq.symm h3) h)
  · have h := (hK.2 2 (cZ, .boolean) rfl).2
    subst e
    exact Option.some.inj (Eq.trans (Eq.symm h3) h)
section GN
variable {p : Program} {l : Launch} {e : Env} {R : Room} {s : State} {m : MethodId} {args : Array Value} {below : List Frame} {meth : Method} {c : Code} {H : Heap} {locs : List Loc} {cells slots : Nat} {Q : State → Prop}
variable {cc : ByteArray} {pc maxL : Nat} {ls : Array Slot} {rest st0 : List Value} {D : va_G} {A : Nat → Prop} {b : Nat} {tys : List (ClassId × FieldType)} {w w' : va_W} {ret : Option FieldType} {ws : List Cond} {own : String} {cI cJ cZ : ClassId}
theorem g_newI (C : gC p s m args meth c cc maxL ret ws own A) (E : vE s A D (gT cI cJ cZ) w H locs) (N : Nat) {n : Int32} (harr : Cond.arrayClass .int ∈ ws) (hn : ¬ n < 0) (hN : n.toNatClampNeg = N) (hby : N * 4 ≤ 536870912) (hc : cells + 1 ≤ R.cells) (hs : slots + N ≤ R.slots) (hdg : decode cc pc = .ok (.newarray .int, 2))
    (kk : ∀ (q : Nat) (H1 : Heap), vE s A D (gT cI cJ cZ) (w ++ [(q, .inl (cI, N, .inl (fun _ => 0)))]) H1 locs → W p l e R s m args below meth c H1 locs (cells + 1) (slots + N) Q (F0 m (pc + 2) ls (.ref q :: rest))) : W p l e R s m args below meth c H locs cells slots Q (F0 m pc ls (.int n :: rest)) := by
  obtain ⟨hx, hb, hr, hml, hown, hts, hlocks, hNk, hA⟩ := C
  refine va_newa (atype := .int) (a0 := (N, .inl (fun _ => 0))) (ty := .int) hx hb (hts _ harr) rfl E.2.1 E.1 E.2.2.1 E.2.2.2 hA (fun cA => rfl) hn hN hby hc hs hdg (fun q cA H1 hK hP hD hS => ?_)
  obtain rfl := (gc_tys hK).1 rfl
  exact kk q H1 ⟨hP, E.2.1, hD, hS⟩
theorem g_newJ (C : gC p s m args meth c cc maxL ret ws own A) (E : vE s A D (gT cI cJ cZ) w H locs) (N : Nat) {n : Int32} (harr : Cond.arrayClass .long ∈ ws) (hn : ¬ n < 0) (hN : n.toNatClampNeg = N) (hby : N * 8 ≤ 536870912) (hc : cells + 1 ≤ R.cells) (hs : slots + N ≤ R.slots) (hdg : decode cc pc = .ok (.newarray .long, 2))
    (kk : ∀ (q : Nat) (H1 : Heap), vE s A D (gT cI cJ cZ) (w ++ [(q, .inl (cJ, N, .inr (.inl (fun _ => 0))))]) H1 locs → W p l e R s m args below meth c H1 locs (cells + 1) (slots + N) Q (F0 m (pc + 2) ls (.ref q :: rest))) : W p l e R s m args below meth c H locs cells slots Q (F0 m pc ls (.int n :: rest)) := by
  obtain ⟨hx, hb, hr, hml, hown, hts, hlocks, hNk, hA⟩ := C
  refine va_newa (atype := .long) (a0 := (N, .inr (.inl (fun _ => 0)))) (ty := .long) hx hb (hts _ harr) rfl E.2.1 E.1 E.2.2.1 E.2.2.2 hA (fun cA => rfl) hn hN hby hc hs hdg (fun q cA H1 hK hP hD hS => ?_)
  obtain rfl := (gc_tys hK).2.1 rfl
  exact kk q H1 ⟨hP, E.2.1, hD, hS⟩
theorem g_newZ (C : gC p s m args meth c cc maxL ret ws own A) (E : vE s A D (gT cI cJ cZ) w H locs) (N : Nat) {n : Int32} (harr : Cond.arrayClass .boolean ∈ ws) (hn : ¬ n < 0) (hN : n.toNatClampNeg = N) (hby : N * componentBytes .boolean ≤ 536870912) (hc : cells + 1 ≤ R.cells) (hs : slots + N ≤ R.slots) (hdg : decode cc pc = .ok (.newarray .boolean, 2))
    (kk : ∀ (q : Nat) (H1 : Heap), vE s A D (gT cI cJ cZ) (w ++ [(q, .inl (cZ, N, .inl (fun _ => 0)))]) H1 locs → W p l e R s m args below meth c H1 locs (cells + 1) (slots + N) Q (F0 m (pc + 2) ls (.ref q :: rest))) : W p l e R s m args below meth c H locs cells slots Q (F0 m pc ls (.int n :: rest)) := by
  obtain ⟨hx, hb, hr, hml, hown, hts, hlocks, hNk, hA⟩ := C
  refine va_newa (atype := .boolean) (a0 := (N, .inl (fun _ => 0))) (ty := .boolean) hx hb (hts _ harr) rfl E.2.1 E.1 E.2.2.1 E.2.2.2 hA (fun cA => rfl) hn hN hby hc hs hdg (fun q cA H1 hK hP hD hS => ?_)
  obtain rfl := (gc_tys hK).2.2 rfl
  exact kk q H1 ⟨hP, E.2.1, hD, hS⟩
theorem g_putF (C : gC p s m args meth c cc maxL ret ws own A) (hin0 : meth.name = "<init>") (E : vE s A D tys w H locs) (q0 : Nat) {Cn ref : String} {T : u_T} {N ci index : Nat} {fs : List Value} {v : Value} {ty : FieldType} (k : Nat) (ty0 : Nat → FieldType) (hty : ∀ j, j < N → parseFieldDescriptor (T j).2.2.1 = some (ty0 j)) (hnm : ∀ a, a < N → ∀ b, b < N → a ≠ b → (T a).2.1 ≠ (T b).2.1) (hin : ∀ x ∈ u_ws Cn T N, x ∈ ws) (he : w[q0]? = some (b, .inr (ci, fs))) (hc : vwCl[ci]? = some (Cn, T, N)) (hk : k < N) (hl : Cond.fieldLink own index ref (T k).2.1 (T k).2.2.1 ∈ ws) (hd : (T k).1 = ref) (hfin : (T k).2.2.2 = true) (hdo : (T k).1 = own) (hpd : ty0 k = ty) (hn : narrow ty v = v) (hfit : fits ty v = true) (hlen : k < fs.length) (hdg : decode cc pc = .ok (.putfield index, 3)) (hw : w.set q0 (b, .inr (ci, fs.set k v)) = w')
    (kk : ∀ (H1 : Heap) (locs1 : List Loc), vE s A D tys w' H1 locs1 → W p l e R s m args below meth c H1 locs1 cells slots Q (F0 m (pc + 3) ls rest)) : W p l e R s m args below meth c H locs cells slots Q (F0 m pc ls (v :: .ref b :: rest)) := by
  obtain ⟨hx, hb, hr, hml, hown, hts, hlocks, hN, hA⟩ := C
  subst hw
  subst hpd
  exact va_putF hx hb hts hin ty0 hty hnm hown E.2.1 E.1 E.2.2.1 E.2.2.2 q0 he hc k hk (hts _ hl) (fun x h => by rw [← hd]; exact h) hfin hin0 hdo (hty k hk) hn hfit hlen hdg (fun H1 locs1 hP hD hS => kk H1 locs1 ⟨hP, E.2.1, hD, hS⟩)
theorem g_new (C : gC p s m args meth c cc maxL ret ws own A) (E : vE s A D tys w H locs) {Cn : String} {T : u_T} {N index : Nat} (ci : Nat) (fs : List Value) (ty0 : Nat → FieldType) (hty : ∀ j, j < N → parseFieldDescriptor (T j).2.2.1 = some (ty0 j)) (hin : ∀ x ∈ u_ws Cn T N, x ∈ ws) (hcl : Cond.classLink own index Cn ∈ ws) (hins : Cond.instantiable Cn N ∈ ws) (hini : Cond.initialized Cn ∈ ws) (hc : vwCl[ci]? = some (Cn, T, N)) (hfs : ∀ j, j < N → defaultValue (ty0 j) = vp_V fs j) (hcl2 : cells + 1 ≤ R.cells) (hsl : slots + N ≤ R.slots) (hdg : decode cc pc = .ok (.new index, 3))
    (kk : ∀ (q : Nat) (H1 : Heap), vE s A D tys (w ++ [(q, .inr (ci, fs))]) H1 locs → W p l e R s m args below meth c H1 locs (cells + 1) (slots + N) Q (F0 m (pc + 3) ls (.ref q :: rest))) : W p l e R s m args below meth c H locs cells slots Q (F0 m pc ls rest) := by
  obtain ⟨hx, hb, hr, hml, hown, hts, hlocks, hN, hA⟩ := C
  exact va_new hx hb hts hin ty0 hty hown (hts _ hcl) (hts _ hins) (hts _ hini) E.2.1 E.1 E.2.2.1 E.2.2.2 hA hc hfs hcl2 hsl hdg (fun q H1 hP hD hS => kk q H1 ⟨hP, E.2.1, hD, hS⟩)
theorem vE_last {x : Nat × va_E} (E : vE s A D tys (w ++ [x]) H locs) : vE s A D tys [x] H locs :=
  ⟨E.1.sub [w.length] (by simp), E.2.1, E.2.2.1.sub [w.length] rfl (by simp), E.2.2.2⟩
section RunsC9
variable {y : MethodName} {bytes : ByteArray} {maxY mc ms n index : Nat} {wy : List Cond} {rm : Room} {Qc : Array Value → State → Outcome → State → Prop} {As : List Value}
theorem g_runI (C : gC p s m args meth c cc maxL ret ws own A) (E : vE s A D tys w H locs) (hM : Met l y wy rm (va_Pc (.ref b :: As) (gP D tys w H.size)) Qc mc ms (va_A w H.size)) (cw : CallB R s args own index y bytes maxY none wy rm mc ms n ∧ y.name = "<init>" ∧ (Cond.instanceMethod y).before args s = true)
    (hn : As.length = n) (hl : ls.size = maxL) (hst : st0 = As.reverse ++ .ref b :: rest) (hW : (rest.map fun v => v.category).sum ≤ 8) (hdg : decode cc pc = .ok (.invokespecial index, 3)) (hf : cells + mc ≤ R.cells ∧ slots + ms ≤ R.slots) :
    va_Run p l e R s m args below meth c H locs cells slots mc ms (F0 m pc ls st0) rest (Qc (Value.ref b :: As).toArray) (va_A w H.size) := by
  obtain ⟨hx, hb, hr, hml, hown, hts, hlocks, hN, hA⟩ := C
  exact va_runI (As := As) (rest := rest) ⟨hx, hb, hml, hown, hts⟩ hM cw ⟨gP_blind, g_pre E hN⟩ rfl hn hl hst (lv_room (m := m) (pc := pc) (ls := ls) (rest := st0) hW) hdg hf
theorem g_runIN (C : gC p s m args meth c cc maxL ret ws own A) (E : vE s A D tys w H locs) (hM : Met l y wy rm (va_Pc (.ref b :: As) (gP D tys w H.size)) Qc mc ms (va_A w H.size)) (cw : va_CN R s args own index y RX6 bytes maxY none wy rm mc ms n ∧ y.name = "<init>" ∧ (Cond.instanceMethod y).before args s = true)
    (hn : As.length = n) (hl : ls.size = maxL) (hst : st0 = As.reverse ++ .ref b :: rest) (hW : (rest.map fun v => v.category).sum ≤ 8) (hdg : decode cc pc = .ok (.invokespecial index, 3)) (hf : cells + mc ≤ R.cells ∧ slots + ms ≤ R.slots) :
    va_Run p l e R s m args below meth c H locs cells slots mc ms (F0 m pc ls st0) rest (Qc (Value.ref b :: As).toArray) (va_A w H.size) := by
  obtain ⟨hx, hb, hr, hml, hown, hts, hlocks, hN, hA⟩ := C
  exact va_runIN (As := As) (rest := rest) ⟨hx, hb, hml, hown, hts⟩ hM cw ⟨gP_blind, g_pre E hN⟩ rfl hn hl hst (lv_room (m := m) (pc := pc) (ls := ls) (rest := st0) hW) hdg hf
end RunsC9
/-- a constructor's call on the last cell of the world -/
theorem g_callI {S : Type} {post : S → Prop} {w1 : S → va_W} {x : Nat × va_E} {mc ms : Nat} {a : Array Value} (C : gC p s m args meth c cc maxL ret ws own A) (E : vE s A D tys (w ++ [x]) H locs) (hr : va_Run p l e R s m args below meth c H locs cells slots mc ms (F0 m pc ls st0) rest (va_Qv post (fun u => gB D tys (w1 u) (va_A [x] H.size)) (va_A [x] H.size) a) (va_A [x] H.size))
    (isR : List Nat) (hR : isR.map (fun i => (w ++ [x])[i]?) = w.map some) (hn : va_nd isR = true) (hd : ∀ i ∈ isR, i ∉ [w.length])
    (kk : ∀ (u : S) (H1 : Heap) (locs1 : List Loc), post u → vE s A D tys (w ++ w1 u) H1 locs1 → W p l e R s m args below meth c H1 locs1 (cells + mc) (slots + ms) Q (F0 m (pc + 3) ls rest)) : W p l e R s m args below meth c H locs cells slots Q (F0 m pc ls st0) := by
  obtain ⟨hx, hb, -, hml, hown, hts, hlocks, hN, hA⟩ := C
  have hF := g_free (vE_last E) hA
  refine va_callv hr E.2.2.2 (fun q _ h => hF q h) hF (fun u t H1 locs1 ht hvm hw hB hz1 hk1 hS => ?_)
  obtain ⟨hP1, hK1, hD1⟩ := hB
  rw [ht] at hP1
  obtain ⟨hP, hD⟩ := va_join (wr := w) (w1 := w1 u) E.1 E.2.2.1 [w.length] isR (by simp) hR hn hd hk1 hF hP1 hD1
  exact kk u H1 locs1 hw ⟨hP, E.2.1, hD, hS⟩
theorem gc_vret {S : Type} {post : S → Prop} {w1 : S → va_W} (u : S) (C : gC p s m args meth c cc maxL none ws own A) (E : vE s A D tys (w1 u) H locs) (hp : post u) (hdg : decode cc pc = .ok (.return_, 1)) : W p l e R s m args below meth c H locs cells slots (MQ below (va_Qv post (fun u => gB D tys (w1 u) A) A) args s cells slots A) (F0 m pc ls []) := by
  obtain ⟨hx, hb, hr, hml, hown, hts, hlocks, hN, hA⟩ := C
  exact W.vret hx hb hr (fun t ht hW => ⟨⟨u, rfl, hp, by rw [ht]; exact E.1, va_K.moved hW.alike E.2.1, E.2.2.1⟩, E.2.2.2.F ht⟩) E.2.2.2.2.2 hdg
end GN
