section
-- ===== PART A: goes FIRST, ahead of the names: the tables' words, and 'selects' of the private methods out of them =====
/-- a private method of a class that the tables say can be made, by its rows of tables_1 -/
def lw_okq (q : MethodName × Nat) : Prop := (q.1.cls ≠ "java/lang/invoke/MethodHandle" ∧ q.1.cls ≠ "java/lang/invoke/VarHandle") ∧ Cond.instantiable q.1.cls q.2 ∈ tables_1 ∧ Cond.privateMethod q.1 ∈ tables_1 ∧ Cond.instanceMethod q.1 ∈ tables_1
theorem lw_p0 : lw_okq (⟨"java/lang/Throwable", "fillInStackTrace", "(I)Ljava/lang/Throwable;"⟩, 6) := ⟨⟨by decide +kernel, by decide +kernel⟩, List.mem_of_getElem? (i := 299) (by decide +kernel), List.mem_of_getElem? (i := 297) (by decide +kernel), List.mem_of_getElem? (i := 298) (by decide +kernel)⟩
theorem lw_p1 : lw_okq (⟨"ProcessYields", "suffices", "(II)Z"⟩, 11) := ⟨⟨by decide +kernel, by decide +kernel⟩, List.mem_of_getElem? (i := 18) (by decide +kernel), List.mem_of_getElem? (i := 446) (by decide +kernel), List.mem_of_getElem? (i := 447) (by decide +kernel)⟩
theorem lw_p2 : lw_okq (⟨"ProcessYields", "takeNeeds", "(II)J"⟩, 11) := ⟨⟨by decide +kernel, by decide +kernel⟩, List.mem_of_getElem? (i := 18) (by decide +kernel), List.mem_of_getElem? (i := 471) (by decide +kernel), List.mem_of_getElem? (i := 472) (by decide +kernel)⟩
theorem lw_p3 : lw_okq (⟨"ProcessYieldsModel", "isNeed", "(II)Z"⟩, 30) := ⟨⟨by decide +kernel, by decide +kernel⟩, List.mem_of_getElem? (i := 633) (by decide +kernel), List.mem_of_getElem? (i := 758) (by decide +kernel), List.mem_of_getElem? (i := 759) (by decide +kernel)⟩
theorem lw_p4 : lw_okq (⟨"ProcessYieldsModel", "leads", "(II)Z"⟩, 30) := ⟨⟨by decide +kernel, by decide +kernel⟩, List.mem_of_getElem? (i := 633) (by decide +kernel), List.mem_of_getElem? (i := 762) (by decide +kernel), List.mem_of_getElem? (i := 763) (by decide +kernel)⟩
theorem lw_p5 : lw_okq (⟨"ProcessYieldsModel", "depthOf", "(I)I"⟩, 30) := ⟨⟨by decide +kernel, by decide +kernel⟩, List.mem_of_getElem? (i := 633) (by decide +kernel), List.mem_of_getElem? (i := 766) (by decide +kernel), List.mem_of_getElem? (i := 767) (by decide +kernel)⟩
theorem lw_p6 : lw_okq (⟨"ProcessYieldsModel", "newLot", "(IJJ)I"⟩, 30) := ⟨⟨by decide +kernel, by decide +kernel⟩, List.mem_of_getElem? (i := 633) (by decide +kernel), List.mem_of_getElem? (i := 779) (by decide +kernel), List.mem_of_getElem? (i := 780) (by decide +kernel)⟩
theorem lw_p7 : lw_okq (⟨"ProcessYieldsModel", "takeOf", "(IJ)J"⟩, 30) := ⟨⟨by decide +kernel, by decide +kernel⟩, List.mem_of_getElem? (i := 633) (by decide +kernel), List.mem_of_getElem? (i := 783) (by decide +kernel), List.mem_of_getElem? (i := 784) (by decide +kernel)⟩
theorem lw_p8 : lw_okq (⟨"ProcessYieldsModel", "amountOf", "(IIJ)J"⟩, 30) := ⟨⟨by decide +kernel, by decide +kernel⟩, List.mem_of_getElem? (i := 633) (by decide +kernel), List.mem_of_getElem? (i := 791) (by decide +kernel), List.mem_of_getElem? (i := 792) (by decide +kernel)⟩
theorem lw_p9 : lw_okq (⟨"ProcessYieldsModel", "stock", "(I)J"⟩, 30) := ⟨⟨by decide +kernel, by decide +kernel⟩, List.mem_of_getElem? (i := 633) (by decide +kernel), List.mem_of_getElem? (i := 795) (by decide +kernel), List.mem_of_getElem? (i := 796) (by decide +kernel)⟩
theorem lw_p10 : lw_okq (⟨"ProcessYieldsModel", "take", "(IJ)V"⟩, 30) := ⟨⟨by decide +kernel, by decide +kernel⟩, List.mem_of_getElem? (i := 633) (by decide +kernel), List.mem_of_getElem? (i := 802) (by decide +kernel), List.mem_of_getElem? (i := 803) (by decide +kernel)⟩
theorem lw_p11 : lw_okq (⟨"ProcessYieldsModel", "goodOf", "(II)I"⟩, 30) := ⟨⟨by decide +kernel, by decide +kernel⟩, List.mem_of_getElem? (i := 633) (by decide +kernel), List.mem_of_getElem? (i := 808) (by decide +kernel), List.mem_of_getElem? (i := 809) (by decide +kernel)⟩
theorem lw_p12 : lw_okq (⟨"ProcessYieldsModel", "share", "(IIJ)J"⟩, 30) := ⟨⟨by decide +kernel, by decide +kernel⟩, List.mem_of_getElem? (i := 633) (by decide +kernel), List.mem_of_getElem? (i := 812) (by decide +kernel), List.mem_of_getElem? (i := 813) (by decide +kernel)⟩
theorem lw_p13 : lw_okq (⟨"ProcessYieldsModel", "debtOn", "(I)J"⟩, 30) := ⟨⟨by decide +kernel, by decide +kernel⟩, List.mem_of_getElem? (i := 633) (by decide +kernel), List.mem_of_getElem? (i := 848) (by decide +kernel), List.mem_of_getElem? (i := 849) (by decide +kernel)⟩
def lw_privs_1 : List (MethodName × Nat) := [(⟨"java/lang/Throwable", "fillInStackTrace", "(I)Ljava/lang/Throwable;"⟩, 6), (⟨"ProcessYields", "suffices", "(II)Z"⟩, 11), (⟨"ProcessYields", "takeNeeds", "(II)J"⟩, 11), (⟨"ProcessYieldsModel", "isNeed", "(II)Z"⟩, 30), (⟨"ProcessYieldsModel", "leads", "(II)Z"⟩, 30), (⟨"ProcessYieldsModel", "depthOf", "(I)I"⟩, 30), (⟨"ProcessYieldsModel", "newLot", "(IJJ)I"⟩, 30), (⟨"ProcessYieldsModel", "takeOf", "(IJ)J"⟩, 30), (⟨"ProcessYieldsModel", "amountOf", "(IIJ)J"⟩, 30), (⟨"ProcessYieldsModel", "stock", "(I)J"⟩, 30), (⟨"ProcessYieldsModel", "take", "(IJ)V"⟩, 30), (⟨"ProcessYieldsModel", "goodOf", "(II)I"⟩, 30), (⟨"ProcessYieldsModel", "share", "(IIJ)J"⟩, 30), (⟨"ProcessYieldsModel", "debtOn", "(I)J"⟩, 30)]
theorem lw_r1 : ∀ q ∈ lw_privs_1, lw_okq q := List.forall_mem_cons.mpr ⟨lw_p0, List.forall_mem_cons.mpr ⟨lw_p1, List.forall_mem_cons.mpr ⟨lw_p2, List.forall_mem_cons.mpr ⟨lw_p3, List.forall_mem_cons.mpr ⟨lw_p4, List.forall_mem_cons.mpr ⟨lw_p5, List.forall_mem_cons.mpr ⟨lw_p6, List.forall_mem_cons.mpr ⟨lw_p7, List.forall_mem_cons.mpr ⟨lw_p8, List.forall_mem_cons.mpr ⟨lw_p9, List.forall_mem_cons.mpr ⟨lw_p10, List.forall_mem_cons.mpr ⟨lw_p11, List.forall_mem_cons.mpr ⟨lw_p12, List.forall_mem_cons.mpr ⟨lw_p13, fun _ h => absurd h List.not_mem_nil⟩⟩⟩⟩⟩⟩⟩⟩⟩⟩⟩⟩⟩⟩
def lw_privs : List (MethodName × Nat) := lw_privs_1
def lw_tbl : List Cond := k2_sels lw_privs ++ tables_1
theorem lw_privs_ok : ∀ q ∈ lw_privs, lw_okq q := lw_r1

/-! ===== BEGIN words of one list among another's, by their places ===== -/
theorem goodIn_r {big : List Cond} (ws : List Cond) (ps : List Nat) (hp : ws = ps.filterMap (fun i => big[i]?)) (h : ws.all goodWord = true) : GoodIn big ws := by
  intro w hw
  have h1 := List.all_eq_true.mp h w hw
  rw [hp] at hw
  obtain ⟨i, -, hi⟩ := List.mem_filterMap.mp hw
  have hm : w ∈ big := by first | exact List.mem_of_getElem? hi | exact List.getElem?_mem hi
  exact ⟨hm, good_of_word h1⟩
theorem goodIn_app {big a b : List Cond} (ha : GoodIn big a) (hb : GoodIn big b) : GoodIn big (a ++ b) := fun w h => (List.mem_append.mp h).elim (ha w) (hb w)
theorem goodIn_ca {big a b : List Cond} {c : Cond} (ha : GoodIn big (c :: a)) (hb : GoodIn big b) : GoodIn big (c :: (a ++ b)) := fun w h => (List.mem_cons.mp h).elim (fun e => ha w (List.mem_cons.mpr (Or.inl e))) (fun h => (List.mem_append.mp h).elim (fun h => ha w (List.mem_cons.mpr (Or.inr h))) (hb w))
theorem goodIn_sub {big ws : List Cond} (hm : ∀ w ∈ ws, w ∈ big) (h : ws.all goodWord = true) : GoodIn big ws := fun w hw => ⟨hm w hw, good_of_word (List.all_eq_true.mp h w hw)⟩
/-! ===== END ===== -/

/-! ===== BEGIN exceptions that leave a method, and their catching by the caller (launches without stack traces) ===== -/
section VXA
/-! The laws vx_back, vx_callV, vx_callS, vx_callSW, vx_throw0, vx_throwS follow proofs of the library, with one case more: JvmDerived/Free/Laws.lean (Back.of_free), Shelf42/LK1.lean (callV, callS), Shelf/KitTraced.lean (throwNew0V, throwNewS). -/
/-- where a method has thrown q: the class by its name, the cell, what was written, the world -/
def vx_T (XC : String → State → State → Prop) (st : State) (q : Addr) (t : State) (mc ms : Nat) (free : Addr → Prop) : Prop :=
  ∃ (E : String) (ce : Cell) (L : List Loc), XC E st t ∧ t.heap[q]? = some ce ∧ ce.vm = .none ∧ st.vm.findClass E = some ce.cls ∧ st.WarmedH t.vm ∧ st.sameButNew ({ t with vm := st.vm } : State) L mc ms ∧ ∀ z ∈ L, free z.base
def vx_Q (Qc : Array Value → State → Outcome → State → Prop) (XC : String → State → State → Prop) (mc ms : Nat) (free : Addr → Prop) : Array Value → State → Outcome → State → Prop := fun a st o t =>
  (Qc a st o t ∧ ∃ L, FrameEnd st o t L mc ms ∧ ∀ q ∈ L, free q.base) ∨ ∃ q, o = .threw q ∧ vx_T XC st q t mc ms free
/-- a callee that returns or throws -/
def vx_Met (l : Launch) (y : MethodName) (ws : List Cond) (rm : Room) (Pc : Array Value → State → Prop) (Qc : Array Value → State → Outcome → State → Prop) (XC : String → State → State → Prop) (mc ms : Nat) (free : Addr → Prop) : Prop :=
  MetFree l y (headSpec ws rm) Pc (fun _ _ _ _ _ => True) (vx_Q Qc XC mc ms free)
def vx_Post (XC : String → State → State → Prop) (mc ms : Nat) (free : Addr → Prop) : Pt → Array Value → Addr → Pt → Prop := fun A a q B =>
  ∃ (g : JFrame) (mk : MethodId) (t : State) (L : List Loc) (E : String) (ce : Cell), B.U.heap = t.heap ∧ B.U.vm = t.vm ∧ XC E (A.U.calling g mk a) t ∧ t.heap[q]? = some ce ∧ ce.vm = .none ∧ A.U.vm.findClass E = some ce.cls ∧ B.locs = A.locs ++ L ∧ (∀ z ∈ L, free z.base) ∧ B.cells = A.cells + mc ∧ B.slots = A.slots + ms
def vx_Back (l : Launch) (R : Room) (p : Program) (e : Env) (below : List Frame) (s : State) (sargs : Array Value) (y : MethodName) (len W9 : Nat)
    (Pre : Pt → Array Value → Prop) (Post : Pt → Array Value → Option Value → Pt → Prop) (PostX : Pt → Array Value → Addr → Pt → Prop) : Prop :=
  ∀ (m : MethodId) (meth : Method) (c : Code) (A : Pt) (g : JFrame) (ig : Instr) (mk : MethodId) (a : Array Value),
    Stand p l e R s m sargs below meth c A.U A.locs A.cells A.slots → g.method = m → g.locals.size = c.maxLocals → decode c.code g.pc = .ok (ig, len) →
    2 * g.monitorRoom + (g.stack.map fun v => v.category).sum ≤ W9 → A.U.methodNamed? y = some mk → Pre A a →
    (∃ (v : Option Value) (B : Pt), Stand p l e R s m sargs below meth c B.U B.locs B.cells B.slots ∧ Post A a v B ∧
      Steps p.tables e below (doInvoke e (A.U.setTop g) [] mk a).1 (B.U.setTop { g with pc := g.pc + len, stack := v.toList ++ g.stack })) ∨
    (∃ (q : Addr) (B : Pt), Stand p l e R s m sargs below meth c B.U B.locs B.cells B.slots ∧ PostX A a q B ∧
      Steps p.tables e below (doInvoke e (A.U.setTop g) [] mk a).1 ((B.U.setTop g).pushFrame (.throwing q)))
section Payer
variable {l : Launch} {R : Room} {p : Program} {e : Env} {below : List Frame} {s : State} {sargs : Array Value} {y : MethodName} {len W9 : Nat}
theorem vx_back {ws : List Cond} {rm : Room} {Pc : Array Value → State → Prop} {Qc : Array Value → State → Outcome → State → Prop} {XC : String → State → State → Prop} {mc ms : Nat} {free : Addr → Prop} {bytes : ByteArray} {maxL : Nat} {ret : Option FieldType}
    (hM : vx_Met l y ws rm Pc Qc XC mc ms free) (hblind : FrameBlind Pc) (hrc : rm.cells = mc) (hrs : rm.slots = ms)
    (hframes : rm.frames + 1 ≤ R.frames) (hlocals : W9 + (maxL + 11) + rm.locals ≤ R.locals)
    (hws : ∀ w ∈ ws, ∀ a' U, s.WarmedH U.vm → w.before a' U = true) (hcode : Cond.code y bytes maxL ret ∈ ws) (hinit : ∀ a' U, s.WarmedH U.vm → (Cond.initialized y.cls).before a' U = true) :
    vx_Back l R p e below s sargs y len W9 (PreOf R mc ms Pc) (PostOf Qc mc ms free) (vx_Post XC mc ms free) := by
  intro m meth c A g ig mk a X hg hsize hdg hW hn hp
  have h1 : (headSpec ws rm).pre.before a A.U = true := atoms_intro fun w hw => hws w hw _ _ X.warmed
  have h2 : (Cond.code y bytes maxL ret).before a A.U = true := hws _ hcode _ _ X.warmed
  have h3 : (Cond.initialized y.cls).before a A.U = true := hinit _ _ X.warmed
  have h4 : A.cells + (headSpec ws rm).room.cells ≤ R.cells := by rw [show (headSpec ws rm).room.cells = mc from hrc]; exact hp.1
  have h5 : A.slots + (headSpec ws rm).room.slots ≤ R.slots := by rw [show (headSpec ws rm).room.slots = ms from hrs]; exact hp.2.1
  have hPc : Pc a (A.U.calling g mk a) := hblind _ _ _ _ hp.2.2
  obtain ⟨U, Ls, c0, s0⟩ := A
  dsimp only [Pt.U, Pt.locs, Pt.cells, Pt.slots] at h1 h2 h3 h4 h5 X hn hPc ⊢
  obtain ⟨methY, cY, hmY, hcY, -, hlY, -, -, -, -⟩ := Cond.code_spec hn h2
  obtain ⟨kY, hkY, -⟩ := className_of_methodNamed hn
  have hinitY : kY.init = .initialized := Cond.initialized_spec (findClass_of_methodNamed hn) hkY h3
  have h : At U g.method c below := by rw [hg]; exact X.here
  have hlocals9 : W9 + (maxL + 11) + (headSpec ws rm).room.locals ≤ R.locals := hlocals
  have happ : (headSpec ws rm).appliesLoose y e.platform (U.calling g mk a) = true :=
    Spec.appliesLoose_calling (g := g) h hdg hn hkY hinitY
      (X.room_calling (g := g) (R' := (headSpec ws rm).room) hsize hmY hcY hframes (by rw [hlY]; omega) h4 h5) h1
  obtain ⟨mid, hmid⟩ := h.above
  have hfr : (U.setTop g).frames = (.java g :: mid) ++ below := by rw [State.frames_setTop' g h.top, hmid]; rfl
  obtain ⟨o, s₂, hsteps, -, hend, hq⟩ := Steps.callFree hM p X.admits X.cas X.clock (acts := []) hfr happ hPc trivial
  have hq' : vx_Q Qc XC mc ms free a (U.calling g mk a) o s₂ := hq
  rw [State.frames_setTop' g h.top] at hend
  obtain ⟨g₀, hg0⟩ := Option.isSome_iff_exists.mp h.top
  obtain ⟨r, hr⟩ := State.topJava?_eq_some.mp hg0
  have hr' : (({ U with heap := s₂.heap, slotsUsed := s₂.slotsUsed } : State).setVm s₂.vm).frames = .java g₀ :: r := hr
  rcases hq' with ⟨hqc, L, hfe, hL⟩ | ⟨q, rfl, E, ce, L, hx, hce, hcv, hcl, hW₂, hsm, hL⟩
  · obtain ⟨⟨v, rfl⟩, hW₂, e2, q2, q3, q4, q5, q6⟩ := id hfe
    have e3 : s₂ = ({ (U.calling g mk a).setFrames s₂.frames with heap := s₂.heap, slotsUsed := s₂.slotsUsed } : State).setVm s₂.vm := by
      have : s₂ = ({ s₂ with vm := (U.calling g mk a).vm } : State).setVm s₂.vm := rfl
      rw [e2] at this
      exact this
    obtain ⟨c₂, i₂, len₂, hc₂, hd₂, hf₂⟩ := hend
    have hW' : U.WarmedH s₂.vm := hW₂
    have hcc : c₂ = c := by
      have h1 : s₂.code? g.method = U.code? g.method := by
        rw [State.code?_eq, State.code?_eq, hW'.alike.method?]
      exact Option.some.inj (hc₂.symm.trans (h1.trans h.code))
    subst hcc
    have hlen : len₂ = len := by rw [hdg] at hd₂; cases hd₂; rfl
    subst hlen
    have hs₂ : s₂ = (({ U with heap := s₂.heap, slotsUsed := s₂.slotsUsed } : State).setVm s₂.vm).setTop { g with pc := g.pc + len₂, stack := v.toList ++ g.stack } := by
      refine e3.trans ?_
      rw [hf₂, State.calling_eq h.top, State.setFrames_setFrames, State.setTop_of_frames _ hr', hr]
      rfl
    have hsame : U.sameButNew ({ U with heap := s₂.heap, slotsUsed := s₂.slotsUsed } : State) L mc ms := by
      refine ⟨?_, q2, q3, q4, q5, q6⟩
      obtain ⟨t, ht, -⟩ := State.frames_cons hr
      show ({ U with heap := s₂.heap, slotsUsed := s₂.slotsUsed } : State) = { U.setFrames U.frames with heap := s₂.heap, slotsUsed := s₂.slotsUsed }
      rw [State.setFrames_self ht]
    subst hg
    refine Or.inl ⟨v, ⟨(({ U with heap := s₂.heap, slotsUsed := s₂.slotsUsed } : State).setVm s₂.vm), Ls ++ L, c0 + mc, s0 + ms⟩,
      ⟨X.admits, X.cas, X.clock, X.frames, X.room, X.hears, X.method, X.code, (X.here.setHeapUsed s₂.heap s₂.slotsUsed).setVm hW'.alike, X.tail, State.WarmedH.trans X.warmed hW', X.limits, X.bytes, X.same.trans (hsame.setVm s.vm)⟩,
      ⟨g, mk, s₂, L, rfl, rfl, hqc, rfl, hL, rfl, rfl⟩, ?_⟩
    show Steps p.tables e below _ ((({ U with heap := s₂.heap, slotsUsed := s₂.slotsUsed } : State).setVm s₂.vm).setTop { g with pc := g.pc + len₂, stack := v.toList ++ g.stack })
    rw [← hs₂]
    exact hsteps
  · obtain ⟨e2, q2, q3, q4, q5, q6⟩ := id hsm
    have e3 : s₂ = ({ (U.calling g mk a).setFrames s₂.frames with heap := s₂.heap, slotsUsed := s₂.slotsUsed } : State).setVm s₂.vm := by
      have : s₂ = ({ s₂ with vm := (U.calling g mk a).vm } : State).setVm s₂.vm := rfl
      rw [e2] at this
      exact this
    have hf₂ : s₂.frames = .throwing q :: .java g :: U.frames.tail := hend
    have hW' : U.WarmedH s₂.vm := hW₂
    have hs₂ : s₂ = ((({ U with heap := s₂.heap, slotsUsed := s₂.slotsUsed } : State).setVm s₂.vm).setTop g).pushFrame (.throwing q) := by
      refine e3.trans ?_
      rw [hf₂, State.calling_eq h.top, State.setFrames_setFrames, State.pushFrame, State.frames_setTop _ hr', State.setTop_of_frames _ hr', State.setFrames_setFrames, hr]
      rfl
    have hsame : U.sameButNew ({ U with heap := s₂.heap, slotsUsed := s₂.slotsUsed } : State) L mc ms := by
      refine ⟨?_, q2, q3, q4, q5, q6⟩
      obtain ⟨t, ht, -⟩ := State.frames_cons hr
      show ({ U with heap := s₂.heap, slotsUsed := s₂.slotsUsed } : State) = { U.setFrames U.frames with heap := s₂.heap, slotsUsed := s₂.slotsUsed }
      rw [State.setFrames_self ht]
    subst hg
    refine Or.inr ⟨q, ⟨(({ U with heap := s₂.heap, slotsUsed := s₂.slotsUsed } : State).setVm s₂.vm), Ls ++ L, c0 + mc, s0 + ms⟩,
      ⟨X.admits, X.cas, X.clock, X.frames, X.room, X.hears, X.method, X.code, (X.here.setHeapUsed s₂.heap s₂.slotsUsed).setVm hW'.alike, X.tail, State.WarmedH.trans X.warmed hW', X.limits, X.bytes, X.same.trans (hsame.setVm s.vm)⟩,
      ⟨g, mk, s₂, L, E, ce, rfl, rfl, hx, hce, hcv, hcl, rfl, hL, rfl, rfl⟩, ?_⟩
    show Steps p.tables e below _ (((({ U with heap := s₂.heap, slotsUsed := s₂.slotsUsed } : State).setVm s₂.vm).setTop g).pushFrame (.throwing q))
    rw [← hs₂]
    exact hsteps
end Payer
section Calls
variable {p : Program} {l : Launch} {e : Env} {R : Room} {s : State} {m : MethodId} {args : Array Value} {below : List Frame} {meth : Method} {c : Code} {T : State} {locs : List Loc} {cells slots : Nat}
theorem vx_callV (X : Stand p l e R s m args below meth c T locs cells slots) (hexec : p.tables.exec = Jvm.exec) {own C : String} {index : Nat} {y : MethodName} {bytes : ByteArray} {maxL : Nat} {ret : Option FieldType}
    (hown : s.vm.findClass own = some m.cls) (hlink : (Cond.methodLink own index y).before args s = true) (hinst : (Cond.instanceMethod y).before args s = true) (hsel : (Cond.selects C y y).before args s = true)
    (hcode : (Cond.code y bytes maxL ret).before args s = true) (hy : y.cls ≠ "java/lang/invoke/MethodHandle" ∧ y.cls ≠ "java/lang/invoke/VarHandle")
    {W9 : Nat} {Pre : Pt → Array Value → Prop} {Post : Pt → Array Value → Option Value → Pt → Prop} {PostX : Pt → Array Value → Addr → Pt → Prop} (hK : vx_Back l R p e below s args y 3 W9 Pre Post PostX)
    {b : Addr} {cellB : Cell} (hcell : T.heap[b]? = some cellB) (hobj : cellB.vm.isStatics = false) (hcls : s.vm.findClass C = some cellB.cls)
    {g : JFrame} (hg : g.method = m) (hsize : g.locals.size = c.maxLocals) {argsL rest : List Value} (hlen : ∀ sig, parseMethodDescriptor y.desc = some sig → argsL.length = sig.parameters.length)
    (hstack : g.stack = argsL.reverse ++ .ref b :: rest) (hW : 2 * g.monitorRoom + (rest.map fun v => v.category).sum ≤ W9) (hdg : decode c.code g.pc = .ok (.invokevirtual index, 3))
    (hpre : ∀ vm₁, s.WarmedH vm₁ → Pre ⟨T.setVm vm₁, locs, cells, slots⟩ (Value.ref b :: argsL).toArray) :
    (∃ (v : Option Value) (vm₁ : Vm) (B : Pt), s.WarmedH vm₁ ∧ Stand p l e R s m args below meth c B.U B.locs B.cells B.slots ∧ Post ⟨T.setVm vm₁, locs, cells, slots⟩ (Value.ref b :: argsL).toArray v B ∧
      ∀ target, Steps p.tables e below (B.U.setTop { g with pc := g.pc + 3, stack := v.toList ++ rest }) target → Steps p.tables e below (T.setTop g) target) ∨
    (∃ (q : Addr) (vm₁ : Vm) (B : Pt), s.WarmedH vm₁ ∧ Stand p l e R s m args below meth c B.U B.locs B.cells B.slots ∧ PostX ⟨T.setVm vm₁, locs, cells, slots⟩ (Value.ref b :: argsL).toArray q B ∧
      Steps p.tables e below (T.setTop g) ((B.U.setTop { g with stack := rest }).pushFrame (.throwing q))) := by
  obtain ⟨mk, methM, hnamed, hmethM, hstM, habM⟩ := Cond.instanceMethod_spec hinst
  obtain ⟨methM', cM, hmethM', -, -, -, -, -, -, hsigM⟩ := Cond.code_spec hnamed hcode
  cases hmethM.symm.trans hmethM'
  obtain ⟨c2, r2, m2, q1, q2, q3, q4, kP, hkP, hkPi⟩ := Cond.selects_spec hsel
  cases hcls.symm.trans q1
  cases (State.methodFound?_of_named hnamed hy).symm.trans q2
  cases hnamed.symm.trans q3
  have hselP : selectMethod e.platform s.vm cellB.cls mk = .method mk := by rw [Launch.admits_selectMethod X.admits]; exact q4
  obtain ⟨vm₁, X₁, hstep₁⟩ := X.invokevirtual hexec hown hlink hnamed hmethM hstM hkP hkPi hy (a := b) (cell := cellB) hcell
    (fun z h => by rw [h] at hobj; cases hobj) hselP hmethM habM hkP hkPi (g := g) hg (argsL := argsL) (rest := rest) (hlen _ hsigM) hstack hdg
  rcases hK m meth c ⟨T.setVm vm₁, locs, cells, slots⟩ { g with stack := rest } (.invokevirtual index) mk (Value.ref b :: argsL).toArray X₁ hg hsize hdg hW (X₁.named hnamed) (hpre vm₁ X₁.warmed) with ⟨v, B, X', hpost, hsteps⟩ | ⟨q, B, X', hpost, hsteps⟩
  · exact Or.inl ⟨v, vm₁, B, X₁.warmed, X', hpost, fun target h => hstep₁ _ fun acts => by rw [doInvoke_state]; exact hsteps.trans h⟩
  · exact Or.inr ⟨q, vm₁, B, X₁.warmed, X', hpost, hstep₁ _ fun acts => by rw [doInvoke_state]; exact hsteps⟩
theorem vx_callS (X : Stand p l e R s m args below meth c T locs cells slots) (hexec : p.tables.exec = Jvm.exec) {own : String} {index : Nat} {y : MethodName} {bytes : ByteArray} {maxL : Nat} {ret : Option FieldType}
    (hown : s.vm.findClass own = some m.cls) (hlink : (Cond.methodLink own index y).before args s = true) (hstat : (Cond.static y).before args s = true) (hinit : (Cond.initialized y.cls).before args s = true)
    (hcode : (Cond.code y bytes maxL ret).before args s = true) (hy : y.cls ≠ "java/lang/invoke/MethodHandle" ∧ y.cls ≠ "java/lang/invoke/VarHandle")
    {W9 : Nat} {Pre : Pt → Array Value → Prop} {Post : Pt → Array Value → Option Value → Pt → Prop} {PostX : Pt → Array Value → Addr → Pt → Prop} (hK : vx_Back l R p e below s args y 3 W9 Pre Post PostX)
    {g : JFrame} (hg : g.method = m) (hsize : g.locals.size = c.maxLocals) {argsL rest : List Value} (hlen : ∀ sig, parseMethodDescriptor y.desc = some sig → argsL.length = sig.parameters.length)
    (hstack : g.stack = argsL.reverse ++ rest) (hW : 2 * g.monitorRoom + (rest.map fun v => v.category).sum ≤ W9) (hdg : decode c.code g.pc = .ok (.invokestatic index, 3))
    (hpre : ∀ vm₁, s.WarmedH vm₁ → Pre ⟨T.setVm vm₁, locs, cells, slots⟩ argsL.toArray) :
    (∃ (v : Option Value) (vm₁ : Vm) (B : Pt), s.WarmedH vm₁ ∧ Stand p l e R s m args below meth c B.U B.locs B.cells B.slots ∧ Post ⟨T.setVm vm₁, locs, cells, slots⟩ argsL.toArray v B ∧
      ∀ target, Steps p.tables e below (B.U.setTop { g with pc := g.pc + 3, stack := v.toList ++ rest }) target → Steps p.tables e below (T.setTop g) target) ∨
    (∃ (q : Addr) (vm₁ : Vm) (B : Pt), s.WarmedH vm₁ ∧ Stand p l e R s m args below meth c B.U B.locs B.cells B.slots ∧ PostX ⟨T.setVm vm₁, locs, cells, slots⟩ argsL.toArray q B ∧
      Steps p.tables e below (T.setTop g) ((B.U.setTop { g with stack := rest }).pushFrame (.throwing q))) := by
  obtain ⟨mk, hnamed⟩ := Cond.code_named hcode
  obtain ⟨methM, cM, hmethM, -, -, -, -, -, -, hsigM⟩ := Cond.code_spec hnamed hcode
  have hstatic : methM.isStatic = true := Cond.static_spec hnamed hmethM hstat
  obtain ⟨kP, hkP, -⟩ := className_of_methodNamed hnamed
  have hinitP : kP.init = .initialized := Cond.initialized_spec (findClass_of_methodNamed hnamed) hkP hinit
  obtain ⟨vm₁, X₁, hstep₁⟩ := X.invokestatic hexec hown hlink hnamed hmethM hstatic hkP hinitP hy (g := g) hg (argsL := argsL) (rest := rest) (hlen _ hsigM) hstack hdg
  rcases hK m meth c ⟨T.setVm vm₁, locs, cells, slots⟩ { g with stack := rest } (.invokestatic index) mk argsL.toArray X₁ hg hsize hdg hW (X₁.named hnamed) (hpre vm₁ X₁.warmed) with ⟨v, B, X', hpost, hsteps⟩ | ⟨q, B, X', hpost, hsteps⟩
  · exact Or.inl ⟨v, vm₁, B, X₁.warmed, X', hpost, fun target h => hstep₁ _ fun acts => by rw [doInvoke_state]; exact hsteps.trans h⟩
  · exact Or.inr ⟨q, vm₁, B, X₁.warmed, X', hpost, hstep₁ _ fun acts => by rw [doInvoke_state]; exact hsteps⟩
end Calls
theorem vx_cls {s : State} {T : State} {vm₁ : Vm} {E : String} {k : ClassId} (hW : s.WarmedH vm₁) (h : (T.setVm vm₁).vm.findClass E = some k) : s.vm.findClass E = some k := by
  have h1 : vm₁.findClass E = some k := h
  rw [hW.alike.findClass] at h1
  exact h1
/-- the method's frame g, with q thrown over it -/
def vx_W (p : Program) (l : Launch) (e : Env) (R : Room) (s : State) (m : MethodId) (args : Array Value) (below : List Frame) (meth : Method) (c : Code) (H : Heap) (locs : List Loc) (cells slots : Nat) (Q : State → Prop) (g : JFrame) (q : Addr) : Prop :=
  ∀ T : State, T.heap = H → Stand p l e R s m args below meth c T locs cells slots → ∃ t, Steps p.tables e below ((T.setTop g).pushFrame (.throwing q)) t ∧ Q t
def vx_Run (p : Program) (l : Launch) (e : Env) (R : Room) (s : State) (m : MethodId) (args : Array Value) (below : List Frame) (meth : Method) (c : Code) (H : Heap) (locs : List Loc) (cells slots mc ms : Nat) (g : JFrame) (rest : List Value) (Qa : State → Outcome → State → Prop) (XC : String → State → State → Prop) (free : Addr → Prop) : Prop :=
  ∀ T : State, T.heap = H → Stand p l e R s m args below meth c T locs cells slots →
    (∃ (v : Option Value) (st₀ t T' : State) (L : List Loc), st₀.heap = H ∧ Stand p l e R s m args below meth c T' (locs ++ L) (cells + mc) (slots + ms) ∧ (∀ q ∈ L, free q.base) ∧ T'.heap = t.heap ∧ T'.vm = t.vm ∧ Qa st₀ (.returned v) t ∧
      Goes p e below T g T' { g with pc := g.pc + 3, stack := v.toList ++ rest }) ∨
    (∃ (q : Addr) (st₀ t T' : State) (L : List Loc) (E : String) (ce : Cell), st₀.heap = H ∧ Stand p l e R s m args below meth c T' (locs ++ L) (cells + mc) (slots + ms) ∧ (∀ z ∈ L, free z.base) ∧ T'.heap = t.heap ∧ T'.vm = t.vm ∧ XC E st₀ t ∧ t.heap[q]? = some ce ∧ ce.vm = .none ∧ s.vm.findClass E = some ce.cls ∧
      Steps p.tables e below (T.setTop g) ((T'.setTop { g with stack := rest }).pushFrame (.throwing q)))
def vx_X {S : Type} (px : S → Prop) (B : String → S → State → Prop) (A : Nat → Prop) : String → State → State → Prop := fun E st t => ∃ u : S, px u ∧ B E u t ∧ va_F A st t
section Runs
variable {p : Program} {l : Launch} {e : Env} {R : Room} {s : State} {m : MethodId} {args : Array Value} {below : List Frame} {meth : Method} {c : Code} {H : Heap} {locs : List Loc} {cells slots : Nat}
variable {y : MethodName} {bytes cc : ByteArray} {maxL nL mc ms n index : Nat} {ret : Option FieldType} {ws : List Cond} {rm : Room} {Pc : Array Value → State → Prop} {Qc : Array Value → State → Outcome → State → Prop} {XC : String → State → State → Prop} {free : Addr → Prop} {Ts : List Cond} {own C : String} {b : Addr} {As rest : List Value} {g : JFrame}
theorem vx_callBack (cb : CallB R s args own index y bytes maxL ret ws rm mc ms n) (hM : vx_Met l y ws rm Pc Qc XC mc ms free) (hbl : FrameBlind Pc) : vx_Back l R p e below s args y 3 8 (PreOf R mc ms Pc) (PostOf Qc mc ms free) (vx_Post XC mc ms free) := by
  obtain ⟨hrc, hrs, hfr, hlo, hws, hcw, -, hini, -⟩ := cb
  exact vx_back (bytes := bytes) (maxL := maxL) (ret := ret) hM hbl hrc hrs hfr hlo hws hcw (fun a' U hW => word_at hW (Or.inl (by first | rfl | simp [Cond.onTables, Cond.keeps, Cond.steady])) hini)
theorem vx_runV (S : CallFix p m c cc nL s args Ts own) (hM : vx_Met l y ws rm Pc Qc XC mc ms free) (cw : CallW R s args own C index y bytes maxL ret ws rm mc ms n) (hp : PreV s H C b Pc As)
    (hg : g.method = m) (hn : As.length = n) (hsize : g.locals.size = nL) (hstack : g.stack = As.reverse ++ .ref b :: rest) (hW : 2 * g.monitorRoom + (rest.map fun v => v.category).sum ≤ 8) (hdg : decode cc g.pc = .ok (.invokevirtual index, 3)) (hf : cells + mc ≤ R.cells ∧ slots + ms ≤ R.slots) :
    vx_Run p l e R s m args below meth c H locs cells slots mc ms g rest (Qc (Value.ref b :: As).toArray) XC free := by
  have hK : vx_Back l R p e below s args y 3 8 (PreOf R mc ms Pc) (PostOf Qc mc ms free) (vx_Post XC mc ms free) := vx_callBack cw.1 hM hp.1
  obtain ⟨⟨-, -, -, -, -, -, hcode, -, hy, hlen, hl⟩, hin, hse⟩ := cw
  obtain ⟨hx, hb, hml, ho, -⟩ := S
  obtain ⟨-, ⟨cellB, hcB, hoB, hclB⟩, hPc⟩ := hp
  intro T hT X
  rcases vx_callV X hx (C := C) (bytes := bytes) (maxL := maxL) (ret := ret) ho hl hin hse hcode hy hK (by rw [hT]; exact hcB) hoB hclB hg (hsize.trans hml.symm) (argsL := As) (rest := rest) (fun sig h => hn.trans (hlen sig h)) hstack hW (by rw [hb]; exact hdg)
    (fun vm₁ hW₁ => ⟨hf.1, hf.2, hPc (T.setVm vm₁) hT hW₁⟩) with ⟨v, vm₁, ⟨U', l2, c2, s2⟩, hW₁, X', ⟨g', mk, t, L, e1, e2, hq, h1, hL, h2, h3⟩, st⟩ | ⟨q, vm₁, ⟨U', l2, c2, s2⟩, hW₁, X', ⟨g', mk, t, L, E, ce, e1, e2, hq, hce, hcv, hcl, h1, hL, h2, h3⟩, st⟩
  · dsimp only [Pt.U, Pt.locs, Pt.cells, Pt.slots] at X' e1 e2 h1 h2 h3 st
    subst h1; subst h2; subst h3
    exact Or.inl ⟨v, (T.setVm vm₁).calling g' mk (Value.ref b :: As).toArray, t, U', L, hT, X', hL, e1, e2, hq, st⟩
  · dsimp only [Pt.U, Pt.locs, Pt.cells, Pt.slots] at X' e1 e2 h1 h2 h3 st hcl
    subst h1; subst h2; subst h3
    exact Or.inr ⟨q, (T.setVm vm₁).calling g' mk (Value.ref b :: As).toArray, t, U', L, E, ce, hT, X', hL, e1, e2, hq, hce, hcv, vx_cls hW₁ hcl, st⟩
theorem vx_runS (S : CallFix p m c cc nL s args Ts own) (hM : vx_Met l y ws rm Pc Qc XC mc ms free) (cw : CallB R s args own index y bytes maxL ret ws rm mc ms n ∧ (Cond.static y).before args s = true) (hp : PreS s H Pc As)
    (hg : g.method = m) (hn : As.length = n) (hsize : g.locals.size = nL) (hstack : g.stack = As.reverse ++ rest) (hW : 2 * g.monitorRoom + (rest.map fun v => v.category).sum ≤ 8) (hdg : decode cc g.pc = .ok (.invokestatic index, 3)) (hf : cells + mc ≤ R.cells ∧ slots + ms ≤ R.slots) :
    vx_Run p l e R s m args below meth c H locs cells slots mc ms g rest (Qc As.toArray) XC free := by
  have hK : vx_Back l R p e below s args y 3 8 (PreOf R mc ms Pc) (PostOf Qc mc ms free) (vx_Post XC mc ms free) := vx_callBack cw.1 hM hp.1
  obtain ⟨⟨-, -, -, -, -, -, hcode, hini, hy, hlen, hl⟩, hstt⟩ := cw
  obtain ⟨hx, hb, hml, ho, -⟩ := S
  intro T hT X
  rcases vx_callS X hx (bytes := bytes) (maxL := maxL) (ret := ret) ho hl hstt hini hcode hy hK hg (hsize.trans hml.symm) (argsL := As) (rest := rest) (fun sig h => hn.trans (hlen sig h)) hstack hW (by rw [hb]; exact hdg)
    (fun vm₁ hW₁ => ⟨hf.1, hf.2, hp.2 (T.setVm vm₁) hT hW₁⟩) with ⟨v, vm₁, ⟨U', l2, c2, s2⟩, hW₁, X', ⟨g', mk, t, L, e1, e2, hq, h1, hL, h2, h3⟩, st⟩ | ⟨q, vm₁, ⟨U', l2, c2, s2⟩, hW₁, X', ⟨g', mk, t, L, E, ce, e1, e2, hq, hce, hcv, hcl, h1, hL, h2, h3⟩, st⟩
  · dsimp only [Pt.U, Pt.locs, Pt.cells, Pt.slots] at X' e1 e2 h1 h2 h3 st
    subst h1; subst h2; subst h3
    exact Or.inl ⟨v, (T.setVm vm₁).calling g' mk As.toArray, t, U', L, hT, X', hL, e1, e2, hq, st⟩
  · dsimp only [Pt.U, Pt.locs, Pt.cells, Pt.slots] at X' e1 e2 h1 h2 h3 st hcl
    subst h1; subst h2; subst h3
    exact Or.inr ⟨q, (T.setVm vm₁).calling g' mk As.toArray, t, U', L, E, ce, hT, X', hL, e1, e2, hq, hce, hcv, vx_cls hW₁ hcl, st⟩
end Runs
section Rows
variable {p : Program} {l : Launch} {e : Env} {R : Room} {s : State} {m : MethodId} {args : Array Value} {below : List Frame} {meth : Method} {c : Code} {H : Heap} {locs : List Loc} {cells slots : Nat} {Q : State → Prop}
variable {mc ms : Nat} {free : Addr → Prop} {A0 A1 : Nat → Prop} {H0 : Heap} {a : Array Value} {pc : Nat} {ls : Array Slot} {st0 rest : List Value}
theorem vx_keep {st₀ t T' : State} {L : List Loc} (h0 : st₀.heap = H) (e1 : T'.heap = t.heap) (hS : va_S A0 H0 H locs) (hA : ∀ q, q < H.size → A1 q → A0 q) (hf : ∀ q, free q → A0 q) (hL : ∀ q ∈ L, free q.base) (hF : va_F A1 st₀ t) :
    H.size ≤ T'.heap.size ∧ (∀ q : Nat, q < H.size → ¬ A1 q → T'.heap[q]? = H[q]?) ∧ va_S A0 H0 T'.heap (locs ++ L) := by
  obtain ⟨hz, hk⟩ := hF
  rw [h0] at hz hk
  exact ⟨by rw [e1]; exact hz, fun q h1 h2 => by rw [e1]; exact hk q h1 h2,
    ⟨Nat.le_trans hS.1 (by rw [e1]; exact hz), fun q h1 h2 => by rw [e1, hk q (Nat.lt_of_lt_of_le h1 hS.1) (fun z => h2 (hA q (Nat.lt_of_lt_of_le h1 hS.1) z))]; exact hS.2.1 q h1 h2, fun q hq => by
      rcases List.mem_append.mp hq with h | h
      · exact hS.2.2 q h
      · exact hf _ (hL q h)⟩⟩
theorem vx_calli {S SX : Type} {post : Int32 → S → Prop} {px : SX → Prop} {B : S → State → Prop} {BX : String → SX → State → Prop} {AX : Nat → Prop} (hr : vx_Run p l e R s m args below meth c H locs cells slots mc ms (F0 m pc ls st0) rest (va_Qi post B A1 a) (vx_X px BX AX) free) (hS : va_S A0 H0 H locs) (hA : ∀ q, q < H.size → A1 q → A0 q) (hf : ∀ q, free q → A0 q) (hAX : ∀ q, q < H.size → AX q → A0 q)
    (kx : ∀ (E : String) (ce : Cell) (q9 : Addr) (u : SX) (t : State) (H1 : Heap) (locs1 : List Loc), t.heap = H1 → s.vm.Alike t.vm → px u → BX E u t → H.size ≤ H1.size → (∀ q : Nat, q < H.size → ¬ AX q → H1[q]? = H[q]?) → va_S A0 H0 H1 locs1 → H1[q9]? = some ce → ce.vm = .none → s.vm.findClass E = some ce.cls → vx_W p l e R s m args below meth c H1 locs1 (cells + mc) (slots + ms) Q (F0 m pc ls rest) q9)
    (kk : ∀ (r : Int32) (u : S) (t : State) (H1 : Heap) (locs1 : List Loc), t.heap = H1 → s.vm.Alike t.vm → post r u → B u t → H.size ≤ H1.size → (∀ q : Nat, q < H.size → ¬ A1 q → H1[q]? = H[q]?) → va_S A0 H0 H1 locs1 → W p l e R s m args below meth c H1 locs1 (cells + mc) (slots + ms) Q (F0 m (pc + 3) ls (.int r :: rest))) : W p l e R s m args below meth c H locs cells slots Q (F0 m pc ls st0) := by
  intro T hT X
  rcases hr T hT X with ⟨v, st₀, t, T', L, h0, X', hL, e1, e2, ⟨⟨r, u, hv, hp, hb⟩, hF⟩, st⟩ | ⟨q, st₀, t, T', L, E, ce, h0, X', hL, e1, e2, ⟨u, hp, hb, hF⟩, hce, hcv, hcl, st⟩
  · cases hv
    obtain ⟨k1, k2, k3⟩ := vx_keep h0 e1 hS hA hf hL hF
    obtain ⟨t2, a1, b1⟩ := kk r u t T'.heap (locs ++ L) e1.symm (by rw [← e2]; exact X'.warmed.alike) hp hb k1 k2 k3 T' rfl X'
    exact ⟨t2, st t2 a1, b1⟩
  · obtain ⟨k1, k2, k3⟩ := vx_keep h0 e1 hS hAX hf hL hF
    obtain ⟨t2, a1, b1⟩ := kx E ce q u t T'.heap (locs ++ L) e1.symm (by rw [← e2]; exact X'.warmed.alike) hp hb k1 k2 k3 (by rw [e1]; exact hce) hcv hcl T' rfl X'
    exact ⟨t2, st.trans a1, b1⟩
theorem vx_calll {S SX : Type} {post : Int64 → S → Prop} {px : SX → Prop} {B : S → State → Prop} {BX : String → SX → State → Prop} {AX : Nat → Prop} (hr : vx_Run p l e R s m args below meth c H locs cells slots mc ms (F0 m pc ls st0) rest (va_Ql post B A1 a) (vx_X px BX AX) free) (hS : va_S A0 H0 H locs) (hA : ∀ q, q < H.size → A1 q → A0 q) (hf : ∀ q, free q → A0 q) (hAX : ∀ q, q < H.size → AX q → A0 q)
    (kx : ∀ (E : String) (ce : Cell) (q9 : Addr) (u : SX) (t : State) (H1 : Heap) (locs1 : List Loc), t.heap = H1 → s.vm.Alike t.vm → px u → BX E u t → H.size ≤ H1.size → (∀ q : Nat, q < H.size → ¬ AX q → H1[q]? = H[q]?) → va_S A0 H0 H1 locs1 → H1[q9]? = some ce → ce.vm = .none → s.vm.findClass E = some ce.cls → vx_W p l e R s m args below meth c H1 locs1 (cells + mc) (slots + ms) Q (F0 m pc ls rest) q9)
    (kk : ∀ (r : Int64) (u : S) (t : State) (H1 : Heap) (locs1 : List Loc), t.heap = H1 → s.vm.Alike t.vm → post r u → B u t → H.size ≤ H1.size → (∀ q : Nat, q < H.size → ¬ A1 q → H1[q]? = H[q]?) → va_S A0 H0 H1 locs1 → W p l e R s m args below meth c H1 locs1 (cells + mc) (slots + ms) Q (F0 m (pc + 3) ls (.long r :: rest))) : W p l e R s m args below meth c H locs cells slots Q (F0 m pc ls st0) := by
  intro T hT X
  rcases hr T hT X with ⟨v, st₀, t, T', L, h0, X', hL, e1, e2, ⟨⟨r, u, hv, hp, hb⟩, hF⟩, st⟩ | ⟨q, st₀, t, T', L, E, ce, h0, X', hL, e1, e2, ⟨u, hp, hb, hF⟩, hce, hcv, hcl, st⟩
  · cases hv
    obtain ⟨k1, k2, k3⟩ := vx_keep h0 e1 hS hA hf hL hF
    obtain ⟨t2, a1, b1⟩ := kk r u t T'.heap (locs ++ L) e1.symm (by rw [← e2]; exact X'.warmed.alike) hp hb k1 k2 k3 T' rfl X'
    exact ⟨t2, st t2 a1, b1⟩
  · obtain ⟨k1, k2, k3⟩ := vx_keep h0 e1 hS hAX hf hL hF
    obtain ⟨t2, a1, b1⟩ := kx E ce q u t T'.heap (locs ++ L) e1.symm (by rw [← e2]; exact X'.warmed.alike) hp hb k1 k2 k3 (by rw [e1]; exact hce) hcv hcl T' rfl X'
    exact ⟨t2, st.trans a1, b1⟩
theorem vx_callf {S SX : Type} {post : UInt32 → S → Prop} {px : SX → Prop} {B : S → State → Prop} {BX : String → SX → State → Prop} {AX : Nat → Prop} (hr : vx_Run p l e R s m args below meth c H locs cells slots mc ms (F0 m pc ls st0) rest (va_Qf post B A1 a) (vx_X px BX AX) free) (hS : va_S A0 H0 H locs) (hA : ∀ q, q < H.size → A1 q → A0 q) (hf : ∀ q, free q → A0 q) (hAX : ∀ q, q < H.size → AX q → A0 q)
    (kx : ∀ (E : String) (ce : Cell) (q9 : Addr) (u : SX) (t : State) (H1 : Heap) (locs1 : List Loc), t.heap = H1 → s.vm.Alike t.vm → px u → BX E u t → H.size ≤ H1.size → (∀ q : Nat, q < H.size → ¬ AX q → H1[q]? = H[q]?) → va_S A0 H0 H1 locs1 → H1[q9]? = some ce → ce.vm = .none → s.vm.findClass E = some ce.cls → vx_W p l e R s m args below meth c H1 locs1 (cells + mc) (slots + ms) Q (F0 m pc ls rest) q9)
    (kk : ∀ (r : UInt32) (u : S) (t : State) (H1 : Heap) (locs1 : List Loc), t.heap = H1 → s.vm.Alike t.vm → post r u → B u t → H.size ≤ H1.size → (∀ q : Nat, q < H.size → ¬ A1 q → H1[q]? = H[q]?) → va_S A0 H0 H1 locs1 → W p l e R s m args below meth c H1 locs1 (cells + mc) (slots + ms) Q (F0 m (pc + 3) ls (.float r :: rest))) : W p l e R s m args below meth c H locs cells slots Q (F0 m pc ls st0) := by
  intro T hT X
  rcases hr T hT X with ⟨v, st₀, t, T', L, h0, X', hL, e1, e2, ⟨⟨r, u, hv, hp, hb⟩, hF⟩, st⟩ | ⟨q, st₀, t, T', L, E, ce, h0, X', hL, e1, e2, ⟨u, hp, hb, hF⟩, hce, hcv, hcl, st⟩
  · cases hv
    obtain ⟨k1, k2, k3⟩ := vx_keep h0 e1 hS hA hf hL hF
    obtain ⟨t2, a1, b1⟩ := kk r u t T'.heap (locs ++ L) e1.symm (by rw [← e2]; exact X'.warmed.alike) hp hb k1 k2 k3 T' rfl X'
    exact ⟨t2, st t2 a1, b1⟩
  · obtain ⟨k1, k2, k3⟩ := vx_keep h0 e1 hS hAX hf hL hF
    obtain ⟨t2, a1, b1⟩ := kx E ce q u t T'.heap (locs ++ L) e1.symm (by rw [← e2]; exact X'.warmed.alike) hp hb k1 k2 k3 (by rw [e1]; exact hce) hcv hcl T' rfl X'
    exact ⟨t2, st.trans a1, b1⟩
theorem vx_calld {S SX : Type} {post : UInt64 → S → Prop} {px : SX → Prop} {B : S → State → Prop} {BX : String → SX → State → Prop} {AX : Nat → Prop} (hr : vx_Run p l e R s m args below meth c H locs cells slots mc ms (F0 m pc ls st0) rest (va_Qd post B A1 a) (vx_X px BX AX) free) (hS : va_S A0 H0 H locs) (hA : ∀ q, q < H.size → A1 q → A0 q) (hf : ∀ q, free q → A0 q) (hAX : ∀ q, q < H.size → AX q → A0 q)
    (kx : ∀ (E : String) (ce : Cell) (q9 : Addr) (u : SX) (t : State) (H1 : Heap) (locs1 : List Loc), t.heap = H1 → s.vm.Alike t.vm → px u → BX E u t → H.size ≤ H1.size → (∀ q : Nat, q < H.size → ¬ AX q → H1[q]? = H[q]?) → va_S A0 H0 H1 locs1 → H1[q9]? = some ce → ce.vm = .none → s.vm.findClass E = some ce.cls → vx_W p l e R s m args below meth c H1 locs1 (cells + mc) (slots + ms) Q (F0 m pc ls rest) q9)
    (kk : ∀ (r : UInt64) (u : S) (t : State) (H1 : Heap) (locs1 : List Loc), t.heap = H1 → s.vm.Alike t.vm → post r u → B u t → H.size ≤ H1.size → (∀ q : Nat, q < H.size → ¬ A1 q → H1[q]? = H[q]?) → va_S A0 H0 H1 locs1 → W p l e R s m args below meth c H1 locs1 (cells + mc) (slots + ms) Q (F0 m (pc + 3) ls (.double r :: rest))) : W p l e R s m args below meth c H locs cells slots Q (F0 m pc ls st0) := by
  intro T hT X
  rcases hr T hT X with ⟨v, st₀, t, T', L, h0, X', hL, e1, e2, ⟨⟨r, u, hv, hp, hb⟩, hF⟩, st⟩ | ⟨q, st₀, t, T', L, E, ce, h0, X', hL, e1, e2, ⟨u, hp, hb, hF⟩, hce, hcv, hcl, st⟩
  · cases hv
    obtain ⟨k1, k2, k3⟩ := vx_keep h0 e1 hS hA hf hL hF
    obtain ⟨t2, a1, b1⟩ := kk r u t T'.heap (locs ++ L) e1.symm (by rw [← e2]; exact X'.warmed.alike) hp hb k1 k2 k3 T' rfl X'
    exact ⟨t2, st t2 a1, b1⟩
  · obtain ⟨k1, k2, k3⟩ := vx_keep h0 e1 hS hAX hf hL hF
    obtain ⟨t2, a1, b1⟩ := kx E ce q u t T'.heap (locs ++ L) e1.symm (by rw [← e2]; exact X'.warmed.alike) hp hb k1 k2 k3 (by rw [e1]; exact hce) hcv hcl T' rfl X'
    exact ⟨t2, st.trans a1, b1⟩
theorem vx_callv {S SX : Type} {post : S → Prop} {px : SX → Prop} {B : S → State → Prop} {BX : String → SX → State → Prop} {AX : Nat → Prop} (hr : vx_Run p l e R s m args below meth c H locs cells slots mc ms (F0 m pc ls st0) rest (va_Qv post B A1 a) (vx_X px BX AX) free) (hS : va_S A0 H0 H locs) (hA : ∀ q, q < H.size → A1 q → A0 q) (hf : ∀ q, free q → A0 q) (hAX : ∀ q, q < H.size → AX q → A0 q)
    (kx : ∀ (E : String) (ce : Cell) (q9 : Addr) (u : SX) (t : State) (H1 : Heap) (locs1 : List Loc), t.heap = H1 → s.vm.Alike t.vm → px u → BX E u t → H.size ≤ H1.size → (∀ q : Nat, q < H.size → ¬ AX q → H1[q]? = H[q]?) → va_S A0 H0 H1 locs1 → H1[q9]? = some ce → ce.vm = .none → s.vm.findClass E = some ce.cls → vx_W p l e R s m args below meth c H1 locs1 (cells + mc) (slots + ms) Q (F0 m pc ls rest) q9)
    (kk : ∀ (u : S) (t : State) (H1 : Heap) (locs1 : List Loc), t.heap = H1 → s.vm.Alike t.vm → post u → B u t → H.size ≤ H1.size → (∀ q : Nat, q < H.size → ¬ A1 q → H1[q]? = H[q]?) → va_S A0 H0 H1 locs1 → W p l e R s m args below meth c H1 locs1 (cells + mc) (slots + ms) Q (F0 m (pc + 3) ls (rest))) : W p l e R s m args below meth c H locs cells slots Q (F0 m pc ls st0) := by
  intro T hT X
  rcases hr T hT X with ⟨v, st₀, t, T', L, h0, X', hL, e1, e2, ⟨⟨u, hv, hp, hb⟩, hF⟩, st⟩ | ⟨q, st₀, t, T', L, E, ce, h0, X', hL, e1, e2, ⟨u, hp, hb, hF⟩, hce, hcv, hcl, st⟩
  · cases hv
    obtain ⟨k1, k2, k3⟩ := vx_keep h0 e1 hS hA hf hL hF
    obtain ⟨t2, a1, b1⟩ := kk u t T'.heap (locs ++ L) e1.symm (by rw [← e2]; exact X'.warmed.alike) hp hb k1 k2 k3 T' rfl X'
    exact ⟨t2, st t2 a1, b1⟩
  · obtain ⟨k1, k2, k3⟩ := vx_keep h0 e1 hS hAX hf hL hF
    obtain ⟨t2, a1, b1⟩ := kx E ce q u t T'.heap (locs ++ L) e1.symm (by rw [← e2]; exact X'.warmed.alike) hp hb k1 k2 k3 (by rw [e1]; exact hce) hcv hcl T' rfl X'
    exact ⟨t2, st.trans a1, b1⟩
end Rows
section Ends
variable {p : Program} {l : Launch} {e : Env} {R : Room} {s : State} {m : MethodId} {args : Array Value} {below : List Frame} {meth : Method} {c : Code} {H : Heap} {locs : List Loc} {cells slots : Nat} {Q : State → Prop}
variable {mc ms : Nat} {free : Addr → Prop} {A0 A1 : Nat → Prop} {H0 : Heap} {a : Array Value} {ls : Array Slot} {st0 rest : List Value}
variable {Qc : Array Value → State → Outcome → State → Prop} {XC : String → State → State → Prop}
/-- what a body that may throw owes at its end -/
def vx_MQ (below : List Frame) (Qc : Array Value → State → Outcome → State → Prop) (XC : String → State → State → Prop) (a : Array Value) (s : State) (mc ms : Nat) (free : Addr → Prop) : State → Prop := fun t =>
  ∃ o, t.status = .running ∧ Ended t below o ∧ vx_Q Qc XC mc ms free a s o t
theorem vx_ret {g : JFrame} {mc ms : Nat} (k : W p l e R s m args below meth c H locs cells slots (MQ below Qc args s mc ms free) g) : W p l e R s m args below meth c H locs cells slots (vx_MQ below Qc XC args s mc ms free) g := by
  intro T hT X
  obtain ⟨t, a1, o, b1, b2, b3, b4⟩ := k T hT X
  exact ⟨t, a1, o, b1, b2, Or.inl ⟨b3, b4⟩⟩
/-- not caught here: it goes on to the caller -/
theorem vx_widen {g : JFrame} {q : Addr} {k n : Nat} (h1 : cells ≤ k) (h2 : slots ≤ n) (kk : vx_W p l e R s m args below meth c H locs k n Q g q) : vx_W p l e R s m args below meth c H locs cells slots Q g q := fun T hT X => kk T hT (stand_widen X h1 h2)
theorem vx_out {pc : Nat} {E : String} {ce : Cell} {q : Addr} {mc ms : Nat} (hout : ∀ x ∈ c.exceptionTable.toList, covers x pc = false) (hlocks : meth.locks = false) (hcell : H[q]? = some ce) (hv : ce.vm = .none) (hcl : s.vm.findClass E = some ce.cls)
    (hx : ∀ t : State, t.heap = H → s.vm.Alike t.vm → XC E s t) (hf : ∀ z ∈ locs, free z.base) (hc : cells ≤ mc) (hs : slots ≤ ms) :
    vx_W p l e R s m args below meth c H locs cells slots (vx_MQ below Qc XC args s mc ms free) (F0 m pc ls rest) q := by
  intro T hT X
  obtain ⟨st1, hrun, hend, hW, hsm⟩ := X.leaveThrown q (g := F0 m pc ls rest) rfl rfl rfl hout hlocks
  have hcell9 : (T.setFrames (.throwing q :: below)).heap[q]? = some ce := by
    show T.heap[q]? = some ce
    rw [hT]; exact hcell
  exact ⟨_, st1, .threw q, hrun, hend, Or.inr ⟨q, rfl, E, ce, locs, hx _ hT hW.alike, hcell9, hv, hcl, hW, hsm.mono hc hs, hf⟩⟩
theorem vx_frame {U : State} {k n : Nat} (h : s.sameButNew ({ U with vm := s.vm } : State) locs k n) : s.heap.size ≤ U.heap.size ∧ ∀ q : Nat, q < s.heap.size → (∀ z ∈ locs, z.base ≠ q) → U.heap[q]? = s.heap[q]? := by
  obtain ⟨-, h2, -, -, -, h6⟩ := h
  refine ⟨h2, fun q hq hz => ?_⟩
  obtain ⟨c9, e1, e2, e3, e4⟩ := h6 q _ (Array.getElem?_eq_getElem hq)
  have hs : c9.slots = (s.heap[q]).slots := Array.ext_getElem? fun i => e4 i fun hm => hz _ hm rfl
  have h9 : c9 = s.heap[q] := by
    rw [hs] at e2
    exact e2
  have e5 : U.heap[q]? = some c9 := e1
  rw [e5, h9, Array.getElem?_eq_getElem hq]
/-- the words of a throw but the four that speak of the heap -/
def vx_no (w : Cond) : Bool := decide (w ≠ .isRef (.static Bundle.tN "UNASSIGNED_STACK" Bundle.steD)) && decide (w ≠ .isRef (.static Bundle.tN "SUPPRESSED_SENTINEL" Bundle.listD)) && decide (w ≠ .laysStatic Bundle.tN "UNASSIGNED_STACK" Bundle.steD) && decide (w ≠ .laysStatic Bundle.tN "SUPPRESSED_SENTINEL" Bundle.listD)
def vx_at0 (own : String) (ic : Nat) (X : String) (names : List String) : List Cond := (Bundle.ownAtoms0 own ic X names).filter vx_no
def vx_atS (own : String) (ic : Nat) (X : String) (names : List String) : List Cond := (Bundle.ownAtoms own ic X names).filter vx_no
/-- a word that the tables alone decide, or a good one -/
def vx_ot (w : Cond) : Bool := w.onTables || goodWord w
theorem vx_ot_at {args a' : Array Value} {s U : State} {w : Cond} (hW : s.WarmedH U.vm) (hvm : s.vm = U.vm) (hg : vx_ot w = true) (h : w.before args s = true) : w.before a' U = true := by
  simp only [vx_ot, Bool.or_eq_true] at hg
  rcases hg with hg | hg
  · exact va_tabs hg hvm h
  · exact word_at hW (good_of_word hg) h
/-- a list's words: the good ones out of the method's own list, the others by premises of their own -/
theorem vx_hat {args : Array Value} {s : State} {L B : List Cond} (h1 : ∀ w ∈ L.filter goodWord, w.before args s = true) (h2 : ∀ w ∈ L.filter (fun w => !goodWord w), w ∈ B) (h3 : ∀ w ∈ B, w.before args s = true) : ∀ w ∈ L, w.before args s = true := by
  intro w hw
  by_cases g : goodWord w = true
  · exact h1 w (List.mem_filter.mpr ⟨hw, g⟩)
  · refine h3 w (h2 w (List.mem_filter.mpr ⟨hw, ?_⟩))
    show (!goodWord w) = true
    cases hgw : goodWord w
    · rfl
    · exact absurd hgw g
theorem vx_c {args : Array Value} {s : State} {w : Cond} {B : List Cond} (h : w.before args s = true) (t : ∀ w ∈ B, w.before args s = true) : ∀ w' ∈ w :: B, w'.before args s = true := fun w' h' => (List.mem_cons.mp h').elim (fun e => by rw [e]; exact h) (t w')
theorem vx_n {args : Array Value} {s : State} : ∀ w ∈ ([] : List Cond), w.before args s = true := fun _ h => nomatch h
theorem vx_own {args : Array Value} {s : State} {L : List Cond} (h1 : ∀ w ∈ L.filter vx_no, w.before args s = true)
    (hU : (Cond.isRef (.static Bundle.tN "UNASSIGNED_STACK" Bundle.steD)).before args s = true) (hN : (Cond.isRef (.static Bundle.tN "SUPPRESSED_SENTINEL" Bundle.listD)).before args s = true)
    (lU : (Cond.laysStatic Bundle.tN "UNASSIGNED_STACK" Bundle.steD).before args s = true) (lN : (Cond.laysStatic Bundle.tN "SUPPRESSED_SENTINEL" Bundle.listD).before args s = true) : ∀ w ∈ L, w.before args s = true := by
  intro w hw
  by_cases e1 : w = .isRef (.static Bundle.tN "UNASSIGNED_STACK" Bundle.steD)
  · rw [e1]; exact hU
  · by_cases e2 : w = .isRef (.static Bundle.tN "SUPPRESSED_SENTINEL" Bundle.listD)
    · rw [e2]; exact hN
    · by_cases e3 : w = .laysStatic Bundle.tN "UNASSIGNED_STACK" Bundle.steD
      · rw [e3]; exact lU
      · by_cases e4 : w = .laysStatic Bundle.tN "SUPPRESSED_SENTINEL" Bundle.listD
        · rw [e4]; exact lN
        · exact h1 w (List.mem_filter.mpr ⟨hw, by unfold vx_no; rw [decide_eq_true e1, decide_eq_true e2, decide_eq_true e3, decide_eq_true e4]; rfl⟩)
/-- where a static field lies, its class's statics cell in H -/
def vx_L (C n d : String) (A : Nat → Prop) (U : State) (H : Heap) : Prop := ∃ (c : ClassId) (k : Class) (i : Nat) (f : Field) (a : Nat) (cell : Cell), U.vm.findClass C = some c ∧ U.fieldFound? C n d = some (c, k, i, f) ∧ f.isStatic = true ∧ k.statics = some a ∧ H[a]? = some cell ∧ cell.vm.isStatics = true ∧ cell.cls = c ∧ f.slot < cell.slots.size ∧ k.staticTypes[f.slot]? = some f.type ∧ ¬ A a
theorem vx_L.moved {C n d : String} {A : Nat → Prop} {u U : State} {H : Heap} (hvm : u.vm.Alike U.vm) (h : vx_L C n d A u H) : vx_L C n d A U H := by
  obtain ⟨c, k, i, f, a, cell, h1, h2, h3, h4, h5, h6, h7, h8, h9, h10⟩ := h
  obtain ⟨k', hi', he⟩ := State.fieldFound?_setVm hvm h2
  exact ⟨c, k', i, f, a, cell, by rw [hvm.findClass]; exact h1, hi', h3, by rw [he]; exact h4, h5, h6, h7, h8, by rw [he]; exact h9, h10⟩
theorem vx_L.kept {C n d : String} {A : Nat → Prop} {U : State} {H H1 : Heap} (h : vx_L C n d A U H) (hq : ∀ a : Nat, a < H.size → ¬ A a → H1[a]? = H[a]?) : vx_L C n d A U H1 := by
  obtain ⟨c, k, i, f, a, cell, h1, h2, h3, h4, h5, h6, h7, h8, h9, h10⟩ := h
  exact ⟨c, k, i, f, a, cell, h1, h2, h3, h4, by rw [hq a (Array.getElem?_eq_some_iff.mp h5).1 h10]; exact h5, h6, h7, h8, h9, h10⟩
theorem vx_L.narrow {C n d : String} {A B : Nat → Prop} {U : State} {H : Heap} (h : vx_L C n d A U H) (hAB : ∀ q, B q → A q) : vx_L C n d B U H := by
  obtain ⟨c, k, i, f, a, cell, h1, h2, h3, h4, h5, h6, h7, h8, h9, h10⟩ := h
  exact ⟨c, k, i, f, a, cell, h1, h2, h3, h4, h5, h6, h7, h8, h9, fun z => h10 (hAB _ z)⟩
theorem vx_L.word {C n d : String} {A : Nat → Prop} {s : State} {args : Array Value} (h : vx_L C n d A s s.heap) : (Cond.laysStatic C n d).before args s = true := by
  obtain ⟨c, k, i, f, a, cell, h1, h2, h3, h4, h5, h6, h7, h8, h9, -⟩ := h
  show (Cond.laysStatic C n d).holds args s none s [] = true
  exact Cond.laysStatic_of h1 h2 h3 h4 h5 h6 h7 h8 h9
/-- .. and what it holds: null or some reference -/
def vx_Zq (C n d : String) (A : Nat → Prop) (U : State) (H : Heap) : Prop := va_Zq C n d A U H ∧ vx_L C n d A U H
theorem vx_Zq.moved {C n d : String} {A : Nat → Prop} {u U : State} {H : Heap} (hvm : u.vm.Alike U.vm) (h : vx_Zq C n d A u H) : vx_Zq C n d A U H := ⟨va_Zq.moved hvm h.1, vx_L.moved hvm h.2⟩
theorem vx_Zq.kept {C n d : String} {A : Nat → Prop} {U : State} {H H1 : Heap} (h : vx_Zq C n d A U H) (hq : ∀ a : Nat, a < H.size → ¬ A a → H1[a]? = H[a]?) : vx_Zq C n d A U H1 := ⟨va_Zq.kept h.1 hq, vx_L.kept h.2 hq⟩
theorem vx_Zq.narrow {C n d : String} {A B : Nat → Prop} {U : State} {H : Heap} (h : vx_Zq C n d A U H) (hAB : ∀ q, B q → A q) : vx_Zq C n d B U H := ⟨va_Zq.narrow h.1 hAB, vx_L.narrow h.2 hAB⟩
theorem vx_Zqof {args : Array Value} {s : State} {C n d : String} {A : Nat → Prop} (hl : (Cond.laysStatic C n d).before args s = true) (hini : (Cond.initialized C).before args s = true) (h : (Cond.isRef (.static C n d)).before args s = true) (hA : ∀ a : Nat, a < s.heap.size → ¬ A a) : vx_Zq C n d A s s.heap := by
  refine ⟨va_Zqof hl hini h hA, ?_⟩
  obtain ⟨c, k, i, f, a, cell, h1, h2, h3, h4, h5, h6, h7, h8, h9⟩ := Cond.laysStatic_spec hl
  exact ⟨c, k, i, f, a, cell, h1, h2, h3, h4, h5, h6, h7, h8, h9, hA a (Array.getElem?_eq_some_iff.mp h5).1⟩
theorem vx_isRef {C n d : String} {v : Value} {A : Nat → Prop} {s : State} {args : Array Value} (h : va_Z C n d v A s s.heap) (hv : v.isRef = true) : (Cond.isRef (.static C n d)).before args s = true := by
  obtain ⟨cf, kf, fi, f, a, cell, h1, h2, h3, h4, h5, h6, h7, -⟩ := h
  have he : (Term.static C n d).eval args s none [] s = some v := by
    simp [Term.eval, State.fieldNamed?, h1, h2, h4, h5, h6, h7]
  simp only [Cond.before, Cond.holds, Cond.value, he]
  cases v <;> simp_all [Value.isRef]
theorem vx_isRefq {C n d : String} {A : Nat → Prop} {s : State} {args : Array Value} (h : va_Zq C n d A s s.heap) : (Cond.isRef (.static C n d)).before args s = true := by
  rcases h with h | ⟨t, h⟩
  · exact vx_isRef h rfl
  · exact vx_isRef h rfl
/-- the same frame, seen from here: as if the method were called anew in this heap -/
theorem vx_rebase {T : State} (X : Stand p l e R s m args below meth c T locs cells slots) {R' : Room} (hf : R'.frames ≤ R.frames) (hl : R'.locals ≤ R.locals) (hc : cells + R'.cells ≤ R.cells) (hs : slots + R'.slots ≤ R.slots) :
    Stand p l e R' ((T.setVm s.vm).setFrames (.invoking m args :: below)) m args below meth c T [] 0 0 := by
  have htop : (T.setVm s.vm).topJava?.isSome := X.here.top
  have hF : ((T.setVm s.vm).setFrames (.invoking m args :: below)).frames = .invoking m args :: below := State.frames_setFrames _ (State.cur_lt_of_top htop)
  obtain ⟨g₀, hg0⟩ := Option.isSome_iff_exists.mp htop
  obtain ⟨r, hr⟩ := State.topJava?_eq_some.mp hg0
  have hl9 : e.platform.stackLimits (T.setVm s.vm).me = e.platform.stackLimits s.me := X.limits
  have hb9 : (T.setVm s.vm).me.stackBytes = s.me.stackBytes := X.bytes
  refine ⟨X.admits, X.cas, X.clock, hF, ?_, X.hears, X.method, X.code, X.here, X.tail, X.warmed, ?_, ?_, ?_⟩
  · have h := X.room
    have hU : ((T.setVm s.vm).setFrames (.invoking m args :: below)).localsInUse = s.localsInUse := by
      rw [State.localsInUse_invoking hF (meth := meth) (c := c) X.method X.code, State.localsInUse_invoking X.frames X.method X.code]
    simp only [State.hasRoom, Bool.and_eq_true, decide_eq_true_eq] at h ⊢
    obtain ⟨⟨⟨⟨h1, h2, h3, h4, h5, h6⟩, h7⟩, h8⟩, h9⟩ := h
    rw [X.frames, List.length_cons] at h2 h3
    have q1 := X.heapSize
    have q2 := X.used
    simp only [hF, hU, List.length_cons, State.stackLimits_setFrames, State.stackBytes_setFrames, hl9, hb9]
    refine ⟨⟨⟨⟨by omega, by omega, by omega, by omega, by omega, h6⟩, ?_⟩, ?_⟩, X.book⟩
    · show T.heap.size + R'.cells ≤ e.platform.maxCells
      omega
    · show T.slotsUsed + R'.slots ≤ e.platform.maxSlots
      omega
  · rw [State.stackLimits_setFrames]; rfl
  · rw [State.stackBytes_setFrames]; rfl
  · refine ⟨?_, Nat.le_refl _, Nat.le_refl _, ?_, ?_, fun a c9 h9 => ⟨c9, h9, rfl, rfl, fun _ _ => rfl⟩⟩
    · obtain ⟨t, ht, -⟩ := State.frames_cons hr
      show T.setVm s.vm = { ((T.setVm s.vm).setFrames (.invoking m args :: below)).setFrames (T.setVm s.vm).frames with heap := T.heap, slotsUsed := T.slotsUsed }
      rw [State.setFrames_setFrames, State.setFrames_self ht]
      rfl
    · show T.slotsUsed = T.slotsUsed + ((T.heap.toList.drop T.heap.size).map (·.slots.size)).sum
      rw [List.drop_eq_nil_of_le (Nat.le_of_eq Array.length_toList)]
      rfl
    · show ((T.heap.toList.drop T.heap.size).map (·.slots.size)).sum ≤ 0
      rw [List.drop_eq_nil_of_le (Nat.le_of_eq Array.length_toList)]
      exact Nat.le_refl _
/-- 'throw new E()': new; dup; invokespecial; athrow -/
theorem vx_throw0 {cc : ByteArray} {pc : Nat} (hexec : p.tables.exec = Jvm.exec) (hb : c.code = cc) (hl : l.stackTraces = false) {own cls : String} {names : List String} {ik ic mc ms : Nat} {A : Nat → Prop}
    (hown : s.vm.findClass own = some m.cls) (hcls : Bundle.fit cls = true) (hnames : ∀ n ∈ names, Bundle.fit n = true)
    (hk : (Cond.classLink own ik cls).before args s = true) (hini : (Cond.initialized cls).before args s = true) (hat : ∀ w ∈ vx_at0 own ic cls names, w.before args s = true)
    (hgood : ∀ w ∈ Cond.classLink own ik cls :: Cond.initialized cls :: vx_at0 own ic cls names, vx_ot w = true)
    (hU : vx_Zq Bundle.tN "UNASSIGNED_STACK" Bundle.steD A s s.heap) (hN : vx_Zq Bundle.tN "SUPPRESSED_SENTINEL" Bundle.listD A s s.heap) (hS : va_S A s.heap H locs) (hsize : ls.size = c.maxLocals)
    (d0 : decode cc pc = .ok (.new ik, 3)) (d3 : decode cc (pc + 3) = .ok (.dup, 1)) (d4 : decode cc (pc + 4) = .ok (.invokespecial ic, 3)) (d7 : decode cc (pc + 7) = .ok (.athrow, 1))
    (hout : ∀ x ∈ c.exceptionTable.toList, covers x (pc + 7) = false)
    (hRframes : names.length + 3 < R.frames) (hRlocals : (rest.map fun v => v.category).sum + (13 * (names.length + 1) + 42) ≤ R.locals) (hRcells : cells + 1 ≤ R.cells) (hRslots : slots + 6 ≤ R.slots) (hlocks : meth.locks = false)
    (hx : ∀ t : State, s.vm.Alike t.vm → H.size ≤ t.heap.size → (∀ q : Nat, q < H.size → t.heap[q]? = H[q]?) → XC cls s t)
    (hf : ∀ z ∈ locs, free z.base) (hc : cells + 1 ≤ mc) (hs : slots + 6 ≤ ms) :
    W p l e R s m args below meth c H locs cells slots (vx_MQ below Qc XC args s mc ms free) (F0 m pc ls rest) := by
  intro T hT X
  have htr : e.platform.stackTraces = false := (show e.platform.stackTraces = l.stackTraces by rw [X.admits.platform]).trans hl
  have Y := vx_rebase X (R' := { frames := R.frames, locals := R.locals, cells := 1, slots := 6 }) (Nat.le_refl _) (Nat.le_refl _) hRcells hRslots
  obtain ⟨s', hA⟩ : ∃ z, z = (T.setVm s.vm).setFrames (.invoking m args :: below) := ⟨_, rfl⟩
  rw [← hA] at Y
  have hvm : s'.vm = s.vm := by rw [hA]; rfl
  have hhp : s'.heap = H := by rw [hA]; exact hT
  have hW0 : s.WarmedH s'.vm := by rw [hvm]; exact State.WarmedH.refl s
  have hat' : ∀ w ∈ vx_at0 own ic cls names, w.before args s' = true := fun w hw => vx_ot_at hW0 hvm.symm (hgood w (List.mem_cons_of_mem _ (List.mem_cons_of_mem _ hw))) (hat w hw)
  have hk' : (Cond.classLink own ik cls).before args s' = true := vx_ot_at hW0 hvm.symm (hgood _ List.mem_cons_self) hk
  have hini' : (Cond.initialized cls).before args s' = true := vx_ot_at hW0 hvm.symm (hgood _ (List.mem_cons_of_mem _ List.mem_cons_self)) hini
  have hU' : vx_Zq Bundle.tN "UNASSIGNED_STACK" Bundle.steD A s' s'.heap := by rw [hhp]; exact vx_Zq.moved hW0.alike (hU.kept hS.2.1)
  have hN' : vx_Zq Bundle.tN "SUPPRESSED_SENTINEL" Bundle.listD A s' s'.heap := by rw [hhp]; exact vx_Zq.moved hW0.alike (hN.kept hS.2.1)
  have h : ∀ w ∈ Bundle.ownAtoms0 own ic cls names, w.before args s' = true := vx_own hat' (vx_isRefq hU'.1) (vx_isRefq hN'.1) hU'.2.word hN'.2.word
  have hown' : s'.vm.findClass own = some m.cls := by rw [hvm]; exact hown
  have hins : (Cond.instantiable cls 6).before args s' = true := h _ (by simp [Bundle.ownAtoms0])
  obtain ⟨vm₁, cX, kX, hfX, hkX, -, -, X₁, st1⟩ := Y.newCold hexec (own := own) (C := cls) (index := ik) (n := 6) hown' hk' hins hini'
    (g := F0 m pc ls rest) rfl (by rw [hb]; exact d0) (Nat.le_refl _) (Nat.le_refl _)
  generalize hT1 : (T.setVm vm₁).pushCell { cls := cX, slots := kX.instanceTypes.map defaultValue, vm := .none } = T1 at X₁ st1
  have hcat : (Value.ref T.heap.size).category = 1 := rfl
  have hcellA : T1.heap[T.heap.size]? = some (freshCell cX kX) := by rw [← hT1]; exact State.heap_pushCell_size _ _
  have d3' : decode c.code (pc + 3) = .ok (.dup, 1) := by rw [hb]; exact d3
  obtain ⟨U, hsteps, hrun, hend, hW, hsame, ce, hce, hO⟩ := X₁.ctorThrow0 hexec htr (own := own) (cls := cls) (names := names) (ic := ic) hown' hcls hnames h (fun x hx => nomatch hx) hfX hkX hcellA (by rw [hhp, hT]; exact Nat.le_refl _)
    (g := { method := m, pc := pc + 4, locals := ls, stack := .ref T.heap.size :: .ref T.heap.size :: rest, locked := none }) rfl hsize rfl rfl (rest := rest) rfl
    (by rw [hb]; exact d4) (by rw [hb]; exact d7) hout hRframes (by simp only [List.map_cons, List.sum_cons, hcat]; omega) hlocks
  obtain ⟨f1, f2⟩ := vx_frame hsame
  rw [hhp] at f1 f2
  have hWs : s.WarmedH U.vm := State.WarmedH.trans hW0 hW
  have hcl : s.vm.findClass cls = some ce.cls := by
    have h9 := hO.cls
    rw [hvm] at h9
    exact h9
  have hall : s.sameButNew ({ U with vm := s.vm } : State) locs mc ms := by
    subst hA
    obtain ⟨e1, e2⟩ := hsame
    rw [State.setFrames_setFrames] at e1
    have h2 : (T.setVm s.vm).sameButNew ({ U with vm := s.vm } : State) [] (0 + 1) (0 + 6) := ⟨e1, e2⟩
    have h3 := X.same.trans h2
    rw [List.append_nil] at h3
    exact h3.mono hc hs
  refine ⟨U, ?_, .threw T.heap.size, hrun, hend, Or.inr ⟨T.heap.size, rfl, cls, ce, locs, hx U hWs.alike f1 (fun q hq => f2 q hq (fun z hz => nomatch hz)), hce, hO.vm, hcl, hWs, hall, hf⟩⟩
  refine st1 _ ?_
  show Steps p.tables e below (T1.setTop { method := m, pc := pc + 3, locals := ls, stack := .ref T.heap.size :: rest, locked := none }) _
  jvm_step X₁.here [X₁.here.top, hexec, d3', Value.category]
  exact hsteps
/-- 'throw new E("text")': new; dup; ldc; invokespecial; athrow -/
theorem vx_throwS {cc : ByteArray} {pc : Nat} (hexec : p.tables.exec = Jvm.exec) (hb : c.code = cc) (hl : l.stackTraces = false) {own cls text : String} {names : List String} {ik is ic mc ms sa : Nat} {A : Nat → Prop}
    (hown : s.vm.findClass own = some m.cls) (hcls : Bundle.fit cls = true) (hnames : ∀ n ∈ names, Bundle.fit n = true)
    (hk : (Cond.classLink own ik cls).before args s = true) (hini : (Cond.initialized cls).before args s = true) (hstr : vk_R own is text sa s) (hat : ∀ w ∈ vx_atS own ic cls names, w.before args s = true)
    (hgood : ∀ w ∈ Cond.classLink own ik cls :: Cond.initialized cls :: vx_atS own ic cls names, vx_ot w = true)
    (hU : vx_Zq Bundle.tN "UNASSIGNED_STACK" Bundle.steD A s s.heap) (hN : vx_Zq Bundle.tN "SUPPRESSED_SENTINEL" Bundle.listD A s s.heap) (hS : va_S A s.heap H locs) (hsize : ls.size = c.maxLocals)
    (d0 : decode cc pc = .ok (.new ik, 3)) (d3 : decode cc (pc + 3) = .ok (.dup, 1)) (d4 : decode cc (pc + 4) = .ok (.ldc is, 2)) (d6 : decode cc (pc + 6) = .ok (.invokespecial ic, 3)) (d9 : decode cc (pc + 9) = .ok (.athrow, 1))
    (hout : ∀ x ∈ c.exceptionTable.toList, covers x (pc + 9) = false)
    (hRframes : names.length + 3 < R.frames) (hRlocals : (rest.map fun v => v.category).sum + (13 * (names.length + 1) + 43) ≤ R.locals) (hRcells : cells + 1 ≤ R.cells) (hRslots : slots + 6 ≤ R.slots) (hlocks : meth.locks = false)
    (hx : ∀ t : State, s.vm.Alike t.vm → H.size ≤ t.heap.size → (∀ q : Nat, q < H.size → t.heap[q]? = H[q]?) → XC cls s t)
    (hf : ∀ z ∈ locs, free z.base) (hc : cells + 1 ≤ mc) (hs : slots + 6 ≤ ms) :
    W p l e R s m args below meth c H locs cells slots (vx_MQ below Qc XC args s mc ms free) (F0 m pc ls rest) := by
  intro T hT X
  have htr : e.platform.stackTraces = false := (show e.platform.stackTraces = l.stackTraces by rw [X.admits.platform]).trans hl
  have Y := vx_rebase X (R' := { frames := R.frames, locals := R.locals, cells := 1, slots := 6 }) (Nat.le_refl _) (Nat.le_refl _) hRcells hRslots
  obtain ⟨s', hA⟩ : ∃ z, z = (T.setVm s.vm).setFrames (.invoking m args :: below) := ⟨_, rfl⟩
  rw [← hA] at Y
  have hvm : s'.vm = s.vm := by rw [hA]; rfl
  have hhp : s'.heap = H := by rw [hA]; exact hT
  have hW0 : s.WarmedH s'.vm := by rw [hvm]; exact State.WarmedH.refl s
  have hat' : ∀ w ∈ vx_atS own ic cls names, w.before args s' = true := fun w hw => vx_ot_at hW0 hvm.symm (hgood w (List.mem_cons_of_mem _ (List.mem_cons_of_mem _ hw))) (hat w hw)
  have hk' : (Cond.classLink own ik cls).before args s' = true := vx_ot_at hW0 hvm.symm (hgood _ List.mem_cons_self) hk
  have hini' : (Cond.initialized cls).before args s' = true := vx_ot_at hW0 hvm.symm (hgood _ (List.mem_cons_of_mem _ List.mem_cons_self)) hini
  have hU' : vx_Zq Bundle.tN "UNASSIGNED_STACK" Bundle.steD A s' s'.heap := by rw [hhp]; exact vx_Zq.moved hW0.alike (hU.kept hS.2.1)
  have hN' : vx_Zq Bundle.tN "SUPPRESSED_SENTINEL" Bundle.listD A s' s'.heap := by rw [hhp]; exact vx_Zq.moved hW0.alike (hN.kept hS.2.1)
  have h : ∀ w ∈ Bundle.ownAtoms own ic cls names, w.before args s' = true := vx_own hat' (vx_isRefq hU'.1) (vx_isRefq hN'.1) hU'.2.word hN'.2.word
  have hown' : s'.vm.findClass own = some m.cls := by rw [hvm]; exact hown
  have hins : (Cond.instantiable cls 6).before args s' = true := h _ (by simp [Bundle.ownAtoms])
  obtain ⟨vm₁, cX, kX, hfX, hkX, -, -, X₁, st1⟩ := Y.newCold hexec (own := own) (C := cls) (index := ik) (n := 6) hown' hk' hins hini'
    (g := F0 m pc ls rest) rfl (by rw [hb]; exact d0) (Nat.le_refl _) (Nat.le_refl _)
  generalize hT1 : (T.setVm vm₁).pushCell { cls := cX, slots := kX.instanceTypes.map defaultValue, vm := .none } = T1 at X₁ st1
  have hcat : (Value.ref T.heap.size).category = 1 := rfl
  have hcellA : T1.heap[T.heap.size]? = some (freshCell cX kX) := by rw [← hT1]; exact State.heap_pushCell_size _ _
  have d3' : decode c.code (pc + 3) = .ok (.dup, 1) := by rw [hb]; exact d3
  have d4' : decode c.code (pc + 4) = .ok (.ldc is, 2) := by rw [hb]; exact d4
  have hstr' : vk_R own is text sa s' := vk_R.warm hW0 hstr
  obtain ⟨U, hsteps, hrun, hend, hW, hsame, ce, hce, hO⟩ := X₁.ctorThrowS hexec htr (own := own) (cls := cls) (names := names) (ic := ic) hown' hcls hnames h (fun x hx => nomatch hx) hfX hkX hcellA (by rw [hhp, hT]; exact Nat.le_refl _) (msg := .ref sa) rfl
    (g := { method := m, pc := pc + 6, locals := ls, stack := .ref sa :: .ref T.heap.size :: .ref T.heap.size :: rest, locked := none }) rfl hsize rfl rfl (rest := rest) rfl
    (by rw [hb]; exact d6) (by rw [hb]; exact d9) hout hRframes (by simp only [List.map_cons, List.sum_cons, hcat]; omega) hlocks
  obtain ⟨f1, f2⟩ := vx_frame hsame
  rw [hhp] at f1 f2
  have hWs : s.WarmedH U.vm := State.WarmedH.trans hW0 hW
  have hcl : s.vm.findClass cls = some ce.cls := by
    have h9 := hO.cls
    rw [hvm] at h9
    exact h9
  have hall : s.sameButNew ({ U with vm := s.vm } : State) locs mc ms := by
    subst hA
    obtain ⟨e1, e2⟩ := hsame
    rw [State.setFrames_setFrames] at e1
    have h2 : (T.setVm s.vm).sameButNew ({ U with vm := s.vm } : State) [] (0 + 1) (0 + 6) := ⟨e1, e2⟩
    have h3 := X.same.trans h2
    rw [List.append_nil] at h3
    exact h3.mono hc hs
  refine ⟨U, ?_, .threw T.heap.size, hrun, hend, Or.inr ⟨T.heap.size, rfl, cls, ce, locs, hx U hWs.alike f1 (fun q hq => f2 q hq (fun z hz => nomatch hz)), hce, hO.vm, hcl, hWs, hall, hf⟩⟩
  refine st1 _ ?_
  show Steps p.tables e below (T1.setTop { method := m, pc := pc + 3, locals := ls, stack := .ref T.heap.size :: rest, locked := none }) _
  jvm_step X₁.here [X₁.here.top, hexec, d3', Value.category]
  exact X₁.ldcString hexec (own := own) (text := text) (index := is) (a := sa) hown' hstr'.1 hstr'.2
    (g := { method := m, pc := pc + 4, locals := ls, stack := .ref T.heap.size :: .ref T.heap.size :: rest, locked := none }) rfl d4' _ hsteps
/-- 'throw new E("text")', the text by a wide index -/
theorem vx_throwSW {cc : ByteArray} {pc : Nat} (hexec : p.tables.exec = Jvm.exec) (hb : c.code = cc) (hl : l.stackTraces = false) {own cls text : String} {names : List String} {ik is ic mc ms sa : Nat} {A : Nat → Prop}
    (hown : s.vm.findClass own = some m.cls) (hcls : Bundle.fit cls = true) (hnames : ∀ n ∈ names, Bundle.fit n = true)
    (hk : (Cond.classLink own ik cls).before args s = true) (hini : (Cond.initialized cls).before args s = true) (hstr : vk_R own is text sa s) (hat : ∀ w ∈ vx_atS own ic cls names, w.before args s = true)
    (hgood : ∀ w ∈ Cond.classLink own ik cls :: Cond.initialized cls :: vx_atS own ic cls names, vx_ot w = true)
    (hU : vx_Zq Bundle.tN "UNASSIGNED_STACK" Bundle.steD A s s.heap) (hN : vx_Zq Bundle.tN "SUPPRESSED_SENTINEL" Bundle.listD A s s.heap) (hS : va_S A s.heap H locs) (hsize : ls.size = c.maxLocals)
    (d0 : decode cc pc = .ok (.new ik, 3)) (d3 : decode cc (pc + 3) = .ok (.dup, 1)) (d4 : decode cc (pc + 4) = .ok (.ldc_w is, 3)) (d7 : decode cc (pc + 7) = .ok (.invokespecial ic, 3)) (d10 : decode cc (pc + 10) = .ok (.athrow, 1))
    (hout : ∀ x ∈ c.exceptionTable.toList, covers x (pc + 10) = false)
    (hRframes : names.length + 3 < R.frames) (hRlocals : (rest.map fun v => v.category).sum + (13 * (names.length + 1) + 43) ≤ R.locals) (hRcells : cells + 1 ≤ R.cells) (hRslots : slots + 6 ≤ R.slots) (hlocks : meth.locks = false)
    (hx : ∀ t : State, s.vm.Alike t.vm → H.size ≤ t.heap.size → (∀ q : Nat, q < H.size → t.heap[q]? = H[q]?) → XC cls s t)
    (hf : ∀ z ∈ locs, free z.base) (hc : cells + 1 ≤ mc) (hs : slots + 6 ≤ ms) :
    W p l e R s m args below meth c H locs cells slots (vx_MQ below Qc XC args s mc ms free) (F0 m pc ls rest) := by
  intro T hT X
  have htr : e.platform.stackTraces = false := (show e.platform.stackTraces = l.stackTraces by rw [X.admits.platform]).trans hl
  have Y := vx_rebase X (R' := { frames := R.frames, locals := R.locals, cells := 1, slots := 6 }) (Nat.le_refl _) (Nat.le_refl _) hRcells hRslots
  obtain ⟨s', hA⟩ : ∃ z, z = (T.setVm s.vm).setFrames (.invoking m args :: below) := ⟨_, rfl⟩
  rw [← hA] at Y
  have hvm : s'.vm = s.vm := by rw [hA]; rfl
  have hhp : s'.heap = H := by rw [hA]; exact hT
  have hW0 : s.WarmedH s'.vm := by rw [hvm]; exact State.WarmedH.refl s
  have hat' : ∀ w ∈ vx_atS own ic cls names, w.before args s' = true := fun w hw => vx_ot_at hW0 hvm.symm (hgood w (List.mem_cons_of_mem _ (List.mem_cons_of_mem _ hw))) (hat w hw)
  have hk' : (Cond.classLink own ik cls).before args s' = true := vx_ot_at hW0 hvm.symm (hgood _ List.mem_cons_self) hk
  have hini' : (Cond.initialized cls).before args s' = true := vx_ot_at hW0 hvm.symm (hgood _ (List.mem_cons_of_mem _ List.mem_cons_self)) hini
  have hU' : vx_Zq Bundle.tN "UNASSIGNED_STACK" Bundle.steD A s' s'.heap := by rw [hhp]; exact vx_Zq.moved hW0.alike (hU.kept hS.2.1)
  have hN' : vx_Zq Bundle.tN "SUPPRESSED_SENTINEL" Bundle.listD A s' s'.heap := by rw [hhp]; exact vx_Zq.moved hW0.alike (hN.kept hS.2.1)
  have h : ∀ w ∈ Bundle.ownAtoms own ic cls names, w.before args s' = true := vx_own hat' (vx_isRefq hU'.1) (vx_isRefq hN'.1) hU'.2.word hN'.2.word
  have hown' : s'.vm.findClass own = some m.cls := by rw [hvm]; exact hown
  have hins : (Cond.instantiable cls 6).before args s' = true := h _ (by simp [Bundle.ownAtoms])
  obtain ⟨vm₁, cX, kX, hfX, hkX, -, -, X₁, st1⟩ := Y.newCold hexec (own := own) (C := cls) (index := ik) (n := 6) hown' hk' hins hini'
    (g := F0 m pc ls rest) rfl (by rw [hb]; exact d0) (Nat.le_refl _) (Nat.le_refl _)
  generalize hT1 : (T.setVm vm₁).pushCell { cls := cX, slots := kX.instanceTypes.map defaultValue, vm := .none } = T1 at X₁ st1
  have hcat : (Value.ref T.heap.size).category = 1 := rfl
  have hcellA : T1.heap[T.heap.size]? = some (freshCell cX kX) := by rw [← hT1]; exact State.heap_pushCell_size _ _
  have d3' : decode c.code (pc + 3) = .ok (.dup, 1) := by rw [hb]; exact d3
  have d4' : decode c.code (pc + 4) = .ok (.ldc_w is, 3) := by rw [hb]; exact d4
  have hstr' : vk_R own is text sa s' := vk_R.warm hW0 hstr
  obtain ⟨U, hsteps, hrun, hend, hW, hsame, ce, hce, hO⟩ := X₁.ctorThrowS hexec htr (own := own) (cls := cls) (names := names) (ic := ic) hown' hcls hnames h (fun x hx => nomatch hx) hfX hkX hcellA (by rw [hhp, hT]; exact Nat.le_refl _) (msg := .ref sa) rfl
    (g := { method := m, pc := pc + 7, locals := ls, stack := .ref sa :: .ref T.heap.size :: .ref T.heap.size :: rest, locked := none }) rfl hsize rfl rfl (rest := rest) rfl
    (by rw [hb]; exact d7) (by rw [hb]; exact d10) hout hRframes (by simp only [List.map_cons, List.sum_cons, hcat]; omega) hlocks
  obtain ⟨f1, f2⟩ := vx_frame hsame
  rw [hhp] at f1 f2
  have hWs : s.WarmedH U.vm := State.WarmedH.trans hW0 hW
  have hcl : s.vm.findClass cls = some ce.cls := by
    have h9 := hO.cls
    rw [hvm] at h9
    exact h9
  have hall : s.sameButNew ({ U with vm := s.vm } : State) locs mc ms := by
    subst hA
    obtain ⟨e1, e2⟩ := hsame
    rw [State.setFrames_setFrames] at e1
    have h2 : (T.setVm s.vm).sameButNew ({ U with vm := s.vm } : State) [] (0 + 1) (0 + 6) := ⟨e1, e2⟩
    have h3 := X.same.trans h2
    rw [List.append_nil] at h3
    exact h3.mono hc hs
  refine ⟨U, ?_, .threw T.heap.size, hrun, hend, Or.inr ⟨T.heap.size, rfl, cls, ce, locs, hx U hWs.alike f1 (fun q hq => f2 q hq (fun z hz => nomatch hz)), hce, hO.vm, hcl, hWs, hall, hf⟩⟩
  refine st1 _ ?_
  show Steps p.tables e below (T1.setTop { method := m, pc := pc + 3, locals := ls, stack := .ref T.heap.size :: rest, locked := none }) _
  jvm_step X₁.here [X₁.here.top, hexec, d3', Value.category]
  exact X₁.ldcStringW hexec (own := own) (text := text) (index := is) (a := sa) hown' hstr'.1 hstr'.2
    (g := { method := m, pc := pc + 4, locals := ls, stack := .ref T.heap.size :: .ref T.heap.size :: rest, locked := none }) rfl d4' _ hsteps
end Ends
section Bodies
variable {l : Launch}
theorem vx_ofW {y : MethodName} {ws ws' : List Cond} {rm : Room} {Pc : Array Value → State → Prop} {Qc : Array Value → State → Outcome → State → Prop} {XC : String → State → State → Prop} {mc ms : Nat} {free : Addr → Prop} {cc : ByteArray} {maxL : Nat} {ret : Option FieldType}
    (hy : plainName y.cls = true) (hw : ws = Cond.code y cc maxL ret :: ws')
    (body : ∀ p e s m args below meth c s₁, BodyLoose p l y (headSpec ws rm) cc maxL ret e s m args below meth c s₁ → c.maxLocals = maxL → (∀ x ∈ c.exceptionTable.toList, False) → Pc args s →
      W p l e (headSpec ws rm).room s m args below meth c s.heap [] 0 0 (vx_MQ below Qc XC args s mc ms free) (entryFrame m args maxL)) : vx_Met l y ws rm Pc Qc XC mc ms free := by
  refine MetFree.of_bodyS (code := cc) (maxLocals := maxL) (ret := ret) hy ?_ ?_
  · intro args s m h hn
    obtain ⟨meth, c, h1, h2, h3, h4, h5, h6, -, -⟩ := Cond.code_spec hn (atoms_spec (ws := ws) h _ (by rw [hw]; exact List.mem_cons_self))
    exact ⟨meth, c, h1, h2, h3, h4, h5, h6⟩
  · intro p e s m args below meth c s₁ B hml hP _
    have hh0 : s₁.heap = s.heap := by rw [B.state]; rfl
    have ht : ∀ x ∈ c.exceptionTable.toList, False := by
      obtain ⟨meth9, c9, h1, h2, -, -, -, -, h7, -⟩ := Cond.code_spec B.named (atoms_spec (ws := ws) B.pre _ (by rw [hw]; exact List.mem_cons_self))
      cases Option.some.inj (h1.symm.trans B.method)
      cases Option.some.inj (h2.symm.trans (Stand.of_body B).code)
      intro x hx
      rw [Array.isEmpty_iff.mp h7] at hx
      cases hx
    obtain ⟨t, a1, o, b1, b2, b3⟩ := body p e s m args below meth c s₁ B hml ht hP s₁ hh0 (Stand.of_body B)
    exact ⟨t, o, a1, b1, b2, b3⟩
/-- the table of a body with handlers -/
theorem vx_table {p : Program} {x y : MethodName} {S : Spec} {cc bytes : ByteArray} {maxL maxL' : Nat} {ret ret' : Option FieldType} {e : Env} {s s₁ : State} {m : MethodId} {args : Array Value} {below : List Frame} {meth : Method} {c : Code} {hh : List (Nat × Nat × Nat × Nat)}
    (B : BodyLoose p l y S cc maxL ret e s m args below meth c s₁) (h : (Cond.codeWith y bytes maxL' ret' hh).before args s = true) : c.exceptionTable.toList = tableOf hh := by
  obtain ⟨m9, meth9, c9, hn9, h1, h2, -, -, h6, -⟩ := Cond.codeWith_spec h
  cases Option.some.inj (hn9.symm.trans B.named)
  cases Option.some.inj (h1.symm.trans B.method)
  cases Option.some.inj (h2.symm.trans (Stand.of_body B).code)
  rw [← h6, table_eq]
end Bodies
end VXA
/-! ===== END ===== -/
/-! ===== BEGIN a static call of a method with an exception table ===== -/
section VXS
variable {p : Program} {l : Launch} {e : Env} {R : Room} {s : State} {m : MethodId} {args : Array Value} {below : List Frame} {meth : Method} {c : Code} {T : State} {H : Heap} {locs : List Loc} {cells slots : Nat}
abbrev vx_CSW (R : Room) (s : State) (args : Array Value) (own : String) (index : Nat) (y : MethodName) (bytes : ByteArray) (maxL : Nat) (ret : Option FieldType) (hh : List (Nat × Nat × Nat × Nat)) (ws : List Cond) (rm : Room) (mc ms n : Nat) : Prop :=
  (rm.cells = mc ∧ rm.slots = ms ∧ rm.frames + 1 ≤ R.frames ∧ 8 + (maxL + 11) + rm.locals ≤ R.locals ∧ (∀ w ∈ ws, ∀ (a' : Array Value) (U : State), s.WarmedH U.vm → w.before a' U = true) ∧ Cond.codeWith y bytes maxL ret hh ∈ ws) ∧
  (Cond.codeWith y bytes maxL ret hh).before args s = true ∧ (Cond.initialized y.cls).before args s = true ∧ (y.cls ≠ "java/lang/invoke/MethodHandle" ∧ y.cls ≠ "java/lang/invoke/VarHandle") ∧
  (∀ sig, parseMethodDescriptor y.desc = some sig → n = sig.parameters.length) ∧ (Cond.methodLink own index y).before args s = true ∧ (Cond.static y).before args s = true
theorem vx_cwSW {own : String} {index maxL mc ms : Nat} {y : MethodName} {bytes : ByteArray} {ret : Option FieldType} {hh : List (Nat × Nat × Nat × Nat)} {Ts ws ws' : List Cond} {rm : Room} (n : Nat) (ht : ∀ w ∈ Ts, w.before args s = true) (hT : GoodIn Ts (va_wsS own index y ws)) (hw : ws = Cond.codeWith y bytes maxL ret hh :: ws') (hrc : rm.cells = mc) (hrs : rm.slots = ms)
    (hd : y.cls ≠ "java/lang/invoke/MethodHandle" ∧ y.cls ≠ "java/lang/invoke/VarHandle" ∧ (parseMethodDescriptor y.desc).map (fun d => d.parameters.length) = some n) (hR : rm.frames + 1 ≤ R.frames ∧ 8 + (maxL + 11) + rm.locals ≤ R.locals) :
    vx_CSW R s args own index y bytes maxL ret hh ws rm mc ms n := by
  have ok : ∀ w ∈ va_wsS own index y ws, w.before args s = true := fun w h => ht w (hT w h).1
  have hG : GoodIn Ts ws := fun w h => hT w (by unfold va_wsS; exact List.mem_append_right _ h)
  have hc : Cond.codeWith y bytes maxL ret hh ∈ ws := by rw [hw]; exact List.mem_cons_self
  refine ⟨⟨hrc, hrs, hR.1, hR.2, pay_in ht hG, hc⟩, ht _ (hG _ hc).1, ok _ (by simp [va_wsS]), ⟨hd.1, hd.2.1⟩, fun sig h => ?_, ok _ (by simp [va_wsS]), ok _ (by simp [va_wsS])⟩
  have h2 := hd.2.2
  rw [h] at h2
  exact (Option.some.inj h2).symm
theorem vx_callSW (X : Stand p l e R s m args below meth c T locs cells slots) (hexec : p.tables.exec = Jvm.exec) {own : String} {index : Nat} {y : MethodName} {bytes : ByteArray} {maxL : Nat} {ret : Option FieldType} {hh : List (Nat × Nat × Nat × Nat)}
    (hown : s.vm.findClass own = some m.cls) (hlink : (Cond.methodLink own index y).before args s = true) (hstat : (Cond.static y).before args s = true) (hinit : (Cond.initialized y.cls).before args s = true)
    (hcode : (Cond.codeWith y bytes maxL ret hh).before args s = true) (hy : y.cls ≠ "java/lang/invoke/MethodHandle" ∧ y.cls ≠ "java/lang/invoke/VarHandle")
    {W9 : Nat} {Pre : Pt → Array Value → Prop} {Post : Pt → Array Value → Option Value → Pt → Prop} (hK : Back l R p e below s args y 3 W9 Pre Post)
    {g : JFrame} (hg : g.method = m) (hsize : g.locals.size = c.maxLocals) {argsL rest : List Value} (hlen : ∀ sig, parseMethodDescriptor y.desc = some sig → argsL.length = sig.parameters.length)
    (hstack : g.stack = argsL.reverse ++ rest) (hW : 2 * g.monitorRoom + (rest.map fun v => v.category).sum ≤ W9) (hdg : decode c.code g.pc = .ok (.invokestatic index, 3))
    (hpre : ∀ vm₁, s.WarmedH vm₁ → Pre ⟨T.setVm vm₁, locs, cells, slots⟩ argsL.toArray) :
    ∃ (v : Option Value) (vm₁ : Vm) (B : Pt), s.WarmedH vm₁ ∧ Stand p l e R s m args below meth c B.U B.locs B.cells B.slots ∧ Post ⟨T.setVm vm₁, locs, cells, slots⟩ argsL.toArray v B ∧
      ∀ target, Steps p.tables e below (B.U.setTop { g with pc := g.pc + 3, stack := v.toList ++ rest }) target → Steps p.tables e below (T.setTop g) target := by
  obtain ⟨mk, methM, cM, hnamed, hmethM, -, -, -, -, -, -, hsigM⟩ := Cond.codeWith_spec hcode
  have hstatic : methM.isStatic = true := Cond.static_spec hnamed hmethM hstat
  obtain ⟨kP, hkP, -⟩ := className_of_methodNamed hnamed
  have hinitP : kP.init = .initialized := Cond.initialized_spec (findClass_of_methodNamed hnamed) hkP hinit
  obtain ⟨vm₁, X₁, hstep₁⟩ := X.invokestatic hexec hown hlink hnamed hmethM hstatic hkP hinitP hy (g := g) hg (argsL := argsL) (rest := rest) (hlen _ hsigM) hstack hdg
  obtain ⟨v, B, X', hpost, hsteps⟩ := hK m meth c ⟨T.setVm vm₁, locs, cells, slots⟩ { g with stack := rest } (.invokestatic index) mk argsL.toArray X₁ hg hsize hdg hW (X₁.named hnamed) (hpre vm₁ X₁.warmed)
  exact ⟨v, vm₁, B, X₁.warmed, X', hpost, fun target h => hstep₁ _ fun acts => by rw [doInvoke_state]; exact hsteps.trans h⟩
theorem vx_runSW {y : MethodName} {bytes cc : ByteArray} {maxL nL mc ms n index : Nat} {ret : Option FieldType} {hh : List (Nat × Nat × Nat × Nat)} {ws : List Cond} {rm : Room} {Pc : Array Value → State → Prop} {Qc : Array Value → State → Outcome → State → Prop} {free : Addr → Prop} {Ts : List Cond} {own : String} {As rest : List Value} {g : JFrame}
    (S : CallFix p m c cc nL s args Ts own) (hM : Met l y ws rm Pc Qc mc ms free) (cw : vx_CSW R s args own index y bytes maxL ret hh ws rm mc ms n) (hp : PreS s H Pc As)
    (hg : g.method = m) (hn : As.length = n) (hsize : g.locals.size = nL) (hstack : g.stack = As.reverse ++ rest) (hW : 2 * g.monitorRoom + (rest.map fun v => v.category).sum ≤ 8) (hdg : decode cc g.pc = .ok (.invokestatic index, 3)) (hf : cells + mc ≤ R.cells ∧ slots + ms ≤ R.slots) :
    va_Run p l e R s m args below meth c H locs cells slots mc ms g rest (Qc As.toArray) (free) := by
  obtain ⟨⟨hrc, hrs, hfr, hlo, hws, hcw⟩, hcode, hini, hy, hlen, hl, hstt⟩ := cw
  have hK : Back l R p e below s args y 3 8 (PreOf R mc ms Pc) (PostOf Qc mc ms free) := va_backW (hh := hh) (bytes := bytes) (maxL := maxL) (ret := ret) hM hp.1 hrc hrs hfr hlo hws hcw (fun a' U hW => word_at hW (Or.inl (by first | rfl | simp [Cond.onTables, Cond.keeps, Cond.steady])) hini)
  obtain ⟨hx, hb, hml, ho, -⟩ := S
  intro T hT X
  obtain ⟨v, vm₁, ⟨U', l2, c2, s2⟩, hW₁, X', ⟨g', mk, t, L, e1, e2, hq, h1, hL, h2, h3⟩, st⟩ := vx_callSW X hx (hh := hh) (bytes := bytes) (maxL := maxL) (ret := ret) ho hl hstt hini hcode hy hK hg (hsize.trans hml.symm) (argsL := As) (rest := rest) (fun sig h => hn.trans (hlen sig h)) hstack hW (by rw [hb]; exact hdg)
    (fun vm₁ hW₁ => ⟨hf.1, hf.2, hp.2 (T.setVm vm₁) hT hW₁⟩)
  dsimp only [Pt.U, Pt.locs, Pt.cells, Pt.slots] at X' e1 e2 h1 h2 h3 st
  subst h1; subst h2; subst h3
  exact ⟨v, (T.setVm vm₁).calling g' mk As.toArray, t, U', L, hT, X', hL, e1, e2, hq, st⟩
/-- a thing of a world lies in the heap -/
theorem vx_lt {D : va_G} {cl : List vw_C} {ws : va_W} {H1 : Heap} (h : va_P D cl ws H1) {k : Nat} {q : Nat × va_E} (hk : ws[k]? = some q) : q.1 < H1.size := (h k q hk).lt
end VXS
/-! ===== END ===== -/
/-! ===== BEGIN methods with a table of their own: called by a name, returning or throwing ===== -/
section VXH
/-! vx_backW, vx_callVX, vx_callSX, vx_callVW, vx_runVW, vx_runVX, vx_runSX, vx_ofWH follow the same proofs as their sisters above (Free/Laws.lean, Shelf42/LK1.lean); vx_outP calls Shelf42/NT130.lean (outThrough). -/
section
variable {l : Launch} {R : Room} {p : Program} {e : Env} {below : List Frame} {s : State} {sargs : Array Value} {y : MethodName} {len W9 : Nat}
theorem vx_backW {ws : List Cond} {rm : Room} {Pc : Array Value → State → Prop} {Qc : Array Value → State → Outcome → State → Prop} {XC : String → State → State → Prop} {mc ms : Nat} {free : Addr → Prop} {bytes : ByteArray} {maxL : Nat} {ret : Option FieldType} {hh : List (Nat × Nat × Nat × Nat)}
    (hM : vx_Met l y ws rm Pc Qc XC mc ms free) (hblind : FrameBlind Pc) (hrc : rm.cells = mc) (hrs : rm.slots = ms)
    (hframes : rm.frames + 1 ≤ R.frames) (hlocals : W9 + (maxL + 11) + rm.locals ≤ R.locals)
    (hws : ∀ w ∈ ws, ∀ a' U, s.WarmedH U.vm → w.before a' U = true) (hcode : Cond.codeWith y bytes maxL ret hh ∈ ws) (hinit : ∀ a' U, s.WarmedH U.vm → (Cond.initialized y.cls).before a' U = true) :
    vx_Back l R p e below s sargs y len W9 (PreOf R mc ms Pc) (PostOf Qc mc ms free) (vx_Post XC mc ms free) := by
  intro m meth c A g ig mk a X hg hsize hdg hW hn hp
  have h1 : (headSpec ws rm).pre.before a A.U = true := atoms_intro fun w hw => hws w hw _ _ X.warmed
  have h2 : (Cond.codeWith y bytes maxL ret hh).before a A.U = true := hws _ hcode _ _ X.warmed
  have h3 : (Cond.initialized y.cls).before a A.U = true := hinit _ _ X.warmed
  have h4 : A.cells + (headSpec ws rm).room.cells ≤ R.cells := by rw [show (headSpec ws rm).room.cells = mc from hrc]; exact hp.1
  have h5 : A.slots + (headSpec ws rm).room.slots ≤ R.slots := by rw [show (headSpec ws rm).room.slots = ms from hrs]; exact hp.2.1
  have hPc : Pc a (A.U.calling g mk a) := hblind _ _ _ _ hp.2.2
  obtain ⟨U, Ls, c0, s0⟩ := A
  dsimp only [Pt.U, Pt.locs, Pt.cells, Pt.slots] at h1 h2 h3 h4 h5 X hn hPc ⊢
  obtain ⟨m9, methY, cY, hn9, hmY, hcY, -, hlY, -⟩ := Cond.codeWith_spec h2
  cases Option.some.inj (hn9.symm.trans hn)
  obtain ⟨kY, hkY, -⟩ := className_of_methodNamed hn
  have hinitY : kY.init = .initialized := Cond.initialized_spec (findClass_of_methodNamed hn) hkY h3
  have h : At U g.method c below := by rw [hg]; exact X.here
  have hlocals9 : W9 + (maxL + 11) + (headSpec ws rm).room.locals ≤ R.locals := hlocals
  have happ : (headSpec ws rm).appliesLoose y e.platform (U.calling g mk a) = true :=
    Spec.appliesLoose_calling (g := g) h hdg hn hkY hinitY
      (X.room_calling (g := g) (R' := (headSpec ws rm).room) hsize hmY hcY hframes (by rw [hlY]; omega) h4 h5) h1
  obtain ⟨mid, hmid⟩ := h.above
  have hfr : (U.setTop g).frames = (.java g :: mid) ++ below := by rw [State.frames_setTop' g h.top, hmid]; rfl
  obtain ⟨o, s₂, hsteps, -, hend, hq⟩ := Steps.callFree hM p X.admits X.cas X.clock (acts := []) hfr happ hPc trivial
  have hq' : vx_Q Qc XC mc ms free a (U.calling g mk a) o s₂ := hq
  rw [State.frames_setTop' g h.top] at hend
  obtain ⟨g₀, hg0⟩ := Option.isSome_iff_exists.mp h.top
  obtain ⟨r, hr⟩ := State.topJava?_eq_some.mp hg0
  have hr' : (({ U with heap := s₂.heap, slotsUsed := s₂.slotsUsed } : State).setVm s₂.vm).frames = .java g₀ :: r := hr
  rcases hq' with ⟨hqc, L, hfe, hL⟩ | ⟨q, rfl, E, ce, L, hx, hce, hcv, hcl, hW₂, hsm, hL⟩
  · obtain ⟨⟨v, rfl⟩, hW₂, e2, q2, q3, q4, q5, q6⟩ := id hfe
    have e3 : s₂ = ({ (U.calling g mk a).setFrames s₂.frames with heap := s₂.heap, slotsUsed := s₂.slotsUsed } : State).setVm s₂.vm := by
      have : s₂ = ({ s₂ with vm := (U.calling g mk a).vm } : State).setVm s₂.vm := rfl
      rw [e2] at this
      exact this
    obtain ⟨c₂, i₂, len₂, hc₂, hd₂, hf₂⟩ := hend
    have hW' : U.WarmedH s₂.vm := hW₂
    have hcc : c₂ = c := by
      have h1 : s₂.code? g.method = U.code? g.method := by
        rw [State.code?_eq, State.code?_eq, hW'.alike.method?]
      exact Option.some.inj (hc₂.symm.trans (h1.trans h.code))
    subst hcc
    have hlen : len₂ = len := by rw [hdg] at hd₂; cases hd₂; rfl
    subst hlen
    have hs₂ : s₂ = (({ U with heap := s₂.heap, slotsUsed := s₂.slotsUsed } : State).setVm s₂.vm).setTop { g with pc := g.pc + len₂, stack := v.toList ++ g.stack } := by
      refine e3.trans ?_
      rw [hf₂, State.calling_eq h.top, State.setFrames_setFrames, State.setTop_of_frames _ hr', hr]
      rfl
    have hsame : U.sameButNew ({ U with heap := s₂.heap, slotsUsed := s₂.slotsUsed } : State) L mc ms := by
      refine ⟨?_, q2, q3, q4, q5, q6⟩
      obtain ⟨t, ht, -⟩ := State.frames_cons hr
      show ({ U with heap := s₂.heap, slotsUsed := s₂.slotsUsed } : State) = { U.setFrames U.frames with heap := s₂.heap, slotsUsed := s₂.slotsUsed }
      rw [State.setFrames_self ht]
    subst hg
    refine Or.inl ⟨v, ⟨(({ U with heap := s₂.heap, slotsUsed := s₂.slotsUsed } : State).setVm s₂.vm), Ls ++ L, c0 + mc, s0 + ms⟩,
      ⟨X.admits, X.cas, X.clock, X.frames, X.room, X.hears, X.method, X.code, (X.here.setHeapUsed s₂.heap s₂.slotsUsed).setVm hW'.alike, X.tail, State.WarmedH.trans X.warmed hW', X.limits, X.bytes, X.same.trans (hsame.setVm s.vm)⟩,
      ⟨g, mk, s₂, L, rfl, rfl, hqc, rfl, hL, rfl, rfl⟩, ?_⟩
    show Steps p.tables e below _ ((({ U with heap := s₂.heap, slotsUsed := s₂.slotsUsed } : State).setVm s₂.vm).setTop { g with pc := g.pc + len₂, stack := v.toList ++ g.stack })
    rw [← hs₂]
    exact hsteps
  · obtain ⟨e2, q2, q3, q4, q5, q6⟩ := id hsm
    have e3 : s₂ = ({ (U.calling g mk a).setFrames s₂.frames with heap := s₂.heap, slotsUsed := s₂.slotsUsed } : State).setVm s₂.vm := by
      have : s₂ = ({ s₂ with vm := (U.calling g mk a).vm } : State).setVm s₂.vm := rfl
      rw [e2] at this
      exact this
    have hf₂ : s₂.frames = .throwing q :: .java g :: U.frames.tail := hend
    have hW' : U.WarmedH s₂.vm := hW₂
    have hs₂ : s₂ = ((({ U with heap := s₂.heap, slotsUsed := s₂.slotsUsed } : State).setVm s₂.vm).setTop g).pushFrame (.throwing q) := by
      refine e3.trans ?_
      rw [hf₂, State.calling_eq h.top, State.setFrames_setFrames, State.pushFrame, State.frames_setTop _ hr', State.setTop_of_frames _ hr', State.setFrames_setFrames, hr]
      rfl
    have hsame : U.sameButNew ({ U with heap := s₂.heap, slotsUsed := s₂.slotsUsed } : State) L mc ms := by
      refine ⟨?_, q2, q3, q4, q5, q6⟩
      obtain ⟨t, ht, -⟩ := State.frames_cons hr
      show ({ U with heap := s₂.heap, slotsUsed := s₂.slotsUsed } : State) = { U.setFrames U.frames with heap := s₂.heap, slotsUsed := s₂.slotsUsed }
      rw [State.setFrames_self ht]
    subst hg
    refine Or.inr ⟨q, ⟨(({ U with heap := s₂.heap, slotsUsed := s₂.slotsUsed } : State).setVm s₂.vm), Ls ++ L, c0 + mc, s0 + ms⟩,
      ⟨X.admits, X.cas, X.clock, X.frames, X.room, X.hears, X.method, X.code, (X.here.setHeapUsed s₂.heap s₂.slotsUsed).setVm hW'.alike, X.tail, State.WarmedH.trans X.warmed hW', X.limits, X.bytes, X.same.trans (hsame.setVm s.vm)⟩,
      ⟨g, mk, s₂, L, E, ce, rfl, rfl, hx, hce, hcv, hcl, rfl, hL, rfl, rfl⟩, ?_⟩
    show Steps p.tables e below _ (((({ U with heap := s₂.heap, slotsUsed := s₂.slotsUsed } : State).setVm s₂.vm).setTop g).pushFrame (.throwing q))
    rw [← hs₂]
    exact hsteps
end
variable {p : Program} {l : Launch} {e : Env} {R : Room} {s : State} {m : MethodId} {args : Array Value} {below : List Frame} {meth : Method} {c : Code} {T : State} {H : Heap} {locs : List Loc} {cells slots : Nat}
theorem vx_callVX (X : Stand p l e R s m args below meth c T locs cells slots) (hexec : p.tables.exec = Jvm.exec) {own C : String} {index : Nat} {y : MethodName} {bytes : ByteArray} {maxL : Nat} {ret : Option FieldType} {hh : List (Nat × Nat × Nat × Nat)}
    (hown : s.vm.findClass own = some m.cls) (hlink : (Cond.methodLink own index y).before args s = true) (hinst : (Cond.instanceMethod y).before args s = true) (hsel : (Cond.selects C y y).before args s = true)
    (hcode : (Cond.codeWith y bytes maxL ret hh).before args s = true) (hy : y.cls ≠ "java/lang/invoke/MethodHandle" ∧ y.cls ≠ "java/lang/invoke/VarHandle")
    {W9 : Nat} {Pre : Pt → Array Value → Prop} {Post : Pt → Array Value → Option Value → Pt → Prop} {PostX : Pt → Array Value → Addr → Pt → Prop} (hK : vx_Back l R p e below s args y 3 W9 Pre Post PostX)
    {b : Addr} {cellB : Cell} (hcell : T.heap[b]? = some cellB) (hobj : cellB.vm.isStatics = false) (hcls : s.vm.findClass C = some cellB.cls)
    {g : JFrame} (hg : g.method = m) (hsize : g.locals.size = c.maxLocals) {argsL rest : List Value} (hlen : ∀ sig, parseMethodDescriptor y.desc = some sig → argsL.length = sig.parameters.length)
    (hstack : g.stack = argsL.reverse ++ .ref b :: rest) (hW : 2 * g.monitorRoom + (rest.map fun v => v.category).sum ≤ W9) (hdg : decode c.code g.pc = .ok (.invokevirtual index, 3))
    (hpre : ∀ vm₁, s.WarmedH vm₁ → Pre ⟨T.setVm vm₁, locs, cells, slots⟩ (Value.ref b :: argsL).toArray) :
    (∃ (v : Option Value) (vm₁ : Vm) (B : Pt), s.WarmedH vm₁ ∧ Stand p l e R s m args below meth c B.U B.locs B.cells B.slots ∧ Post ⟨T.setVm vm₁, locs, cells, slots⟩ (Value.ref b :: argsL).toArray v B ∧
      ∀ target, Steps p.tables e below (B.U.setTop { g with pc := g.pc + 3, stack := v.toList ++ rest }) target → Steps p.tables e below (T.setTop g) target) ∨
    (∃ (q : Addr) (vm₁ : Vm) (B : Pt), s.WarmedH vm₁ ∧ Stand p l e R s m args below meth c B.U B.locs B.cells B.slots ∧ PostX ⟨T.setVm vm₁, locs, cells, slots⟩ (Value.ref b :: argsL).toArray q B ∧
      Steps p.tables e below (T.setTop g) ((B.U.setTop { g with stack := rest }).pushFrame (.throwing q))) := by
  obtain ⟨mk, methM, hnamed, hmethM, hstM, habM⟩ := Cond.instanceMethod_spec hinst
  obtain ⟨m8, methM', cM, hn8, hmethM', -, -, -, -, -, -, hsigM⟩ := Cond.codeWith_spec hcode
  cases Option.some.inj (hn8.symm.trans hnamed)
  cases hmethM.symm.trans hmethM'
  obtain ⟨c2, r2, m2, q1, q2, q3, q4, kP, hkP, hkPi⟩ := Cond.selects_spec hsel
  cases hcls.symm.trans q1
  cases (State.methodFound?_of_named hnamed hy).symm.trans q2
  cases hnamed.symm.trans q3
  have hselP : selectMethod e.platform s.vm cellB.cls mk = .method mk := by rw [Launch.admits_selectMethod X.admits]; exact q4
  obtain ⟨vm₁, X₁, hstep₁⟩ := X.invokevirtual hexec hown hlink hnamed hmethM hstM hkP hkPi hy (a := b) (cell := cellB) hcell
    (fun z h => by rw [h] at hobj; cases hobj) hselP hmethM habM hkP hkPi (g := g) hg (argsL := argsL) (rest := rest) (hlen _ hsigM) hstack hdg
  rcases hK m meth c ⟨T.setVm vm₁, locs, cells, slots⟩ { g with stack := rest } (.invokevirtual index) mk (Value.ref b :: argsL).toArray X₁ hg hsize hdg hW (X₁.named hnamed) (hpre vm₁ X₁.warmed) with ⟨v, B, X', hpost, hsteps⟩ | ⟨q, B, X', hpost, hsteps⟩
  · exact Or.inl ⟨v, vm₁, B, X₁.warmed, X', hpost, fun target h => hstep₁ _ fun acts => by rw [doInvoke_state]; exact hsteps.trans h⟩
  · exact Or.inr ⟨q, vm₁, B, X₁.warmed, X', hpost, hstep₁ _ fun acts => by rw [doInvoke_state]; exact hsteps⟩
theorem vx_callSX (X : Stand p l e R s m args below meth c T locs cells slots) (hexec : p.tables.exec = Jvm.exec) {own : String} {index : Nat} {y : MethodName} {bytes : ByteArray} {maxL : Nat} {ret : Option FieldType} {hh : List (Nat × Nat × Nat × Nat)}
    (hown : s.vm.findClass own = some m.cls) (hlink : (Cond.methodLink own index y).before args s = true) (hstat : (Cond.static y).before args s = true) (hinit : (Cond.initialized y.cls).before args s = true)
    (hcode : (Cond.codeWith y bytes maxL ret hh).before args s = true) (hy : y.cls ≠ "java/lang/invoke/MethodHandle" ∧ y.cls ≠ "java/lang/invoke/VarHandle")
    {W9 : Nat} {Pre : Pt → Array Value → Prop} {Post : Pt → Array Value → Option Value → Pt → Prop} {PostX : Pt → Array Value → Addr → Pt → Prop} (hK : vx_Back l R p e below s args y 3 W9 Pre Post PostX)
    {g : JFrame} (hg : g.method = m) (hsize : g.locals.size = c.maxLocals) {argsL rest : List Value} (hlen : ∀ sig, parseMethodDescriptor y.desc = some sig → argsL.length = sig.parameters.length)
    (hstack : g.stack = argsL.reverse ++ rest) (hW : 2 * g.monitorRoom + (rest.map fun v => v.category).sum ≤ W9) (hdg : decode c.code g.pc = .ok (.invokestatic index, 3))
    (hpre : ∀ vm₁, s.WarmedH vm₁ → Pre ⟨T.setVm vm₁, locs, cells, slots⟩ argsL.toArray) :
    (∃ (v : Option Value) (vm₁ : Vm) (B : Pt), s.WarmedH vm₁ ∧ Stand p l e R s m args below meth c B.U B.locs B.cells B.slots ∧ Post ⟨T.setVm vm₁, locs, cells, slots⟩ argsL.toArray v B ∧
      ∀ target, Steps p.tables e below (B.U.setTop { g with pc := g.pc + 3, stack := v.toList ++ rest }) target → Steps p.tables e below (T.setTop g) target) ∨
    (∃ (q : Addr) (vm₁ : Vm) (B : Pt), s.WarmedH vm₁ ∧ Stand p l e R s m args below meth c B.U B.locs B.cells B.slots ∧ PostX ⟨T.setVm vm₁, locs, cells, slots⟩ argsL.toArray q B ∧
      Steps p.tables e below (T.setTop g) ((B.U.setTop { g with stack := rest }).pushFrame (.throwing q))) := by
  obtain ⟨mk, methM, cM, hnamed, hmethM, -, -, -, -, -, -, hsigM⟩ := Cond.codeWith_spec hcode
  have hstatic : methM.isStatic = true := Cond.static_spec hnamed hmethM hstat
  obtain ⟨kP, hkP, -⟩ := className_of_methodNamed hnamed
  have hinitP : kP.init = .initialized := Cond.initialized_spec (findClass_of_methodNamed hnamed) hkP hinit
  obtain ⟨vm₁, X₁, hstep₁⟩ := X.invokestatic hexec hown hlink hnamed hmethM hstatic hkP hinitP hy (g := g) hg (argsL := argsL) (rest := rest) (hlen _ hsigM) hstack hdg
  rcases hK m meth c ⟨T.setVm vm₁, locs, cells, slots⟩ { g with stack := rest } (.invokestatic index) mk argsL.toArray X₁ hg hsize hdg hW (X₁.named hnamed) (hpre vm₁ X₁.warmed) with ⟨v, B, X', hpost, hsteps⟩ | ⟨q, B, X', hpost, hsteps⟩
  · exact Or.inl ⟨v, vm₁, B, X₁.warmed, X', hpost, fun target h => hstep₁ _ fun acts => by rw [doInvoke_state]; exact hsteps.trans h⟩
  · exact Or.inr ⟨q, vm₁, B, X₁.warmed, X', hpost, hstep₁ _ fun acts => by rw [doInvoke_state]; exact hsteps⟩
theorem vx_callVW (X : Stand p l e R s m args below meth c T locs cells slots) (hexec : p.tables.exec = Jvm.exec) {own C : String} {index : Nat} {y : MethodName} {bytes : ByteArray} {maxL : Nat} {ret : Option FieldType} {hh : List (Nat × Nat × Nat × Nat)}
    (hown : s.vm.findClass own = some m.cls) (hlink : (Cond.methodLink own index y).before args s = true) (hinst : (Cond.instanceMethod y).before args s = true) (hsel : (Cond.selects C y y).before args s = true)
    (hcode : (Cond.codeWith y bytes maxL ret hh).before args s = true) (hy : y.cls ≠ "java/lang/invoke/MethodHandle" ∧ y.cls ≠ "java/lang/invoke/VarHandle")
    {W9 : Nat} {Pre : Pt → Array Value → Prop} {Post : Pt → Array Value → Option Value → Pt → Prop} (hK : Back l R p e below s args y 3 W9 Pre Post)
    {b : Addr} {cellB : Cell} (hcell : T.heap[b]? = some cellB) (hobj : cellB.vm.isStatics = false) (hcls : s.vm.findClass C = some cellB.cls)
    {g : JFrame} (hg : g.method = m) (hsize : g.locals.size = c.maxLocals) {argsL rest : List Value} (hlen : ∀ sig, parseMethodDescriptor y.desc = some sig → argsL.length = sig.parameters.length)
    (hstack : g.stack = argsL.reverse ++ .ref b :: rest) (hW : 2 * g.monitorRoom + (rest.map fun v => v.category).sum ≤ W9) (hdg : decode c.code g.pc = .ok (.invokevirtual index, 3))
    (hpre : ∀ vm₁, s.WarmedH vm₁ → Pre ⟨T.setVm vm₁, locs, cells, slots⟩ (Value.ref b :: argsL).toArray) :
    ∃ (v : Option Value) (vm₁ : Vm) (B : Pt), s.WarmedH vm₁ ∧ Stand p l e R s m args below meth c B.U B.locs B.cells B.slots ∧ Post ⟨T.setVm vm₁, locs, cells, slots⟩ (Value.ref b :: argsL).toArray v B ∧
      ∀ target, Steps p.tables e below (B.U.setTop { g with pc := g.pc + 3, stack := v.toList ++ rest }) target → Steps p.tables e below (T.setTop g) target := by
  obtain ⟨mk, methM, hnamed, hmethM, hstM, habM⟩ := Cond.instanceMethod_spec hinst
  obtain ⟨m8, methM', cM, hn8, hmethM', -, -, -, -, -, -, hsigM⟩ := Cond.codeWith_spec hcode
  cases Option.some.inj (hn8.symm.trans hnamed)
  cases hmethM.symm.trans hmethM'
  obtain ⟨c2, r2, m2, q1, q2, q3, q4, kP, hkP, hkPi⟩ := Cond.selects_spec hsel
  cases hcls.symm.trans q1
  cases (State.methodFound?_of_named hnamed hy).symm.trans q2
  cases hnamed.symm.trans q3
  have hselP : selectMethod e.platform s.vm cellB.cls mk = .method mk := by rw [Launch.admits_selectMethod X.admits]; exact q4
  obtain ⟨vm₁, X₁, hstep₁⟩ := X.invokevirtual hexec hown hlink hnamed hmethM hstM hkP hkPi hy (a := b) (cell := cellB) hcell
    (fun z h => by rw [h] at hobj; cases hobj) hselP hmethM habM hkP hkPi (g := g) hg (argsL := argsL) (rest := rest) (hlen _ hsigM) hstack hdg
  obtain ⟨v, B, X', hpost, hsteps⟩ := hK m meth c ⟨T.setVm vm₁, locs, cells, slots⟩ { g with stack := rest } (.invokevirtual index) mk (Value.ref b :: argsL).toArray X₁ hg hsize hdg hW (X₁.named hnamed) (hpre vm₁ X₁.warmed)
  exact ⟨v, vm₁, B, X₁.warmed, X', hpost, fun target h => hstep₁ _ fun acts => by rw [doInvoke_state]; exact hsteps.trans h⟩
abbrev vx_CVW (R : Room) (s : State) (args : Array Value) (own C : String) (index : Nat) (y : MethodName) (bytes : ByteArray) (maxL : Nat) (ret : Option FieldType) (hh : List (Nat × Nat × Nat × Nat)) (ws : List Cond) (rm : Room) (mc ms n : Nat) : Prop :=
  (rm.cells = mc ∧ rm.slots = ms ∧ rm.frames + 1 ≤ R.frames ∧ 8 + (maxL + 11) + rm.locals ≤ R.locals ∧ (∀ w ∈ ws, ∀ (a' : Array Value) (U : State), s.WarmedH U.vm → w.before a' U = true) ∧ Cond.codeWith y bytes maxL ret hh ∈ ws) ∧
  (Cond.codeWith y bytes maxL ret hh).before args s = true ∧ (Cond.initialized y.cls).before args s = true ∧ (y.cls ≠ "java/lang/invoke/MethodHandle" ∧ y.cls ≠ "java/lang/invoke/VarHandle") ∧
  (∀ sig, parseMethodDescriptor y.desc = some sig → n = sig.parameters.length) ∧ (Cond.methodLink own index y).before args s = true ∧ (Cond.instanceMethod y).before args s = true ∧ (Cond.selects C y y).before args s = true
theorem vx_cwVW {own C : String} {index maxL mc ms : Nat} {y : MethodName} {bytes : ByteArray} {ret : Option FieldType} {hh : List (Nat × Nat × Nat × Nat)} {Ts ws ws' : List Cond} {rm : Room} (n : Nat) (ht : ∀ w ∈ Ts, w.before args s = true) (hT : GoodIn Ts (wsV own index C y ws)) (hw : ws = Cond.codeWith y bytes maxL ret hh :: ws') (hrc : rm.cells = mc) (hrs : rm.slots = ms)
    (hd : y.cls = C ∧ y.cls ≠ "java/lang/invoke/MethodHandle" ∧ y.cls ≠ "java/lang/invoke/VarHandle" ∧ (parseMethodDescriptor y.desc).map (fun d => d.parameters.length) = some n) (hR : rm.frames + 1 ≤ R.frames ∧ 8 + (maxL + 11) + rm.locals ≤ R.locals) :
    vx_CVW R s args own C index y bytes maxL ret hh ws rm mc ms n := by
  obtain ⟨hC, hd⟩ := hd
  subst hC
  have ok : ∀ w ∈ wsV own index y.cls y ws, w.before args s = true := fun w h => ht w (hT w h).1
  have hG : GoodIn Ts ws := fun w h => hT w (by unfold wsV; exact List.mem_append_right _ h)
  have hc : Cond.codeWith y bytes maxL ret hh ∈ ws := by rw [hw]; exact List.mem_cons_self
  refine ⟨⟨hrc, hrs, hR.1, hR.2, pay_in ht hG, hc⟩, ht _ (hG _ hc).1, ok _ (by simp [wsV]), ⟨hd.1, hd.2.1⟩, fun sig h => ?_, ok _ (by simp [wsV]), ok _ (by simp [wsV]), ok _ (by simp [wsV])⟩
  have h2 := hd.2.2
  rw [h] at h2
  exact (Option.some.inj h2).symm
theorem vx_runVW {y : MethodName} {bytes cc : ByteArray} {maxL nL mc ms n index : Nat} {ret : Option FieldType} {hh : List (Nat × Nat × Nat × Nat)} {ws : List Cond} {rm : Room} {Pc : Array Value → State → Prop} {Qc : Array Value → State → Outcome → State → Prop} {free : Addr → Prop} {Ts : List Cond} {own C : String} {b : Addr} {As rest : List Value} {g : JFrame}
    (S : CallFix p m c cc nL s args Ts own) (hM : Met l y ws rm Pc Qc mc ms free) (cw : vx_CVW R s args own C index y bytes maxL ret hh ws rm mc ms n) (hp : PreV s H C b Pc As)
    (hg : g.method = m) (hn : As.length = n) (hsize : g.locals.size = nL) (hstack : g.stack = As.reverse ++ .ref b :: rest) (hW : 2 * g.monitorRoom + (rest.map fun v => v.category).sum ≤ 8) (hdg : decode cc g.pc = .ok (.invokevirtual index, 3)) (hf : cells + mc ≤ R.cells ∧ slots + ms ≤ R.slots) :
    va_Run p l e R s m args below meth c H locs cells slots mc ms g rest (Qc (Value.ref b :: As).toArray) free := by
  obtain ⟨⟨hrc, hrs, hfr, hlo, hws, hcw⟩, hcode, hini, hy, hlen, hl, hin, hse⟩ := cw
  have hK : Back l R p e below s args y 3 8 (PreOf R mc ms Pc) (PostOf Qc mc ms free) := va_backW (hh := hh) (bytes := bytes) (maxL := maxL) (ret := ret) hM hp.1 hrc hrs hfr hlo hws hcw (fun a' U hW => word_at hW (Or.inl (by first | rfl | simp [Cond.onTables, Cond.keeps, Cond.steady])) hini)
  obtain ⟨hx, hb, hml, ho, -⟩ := S
  obtain ⟨-, ⟨cellB, hcB, hoB, hclB⟩, hPc⟩ := hp
  intro T hT X
  obtain ⟨v, vm₁, ⟨U', l2, c2, s2⟩, hW₁, X', ⟨g', mk, t, L, e1, e2, hq, h1, hL, h2, h3⟩, st⟩ := vx_callVW X hx (C := C) (hh := hh) (bytes := bytes) (maxL := maxL) (ret := ret) ho hl hin hse hcode hy hK (by rw [hT]; exact hcB) hoB hclB hg (hsize.trans hml.symm) (argsL := As) (rest := rest) (fun sig h => hn.trans (hlen sig h)) hstack hW (by rw [hb]; exact hdg)
    (fun vm₁ hW₁ => ⟨hf.1, hf.2, hPc (T.setVm vm₁) hT hW₁⟩)
  dsimp only [Pt.U, Pt.locs, Pt.cells, Pt.slots] at X' e1 e2 h1 h2 h3 st
  subst h1; subst h2; subst h3
  exact ⟨v, (T.setVm vm₁).calling g' mk (Value.ref b :: As).toArray, t, U', L, hT, X', hL, e1, e2, hq, st⟩
section
variable {y : MethodName} {bytes cc : ByteArray} {maxL nL mc ms n index : Nat} {ret : Option FieldType} {ws : List Cond} {rm : Room} {Pc : Array Value → State → Prop} {Qc : Array Value → State → Outcome → State → Prop} {XC : String → State → State → Prop} {free : Addr → Prop} {Ts : List Cond} {own C : String} {b : Addr} {As rest : List Value} {g : JFrame}
theorem vx_runVX {hh : List (Nat × Nat × Nat × Nat)} (S : CallFix p m c cc nL s args Ts own) (hM : vx_Met l y ws rm Pc Qc XC mc ms free) (cw : vx_CVW R s args own C index y bytes maxL ret hh ws rm mc ms n) (hp : PreV s H C b Pc As)
    (hg : g.method = m) (hn : As.length = n) (hsize : g.locals.size = nL) (hstack : g.stack = As.reverse ++ .ref b :: rest) (hW : 2 * g.monitorRoom + (rest.map fun v => v.category).sum ≤ 8) (hdg : decode cc g.pc = .ok (.invokevirtual index, 3)) (hf : cells + mc ≤ R.cells ∧ slots + ms ≤ R.slots) :
    vx_Run p l e R s m args below meth c H locs cells slots mc ms g rest (Qc (Value.ref b :: As).toArray) XC free := by
  obtain ⟨⟨hrc, hrs, hfr, hlo, hws, hcw⟩, hcode, hini, hy, hlen, hl, hin, hse⟩ := cw
  have hK : vx_Back l R p e below s args y 3 8 (PreOf R mc ms Pc) (PostOf Qc mc ms free) (vx_Post XC mc ms free) := vx_backW (hh := hh) (bytes := bytes) (maxL := maxL) (ret := ret) hM hp.1 hrc hrs hfr hlo hws hcw (fun a' U hW => word_at hW (Or.inl (by first | rfl | simp [Cond.onTables, Cond.keeps, Cond.steady])) hini)
  obtain ⟨hx, hb, hml, ho, -⟩ := S
  obtain ⟨-, ⟨cellB, hcB, hoB, hclB⟩, hPc⟩ := hp
  intro T hT X
  rcases vx_callVX X hx (C := C) (hh := hh) (bytes := bytes) (maxL := maxL) (ret := ret) ho hl hin hse hcode hy hK (by rw [hT]; exact hcB) hoB hclB hg (hsize.trans hml.symm) (argsL := As) (rest := rest) (fun sig h => hn.trans (hlen sig h)) hstack hW (by rw [hb]; exact hdg)
    (fun vm₁ hW₁ => ⟨hf.1, hf.2, hPc (T.setVm vm₁) hT hW₁⟩) with ⟨v, vm₁, ⟨U', l2, c2, s2⟩, hW₁, X', ⟨g', mk, t, L, e1, e2, hq, h1, hL, h2, h3⟩, st⟩ | ⟨q, vm₁, ⟨U', l2, c2, s2⟩, hW₁, X', ⟨g', mk, t, L, E, ce, e1, e2, hq, hce, hcv, hcl, h1, hL, h2, h3⟩, st⟩
  · dsimp only [Pt.U, Pt.locs, Pt.cells, Pt.slots] at X' e1 e2 h1 h2 h3 st
    subst h1; subst h2; subst h3
    exact Or.inl ⟨v, (T.setVm vm₁).calling g' mk (Value.ref b :: As).toArray, t, U', L, hT, X', hL, e1, e2, hq, st⟩
  · dsimp only [Pt.U, Pt.locs, Pt.cells, Pt.slots] at X' e1 e2 h1 h2 h3 st hcl
    subst h1; subst h2; subst h3
    exact Or.inr ⟨q, (T.setVm vm₁).calling g' mk (Value.ref b :: As).toArray, t, U', L, E, ce, hT, X', hL, e1, e2, hq, hce, hcv, vx_cls hW₁ hcl, st⟩
theorem vx_runSX {hh : List (Nat × Nat × Nat × Nat)} (S : CallFix p m c cc nL s args Ts own) (hM : vx_Met l y ws rm Pc Qc XC mc ms free) (cw : vx_CSW R s args own index y bytes maxL ret hh ws rm mc ms n) (hp : PreS s H Pc As)
    (hg : g.method = m) (hn : As.length = n) (hsize : g.locals.size = nL) (hstack : g.stack = As.reverse ++ rest) (hW : 2 * g.monitorRoom + (rest.map fun v => v.category).sum ≤ 8) (hdg : decode cc g.pc = .ok (.invokestatic index, 3)) (hf : cells + mc ≤ R.cells ∧ slots + ms ≤ R.slots) :
    vx_Run p l e R s m args below meth c H locs cells slots mc ms g rest (Qc As.toArray) XC free := by
  obtain ⟨⟨hrc, hrs, hfr, hlo, hws, hcw⟩, hcode, hini, hy, hlen, hl, hstt⟩ := cw
  have hK : vx_Back l R p e below s args y 3 8 (PreOf R mc ms Pc) (PostOf Qc mc ms free) (vx_Post XC mc ms free) := vx_backW (hh := hh) (bytes := bytes) (maxL := maxL) (ret := ret) hM hp.1 hrc hrs hfr hlo hws hcw (fun a' U hW => word_at hW (Or.inl (by first | rfl | simp [Cond.onTables, Cond.keeps, Cond.steady])) hini)
  obtain ⟨hx, hb, hml, ho, -⟩ := S
  intro T hT X
  rcases vx_callSX X hx (hh := hh) (bytes := bytes) (maxL := maxL) (ret := ret) ho hl hstt hini hcode hy hK hg (hsize.trans hml.symm) (argsL := As) (rest := rest) (fun sig h => hn.trans (hlen sig h)) hstack hW (by rw [hb]; exact hdg)
    (fun vm₁ hW₁ => ⟨hf.1, hf.2, hp.2 (T.setVm vm₁) hT hW₁⟩) with ⟨v, vm₁, ⟨U', l2, c2, s2⟩, hW₁, X', ⟨g', mk, t, L, e1, e2, hq, h1, hL, h2, h3⟩, st⟩ | ⟨q, vm₁, ⟨U', l2, c2, s2⟩, hW₁, X', ⟨g', mk, t, L, E, ce, e1, e2, hq, hce, hcv, hcl, h1, hL, h2, h3⟩, st⟩
  · dsimp only [Pt.U, Pt.locs, Pt.cells, Pt.slots] at X' e1 e2 h1 h2 h3 st
    subst h1; subst h2; subst h3
    exact Or.inl ⟨v, (T.setVm vm₁).calling g' mk As.toArray, t, U', L, hT, X', hL, e1, e2, hq, st⟩
  · dsimp only [Pt.U, Pt.locs, Pt.cells, Pt.slots] at X' e1 e2 h1 h2 h3 st hcl
    subst h1; subst h2; subst h3
    exact Or.inr ⟨q, (T.setVm vm₁).calling g' mk As.toArray, t, U', L, E, ce, hT, X', hL, e1, e2, hq, hce, hcv, vx_cls hW₁ hcl, st⟩
end
end VXH
theorem vx_ofWH {l : Launch} {y : MethodName} {ws ws' : List Cond} {rm : Room} {Pc : Array Value → State → Prop} {Qc : Array Value → State → Outcome → State → Prop} {XC : String → State → State → Prop} {mc ms : Nat} {free : Addr → Prop} {cc : ByteArray} {maxL : Nat} {ret : Option FieldType} {hh : List (Nat × Nat × Nat × Nat)}
    (hy : plainName y.cls = true) (hw : ws = Cond.codeWith y cc maxL ret hh :: ws')
    (body : ∀ p e s m args below meth c s₁, BodyLoose p l y (headSpec ws rm) cc maxL ret e s m args below meth c s₁ → c.maxLocals = maxL → Pc args s →
      W p l e (headSpec ws rm).room s m args below meth c s.heap [] 0 0 (vx_MQ below Qc XC args s mc ms free) (entryFrame m args maxL)) : vx_Met l y ws rm Pc Qc XC mc ms free := by
  refine MetFree.of_bodyS (code := cc) (maxLocals := maxL) (ret := ret) hy ?_ ?_
  · intro args s m h hn
    obtain ⟨m9, meth, c, hn9, h1, h2, h3, h4, -, h5, h6, -⟩ := Cond.codeWith_spec (atoms_spec (ws := ws) h _ (by rw [hw]; exact List.mem_cons_self))
    cases hn.symm.trans hn9
    exact ⟨meth, c, h1, h2, h3, h4, h5, h6⟩
  · intro p e s m args below meth c s₁ B hml hP _
    have hh0 : s₁.heap = s.heap := by rw [B.state]; rfl
    obtain ⟨t, a1, o, b1, b2, b3⟩ := body p e s m args below meth c s₁ B hml hP s₁ hh0 (Stand.of_body B)
    exact ⟨t, o, a1, b1, b2, b3⟩
/-! ===== END ===== -/
end
section
/-! ===== BEGIN printed: names, fields, word lists, decode rows ===== -/
def RX0 : String := "ProcessYields$Batch"
def TX0 : u_T := fun k => match k with
  | 0 => ("ProcessYields$Batch", "goods", "[I", true)
  | 1 => ("ProcessYields$Batch", "amounts", "[J", true)
  | 2 => ("ProcessYields$Batch", "weights", "[J", true)
  | 3 => ("ProcessYields$Batch", "shares", "[J", true)
  | 4 => ("ProcessYields$Batch", "remainders", "[J", true)
  | _ => ("ProcessYields$Batch", "size", "I", false)
def tyX0 : Nat → FieldType := fun k => match k with
  | 0 => .array .int
  | 1 => .array .long
  | 2 => .array .long
  | 3 => .array .long
  | 4 => .array .long
  | _ => .int
abbrev wsX00 : List Cond := u_ws RX0 TX0 6
theorem nmX0 : ∀ a, a < 6 → ∀ b, b < 6 → a ≠ b → (TX0 a).2.1 ≠ (TX0 b).2.1 := by decide +kernel
theorem tyX0_ok : ∀ k, k < 6 → parseFieldDescriptor (TX0 k).2.2.1 = some (tyX0 k) := by decide +kernel
abbrev cX0_init : ByteArray := prog_2_method_1_code
def yX0_init : MethodName := ⟨RX0, "<init>", "()V"⟩
abbrev cX0_plan : ByteArray := prog_2_method_2_code
def yX0_plan : MethodName := ⟨RX0, "plan", "(LProcessYields$Parts;II)V"⟩
abbrev cX0_lotsToAdd : ByteArray := prog_2_method_3_code
def yX0_lotsToAdd : MethodName := ⟨RX0, "lotsToAdd", "()I"⟩
abbrev cX0_weigh : ByteArray := prog_2_method_4_code
def yX0_weigh : MethodName := ⟨RX0, "weigh", "([IZ)V"⟩
abbrev cX0_apportion : ByteArray := prog_2_method_5_code
def yX0_apportion : MethodName := ⟨RX0, "apportion", "(J)V"⟩
abbrev cX0_spread : ByteArray := prog_2_method_6_code
def yX0_spread : MethodName := ⟨RX0, "spread", "(J)V"⟩
abbrev cX0_greatestRemainder : ByteArray := prog_2_method_7_code
def yX0_greatestRemainder : MethodName := ⟨RX0, "greatestRemainder", "()I"⟩
abbrev cX0_store : ByteArray := prog_2_method_8_code
def yX0_store : MethodName := ⟨RX0, "store", "(LProcessYields$Lots;I)V"⟩
def RX1 : String := "ProcessYields$Chain"
def TX1 : u_T := fun k => match k with
  | 0 => ("ProcessYields$Chain", "above", "[J", true)
  | _ => ("ProcessYields$Chain", "below", "[J", true)
def tyX1 : Nat → FieldType := fun k => match k with
  | 0 => .array .long
  | _ => .array .long
abbrev wsX10 : List Cond := u_ws RX1 TX1 2
theorem nmX1 : ∀ a, a < 2 → ∀ b, b < 2 → a ≠ b → (TX1 a).2.1 ≠ (TX1 b).2.1 := by decide +kernel
theorem tyX1_ok : ∀ k, k < 2 → parseFieldDescriptor (TX1 k).2.2.1 = some (tyX1 k) := by decide +kernel
abbrev cX1_init : ByteArray := prog_3_method_1_code
def yX1_init : MethodName := ⟨RX1, "<init>", "()V"⟩
abbrev cX1_trace : ByteArray := prog_3_method_2_code
def yX1_trace : MethodName := ⟨RX1, "trace", "(LProcessYields$Recipes;I)V"⟩
abbrev cX1_gather : ByteArray := prog_3_method_3_code
def yX1_gather : MethodName := ⟨RX1, "gather", "(LProcessYields$Parts;I)V"⟩
abbrev cX1_addFraction : ByteArray := prog_3_method_4_code
def yX1_addFraction : MethodName := ⟨RX1, "addFraction", "(IJJ)V"⟩
def RX2 : String := "ProcessYields$Lots"
def TX2 : u_T := fun k => match k with
  | 0 => ("ProcessYields$Lots", "goods", "[I", true)
  | 1 => ("ProcessYields$Lots", "lefts", "[J", true)
  | 2 => ("ProcessYields$Lots", "debts", "[J", true)
  | 3 => ("ProcessYields$Lots", "days", "[I", true)
  | 4 => ("ProcessYields$Lots", "size", "I", false)
  | _ => ("ProcessYields$Lots", "takenInterest", "J", false)
def tyX2 : Nat → FieldType := fun k => match k with
  | 0 => .array .int
  | 1 => .array .long
  | 2 => .array .long
  | 3 => .array .int
  | 4 => .int
  | _ => .long
abbrev wsX20 : List Cond := u_ws RX2 TX2 6
theorem nmX2 : ∀ a, a < 6 → ∀ b, b < 6 → a ≠ b → (TX2 a).2.1 ≠ (TX2 b).2.1 := by decide +kernel
theorem tyX2_ok : ∀ k, k < 6 → parseFieldDescriptor (TX2 k).2.2.1 = some (tyX2 k) := by decide +kernel
abbrev cX2_init : ByteArray := prog_4_method_1_code
def yX2_init : MethodName := ⟨RX2, "<init>", "()V"⟩
abbrev cX2_free : ByteArray := prog_4_method_2_code
def yX2_free : MethodName := ⟨RX2, "free", "()I"⟩
abbrev cX2_add : ByteArray := prog_4_method_3_code
def yX2_add : MethodName := ⟨RX2, "add", "(IJJI)I"⟩
abbrev cX2_stockOf : ByteArray := prog_4_method_4_code
def yX2_stockOf : MethodName := ⟨RX2, "stockOf", "(I)J"⟩
abbrev cX2_debtOf : ByteArray := prog_4_method_5_code
def yX2_debtOf : MethodName := ⟨RX2, "debtOf", "(I)J"⟩
abbrev cX2_openOf : ByteArray := prog_4_method_6_code
def yX2_openOf : MethodName := ⟨RX2, "openOf", "(I)I"⟩
abbrev cX2_wholeDebt : ByteArray := prog_4_method_7_code
def yX2_wholeDebt : MethodName := ⟨RX2, "wholeDebt", "()J"⟩
abbrev cX2_take : ByteArray := prog_4_method_8_code
def yX2_take : MethodName := ⟨RX2, "take", "(IJI)J"⟩
abbrev cX2_takeFrom : ByteArray := prog_4_method_9_code
def yX2_takeFrom : MethodName := ⟨RX2, "takeFrom", "(IJ)J"⟩
abbrev cX2_months : ByteArray := prog_4_method_10_code
def yX2_months : MethodName := ⟨RX2, "months", "(II)J"⟩
def RX3 : String := "ProcessYields$Parts"
def TX3 : u_T := fun k => match k with
  | 0 => ("ProcessYields$Parts", "most", "I", true)
  | 1 => ("ProcessYields$Parts", "sizes", "[I", true)
  | 2 => ("ProcessYields$Parts", "goods", "[I", true)
  | 3 => ("ProcessYields$Parts", "ups", "[I", true)
  | _ => ("ProcessYields$Parts", "downs", "[I", true)
def tyX3 : Nat → FieldType := fun k => match k with
  | 0 => .int
  | 1 => .array .int
  | 2 => .array .int
  | 3 => .array .int
  | _ => .array .int
abbrev wsX30 : List Cond := u_ws RX3 TX3 5
theorem nmX3 : ∀ a, a < 5 → ∀ b, b < 5 → a ≠ b → (TX3 a).2.1 ≠ (TX3 b).2.1 := by decide +kernel
theorem tyX3_ok : ∀ k, k < 5 → parseFieldDescriptor (TX3 k).2.2.1 = some (tyX3 k) := by decide +kernel
abbrev cX3_init : ByteArray := prog_5_method_1_code
def yX3_init : MethodName := ⟨RX3, "<init>", "(I)V"⟩
abbrev cX3_add : ByteArray := prog_5_method_2_code
def yX3_add : MethodName := ⟨RX3, "add", "(IIII)Z"⟩
abbrev cX3_isTold : ByteArray := prog_5_method_3_code
def yX3_isTold : MethodName := ⟨RX3, "isTold", "(II)Z"⟩
abbrev cX3_dropLast : ByteArray := prog_5_method_4_code
def yX3_dropLast : MethodName := ⟨RX3, "dropLast", "(I)V"⟩
abbrev cX3_goodAt : ByteArray := prog_5_method_5_code
def yX3_goodAt : MethodName := ⟨RX3, "goodAt", "(II)I"⟩
abbrev cX3_roundedUp : ByteArray := prog_5_method_6_code
def yX3_roundedUp : MethodName := ⟨RX3, "roundedUp", "(III)J"⟩
abbrev cX3_roundedDown : ByteArray := prog_5_method_7_code
def yX3_roundedDown : MethodName := ⟨RX3, "roundedDown", "(III)J"⟩
abbrev cX3_place : ByteArray := prog_5_method_8_code
def yX3_place : MethodName := ⟨RX3, "place", "(II)I"⟩
def RX4 : String := "ProcessYields$Priors"
def TX4 : u_T := fun k => match k with
  | 0 => ("ProcessYields$Priors", "goods", "[I", true)
  | 1 => ("ProcessYields$Priors", "lefts", "[J", true)
  | 2 => ("ProcessYields$Priors", "untils", "[I", true)
  | _ => ("ProcessYields$Priors", "size", "I", false)
def tyX4 : Nat → FieldType := fun k => match k with
  | 0 => .array .int
  | 1 => .array .long
  | 2 => .array .int
  | _ => .int
abbrev wsX40 : List Cond := u_ws RX4 TX4 4
theorem nmX4 : ∀ a, a < 4 → ∀ b, b < 4 → a ≠ b → (TX4 a).2.1 ≠ (TX4 b).2.1 := by decide +kernel
theorem tyX4_ok : ∀ k, k < 4 → parseFieldDescriptor (TX4 k).2.2.1 = some (tyX4 k) := by decide +kernel
abbrev cX4_init : ByteArray := prog_6_method_1_code
def yX4_init : MethodName := ⟨RX4, "<init>", "()V"⟩
abbrev cX4_add : ByteArray := prog_6_method_2_code
def yX4_add : MethodName := ⟨RX4, "add", "(III)V"⟩
abbrev cX4_isOpen : ByteArray := prog_6_method_3_code
def yX4_isOpen : MethodName := ⟨RX4, "isOpen", "(III)Z"⟩
abbrev cX4_openOf : ByteArray := prog_6_method_4_code
def yX4_openOf : MethodName := ⟨RX4, "openOf", "(II)J"⟩
abbrev cX4_meet : ByteArray := prog_6_method_5_code
def yX4_meet : MethodName := ⟨RX4, "meet", "(LProcessYields$Lots;II)J"⟩
def RX5 : String := "ProcessYields$Recipes"
def TX5 : u_T := fun k => match k with
  | 0 => ("ProcessYields$Recipes", "has", "[Z", true)
  | 1 => ("ProcessYields$Recipes", "inputs", "LProcessYields$Parts;", true)
  | 2 => ("ProcessYields$Recipes", "outputs", "LProcessYields$Parts;", true)
  | 3 => ("ProcessYields$Recipes", "depths", "[I", true)
  | _ => ("ProcessYields$Recipes", "size", "I", false)
def tyX5 : Nat → FieldType := fun k => match k with
  | 0 => .array .boolean
  | 1 => .object "ProcessYields$Parts"
  | 2 => .object "ProcessYields$Parts"
  | 3 => .array .int
  | _ => .int
abbrev wsX50 : List Cond := u_ws RX5 TX5 5
theorem nmX5 : ∀ a, a < 5 → ∀ b, b < 5 → a ≠ b → (TX5 a).2.1 ≠ (TX5 b).2.1 := by decide +kernel
theorem tyX5_ok : ∀ k, k < 5 → parseFieldDescriptor (TX5 k).2.2.1 = some (tyX5 k) := by decide +kernel
abbrev cX5_init : ByteArray := prog_7_method_1_code
def yX5_init : MethodName := ⟨RX5, "<init>", "()V"⟩
abbrev cX5_addNeed : ByteArray := prog_7_method_2_code
def yX5_addNeed : MethodName := ⟨RX5, "addNeed", "(IIII)Z"⟩
abbrev cX5_addByProduct : ByteArray := prog_7_method_3_code
def yX5_addByProduct : MethodName := ⟨RX5, "addByProduct", "(IIII)Z"⟩
abbrev cX5_measureDepths : ByteArray := prog_7_method_4_code
def yX5_measureDepths : MethodName := ⟨RX5, "measureDepths", "()I"⟩
abbrev cX5_depthByNeeds : ByteArray := prog_7_method_5_code
def yX5_depthByNeeds : MethodName := ⟨RX5, "depthByNeeds", "(I)I"⟩
def RX6 : String := "ProcessYields"
def TX6 : u_T := fun k => match k with
  | 0 => ("ProcessYields", "values", "[I", true)
  | 1 => ("ProcessYields", "recipes", "LProcessYields$Recipes;", true)
  | 2 => ("ProcessYields", "lots", "LProcessYields$Lots;", true)
  | 3 => ("ProcessYields", "priors", "LProcessYields$Priors;", true)
  | 4 => ("ProcessYields", "batch", "LProcessYields$Batch;", true)
  | 5 => ("ProcessYields", "ways", "LProcessYields$Chain;", true)
  | 6 => ("ProcessYields", "today", "I", false)
  | 7 => ("ProcessYields", "imported", "J", false)
  | 8 => ("ProcessYields", "discharged", "J", false)
  | 9 => ("ProcessYields", "owed", "J", false)
  | _ => ("ProcessYields", "interest", "J", false)
def tyX6 : Nat → FieldType := fun k => match k with
  | 0 => .array .int
  | 1 => .object "ProcessYields$Recipes"
  | 2 => .object "ProcessYields$Lots"
  | 3 => .object "ProcessYields$Priors"
  | 4 => .object "ProcessYields$Batch"
  | 5 => .object "ProcessYields$Chain"
  | 6 => .int
  | 7 => .long
  | 8 => .long
  | 9 => .long
  | _ => .long
abbrev wsX60 : List Cond := u_ws RX6 TX6 11
theorem nmX6 : ∀ a, a < 11 → ∀ b, b < 11 → a ≠ b → (TX6 a).2.1 ≠ (TX6 b).2.1 := by decide +kernel
theorem tyX6_ok : ∀ k, k < 11 → parseFieldDescriptor (TX6 k).2.2.1 = some (tyX6 k) := by decide +kernel
abbrev cX6_init : ByteArray := prog_1_method_1_code
def yX6_init : MethodName := ⟨RX6, "<init>", "()V"⟩
abbrev cX6_value : ByteArray := prog_1_method_2_code
def yX6_value : MethodName := ⟨RX6, "value", "(II)Z"⟩
abbrev cX6_recipe : ByteArray := prog_1_method_3_code
def yX6_recipe : MethodName := ⟨RX6, "recipe", "(I)Z"⟩
abbrev cX6_needs : ByteArray := prog_1_method_4_code
def yX6_needs : MethodName := ⟨RX6, "needs", "(IIII)I"⟩
abbrev cX6_yields : ByteArray := prog_1_method_5_code
def yX6_yields : MethodName := ⟨RX6, "yields", "(IIII)I"⟩
abbrev cX6_in : ByteArray := prog_1_method_6_code
def yX6_in : MethodName := ⟨RX6, "in", "(III)I"⟩
abbrev cX6_made : ByteArray := prog_1_method_7_code
def yX6_made : MethodName := ⟨RX6, "made", "(IIZ)I"⟩
abbrev cX6_export : ByteArray := prog_1_method_8_code
def yX6_export : MethodName := ⟨RX6, "export", "(II)J"⟩
abbrev cX6_release : ByteArray := prog_1_method_9_code
def yX6_release : MethodName := ⟨RX6, "release", "(II)J"⟩
abbrev cX6_prior : ByteArray := prog_1_method_10_code
def yX6_prior : MethodName := ⟨RX6, "prior", "(III)I"⟩
abbrev cX6_day : ByteArray := prog_1_method_11_code
def yX6_day : MethodName := ⟨RX6, "day", "(I)Z"⟩
abbrev cX6_chain : ByteArray := prog_1_method_12_code
def yX6_chain : MethodName := ⟨RX6, "chain", "(III)J"⟩
abbrev cX6_look : ByteArray := prog_1_method_13_code
def yX6_look : MethodName := ⟨RX6, "look", "(II)J"⟩
abbrev cX6_lot : ByteArray := prog_1_method_14_code
def yX6_lot : MethodName := ⟨RX6, "lot", "(II)J"⟩
abbrev cX6_sum : ByteArray := prog_1_method_15_code
def yX6_sum : MethodName := ⟨RX6, "sum", "(I)J"⟩
abbrev cX6_quotient : ByteArray := prog_1_method_16_code
def yX6_quotient : MethodName := ⟨RX6, "quotient", "(II)J"⟩
abbrev cX6_count : ByteArray := prog_1_method_17_code
def yX6_count : MethodName := ⟨RX6, "count", "(I)I"⟩
abbrev cX6_suffices : ByteArray := prog_1_method_18_code
def yX6_suffices : MethodName := ⟨RX6, "suffices", "(II)Z"⟩
abbrev cX6_takeNeeds : ByteArray := prog_1_method_19_code
def yX6_takeNeeds : MethodName := ⟨RX6, "takeNeeds", "(II)J"⟩
abbrev cX6_checkPart : ByteArray := prog_1_method_20_code
def yX6_checkPart : MethodName := ⟨RX6, "checkPart", "(IIII)V"⟩
abbrev cX6_checkTaking : ByteArray := prog_1_method_21_code
def yX6_checkTaking : MethodName := ⟨RX6, "checkTaking", "(II)V"⟩
abbrev cX6_isGood : ByteArray := prog_1_method_22_code
def yX6_isGood : MethodName := ⟨RX6, "isGood", "(I)Z"⟩
abbrev cX6_isWithin : ByteArray := prog_1_method_23_code
def yX6_isWithin : MethodName := ⟨RX6, "isWithin", "(III)Z"⟩
abbrev cX6_floorOf : ByteArray := prog_1_method_24_code
def yX6_floorOf : MethodName := ⟨RX6, "floorOf", "(JJ)J"⟩
abbrev cX6_ceilOf : ByteArray := prog_1_method_25_code
def yX6_ceilOf : MethodName := ⟨RX6, "ceilOf", "(JJ)J"⟩
abbrev cX6_greatestDivisor : ByteArray := prog_1_method_26_code
def yX6_greatestDivisor : MethodName := ⟨RX6, "greatestDivisor", "(JJ)J"⟩
def RX7 : String := "ProcessYieldsModel"
def TX7 : u_T := fun k => match k with
  | 0 => ("ProcessYieldsModel", "thrown", "I", false)
  | 1 => ("ProcessYieldsModel", "lots", "I", false)
  | 2 => ("ProcessYieldsModel", "recipes", "I", false)
  | 3 => ("ProcessYieldsModel", "priors", "I", false)
  | 4 => ("ProcessYieldsModel", "today", "I", false)
  | 5 => ("ProcessYieldsModel", "imported", "J", false)
  | 6 => ("ProcessYieldsModel", "discharged", "J", false)
  | 7 => ("ProcessYieldsModel", "owed", "J", false)
  | 8 => ("ProcessYieldsModel", "interest", "J", false)
  | 9 => ("ProcessYieldsModel", "value", "[I", true)
  | 10 => ("ProcessYieldsModel", "isRecipe", "[Z", true)
  | 11 => ("ProcessYieldsModel", "needs", "[I", true)
  | 12 => ("ProcessYieldsModel", "byProducts", "[I", true)
  | 13 => ("ProcessYieldsModel", "needGood", "[I", true)
  | 14 => ("ProcessYieldsModel", "needUp", "[I", true)
  | 15 => ("ProcessYieldsModel", "needDown", "[I", true)
  | 16 => ("ProcessYieldsModel", "byGood", "[I", true)
  | 17 => ("ProcessYieldsModel", "byUp", "[I", true)
  | 18 => ("ProcessYieldsModel", "byDown", "[I", true)
  | 19 => ("ProcessYieldsModel", "lotGood", "[I", true)
  | 20 => ("ProcessYieldsModel", "lotDay", "[I", true)
  | 21 => ("ProcessYieldsModel", "lotLeft", "[J", true)
  | 22 => ("ProcessYieldsModel", "lotDebt", "[J", true)
  | 23 => ("ProcessYieldsModel", "priorGood", "[I", true)
  | 24 => ("ProcessYieldsModel", "priorUntil", "[I", true)
  | 25 => ("ProcessYieldsModel", "priorLeft", "[J", true)
  | 26 => ("ProcessYieldsModel", "takenDebt", "J", false)
  | 27 => ("ProcessYieldsModel", "takenInterest", "J", false)
  | 28 => ("ProcessYieldsModel", "weight", "[J", true)
  | _ => ("ProcessYieldsModel", "chains", "[J", true)
def tyX7 : Nat → FieldType := fun k => match k with
  | 0 => .int
  | 1 => .int
  | 2 => .int
  | 3 => .int
  | 4 => .int
  | 5 => .long
  | 6 => .long
  | 7 => .long
  | 8 => .long
  | 9 => .array .int
  | 10 => .array .boolean
  | 11 => .array .int
  | 12 => .array .int
  | 13 => .array .int
  | 14 => .array .int
  | 15 => .array .int
  | 16 => .array .int
  | 17 => .array .int
  | 18 => .array .int
  | 19 => .array .int
  | 20 => .array .int
  | 21 => .array .long
  | 22 => .array .long
  | 23 => .array .int
  | 24 => .array .int
  | 25 => .array .long
  | 26 => .long
  | 27 => .long
  | 28 => .array .long
  | _ => .array .long
abbrev wsX70 : List Cond := u_ws RX7 TX7 30
theorem nmX7 : ∀ a, a < 30 → ∀ b, b < 30 → a ≠ b → (TX7 a).2.1 ≠ (TX7 b).2.1 := by decide +kernel
theorem tyX7_ok : ∀ k, k < 30 → parseFieldDescriptor (TX7 k).2.2.1 = some (tyX7 k) := by decide +kernel
abbrev cX7_init : ByteArray := prog_9_method_1_code
def yX7_init : MethodName := ⟨RX7, "<init>", "()V"⟩
abbrev cX7_thrown : ByteArray := prog_9_method_2_code
def yX7_thrown : MethodName := ⟨RX7, "thrown", "()I"⟩
abbrev cX7_within : ByteArray := prog_9_method_3_code
def yX7_within : MethodName := ⟨RX7, "within", "(JJJ)Z"⟩
abbrev cX7_isGood : ByteArray := prog_9_method_4_code
def yX7_isGood : MethodName := ⟨RX7, "isGood", "(I)Z"⟩
abbrev cX7_up : ByteArray := prog_9_method_5_code
def yX7_up : MethodName := ⟨RX7, "up", "(JJ)J"⟩
abbrev cX7_value : ByteArray := prog_9_method_6_code
def yX7_value : MethodName := ⟨RX7, "value", "(II)Z"⟩
abbrev cX7_recipe : ByteArray := prog_9_method_7_code
def yX7_recipe : MethodName := ⟨RX7, "recipe", "(I)Z"⟩
abbrev cX7_isNeed : ByteArray := prog_9_method_8_code
def yX7_isNeed : MethodName := ⟨RX7, "isNeed", "(II)Z"⟩
abbrev cX7_leads : ByteArray := prog_9_method_9_code
def yX7_leads : MethodName := ⟨RX7, "leads", "(II)Z"⟩
abbrev cX7_depthOf : ByteArray := prog_9_method_10_code
def yX7_depthOf : MethodName := ⟨RX7, "depthOf", "(I)I"⟩
abbrev cX7_isPart : ByteArray := prog_9_method_11_code
def yX7_isPart : MethodName := ⟨RX7, "isPart", "(II)Z"⟩
abbrev cX7_needs : ByteArray := prog_9_method_12_code
def yX7_needs : MethodName := ⟨RX7, "needs", "(IIII)I"⟩
abbrev cX7_yields : ByteArray := prog_9_method_13_code
def yX7_yields : MethodName := ⟨RX7, "yields", "(IIII)I"⟩
abbrev cX7_stock : ByteArray := prog_9_method_14_code
def yX7_stock : MethodName := ⟨RX7, "stock", "(I)J"⟩
abbrev cX7_debtOn : ByteArray := prog_9_method_15_code
def yX7_debtOn : MethodName := ⟨RX7, "debtOn", "(I)J"⟩
abbrev cX7_newLot : ByteArray := prog_9_method_16_code
def yX7_newLot : MethodName := ⟨RX7, "newLot", "(IJJ)I"⟩
abbrev cX7_takeOf : ByteArray := prog_9_method_17_code
def yX7_takeOf : MethodName := ⟨RX7, "takeOf", "(IJ)J"⟩
abbrev cX7_take : ByteArray := prog_9_method_18_code
def yX7_take : MethodName := ⟨RX7, "take", "(IJ)V"⟩
abbrev cX7_in : ByteArray := prog_9_method_19_code
def yX7_in : MethodName := ⟨RX7, "in", "(III)I"⟩
abbrev cX7_amountOf : ByteArray := prog_9_method_20_code
def yX7_amountOf : MethodName := ⟨RX7, "amountOf", "(IIJ)J"⟩
abbrev cX7_goodOf : ByteArray := prog_9_method_21_code
def yX7_goodOf : MethodName := ⟨RX7, "goodOf", "(II)I"⟩
abbrev cX7_share : ByteArray := prog_9_method_22_code
def yX7_share : MethodName := ⟨RX7, "share", "(IIJ)J"⟩
abbrev cX7_made : ByteArray := prog_9_method_23_code
def yX7_made : MethodName := ⟨RX7, "made", "(IIZ)I"⟩
abbrev cX7_export : ByteArray := prog_9_method_24_code
def yX7_export : MethodName := ⟨RX7, "export", "(II)J"⟩
abbrev cX7_release : ByteArray := prog_9_method_25_code
def yX7_release : MethodName := ⟨RX7, "release", "(II)J"⟩
abbrev cX7_prior : ByteArray := prog_9_method_26_code
def yX7_prior : MethodName := ⟨RX7, "prior", "(III)I"⟩
abbrev cX7_day : ByteArray := prog_9_method_27_code
def yX7_day : MethodName := ⟨RX7, "day", "(I)Z"⟩
abbrev cX7_common : ByteArray := prog_9_method_28_code
def yX7_common : MethodName := ⟨RX7, "common", "(JJ)J"⟩
abbrev cX7_chain : ByteArray := prog_9_method_29_code
def yX7_chain : MethodName := ⟨RX7, "chain", "(III)J"⟩
abbrev cX7_look : ByteArray := prog_9_method_30_code
def yX7_look : MethodName := ⟨RX7, "look", "(II)J"⟩
abbrev cX7_lot : ByteArray := prog_9_method_31_code
def yX7_lot : MethodName := ⟨RX7, "lot", "(II)J"⟩
abbrev cX7_sum : ByteArray := prog_9_method_32_code
def yX7_sum : MethodName := ⟨RX7, "sum", "(I)J"⟩
abbrev cX7_quotient : ByteArray := prog_9_method_33_code
def yX7_quotient : MethodName := ⟨RX7, "quotient", "(II)J"⟩
abbrev cX7_count : ByteArray := prog_9_method_34_code
def yX7_count : MethodName := ⟨RX7, "count", "(I)I"⟩
def RJ9 : String := "java/lang/Math"
def TJ9 : u_T := fun k => match k with
  | _ => ("", "", "", false)
def tyJ9 : Nat → FieldType := fun k => match k with
  | _ => .int
abbrev wsJ90 : List Cond := u_ws RJ9 TJ9 0
theorem nmJ9 : ∀ a, a < 0 → ∀ b, b < 0 → a ≠ b → (TJ9 a).2.1 ≠ (TJ9 b).2.1 := by decide +kernel
theorem tyJ9_ok : ∀ k, k < 0 → parseFieldDescriptor (TJ9 k).2.2.1 = some (tyJ9 k) := by decide +kernel
abbrev cJ9_max_7cf53 : ByteArray := prog_15_method_65_code
def yJ9_max_7cf53 : MethodName := ⟨RJ9, "max", "(II)I"⟩
abbrev cJ9_min_7cf53 : ByteArray := prog_15_method_69_code
def yJ9_min_7cf53 : MethodName := ⟨RJ9, "min", "(II)I"⟩
abbrev cJ9_min_f86c9 : ByteArray := prog_15_method_70_code
def yJ9_min_f86c9 : MethodName := ⟨RJ9, "min", "(JJ)J"⟩
def RJ0 : String := "java/lang/String"
def TJ0 : u_T := fun k => match k with
  | _ => ("", "", "", false)
def tyJ0 : Nat → FieldType := fun k => match k with
  | _ => .int
abbrev wsJ00 : List Cond := u_ws RJ0 TJ0 0
theorem nmJ0 : ∀ a, a < 0 → ∀ b, b < 0 → a ≠ b → (TJ0 a).2.1 ≠ (TJ0 b).2.1 := by decide +kernel
theorem tyJ0_ok : ∀ k, k < 0 → parseFieldDescriptor (TJ0 k).2.2.1 = some (tyJ0 k) := by decide +kernel
def RL : String := "ProcessYieldsLaw"
abbrev cL_needs : ByteArray := method_3_code
def yL_needs : MethodName := ⟨RL, "needs", "(LProcessYields;IIII[J)I"⟩
abbrev cL_yields : ByteArray := method_4_code
def yL_yields : MethodName := ⟨RL, "yields", "(LProcessYields;IIII[J)I"⟩
abbrev cL_in : ByteArray := method_5_code
def yL_in : MethodName := ⟨RL, "in", "(LProcessYields;III[J)I"⟩
abbrev cL_made : ByteArray := method_6_code
def yL_made : MethodName := ⟨RL, "made", "(LProcessYields;IIZ[J)I"⟩
abbrev cL_export : ByteArray := method_7_code
def yL_export : MethodName := ⟨RL, "export", "(LProcessYields;II[J)I"⟩
abbrev cL_release : ByteArray := method_8_code
def yL_release : MethodName := ⟨RL, "release", "(LProcessYields;II[J)I"⟩
abbrev cL_prior : ByteArray := method_9_code
def yL_prior : MethodName := ⟨RL, "prior", "(LProcessYields;III[J)I"⟩
abbrev cL_chain : ByteArray := method_10_code
def yL_chain : MethodName := ⟨RL, "chain", "(LProcessYields;III[J)I"⟩
abbrev cL_look : ByteArray := method_11_code
def yL_look : MethodName := ⟨RL, "look", "(LProcessYields;II[J)I"⟩
abbrev cL_lot : ByteArray := method_12_code
def yL_lot : MethodName := ⟨RL, "lot", "(LProcessYields;II[J)I"⟩
abbrev cL_quotient : ByteArray := method_13_code
def yL_quotient : MethodName := ⟨RL, "quotient", "(LProcessYields;II[J)I"⟩
abbrev cL_law : ByteArray := code
def yL_law : MethodName := ⟨RL, "law", "([I)Z"⟩
def wsX0_init : List Cond := .code yX0_init cX0_init 1 none :: ([.methodLink RX0 3 objectInit, .instanceMethod objectInit, .code objectInit ⟨#[0xb1]⟩ 1 none, .arrayClass .int, .fieldLink RX0 9 "ProcessYields$Batch" "goods" "[I", .arrayClass .long, .fieldLink RX0 15 "ProcessYields$Batch" "amounts" "[J", .fieldLink RX0 19 "ProcessYields$Batch" "weights" "[J", .fieldLink RX0 22 "ProcessYields$Batch" "shares" "[J", .fieldLink RX0 25 "ProcessYields$Batch" "remainders" "[J"] ++ wsX00)
def wsX3_place : List Cond := .code yX3_place cX3_place 2 (some .int) :: ([])
def wsX3_goodAt : List Cond := .code yX3_goodAt cX3_goodAt 3 (some .int) :: ([.fieldLink RX3 15 "ProcessYields$Parts" "goods" "[I", .methodLink RX3 38 yX3_place, .static yX3_place, .initialized RX3, .code yX3_place cX3_place 2 (some .int)] ++ wsX30)
def wsX6_floorOf : List Cond := .code yX6_floorOf cX6_floorOf 4 (some .long) :: ([])
def wsX3_roundedDown : List Cond := .code yX3_roundedDown cX3_roundedDown 5 (some .long) :: ([.fieldLink RX3 18 "ProcessYields$Parts" "ups" "[I", .fieldLink RX3 21 "ProcessYields$Parts" "downs" "[I", .methodLink RX3 38 yX3_place, .static yX3_place, .initialized RX3, .code yX3_place cX3_place 2 (some .int), .static yX6_floorOf, .initialized RX6, .code yX6_floorOf cX6_floorOf 4 (some .long)] ++ wsX30)
def wsX0_plan : List Cond := .code yX0_plan cX0_plan 5 none :: ([.fieldLink RX0 9 "ProcessYields$Batch" "goods" "[I", .fieldLink RX0 15 "ProcessYields$Batch" "amounts" "[J", .fieldLink RX0 28 "ProcessYields$Batch" "size" "I", .fieldLink RX0 32 "ProcessYields$Parts" "sizes" "[I", .methodLink RX0 37 yX3_goodAt, .instanceMethod yX3_goodAt, .selects RX3 yX3_goodAt yX3_goodAt, .initialized RX3, .code yX3_goodAt cX3_goodAt 3 (some .int), .fieldLink RX3 15 "ProcessYields$Parts" "goods" "[I", .methodLink RX3 38 yX3_place, .static yX3_place, .code yX3_place cX3_place 2 (some .int), .methodLink RX0 41 yX3_roundedDown, .instanceMethod yX3_roundedDown, .selects RX3 yX3_roundedDown yX3_roundedDown, .code yX3_roundedDown cX3_roundedDown 5 (some .long), .fieldLink RX3 18 "ProcessYields$Parts" "ups" "[I", .fieldLink RX3 21 "ProcessYields$Parts" "downs" "[I", .static yX6_floorOf, .initialized RX6, .code yX6_floorOf cX6_floorOf 4 (some .long)] ++ wsX00 ++ wsX30)
def wsX0_lotsToAdd : List Cond := .code yX0_lotsToAdd cX0_lotsToAdd 3 (some .int) :: ([.fieldLink RX0 28 "ProcessYields$Batch" "size" "I", .fieldLink RX0 15 "ProcessYields$Batch" "amounts" "[J"] ++ wsX00)
def wsX0_weigh : List Cond := .code yX0_weigh cX0_weigh 4 none :: ([.fieldLink RX0 28 "ProcessYields$Batch" "size" "I", .fieldLink RX0 19 "ProcessYields$Batch" "weights" "[J", .fieldLink RX0 15 "ProcessYields$Batch" "amounts" "[J", .fieldLink RX0 9 "ProcessYields$Batch" "goods" "[I"] ++ wsX00)
def wsX0_greatestRemainder : List Cond := .code yX0_greatestRemainder cX0_greatestRemainder 3 (some .int) :: ([.fieldLink RX0 28 "ProcessYields$Batch" "size" "I", .fieldLink RX0 25 "ProcessYields$Batch" "remainders" "[J"] ++ wsX00)
def wsX0_spread : List Cond := .code yX0_spread cX0_spread 5 none :: ([.fieldLink RX0 28 "ProcessYields$Batch" "size" "I", .fieldLink RX0 22 "ProcessYields$Batch" "shares" "[J", .fieldLink RX0 25 "ProcessYields$Batch" "remainders" "[J", .constantLong RX0 57 (-1), .methodLink RX0 53 yX0_greatestRemainder, .instanceMethod yX0_greatestRemainder, .selects RX0 yX0_greatestRemainder yX0_greatestRemainder, .initialized RX0, .code yX0_greatestRemainder cX0_greatestRemainder 3 (some .int)] ++ wsX00)
def wsX0_apportion : List Cond := .code yX0_apportion cX0_apportion 8 none :: ([.fieldLink RX0 28 "ProcessYields$Batch" "size" "I", .fieldLink RX0 19 "ProcessYields$Batch" "weights" "[J", .fieldLink RX0 22 "ProcessYields$Batch" "shares" "[J", .fieldLink RX0 25 "ProcessYields$Batch" "remainders" "[J", .static yX6_floorOf, .initialized RX6, .code yX6_floorOf cX6_floorOf 4 (some .long), .methodLink RX0 49 yX0_spread, .instanceMethod yX0_spread, .selects RX0 yX0_spread yX0_spread, .initialized RX0, .code yX0_spread cX0_spread 5 none, .constantLong RX0 57 (-1), .methodLink RX0 53 yX0_greatestRemainder, .instanceMethod yX0_greatestRemainder, .selects RX0 yX0_greatestRemainder yX0_greatestRemainder, .code yX0_greatestRemainder cX0_greatestRemainder 3 (some .int)] ++ wsX00)
def wsX2_add : List Cond := .code yX2_add cX2_add 7 (some .int) :: ([.fieldLink RX2 25 "ProcessYields$Lots" "size" "I", .fieldLink RX2 9 "ProcessYields$Lots" "goods" "[I", .fieldLink RX2 15 "ProcessYields$Lots" "lefts" "[J", .fieldLink RX2 19 "ProcessYields$Lots" "debts" "[J", .fieldLink RX2 22 "ProcessYields$Lots" "days" "[I"] ++ wsX20)
def wsX0_store : List Cond := .code yX0_store cX0_store 4 none :: ([.fieldLink RX0 28 "ProcessYields$Batch" "size" "I", .fieldLink RX0 15 "ProcessYields$Batch" "amounts" "[J", .fieldLink RX0 9 "ProcessYields$Batch" "goods" "[I", .fieldLink RX0 22 "ProcessYields$Batch" "shares" "[J", .methodLink RX0 59 yX2_add, .instanceMethod yX2_add, .selects RX2 yX2_add yX2_add, .initialized RX2, .code yX2_add cX2_add 7 (some .int), .fieldLink RX2 25 "ProcessYields$Lots" "size" "I", .fieldLink RX2 9 "ProcessYields$Lots" "goods" "[I", .fieldLink RX2 15 "ProcessYields$Lots" "lefts" "[J", .fieldLink RX2 19 "ProcessYields$Lots" "debts" "[J", .fieldLink RX2 22 "ProcessYields$Lots" "days" "[I"] ++ wsX00 ++ wsX20)
def wsX1_init : List Cond := .code yX1_init cX1_init 1 none :: ([.methodLink RX1 3 objectInit, .instanceMethod objectInit, .code objectInit ⟨#[0xb1]⟩ 1 none, .arrayClass .long, .fieldLink RX1 9 "ProcessYields$Chain" "above" "[J", .fieldLink RX1 15 "ProcessYields$Chain" "below" "[J"] ++ wsX10)
def wsX6_greatestDivisor : List Cond := .code yX6_greatestDivisor cX6_greatestDivisor 11 (some .long) :: ([.methodLink RX6 252 yX6_floorOf, .static yX6_floorOf, .initialized RX6, .code yX6_floorOf cX6_floorOf 4 (some .long)])
def wsX1_addFraction : List Cond := .code yX1_addFraction cX1_addFraction 18 none :: ([.fieldLink RX1 15 "ProcessYields$Chain" "below" "[J", .fieldLink RX1 9 "ProcessYields$Chain" "above" "[J", .static yX6_greatestDivisor, .initialized RX6, .code yX6_greatestDivisor cX6_greatestDivisor 11 (some .long), .methodLink RX6 252 yX6_floorOf, .static yX6_floorOf, .code yX6_floorOf cX6_floorOf 4 (some .long)] ++ wsX10)
def wsX1_gather : List Cond := .code yX1_gather cX1_gather 6 none :: ([.fieldLink RX1 32 "ProcessYields$Parts" "sizes" "[I", .fieldLink RX1 41 "ProcessYields$Parts" "goods" "[I", .fieldLink RX1 9 "ProcessYields$Chain" "above" "[J", .fieldLink RX1 44 "ProcessYields$Parts" "ups" "[I", .fieldLink RX1 15 "ProcessYields$Chain" "below" "[J", .fieldLink RX1 47 "ProcessYields$Parts" "downs" "[I", .methodLink RX1 37 yX3_place, .static yX3_place, .initialized RX3, .code yX3_place cX3_place 2 (some .int), .methodLink RX1 50 yX1_addFraction, .instanceMethod yX1_addFraction, .selects RX1 yX1_addFraction yX1_addFraction, .initialized RX1, .code yX1_addFraction cX1_addFraction 18 none, .static yX6_greatestDivisor, .initialized RX6, .code yX6_greatestDivisor cX6_greatestDivisor 11 (some .long), .methodLink RX6 252 yX6_floorOf, .static yX6_floorOf, .code yX6_floorOf cX6_floorOf 4 (some .long)] ++ wsX30 ++ wsX10)
def wsX1_trace_r1 : List Cond := [Cond.fieldLink RX1 9 "ProcessYields$Chain" "above" "[J", Cond.fieldLink RX1 15 "ProcessYields$Chain" "below" "[J", Cond.fieldLink RX1 18 "ProcessYields$Recipes" "depths" "[I", Cond.fieldLink RX1 24 "ProcessYields$Recipes" "inputs" "LProcessYields$Parts;", Cond.methodLink RX1 28 yX1_gather, Cond.instanceMethod yX1_gather, Cond.selects RX1 yX1_gather yX1_gather, Cond.initialized RX1, Cond.code yX1_gather cX1_gather 6 none, Cond.fieldLink RX1 32 "ProcessYields$Parts" "sizes" "[I", Cond.fieldLink RX1 41 "ProcessYields$Parts" "goods" "[I", Cond.fieldLink RX1 44 "ProcessYields$Parts" "ups" "[I", Cond.fieldLink RX1 47 "ProcessYields$Parts" "downs" "[I", Cond.methodLink RX1 37 yX3_place, Cond.static yX3_place, Cond.initialized RX3, Cond.code yX3_place cX3_place 2 (some .int), Cond.methodLink RX1 50 yX1_addFraction, Cond.instanceMethod yX1_addFraction, Cond.selects RX1 yX1_addFraction yX1_addFraction, Cond.code yX1_addFraction cX1_addFraction 18 none, Cond.static yX6_greatestDivisor, Cond.initialized RX6, Cond.code yX6_greatestDivisor cX6_greatestDivisor 11 (some .long)]
def wsX1_trace_r2 : List Cond := [Cond.methodLink RX6 252 yX6_floorOf, Cond.static yX6_floorOf, Cond.code yX6_floorOf cX6_floorOf 4 (some .long)]
def wsX1_trace : List Cond := .code yX1_trace cX1_trace 5 none :: ((wsX1_trace_r1 ++ wsX1_trace_r2) ++ wsX10 ++ wsX50 ++ wsX30)
def wsX2_init : List Cond := .code yX2_init cX2_init 1 none :: ([.methodLink RX2 3 objectInit, .instanceMethod objectInit, .code objectInit ⟨#[0xb1]⟩ 1 none, .arrayClass .int, .fieldLink RX2 9 "ProcessYields$Lots" "goods" "[I", .arrayClass .long, .fieldLink RX2 15 "ProcessYields$Lots" "lefts" "[J", .fieldLink RX2 19 "ProcessYields$Lots" "debts" "[J", .fieldLink RX2 22 "ProcessYields$Lots" "days" "[I"] ++ wsX20)
def wsX2_free : List Cond := .code yX2_free cX2_free 1 (some .int) :: ([.fieldLink RX2 25 "ProcessYields$Lots" "size" "I"] ++ wsX20)
def wsX2_stockOf : List Cond := .code yX2_stockOf cX2_stockOf 5 (some .long) :: ([.fieldLink RX2 25 "ProcessYields$Lots" "size" "I", .fieldLink RX2 9 "ProcessYields$Lots" "goods" "[I", .fieldLink RX2 15 "ProcessYields$Lots" "lefts" "[J"] ++ wsX20)
def wsX2_debtOf : List Cond := .code yX2_debtOf cX2_debtOf 5 (some .long) :: ([.fieldLink RX2 25 "ProcessYields$Lots" "size" "I", .fieldLink RX2 9 "ProcessYields$Lots" "goods" "[I", .fieldLink RX2 19 "ProcessYields$Lots" "debts" "[J"] ++ wsX20)
def wsX2_openOf : List Cond := .code yX2_openOf cX2_openOf 4 (some .int) :: ([.fieldLink RX2 25 "ProcessYields$Lots" "size" "I", .fieldLink RX2 9 "ProcessYields$Lots" "goods" "[I", .fieldLink RX2 15 "ProcessYields$Lots" "lefts" "[J"] ++ wsX20)
def wsX2_wholeDebt : List Cond := .code yX2_wholeDebt cX2_wholeDebt 4 (some .long) :: ([.fieldLink RX2 25 "ProcessYields$Lots" "size" "I", .fieldLink RX2 19 "ProcessYields$Lots" "debts" "[J"] ++ wsX20)
def wsX2_takeFrom : List Cond := .code yX2_takeFrom cX2_takeFrom 6 (some .long) :: ([.fieldLink RX2 15 "ProcessYields$Lots" "lefts" "[J", .fieldLink RX2 19 "ProcessYields$Lots" "debts" "[J", .static yX6_floorOf, .initialized RX6, .code yX6_floorOf cX6_floorOf 4 (some .long)] ++ wsX20)
def wsX6_ceilOf : List Cond := .code yX6_ceilOf cX6_ceilOf 4 (some .long) :: ([.methodLink RX6 252 yX6_floorOf, .static yX6_floorOf, .initialized RX6, .code yX6_floorOf cX6_floorOf 4 (some .long)])
def wsX2_months : List Cond := .code yX2_months cX2_months 3 (some .long) :: ([.fieldLink RX2 22 "ProcessYields$Lots" "days" "[I", .constantLong RX2 52 (30), .static yX6_ceilOf, .initialized RX6, .code yX6_ceilOf cX6_ceilOf 4 (some .long), .methodLink RX6 252 yX6_floorOf, .static yX6_floorOf, .code yX6_floorOf cX6_floorOf 4 (some .long)] ++ wsX20)
def wsX2_take_r1 : List Cond := [Cond.fieldLink RX2 29 "ProcessYields$Lots" "takenInterest" "J", Cond.fieldLink RX2 25 "ProcessYields$Lots" "size" "I", Cond.fieldLink RX2 9 "ProcessYields$Lots" "goods" "[I", Cond.fieldLink RX2 15 "ProcessYields$Lots" "lefts" "[J", Cond.methodLink RX2 33 Lib.MathLoose.min_long.x, Cond.static Lib.MathLoose.min_long.x, Cond.initialized "java/lang/Math", Cond.code Lib.MathLoose.min_long.x Lib.MathLoose.min_long.code 4 (some .long), Cond.constantLong RX2 47 (100), Cond.methodLink RX2 39 yX2_takeFrom, Cond.instanceMethod yX2_takeFrom, Cond.selects RX2 yX2_takeFrom yX2_takeFrom, Cond.initialized RX2, Cond.code yX2_takeFrom cX2_takeFrom 6 (some .long), Cond.fieldLink RX2 19 "ProcessYields$Lots" "debts" "[J", Cond.static yX6_floorOf, Cond.initialized RX6, Cond.code yX6_floorOf cX6_floorOf 4 (some .long), Cond.methodLink RX2 43 yX2_months, Cond.instanceMethod yX2_months, Cond.selects RX2 yX2_months yX2_months, Cond.code yX2_months cX2_months 3 (some .long), Cond.fieldLink RX2 22 "ProcessYields$Lots" "days" "[I", Cond.constantLong RX2 52 (30)]
def wsX2_take_r2 : List Cond := [Cond.static yX6_ceilOf, Cond.code yX6_ceilOf cX6_ceilOf 4 (some .long), Cond.methodLink RX6 252 yX6_floorOf]
def wsX2_take : List Cond := .code yX2_take cX2_take 14 (some .long) :: ((wsX2_take_r1 ++ wsX2_take_r2) ++ wsX20)
def wsX3_init : List Cond := .code yX3_init cX3_init 2 none :: ([.methodLink RX3 3 objectInit, .instanceMethod objectInit, .code objectInit ⟨#[0xb1]⟩ 1 none, .arrayClass .int, .fieldLink RX3 9 "ProcessYields$Parts" "sizes" "[I", .fieldLink RX3 15 "ProcessYields$Parts" "goods" "[I", .fieldLink RX3 18 "ProcessYields$Parts" "ups" "[I", .fieldLink RX3 21 "ProcessYields$Parts" "downs" "[I", .methodLink RX3 24 Lib.Math.min.name, .static Lib.Math.min.name, .initialized "java/lang/Math", .code Lib.Math.min.name Lib.Math.min.code 2 (some .int), .fieldLink RX3 30 "ProcessYields$Parts" "most" "I"] ++ wsX30)
def wsX3_isTold : List Cond := .code yX3_isTold cX3_isTold 4 (some .boolean) :: ([.fieldLink RX3 9 "ProcessYields$Parts" "sizes" "[I", .methodLink RX3 41 yX3_goodAt, .instanceMethod yX3_goodAt, .selects RX3 yX3_goodAt yX3_goodAt, .initialized RX3, .code yX3_goodAt cX3_goodAt 3 (some .int), .fieldLink RX3 15 "ProcessYields$Parts" "goods" "[I", .methodLink RX3 38 yX3_place, .static yX3_place, .code yX3_place cX3_place 2 (some .int)] ++ wsX30)
def wsX3_add : List Cond := .code yX3_add cX3_add 6 (some .boolean) :: ([.fieldLink RX3 9 "ProcessYields$Parts" "sizes" "[I", .fieldLink RX3 30 "ProcessYields$Parts" "most" "I", .fieldLink RX3 15 "ProcessYields$Parts" "goods" "[I", .fieldLink RX3 18 "ProcessYields$Parts" "ups" "[I", .fieldLink RX3 21 "ProcessYields$Parts" "downs" "[I", .methodLink RX3 34 yX3_isTold, .instanceMethod yX3_isTold, .selects RX3 yX3_isTold yX3_isTold, .initialized RX3, .code yX3_isTold cX3_isTold 4 (some .boolean), .methodLink RX3 41 yX3_goodAt, .instanceMethod yX3_goodAt, .selects RX3 yX3_goodAt yX3_goodAt, .code yX3_goodAt cX3_goodAt 3 (some .int), .methodLink RX3 38 yX3_place, .static yX3_place, .code yX3_place cX3_place 2 (some .int)] ++ wsX30)
def wsX3_dropLast : List Cond := .code yX3_dropLast cX3_dropLast 2 none :: ([.fieldLink RX3 9 "ProcessYields$Parts" "sizes" "[I"] ++ wsX30)
def wsX3_roundedUp : List Cond := .code yX3_roundedUp cX3_roundedUp 5 (some .long) :: ([.fieldLink RX3 18 "ProcessYields$Parts" "ups" "[I", .fieldLink RX3 21 "ProcessYields$Parts" "downs" "[I", .methodLink RX3 38 yX3_place, .static yX3_place, .initialized RX3, .code yX3_place cX3_place 2 (some .int), .static yX6_ceilOf, .initialized RX6, .code yX6_ceilOf cX6_ceilOf 4 (some .long), .methodLink RX6 252 yX6_floorOf, .static yX6_floorOf, .code yX6_floorOf cX6_floorOf 4 (some .long)] ++ wsX30)
def wsX4_init : List Cond := .code yX4_init cX4_init 1 none :: ([.methodLink RX4 3 objectInit, .instanceMethod objectInit, .code objectInit ⟨#[0xb1]⟩ 1 none, .arrayClass .int, .fieldLink RX4 9 "ProcessYields$Priors" "goods" "[I", .arrayClass .long, .fieldLink RX4 15 "ProcessYields$Priors" "lefts" "[J", .fieldLink RX4 19 "ProcessYields$Priors" "untils" "[I"] ++ wsX40)
def wsX4_add : List Cond := .code yX4_add cX4_add 4 none :: ([.fieldLink RX4 22 "ProcessYields$Priors" "size" "I", .fieldLink RX4 9 "ProcessYields$Priors" "goods" "[I", .fieldLink RX4 15 "ProcessYields$Priors" "lefts" "[J", .fieldLink RX4 19 "ProcessYields$Priors" "untils" "[I"] ++ wsX40)
def wsX4_isOpen : List Cond := .code yX4_isOpen cX4_isOpen 4 (some .boolean) :: ([.fieldLink RX4 9 "ProcessYields$Priors" "goods" "[I", .fieldLink RX4 15 "ProcessYields$Priors" "lefts" "[J", .fieldLink RX4 19 "ProcessYields$Priors" "untils" "[I"] ++ wsX40)
def wsX4_openOf : List Cond := .code yX4_openOf cX4_openOf 6 (some .long) :: ([.fieldLink RX4 22 "ProcessYields$Priors" "size" "I", .fieldLink RX4 15 "ProcessYields$Priors" "lefts" "[J", .methodLink RX4 26 yX4_isOpen, .instanceMethod yX4_isOpen, .selects RX4 yX4_isOpen yX4_isOpen, .initialized RX4, .code yX4_isOpen cX4_isOpen 4 (some .boolean), .fieldLink RX4 9 "ProcessYields$Priors" "goods" "[I", .fieldLink RX4 19 "ProcessYields$Priors" "untils" "[I"] ++ wsX40)
def wsX6_isWithin : List Cond := .code yX6_isWithin cX6_isWithin 3 (some .boolean) :: ([])
def wsX4_meet_r1 : List Cond := [Cond.fieldLink RX4 30 "ProcessYields$Lots" "size" "I", Cond.fieldLink RX4 22 "ProcessYields$Priors" "size" "I", Cond.fieldLink RX4 36 "ProcessYields$Lots" "lefts" "[J", Cond.fieldLink RX4 37 "ProcessYields$Lots" "goods" "[I", Cond.fieldLink RX4 15 "ProcessYields$Priors" "lefts" "[J", Cond.methodLink RX4 38 Lib.MathLoose.min_long.x, Cond.static Lib.MathLoose.min_long.x, Cond.initialized "java/lang/Math", Cond.code Lib.MathLoose.min_long.x Lib.MathLoose.min_long.code 4 (some .long), Cond.static yX6_isWithin, Cond.initialized RX6, Cond.code yX6_isWithin cX6_isWithin 3 (some .boolean), Cond.methodLink RX4 26 yX4_isOpen, Cond.instanceMethod yX4_isOpen, Cond.selects RX4 yX4_isOpen yX4_isOpen, Cond.initialized RX4, Cond.code yX4_isOpen cX4_isOpen 4 (some .boolean), Cond.fieldLink RX4 9 "ProcessYields$Priors" "goods" "[I", Cond.fieldLink RX4 19 "ProcessYields$Priors" "untils" "[I", Cond.methodLink RX4 44 yX2_takeFrom, Cond.instanceMethod yX2_takeFrom, Cond.selects RX2 yX2_takeFrom yX2_takeFrom, Cond.initialized RX2, Cond.code yX2_takeFrom cX2_takeFrom 6 (some .long)]
def wsX4_meet_r2 : List Cond := [Cond.fieldLink RX2 15 "ProcessYields$Lots" "lefts" "[J", Cond.fieldLink RX2 19 "ProcessYields$Lots" "debts" "[J", Cond.static yX6_floorOf, Cond.code yX6_floorOf cX6_floorOf 4 (some .long)]
def wsX4_meet : List Cond := .code yX4_meet cX4_meet 9 (some .long) :: ((wsX4_meet_r1 ++ wsX4_meet_r2) ++ wsX20 ++ wsX40)
def wsX5_init_r1 : List Cond := [Cond.methodLink RX5 3 objectInit, Cond.instanceMethod objectInit, Cond.code objectInit ⟨#[0xb1]⟩ 1 none, Cond.arrayClass .boolean, Cond.fieldLink RX5 9 "ProcessYields$Recipes" "has" "[Z", Cond.classLink RX5 15 RX3, Cond.instantiable RX3 5, Cond.initialized RX3, Cond.fieldLink RX5 20 "ProcessYields$Recipes" "inputs" "LProcessYields$Parts;", Cond.fieldLink RX5 24 "ProcessYields$Recipes" "outputs" "LProcessYields$Parts;", Cond.arrayClass .int, Cond.fieldLink RX5 27 "ProcessYields$Recipes" "depths" "[I", Cond.methodLink RX5 17 yX3_init, Cond.instanceMethod yX3_init, Cond.code yX3_init cX3_init 2 none, Cond.methodLink RX3 3 objectInit, Cond.fieldLink RX3 9 "ProcessYields$Parts" "sizes" "[I", Cond.fieldLink RX3 15 "ProcessYields$Parts" "goods" "[I", Cond.fieldLink RX3 18 "ProcessYields$Parts" "ups" "[I", Cond.fieldLink RX3 21 "ProcessYields$Parts" "downs" "[I", Cond.methodLink RX3 24 Lib.Math.min.name, Cond.static Lib.Math.min.name, Cond.initialized "java/lang/Math", Cond.code Lib.Math.min.name Lib.Math.min.code 2 (some .int)]
def wsX5_init_r2 : List Cond := [Cond.fieldLink RX3 30 "ProcessYields$Parts" "most" "I"]
def wsX5_init : List Cond := .code yX5_init cX5_init 1 none :: ((wsX5_init_r1 ++ wsX5_init_r2) ++ wsX50 ++ wsX30)
def wsX5_depthByNeeds : List Cond := .code yX5_depthByNeeds cX5_depthByNeeds 4 (some .int) :: ([.fieldLink RX5 20 "ProcessYields$Recipes" "inputs" "LProcessYields$Parts;", .fieldLink RX5 52 "ProcessYields$Parts" "sizes" "[I", .fieldLink RX5 27 "ProcessYields$Recipes" "depths" "[I", .methodLink RX5 46 Lib.Math.max.name, .static Lib.Math.max.name, .initialized "java/lang/Math", .code Lib.Math.max.name Lib.Math.max.code 2 (some .int), .methodLink RX5 55 yX3_goodAt, .instanceMethod yX3_goodAt, .selects RX3 yX3_goodAt yX3_goodAt, .initialized RX3, .code yX3_goodAt cX3_goodAt 3 (some .int), .fieldLink RX3 15 "ProcessYields$Parts" "goods" "[I", .methodLink RX3 38 yX3_place, .static yX3_place, .code yX3_place cX3_place 2 (some .int)] ++ wsX50 ++ wsX30)
def wsX5_measureDepths : List Cond := .code yX5_measureDepths cX5_measureDepths 4 (some .int) :: ([.fieldLink RX5 27 "ProcessYields$Recipes" "depths" "[I", .methodLink RX5 46 Lib.Math.max.name, .static Lib.Math.max.name, .initialized "java/lang/Math", .code Lib.Math.max.name Lib.Math.max.code 2 (some .int), .methodLink RX5 42 yX5_depthByNeeds, .instanceMethod yX5_depthByNeeds, .selects RX5 yX5_depthByNeeds yX5_depthByNeeds, .initialized RX5, .code yX5_depthByNeeds cX5_depthByNeeds 4 (some .int), .fieldLink RX5 20 "ProcessYields$Recipes" "inputs" "LProcessYields$Parts;", .fieldLink RX5 52 "ProcessYields$Parts" "sizes" "[I", .methodLink RX5 55 yX3_goodAt, .instanceMethod yX3_goodAt, .selects RX3 yX3_goodAt yX3_goodAt, .initialized RX3, .code yX3_goodAt cX3_goodAt 3 (some .int), .fieldLink RX3 15 "ProcessYields$Parts" "goods" "[I", .methodLink RX3 38 yX3_place, .static yX3_place, .code yX3_place cX3_place 2 (some .int)] ++ wsX50 ++ wsX30)
def wsX5_addNeed_r1 : List Cond := [Cond.fieldLink RX5 9 "ProcessYields$Recipes" "has" "[Z", Cond.fieldLink RX5 20 "ProcessYields$Recipes" "inputs" "LProcessYields$Parts;", Cond.methodLink RX5 31 yX3_add, Cond.instanceMethod yX3_add, Cond.selects RX3 yX3_add yX3_add, Cond.initialized RX3, Cond.code yX3_add cX3_add 6 (some .boolean), Cond.fieldLink RX3 9 "ProcessYields$Parts" "sizes" "[I", Cond.fieldLink RX3 30 "ProcessYields$Parts" "most" "I", Cond.fieldLink RX3 15 "ProcessYields$Parts" "goods" "[I", Cond.fieldLink RX3 18 "ProcessYields$Parts" "ups" "[I", Cond.fieldLink RX3 21 "ProcessYields$Parts" "downs" "[I", Cond.methodLink RX3 34 yX3_isTold, Cond.instanceMethod yX3_isTold, Cond.selects RX3 yX3_isTold yX3_isTold, Cond.code yX3_isTold cX3_isTold 4 (some .boolean), Cond.methodLink RX3 41 yX3_goodAt, Cond.instanceMethod yX3_goodAt, Cond.selects RX3 yX3_goodAt yX3_goodAt, Cond.code yX3_goodAt cX3_goodAt 3 (some .int), Cond.methodLink RX3 38 yX3_place, Cond.static yX3_place, Cond.code yX3_place cX3_place 2 (some .int), Cond.methodLink RX5 35 yX5_measureDepths]
def wsX5_addNeed_r2 : List Cond := [Cond.instanceMethod yX5_measureDepths, Cond.selects RX5 yX5_measureDepths yX5_measureDepths, Cond.initialized RX5, Cond.code yX5_measureDepths cX5_measureDepths 4 (some .int), Cond.fieldLink RX5 27 "ProcessYields$Recipes" "depths" "[I", Cond.methodLink RX5 46 Lib.Math.max.name, Cond.static Lib.Math.max.name, Cond.initialized "java/lang/Math", Cond.code Lib.Math.max.name Lib.Math.max.code 2 (some .int), Cond.methodLink RX5 42 yX5_depthByNeeds, Cond.instanceMethod yX5_depthByNeeds, Cond.selects RX5 yX5_depthByNeeds yX5_depthByNeeds, Cond.code yX5_depthByNeeds cX5_depthByNeeds 4 (some .int), Cond.fieldLink RX5 52 "ProcessYields$Parts" "sizes" "[I", Cond.methodLink RX5 55 yX3_goodAt, Cond.methodLink RX5 39 yX3_dropLast, Cond.instanceMethod yX3_dropLast, Cond.selects RX3 yX3_dropLast yX3_dropLast, Cond.code yX3_dropLast cX3_dropLast 2 none]
def wsX5_addNeed : List Cond := .code yX5_addNeed cX5_addNeed 5 (some .boolean) :: ((wsX5_addNeed_r1 ++ wsX5_addNeed_r2) ++ wsX50 ++ wsX30)
def wsX5_addByProduct : List Cond := .code yX5_addByProduct cX5_addByProduct 5 (some .boolean) :: ([.fieldLink RX5 9 "ProcessYields$Recipes" "has" "[Z", .fieldLink RX5 24 "ProcessYields$Recipes" "outputs" "LProcessYields$Parts;", .methodLink RX5 31 yX3_add, .instanceMethod yX3_add, .selects RX3 yX3_add yX3_add, .initialized RX3, .code yX3_add cX3_add 6 (some .boolean), .fieldLink RX3 9 "ProcessYields$Parts" "sizes" "[I", .fieldLink RX3 30 "ProcessYields$Parts" "most" "I", .fieldLink RX3 15 "ProcessYields$Parts" "goods" "[I", .fieldLink RX3 18 "ProcessYields$Parts" "ups" "[I", .fieldLink RX3 21 "ProcessYields$Parts" "downs" "[I", .methodLink RX3 34 yX3_isTold, .instanceMethod yX3_isTold, .selects RX3 yX3_isTold yX3_isTold, .code yX3_isTold cX3_isTold 4 (some .boolean), .methodLink RX3 41 yX3_goodAt, .instanceMethod yX3_goodAt, .selects RX3 yX3_goodAt yX3_goodAt, .code yX3_goodAt cX3_goodAt 3 (some .int), .methodLink RX3 38 yX3_place, .static yX3_place, .code yX3_place cX3_place 2 (some .int)] ++ wsX50 ++ wsX30)
def wsX6_init_r1 : List Cond := [Cond.methodLink RX6 1 objectInit, Cond.instanceMethod objectInit, Cond.code objectInit ⟨#[0xb1]⟩ 1 none, Cond.arrayClass .int, Cond.fieldLink RX6 9 "ProcessYields" "values" "[I", Cond.classLink RX6 13 RX5, Cond.instantiable RX5 5, Cond.initialized RX5, Cond.fieldLink RX6 16 "ProcessYields" "recipes" "LProcessYields$Recipes;", Cond.classLink RX6 20 RX2, Cond.instantiable RX2 6, Cond.initialized RX2, Cond.fieldLink RX6 23 "ProcessYields" "lots" "LProcessYields$Lots;", Cond.classLink RX6 27 RX4, Cond.instantiable RX4 4, Cond.initialized RX4, Cond.fieldLink RX6 30 "ProcessYields" "priors" "LProcessYields$Priors;", Cond.classLink RX6 34 RX0, Cond.instantiable RX0 6, Cond.initialized RX0, Cond.fieldLink RX6 37 "ProcessYields" "batch" "LProcessYields$Batch;", Cond.classLink RX6 41 RX1, Cond.instantiable RX1 2, Cond.initialized RX1]
def wsX6_init_r2 : List Cond := [Cond.fieldLink RX6 44 "ProcessYields" "ways" "LProcessYields$Chain;", Cond.instanceMethod yX5_init, Cond.code yX5_init cX5_init 1 none, Cond.methodLink RX5 3 objectInit, Cond.arrayClass .boolean, Cond.fieldLink RX5 9 "ProcessYields$Recipes" "has" "[Z", Cond.classLink RX5 15 RX3, Cond.instantiable RX3 5, Cond.initialized RX3, Cond.fieldLink RX5 20 "ProcessYields$Recipes" "inputs" "LProcessYields$Parts;", Cond.fieldLink RX5 24 "ProcessYields$Recipes" "outputs" "LProcessYields$Parts;", Cond.fieldLink RX5 27 "ProcessYields$Recipes" "depths" "[I", Cond.methodLink RX5 17 yX3_init, Cond.instanceMethod yX3_init, Cond.code yX3_init cX3_init 2 none, Cond.methodLink RX3 3 objectInit, Cond.fieldLink RX3 9 "ProcessYields$Parts" "sizes" "[I", Cond.fieldLink RX3 15 "ProcessYields$Parts" "goods" "[I", Cond.fieldLink RX3 18 "ProcessYields$Parts" "ups" "[I", Cond.fieldLink RX3 21 "ProcessYields$Parts" "downs" "[I", Cond.methodLink RX3 24 Lib.Math.min.name, Cond.static Lib.Math.min.name, Cond.initialized "java/lang/Math", Cond.code Lib.Math.min.name Lib.Math.min.code 2 (some .int)]
def wsX6_init_r3 : List Cond := [Cond.fieldLink RX3 30 "ProcessYields$Parts" "most" "I", Cond.instanceMethod yX2_init, Cond.code yX2_init cX2_init 1 none, Cond.methodLink RX2 3 objectInit, Cond.fieldLink RX2 9 "ProcessYields$Lots" "goods" "[I", Cond.arrayClass .long, Cond.fieldLink RX2 15 "ProcessYields$Lots" "lefts" "[J", Cond.fieldLink RX2 19 "ProcessYields$Lots" "debts" "[J", Cond.fieldLink RX2 22 "ProcessYields$Lots" "days" "[I", Cond.instanceMethod yX4_init, Cond.code yX4_init cX4_init 1 none, Cond.methodLink RX4 3 objectInit, Cond.fieldLink RX4 9 "ProcessYields$Priors" "goods" "[I", Cond.fieldLink RX4 15 "ProcessYields$Priors" "lefts" "[J", Cond.fieldLink RX4 19 "ProcessYields$Priors" "untils" "[I", Cond.instanceMethod yX0_init, Cond.code yX0_init cX0_init 1 none, Cond.methodLink RX0 3 objectInit, Cond.fieldLink RX0 9 "ProcessYields$Batch" "goods" "[I", Cond.fieldLink RX0 15 "ProcessYields$Batch" "amounts" "[J", Cond.fieldLink RX0 19 "ProcessYields$Batch" "weights" "[J", Cond.fieldLink RX0 22 "ProcessYields$Batch" "shares" "[J", Cond.fieldLink RX0 25 "ProcessYields$Batch" "remainders" "[J", Cond.instanceMethod yX1_init]
def wsX6_init_r4 : List Cond := [Cond.code yX1_init cX1_init 1 none, Cond.methodLink RX1 3 objectInit, Cond.fieldLink RX1 9 "ProcessYields$Chain" "above" "[J", Cond.fieldLink RX1 15 "ProcessYields$Chain" "below" "[J"]
def wsX6_init : List Cond := .code yX6_init cX6_init 2 none :: ((wsX6_init_r1 ++ (wsX6_init_r2 ++ (wsX6_init_r3 ++ wsX6_init_r4))) ++ wsX60 ++ wsX50 ++ wsX20 ++ wsX40 ++ wsX00 ++ wsX10 ++ wsX30)
def wsX6_isGood : List Cond := .code yX6_isGood cX6_isGood 1 (some .boolean) :: ([.methodLink RX6 52 yX6_isWithin, .static yX6_isWithin, .initialized RX6, .code yX6_isWithin cX6_isWithin 3 (some .boolean)])
def wsX6_value : List Cond := .code yX6_value cX6_value 3 (some .boolean) :: ([.fieldLink RX6 9 "ProcessYields" "values" "[I", .methodLink RX6 48 yX6_isGood, .static yX6_isGood, .initialized RX6, .code yX6_isGood cX6_isGood 1 (some .boolean), .methodLink RX6 52 yX6_isWithin, .static yX6_isWithin, .code yX6_isWithin cX6_isWithin 3 (some .boolean)] ++ wsX60)
def wsX6_recipe : List Cond := .code yX6_recipe cX6_recipe 2 (some .boolean) :: ([.fieldLink RX6 16 "ProcessYields" "recipes" "LProcessYields$Recipes;", .fieldLink RX6 56 "ProcessYields$Recipes" "has" "[Z", .fieldLink RX6 60 "ProcessYields$Recipes" "size" "I", .methodLink RX6 48 yX6_isGood, .static yX6_isGood, .initialized RX6, .code yX6_isGood cX6_isGood 1 (some .boolean), .methodLink RX6 52 yX6_isWithin, .static yX6_isWithin, .code yX6_isWithin cX6_isWithin 3 (some .boolean)] ++ wsX60 ++ wsX50)
def wsX6_checkPart : List Cond := .code yX6_checkPart cX6_checkPart 4 none :: ([.classLink RX6 76 "java/lang/IllegalArgumentException", .initialized "java/lang/IllegalArgumentException", .methodLink RX6 48 yX6_isGood, .static yX6_isGood, .initialized RX6, .code yX6_isGood cX6_isGood 1 (some .boolean), .methodLink RX6 52 yX6_isWithin, .static yX6_isWithin, .code yX6_isWithin cX6_isWithin 3 (some .boolean)] ++ (vx_atS RX6 80 "java/lang/IllegalArgumentException" ["java/lang/RuntimeException", "java/lang/Exception"]).filter goodWord)
def wsX6_needs_r1 : List Cond := [Cond.fieldLink RX6 16 "ProcessYields" "recipes" "LProcessYields$Recipes;", Cond.methodLink RX6 64 yX6_checkPart, Cond.static yX6_checkPart, Cond.initialized RX6, Cond.code yX6_checkPart cX6_checkPart 4 none, Cond.classLink RX6 76 "java/lang/IllegalArgumentException", Cond.initialized "java/lang/IllegalArgumentException", Cond.methodLink RX6 48 yX6_isGood, Cond.static yX6_isGood, Cond.code yX6_isGood cX6_isGood 1 (some .boolean), Cond.methodLink RX6 52 yX6_isWithin, Cond.static yX6_isWithin, Cond.code yX6_isWithin cX6_isWithin 3 (some .boolean), Cond.methodLink RX6 68 yX5_addNeed, Cond.instanceMethod yX5_addNeed, Cond.selects RX5 yX5_addNeed yX5_addNeed, Cond.initialized RX5, Cond.code yX5_addNeed cX5_addNeed 5 (some .boolean), Cond.fieldLink RX5 9 "ProcessYields$Recipes" "has" "[Z", Cond.fieldLink RX5 20 "ProcessYields$Recipes" "inputs" "LProcessYields$Parts;", Cond.methodLink RX5 31 yX3_add, Cond.instanceMethod yX3_add, Cond.selects RX3 yX3_add yX3_add, Cond.initialized RX3]
def wsX6_needs_r2 : List Cond := [Cond.code yX3_add cX3_add 6 (some .boolean), Cond.fieldLink RX3 9 "ProcessYields$Parts" "sizes" "[I", Cond.fieldLink RX3 30 "ProcessYields$Parts" "most" "I", Cond.fieldLink RX3 15 "ProcessYields$Parts" "goods" "[I", Cond.fieldLink RX3 18 "ProcessYields$Parts" "ups" "[I", Cond.fieldLink RX3 21 "ProcessYields$Parts" "downs" "[I", Cond.methodLink RX3 34 yX3_isTold, Cond.instanceMethod yX3_isTold, Cond.selects RX3 yX3_isTold yX3_isTold, Cond.code yX3_isTold cX3_isTold 4 (some .boolean), Cond.methodLink RX3 41 yX3_goodAt, Cond.instanceMethod yX3_goodAt, Cond.selects RX3 yX3_goodAt yX3_goodAt, Cond.code yX3_goodAt cX3_goodAt 3 (some .int), Cond.methodLink RX3 38 yX3_place, Cond.static yX3_place, Cond.code yX3_place cX3_place 2 (some .int), Cond.methodLink RX5 35 yX5_measureDepths, Cond.instanceMethod yX5_measureDepths, Cond.selects RX5 yX5_measureDepths yX5_measureDepths, Cond.code yX5_measureDepths cX5_measureDepths 4 (some .int), Cond.fieldLink RX5 27 "ProcessYields$Recipes" "depths" "[I", Cond.methodLink RX5 46 Lib.Math.max.name, Cond.static Lib.Math.max.name]
def wsX6_needs_r3 : List Cond := [Cond.initialized "java/lang/Math", Cond.code Lib.Math.max.name Lib.Math.max.code 2 (some .int), Cond.methodLink RX5 42 yX5_depthByNeeds, Cond.instanceMethod yX5_depthByNeeds, Cond.selects RX5 yX5_depthByNeeds yX5_depthByNeeds, Cond.code yX5_depthByNeeds cX5_depthByNeeds 4 (some .int), Cond.fieldLink RX5 52 "ProcessYields$Parts" "sizes" "[I", Cond.methodLink RX5 55 yX3_goodAt, Cond.methodLink RX5 39 yX3_dropLast, Cond.instanceMethod yX3_dropLast, Cond.selects RX3 yX3_dropLast yX3_dropLast, Cond.code yX3_dropLast cX3_dropLast 2 none]
def wsX6_needs : List Cond := .code yX6_needs cX6_needs 5 (some .int) :: ((wsX6_needs_r1 ++ (wsX6_needs_r2 ++ wsX6_needs_r3)) ++ wsX60 ++ wsX50 ++ wsX30 ++ (vx_atS RX6 80 "java/lang/IllegalArgumentException" ["java/lang/RuntimeException", "java/lang/Exception"]).filter goodWord)
def wsX6_yields_r1 : List Cond := [Cond.fieldLink RX6 16 "ProcessYields" "recipes" "LProcessYields$Recipes;", Cond.methodLink RX6 64 yX6_checkPart, Cond.static yX6_checkPart, Cond.initialized RX6, Cond.code yX6_checkPart cX6_checkPart 4 none, Cond.classLink RX6 76 "java/lang/IllegalArgumentException", Cond.initialized "java/lang/IllegalArgumentException", Cond.methodLink RX6 48 yX6_isGood, Cond.static yX6_isGood, Cond.code yX6_isGood cX6_isGood 1 (some .boolean), Cond.methodLink RX6 52 yX6_isWithin, Cond.static yX6_isWithin, Cond.code yX6_isWithin cX6_isWithin 3 (some .boolean), Cond.methodLink RX6 72 yX5_addByProduct, Cond.instanceMethod yX5_addByProduct, Cond.selects RX5 yX5_addByProduct yX5_addByProduct, Cond.initialized RX5, Cond.code yX5_addByProduct cX5_addByProduct 5 (some .boolean), Cond.fieldLink RX5 9 "ProcessYields$Recipes" "has" "[Z", Cond.fieldLink RX5 24 "ProcessYields$Recipes" "outputs" "LProcessYields$Parts;", Cond.methodLink RX5 31 yX3_add, Cond.instanceMethod yX3_add, Cond.selects RX3 yX3_add yX3_add, Cond.initialized RX3]
def wsX6_yields_r2 : List Cond := [Cond.code yX3_add cX3_add 6 (some .boolean), Cond.fieldLink RX3 9 "ProcessYields$Parts" "sizes" "[I", Cond.fieldLink RX3 30 "ProcessYields$Parts" "most" "I", Cond.fieldLink RX3 15 "ProcessYields$Parts" "goods" "[I", Cond.fieldLink RX3 18 "ProcessYields$Parts" "ups" "[I", Cond.fieldLink RX3 21 "ProcessYields$Parts" "downs" "[I", Cond.methodLink RX3 34 yX3_isTold, Cond.instanceMethod yX3_isTold, Cond.selects RX3 yX3_isTold yX3_isTold, Cond.code yX3_isTold cX3_isTold 4 (some .boolean), Cond.methodLink RX3 41 yX3_goodAt, Cond.instanceMethod yX3_goodAt, Cond.selects RX3 yX3_goodAt yX3_goodAt, Cond.code yX3_goodAt cX3_goodAt 3 (some .int), Cond.methodLink RX3 38 yX3_place, Cond.static yX3_place, Cond.code yX3_place cX3_place 2 (some .int)]
def wsX6_yields : List Cond := .code yX6_yields cX6_yields 5 (some .int) :: ((wsX6_yields_r1 ++ wsX6_yields_r2) ++ wsX60 ++ wsX50 ++ wsX30 ++ (vx_atS RX6 80 "java/lang/IllegalArgumentException" ["java/lang/RuntimeException", "java/lang/Exception"]).filter goodWord)
def wsX6_in_r1 : List Cond := [Cond.classLink RX6 76 "java/lang/IllegalArgumentException", Cond.initialized "java/lang/IllegalArgumentException", Cond.classLink RX6 87 "java/lang/IllegalStateException", Cond.initialized "java/lang/IllegalStateException", Cond.constant RX6 75 (1000000), Cond.fieldLink RX6 23 "ProcessYields" "lots" "LProcessYields$Lots;", Cond.fieldLink RX6 92 "ProcessYields" "today" "I", Cond.fieldLink RX6 99 "ProcessYields" "imported" "J", Cond.fieldLink RX6 103 "ProcessYields" "discharged" "J", Cond.fieldLink RX6 30 "ProcessYields" "priors" "LProcessYields$Priors;", Cond.methodLink RX6 48 yX6_isGood, Cond.static yX6_isGood, Cond.initialized RX6, Cond.code yX6_isGood cX6_isGood 1 (some .boolean), Cond.methodLink RX6 52 yX6_isWithin, Cond.static yX6_isWithin, Cond.code yX6_isWithin cX6_isWithin 3 (some .boolean), Cond.methodLink RX6 83 yX2_free, Cond.instanceMethod yX2_free, Cond.selects RX2 yX2_free yX2_free, Cond.initialized RX2, Cond.code yX2_free cX2_free 1 (some .int), Cond.fieldLink RX2 25 "ProcessYields$Lots" "size" "I", Cond.methodLink RX6 95 yX2_add]
def wsX6_in_r2 : List Cond := [Cond.instanceMethod yX2_add, Cond.selects RX2 yX2_add yX2_add, Cond.code yX2_add cX2_add 7 (some .int), Cond.fieldLink RX2 9 "ProcessYields$Lots" "goods" "[I", Cond.fieldLink RX2 15 "ProcessYields$Lots" "lefts" "[J", Cond.fieldLink RX2 19 "ProcessYields$Lots" "debts" "[J", Cond.fieldLink RX2 22 "ProcessYields$Lots" "days" "[I", Cond.methodLink RX6 106 yX4_meet, Cond.instanceMethod yX4_meet, Cond.selects RX4 yX4_meet yX4_meet, Cond.initialized RX4, Cond.code yX4_meet cX4_meet 9 (some .long), Cond.fieldLink RX4 30 "ProcessYields$Lots" "size" "I", Cond.fieldLink RX4 22 "ProcessYields$Priors" "size" "I", Cond.fieldLink RX4 36 "ProcessYields$Lots" "lefts" "[J", Cond.fieldLink RX4 37 "ProcessYields$Lots" "goods" "[I", Cond.fieldLink RX4 15 "ProcessYields$Priors" "lefts" "[J", Cond.methodLink RX4 38 Lib.MathLoose.min_long.x, Cond.static Lib.MathLoose.min_long.x, Cond.initialized "java/lang/Math", Cond.code Lib.MathLoose.min_long.x Lib.MathLoose.min_long.code 4 (some .long), Cond.methodLink RX4 26 yX4_isOpen, Cond.instanceMethod yX4_isOpen, Cond.selects RX4 yX4_isOpen yX4_isOpen]
def wsX6_in_r3 : List Cond := [Cond.code yX4_isOpen cX4_isOpen 4 (some .boolean), Cond.fieldLink RX4 9 "ProcessYields$Priors" "goods" "[I", Cond.fieldLink RX4 19 "ProcessYields$Priors" "untils" "[I", Cond.methodLink RX4 44 yX2_takeFrom, Cond.instanceMethod yX2_takeFrom, Cond.selects RX2 yX2_takeFrom yX2_takeFrom, Cond.code yX2_takeFrom cX2_takeFrom 6 (some .long), Cond.static yX6_floorOf, Cond.code yX6_floorOf cX6_floorOf 4 (some .long)]
def wsX6_in : List Cond := .code yX6_in cX6_in 5 (some .int) :: ((wsX6_in_r1 ++ (wsX6_in_r2 ++ wsX6_in_r3)) ++ wsX60 ++ wsX20 ++ wsX40 ++ (vx_atS RX6 80 "java/lang/IllegalArgumentException" ["java/lang/RuntimeException", "java/lang/Exception"]).filter goodWord ++ (vx_atS RX6 91 "java/lang/IllegalStateException" ["java/lang/RuntimeException", "java/lang/Exception"]).filter goodWord)
def wsX6_suffices_r1 : List Cond := [Cond.fieldLink RX6 16 "ProcessYields" "recipes" "LProcessYields$Recipes;", Cond.fieldLink RX6 110 "ProcessYields$Recipes" "inputs" "LProcessYields$Parts;", Cond.fieldLink RX6 114 "ProcessYields$Parts" "sizes" "[I", Cond.fieldLink RX6 23 "ProcessYields" "lots" "LProcessYields$Lots;", Cond.methodLink RX6 240 yX3_goodAt, Cond.instanceMethod yX3_goodAt, Cond.selects RX3 yX3_goodAt yX3_goodAt, Cond.initialized RX3, Cond.code yX3_goodAt cX3_goodAt 3 (some .int), Cond.fieldLink RX3 15 "ProcessYields$Parts" "goods" "[I", Cond.methodLink RX3 38 yX3_place, Cond.static yX3_place, Cond.code yX3_place cX3_place 2 (some .int), Cond.methodLink RX6 155 yX2_stockOf, Cond.instanceMethod yX2_stockOf, Cond.selects RX2 yX2_stockOf yX2_stockOf, Cond.initialized RX2, Cond.code yX2_stockOf cX2_stockOf 5 (some .long), Cond.fieldLink RX2 25 "ProcessYields$Lots" "size" "I", Cond.fieldLink RX2 9 "ProcessYields$Lots" "goods" "[I", Cond.fieldLink RX2 15 "ProcessYields$Lots" "lefts" "[J", Cond.methodLink RX6 244 yX3_roundedUp, Cond.instanceMethod yX3_roundedUp, Cond.selects RX3 yX3_roundedUp yX3_roundedUp]
def wsX6_suffices_r2 : List Cond := [Cond.code yX3_roundedUp cX3_roundedUp 5 (some .long), Cond.fieldLink RX3 18 "ProcessYields$Parts" "ups" "[I", Cond.fieldLink RX3 21 "ProcessYields$Parts" "downs" "[I", Cond.static yX6_ceilOf, Cond.initialized RX6, Cond.code yX6_ceilOf cX6_ceilOf 4 (some .long), Cond.methodLink RX6 252 yX6_floorOf, Cond.static yX6_floorOf, Cond.code yX6_floorOf cX6_floorOf 4 (some .long)]
def wsX6_suffices : List Cond := .code yX6_suffices cX6_suffices 5 (some .boolean) :: ((wsX6_suffices_r1 ++ wsX6_suffices_r2) ++ wsX60 ++ wsX50 ++ wsX30 ++ wsX20)
def wsX6_takeNeeds_r1 : List Cond := [Cond.fieldLink RX6 16 "ProcessYields" "recipes" "LProcessYields$Recipes;", Cond.fieldLink RX6 110 "ProcessYields$Recipes" "inputs" "LProcessYields$Parts;", Cond.fieldLink RX6 114 "ProcessYields$Parts" "sizes" "[I", Cond.fieldLink RX6 23 "ProcessYields" "lots" "LProcessYields$Lots;", Cond.fieldLink RX6 92 "ProcessYields" "today" "I", Cond.methodLink RX6 240 yX3_goodAt, Cond.instanceMethod yX3_goodAt, Cond.selects RX3 yX3_goodAt yX3_goodAt, Cond.initialized RX3, Cond.code yX3_goodAt cX3_goodAt 3 (some .int), Cond.fieldLink RX3 15 "ProcessYields$Parts" "goods" "[I", Cond.methodLink RX3 38 yX3_place, Cond.static yX3_place, Cond.code yX3_place cX3_place 2 (some .int), Cond.methodLink RX6 244 yX3_roundedUp, Cond.instanceMethod yX3_roundedUp, Cond.selects RX3 yX3_roundedUp yX3_roundedUp, Cond.code yX3_roundedUp cX3_roundedUp 5 (some .long), Cond.fieldLink RX3 18 "ProcessYields$Parts" "ups" "[I", Cond.fieldLink RX3 21 "ProcessYields$Parts" "downs" "[I", Cond.static yX6_ceilOf, Cond.initialized RX6, Cond.code yX6_ceilOf cX6_ceilOf 4 (some .long), Cond.methodLink RX6 252 yX6_floorOf]
def wsX6_takeNeeds_r2 : List Cond := [Cond.static yX6_floorOf, Cond.code yX6_floorOf cX6_floorOf 4 (some .long), Cond.methodLink RX6 161 yX2_take, Cond.instanceMethod yX2_take, Cond.selects RX2 yX2_take yX2_take, Cond.initialized RX2, Cond.code yX2_take cX2_take 14 (some .long), Cond.fieldLink RX2 29 "ProcessYields$Lots" "takenInterest" "J", Cond.fieldLink RX2 25 "ProcessYields$Lots" "size" "I", Cond.fieldLink RX2 9 "ProcessYields$Lots" "goods" "[I", Cond.fieldLink RX2 15 "ProcessYields$Lots" "lefts" "[J", Cond.methodLink RX2 33 Lib.MathLoose.min_long.x, Cond.static Lib.MathLoose.min_long.x, Cond.initialized "java/lang/Math", Cond.code Lib.MathLoose.min_long.x Lib.MathLoose.min_long.code 4 (some .long), Cond.constantLong RX2 47 (100), Cond.methodLink RX2 39 yX2_takeFrom, Cond.instanceMethod yX2_takeFrom, Cond.selects RX2 yX2_takeFrom yX2_takeFrom, Cond.code yX2_takeFrom cX2_takeFrom 6 (some .long), Cond.fieldLink RX2 19 "ProcessYields$Lots" "debts" "[J", Cond.methodLink RX2 43 yX2_months, Cond.instanceMethod yX2_months, Cond.selects RX2 yX2_months yX2_months]
def wsX6_takeNeeds_r3 : List Cond := [Cond.code yX2_months cX2_months 3 (some .long), Cond.fieldLink RX2 22 "ProcessYields$Lots" "days" "[I", Cond.constantLong RX2 52 (30)]
def wsX6_takeNeeds : List Cond := .code yX6_takeNeeds cX6_takeNeeds 7 (some .long) :: ((wsX6_takeNeeds_r1 ++ (wsX6_takeNeeds_r2 ++ wsX6_takeNeeds_r3)) ++ wsX60 ++ wsX50 ++ wsX30 ++ wsX20)
def wsX6_made_r1 : List Cond := [Cond.classLink RX6 76 "java/lang/IllegalArgumentException", Cond.initialized "java/lang/IllegalArgumentException", Cond.fieldLink RX6 16 "ProcessYields" "recipes" "LProcessYields$Recipes;", Cond.fieldLink RX6 110 "ProcessYields$Recipes" "inputs" "LProcessYields$Parts;", Cond.fieldLink RX6 114 "ProcessYields$Parts" "sizes" "[I", Cond.fieldLink RX6 37 "ProcessYields" "batch" "LProcessYields$Batch;", Cond.fieldLink RX6 121 "ProcessYields$Recipes" "outputs" "LProcessYields$Parts;", Cond.fieldLink RX6 23 "ProcessYields" "lots" "LProcessYields$Lots;", Cond.fieldLink RX6 9 "ProcessYields" "values" "[I", Cond.fieldLink RX6 92 "ProcessYields" "today" "I", Cond.methodLink RX6 48 yX6_isGood, Cond.static yX6_isGood, Cond.initialized RX6, Cond.code yX6_isGood cX6_isGood 1 (some .boolean), Cond.methodLink RX6 52 yX6_isWithin, Cond.static yX6_isWithin, Cond.code yX6_isWithin cX6_isWithin 3 (some .boolean), Cond.methodLink RX6 124 yX0_plan, Cond.instanceMethod yX0_plan, Cond.selects RX0 yX0_plan yX0_plan, Cond.initialized RX0, Cond.code yX0_plan cX0_plan 5 none, Cond.fieldLink RX0 9 "ProcessYields$Batch" "goods" "[I", Cond.fieldLink RX0 15 "ProcessYields$Batch" "amounts" "[J"]
def wsX6_made_r2 : List Cond := [Cond.fieldLink RX0 28 "ProcessYields$Batch" "size" "I", Cond.fieldLink RX0 32 "ProcessYields$Parts" "sizes" "[I", Cond.methodLink RX0 37 yX3_goodAt, Cond.instanceMethod yX3_goodAt, Cond.selects RX3 yX3_goodAt yX3_goodAt, Cond.initialized RX3, Cond.code yX3_goodAt cX3_goodAt 3 (some .int), Cond.fieldLink RX3 15 "ProcessYields$Parts" "goods" "[I", Cond.methodLink RX3 38 yX3_place, Cond.static yX3_place, Cond.code yX3_place cX3_place 2 (some .int), Cond.methodLink RX0 41 yX3_roundedDown, Cond.instanceMethod yX3_roundedDown, Cond.selects RX3 yX3_roundedDown yX3_roundedDown, Cond.code yX3_roundedDown cX3_roundedDown 5 (some .long), Cond.fieldLink RX3 18 "ProcessYields$Parts" "ups" "[I", Cond.fieldLink RX3 21 "ProcessYields$Parts" "downs" "[I", Cond.static yX6_floorOf, Cond.code yX6_floorOf cX6_floorOf 4 (some .long), Cond.methodLink RX6 128 yX6_suffices, Cond.instanceMethod yX6_suffices, Cond.selects RX6 yX6_suffices yX6_suffices, Cond.code yX6_suffices cX6_suffices 5 (some .boolean), Cond.methodLink RX6 240 yX3_goodAt]
def wsX6_made_r3 : List Cond := [Cond.methodLink RX6 155 yX2_stockOf, Cond.instanceMethod yX2_stockOf, Cond.selects RX2 yX2_stockOf yX2_stockOf, Cond.initialized RX2, Cond.code yX2_stockOf cX2_stockOf 5 (some .long), Cond.fieldLink RX2 25 "ProcessYields$Lots" "size" "I", Cond.fieldLink RX2 9 "ProcessYields$Lots" "goods" "[I", Cond.fieldLink RX2 15 "ProcessYields$Lots" "lefts" "[J", Cond.methodLink RX6 244 yX3_roundedUp, Cond.instanceMethod yX3_roundedUp, Cond.selects RX3 yX3_roundedUp yX3_roundedUp, Cond.code yX3_roundedUp cX3_roundedUp 5 (some .long), Cond.static yX6_ceilOf, Cond.code yX6_ceilOf cX6_ceilOf 4 (some .long), Cond.methodLink RX6 252 yX6_floorOf, Cond.methodLink RX6 83 yX2_free, Cond.instanceMethod yX2_free, Cond.selects RX2 yX2_free yX2_free, Cond.code yX2_free cX2_free 1 (some .int), Cond.methodLink RX6 132 yX0_lotsToAdd, Cond.instanceMethod yX0_lotsToAdd, Cond.selects RX0 yX0_lotsToAdd yX0_lotsToAdd, Cond.code yX0_lotsToAdd cX0_lotsToAdd 3 (some .int), Cond.methodLink RX6 135 yX0_weigh]
def wsX6_made_r4 : List Cond := [Cond.instanceMethod yX0_weigh, Cond.selects RX0 yX0_weigh yX0_weigh, Cond.code yX0_weigh cX0_weigh 4 none, Cond.fieldLink RX0 19 "ProcessYields$Batch" "weights" "[J", Cond.methodLink RX6 139 yX6_takeNeeds, Cond.instanceMethod yX6_takeNeeds, Cond.selects RX6 yX6_takeNeeds yX6_takeNeeds, Cond.code yX6_takeNeeds cX6_takeNeeds 7 (some .long), Cond.methodLink RX6 161 yX2_take, Cond.instanceMethod yX2_take, Cond.selects RX2 yX2_take yX2_take, Cond.code yX2_take cX2_take 14 (some .long), Cond.fieldLink RX2 29 "ProcessYields$Lots" "takenInterest" "J", Cond.methodLink RX2 33 Lib.MathLoose.min_long.x, Cond.static Lib.MathLoose.min_long.x, Cond.initialized "java/lang/Math", Cond.code Lib.MathLoose.min_long.x Lib.MathLoose.min_long.code 4 (some .long), Cond.constantLong RX2 47 (100), Cond.methodLink RX2 39 yX2_takeFrom, Cond.instanceMethod yX2_takeFrom, Cond.selects RX2 yX2_takeFrom yX2_takeFrom, Cond.code yX2_takeFrom cX2_takeFrom 6 (some .long), Cond.fieldLink RX2 19 "ProcessYields$Lots" "debts" "[J", Cond.methodLink RX2 43 yX2_months]
def wsX6_made_r5 : List Cond := [Cond.instanceMethod yX2_months, Cond.selects RX2 yX2_months yX2_months, Cond.code yX2_months cX2_months 3 (some .long), Cond.fieldLink RX2 22 "ProcessYields$Lots" "days" "[I", Cond.constantLong RX2 52 (30), Cond.methodLink RX6 143 yX0_apportion, Cond.instanceMethod yX0_apportion, Cond.selects RX0 yX0_apportion yX0_apportion, Cond.code yX0_apportion cX0_apportion 8 none, Cond.fieldLink RX0 22 "ProcessYields$Batch" "shares" "[J", Cond.fieldLink RX0 25 "ProcessYields$Batch" "remainders" "[J", Cond.methodLink RX0 49 yX0_spread, Cond.instanceMethod yX0_spread, Cond.selects RX0 yX0_spread yX0_spread, Cond.code yX0_spread cX0_spread 5 none, Cond.constantLong RX0 57 (-1), Cond.methodLink RX0 53 yX0_greatestRemainder, Cond.instanceMethod yX0_greatestRemainder, Cond.selects RX0 yX0_greatestRemainder yX0_greatestRemainder, Cond.code yX0_greatestRemainder cX0_greatestRemainder 3 (some .int), Cond.methodLink RX6 147 yX0_store, Cond.instanceMethod yX0_store, Cond.selects RX0 yX0_store yX0_store, Cond.code yX0_store cX0_store 4 none]
def wsX6_made_r6 : List Cond := [Cond.methodLink RX0 59 yX2_add, Cond.instanceMethod yX2_add, Cond.selects RX2 yX2_add yX2_add, Cond.code yX2_add cX2_add 7 (some .int)]
def wsX6_made : List Cond := .code yX6_made cX6_made 4 (some .int) :: ((wsX6_made_r1 ++ (wsX6_made_r2 ++ (wsX6_made_r3 ++ (wsX6_made_r4 ++ (wsX6_made_r5 ++ wsX6_made_r6))))) ++ wsX60 ++ wsX50 ++ wsX30 ++ wsX00 ++ wsX20 ++ (vx_atS RX6 80 "java/lang/IllegalArgumentException" ["java/lang/RuntimeException", "java/lang/Exception"]).filter goodWord)
def wsX6_checkTaking : List Cond := .code yX6_checkTaking cX6_checkTaking 2 none :: ([.classLink RX6 76 "java/lang/IllegalArgumentException", .initialized "java/lang/IllegalArgumentException", .methodLink RX6 48 yX6_isGood, .static yX6_isGood, .initialized RX6, .code yX6_isGood cX6_isGood 1 (some .boolean), .methodLink RX6 52 yX6_isWithin, .static yX6_isWithin, .code yX6_isWithin cX6_isWithin 3 (some .boolean)] ++ (vx_atS RX6 80 "java/lang/IllegalArgumentException" ["java/lang/RuntimeException", "java/lang/Exception"]).filter goodWord)
def wsX6_export_r1 : List Cond := [Cond.fieldLink RX6 23 "ProcessYields" "lots" "LProcessYields$Lots;", Cond.constantLong RX6 159 (-1), Cond.fieldLink RX6 92 "ProcessYields" "today" "I", Cond.fieldLink RX6 103 "ProcessYields" "discharged" "J", Cond.methodLink RX6 151 yX6_checkTaking, Cond.static yX6_checkTaking, Cond.initialized RX6, Cond.code yX6_checkTaking cX6_checkTaking 2 none, Cond.classLink RX6 76 "java/lang/IllegalArgumentException", Cond.initialized "java/lang/IllegalArgumentException", Cond.methodLink RX6 48 yX6_isGood, Cond.static yX6_isGood, Cond.code yX6_isGood cX6_isGood 1 (some .boolean), Cond.methodLink RX6 52 yX6_isWithin, Cond.static yX6_isWithin, Cond.code yX6_isWithin cX6_isWithin 3 (some .boolean), Cond.methodLink RX6 155 yX2_stockOf, Cond.instanceMethod yX2_stockOf, Cond.selects RX2 yX2_stockOf yX2_stockOf, Cond.initialized RX2, Cond.code yX2_stockOf cX2_stockOf 5 (some .long), Cond.fieldLink RX2 25 "ProcessYields$Lots" "size" "I", Cond.fieldLink RX2 9 "ProcessYields$Lots" "goods" "[I", Cond.fieldLink RX2 15 "ProcessYields$Lots" "lefts" "[J"]
def wsX6_export_r2 : List Cond := [Cond.methodLink RX6 161 yX2_take, Cond.instanceMethod yX2_take, Cond.selects RX2 yX2_take yX2_take, Cond.code yX2_take cX2_take 14 (some .long), Cond.fieldLink RX2 29 "ProcessYields$Lots" "takenInterest" "J", Cond.methodLink RX2 33 Lib.MathLoose.min_long.x, Cond.static Lib.MathLoose.min_long.x, Cond.initialized "java/lang/Math", Cond.code Lib.MathLoose.min_long.x Lib.MathLoose.min_long.code 4 (some .long), Cond.constantLong RX2 47 (100), Cond.methodLink RX2 39 yX2_takeFrom, Cond.instanceMethod yX2_takeFrom, Cond.selects RX2 yX2_takeFrom yX2_takeFrom, Cond.code yX2_takeFrom cX2_takeFrom 6 (some .long), Cond.fieldLink RX2 19 "ProcessYields$Lots" "debts" "[J", Cond.static yX6_floorOf, Cond.code yX6_floorOf cX6_floorOf 4 (some .long), Cond.methodLink RX2 43 yX2_months, Cond.instanceMethod yX2_months, Cond.selects RX2 yX2_months yX2_months, Cond.code yX2_months cX2_months 3 (some .long), Cond.fieldLink RX2 22 "ProcessYields$Lots" "days" "[I", Cond.constantLong RX2 52 (30), Cond.static yX6_ceilOf]
def wsX6_export_r3 : List Cond := [Cond.code yX6_ceilOf cX6_ceilOf 4 (some .long), Cond.methodLink RX6 252 yX6_floorOf]
def wsX6_export : List Cond := .code yX6_export cX6_export 5 (some .long) :: ((wsX6_export_r1 ++ (wsX6_export_r2 ++ wsX6_export_r3)) ++ wsX60 ++ wsX20 ++ (vx_atS RX6 80 "java/lang/IllegalArgumentException" ["java/lang/RuntimeException", "java/lang/Exception"]).filter goodWord)
def wsX6_release_r1 : List Cond := [Cond.fieldLink RX6 23 "ProcessYields" "lots" "LProcessYields$Lots;", Cond.constantLong RX6 159 (-1), Cond.fieldLink RX6 92 "ProcessYields" "today" "I", Cond.fieldLink RX6 165 "ProcessYields" "owed" "J", Cond.fieldLink RX6 168 "ProcessYields" "interest" "J", Cond.fieldLink RX6 171 "ProcessYields$Lots" "takenInterest" "J", Cond.methodLink RX6 151 yX6_checkTaking, Cond.static yX6_checkTaking, Cond.initialized RX6, Cond.code yX6_checkTaking cX6_checkTaking 2 none, Cond.classLink RX6 76 "java/lang/IllegalArgumentException", Cond.initialized "java/lang/IllegalArgumentException", Cond.methodLink RX6 48 yX6_isGood, Cond.static yX6_isGood, Cond.code yX6_isGood cX6_isGood 1 (some .boolean), Cond.methodLink RX6 52 yX6_isWithin, Cond.static yX6_isWithin, Cond.code yX6_isWithin cX6_isWithin 3 (some .boolean), Cond.methodLink RX6 155 yX2_stockOf, Cond.instanceMethod yX2_stockOf, Cond.selects RX2 yX2_stockOf yX2_stockOf, Cond.initialized RX2, Cond.code yX2_stockOf cX2_stockOf 5 (some .long), Cond.fieldLink RX2 25 "ProcessYields$Lots" "size" "I"]
def wsX6_release_r2 : List Cond := [Cond.fieldLink RX2 9 "ProcessYields$Lots" "goods" "[I", Cond.fieldLink RX2 15 "ProcessYields$Lots" "lefts" "[J", Cond.methodLink RX6 161 yX2_take, Cond.instanceMethod yX2_take, Cond.selects RX2 yX2_take yX2_take, Cond.code yX2_take cX2_take 14 (some .long), Cond.fieldLink RX2 29 "ProcessYields$Lots" "takenInterest" "J", Cond.methodLink RX2 33 Lib.MathLoose.min_long.x, Cond.static Lib.MathLoose.min_long.x, Cond.initialized "java/lang/Math", Cond.code Lib.MathLoose.min_long.x Lib.MathLoose.min_long.code 4 (some .long), Cond.constantLong RX2 47 (100), Cond.methodLink RX2 39 yX2_takeFrom, Cond.instanceMethod yX2_takeFrom, Cond.selects RX2 yX2_takeFrom yX2_takeFrom, Cond.code yX2_takeFrom cX2_takeFrom 6 (some .long), Cond.fieldLink RX2 19 "ProcessYields$Lots" "debts" "[J", Cond.static yX6_floorOf, Cond.code yX6_floorOf cX6_floorOf 4 (some .long), Cond.methodLink RX2 43 yX2_months, Cond.instanceMethod yX2_months, Cond.selects RX2 yX2_months yX2_months, Cond.code yX2_months cX2_months 3 (some .long), Cond.fieldLink RX2 22 "ProcessYields$Lots" "days" "[I"]
def wsX6_release_r3 : List Cond := [Cond.constantLong RX2 52 (30), Cond.static yX6_ceilOf, Cond.code yX6_ceilOf cX6_ceilOf 4 (some .long), Cond.methodLink RX6 252 yX6_floorOf]
def wsX6_release : List Cond := .code yX6_release cX6_release 5 (some .long) :: ((wsX6_release_r1 ++ (wsX6_release_r2 ++ wsX6_release_r3)) ++ wsX60 ++ wsX20 ++ (vx_atS RX6 80 "java/lang/IllegalArgumentException" ["java/lang/RuntimeException", "java/lang/Exception"]).filter goodWord)
def wsX6_prior : List Cond := .code yX6_prior cX6_prior 4 (some .int) :: ([.classLink RX6 76 "java/lang/IllegalArgumentException", .initialized "java/lang/IllegalArgumentException", .classLink RX6 87 "java/lang/IllegalStateException", .initialized "java/lang/IllegalStateException", .constant RX6 174 (100000), .fieldLink RX6 30 "ProcessYields" "priors" "LProcessYields$Priors;", .fieldLink RX6 177 "ProcessYields$Priors" "size" "I", .methodLink RX6 48 yX6_isGood, .static yX6_isGood, .initialized RX6, .code yX6_isGood cX6_isGood 1 (some .boolean), .methodLink RX6 52 yX6_isWithin, .static yX6_isWithin, .code yX6_isWithin cX6_isWithin 3 (some .boolean), .methodLink RX6 180 yX4_add, .instanceMethod yX4_add, .selects RX4 yX4_add yX4_add, .initialized RX4, .code yX4_add cX4_add 4 none, .fieldLink RX4 22 "ProcessYields$Priors" "size" "I", .fieldLink RX4 9 "ProcessYields$Priors" "goods" "[I", .fieldLink RX4 15 "ProcessYields$Priors" "lefts" "[J", .fieldLink RX4 19 "ProcessYields$Priors" "untils" "[I"] ++ wsX60 ++ wsX40 ++ (vx_atS RX6 80 "java/lang/IllegalArgumentException" ["java/lang/RuntimeException", "java/lang/Exception"]).filter goodWord ++ (vx_atS RX6 91 "java/lang/IllegalStateException" ["java/lang/RuntimeException", "java/lang/Exception"]).filter goodWord)
def wsX6_day : List Cond := .code yX6_day cX6_day 2 (some .boolean) :: ([.fieldLink RX6 92 "ProcessYields" "today" "I", .constant RX6 174 (100000), .methodLink RX6 52 yX6_isWithin, .static yX6_isWithin, .initialized RX6, .code yX6_isWithin cX6_isWithin 3 (some .boolean)] ++ wsX60)
def wsX6_chain_r1 : List Cond := [Cond.classLink RX6 76 "java/lang/IllegalArgumentException", Cond.initialized "java/lang/IllegalArgumentException", Cond.fieldLink RX6 44 "ProcessYields" "ways" "LProcessYields$Chain;", Cond.fieldLink RX6 16 "ProcessYields" "recipes" "LProcessYields$Recipes;", Cond.fieldLink RX6 189 "ProcessYields$Chain" "above" "[J", Cond.fieldLink RX6 193 "ProcessYields$Chain" "below" "[J", Cond.methodLink RX6 48 yX6_isGood, Cond.static yX6_isGood, Cond.initialized RX6, Cond.code yX6_isGood cX6_isGood 1 (some .boolean), Cond.methodLink RX6 52 yX6_isWithin, Cond.static yX6_isWithin, Cond.code yX6_isWithin cX6_isWithin 3 (some .boolean), Cond.methodLink RX6 185 yX1_trace, Cond.instanceMethod yX1_trace, Cond.selects RX1 yX1_trace yX1_trace, Cond.initialized RX1, Cond.code yX1_trace cX1_trace 5 none, Cond.fieldLink RX1 9 "ProcessYields$Chain" "above" "[J", Cond.fieldLink RX1 15 "ProcessYields$Chain" "below" "[J", Cond.fieldLink RX1 18 "ProcessYields$Recipes" "depths" "[I", Cond.fieldLink RX1 24 "ProcessYields$Recipes" "inputs" "LProcessYields$Parts;", Cond.methodLink RX1 28 yX1_gather, Cond.instanceMethod yX1_gather]
def wsX6_chain_r2 : List Cond := [Cond.selects RX1 yX1_gather yX1_gather, Cond.code yX1_gather cX1_gather 6 none, Cond.fieldLink RX1 32 "ProcessYields$Parts" "sizes" "[I", Cond.fieldLink RX1 41 "ProcessYields$Parts" "goods" "[I", Cond.fieldLink RX1 44 "ProcessYields$Parts" "ups" "[I", Cond.fieldLink RX1 47 "ProcessYields$Parts" "downs" "[I", Cond.methodLink RX1 37 yX3_place, Cond.static yX3_place, Cond.initialized RX3, Cond.code yX3_place cX3_place 2 (some .int), Cond.methodLink RX1 50 yX1_addFraction, Cond.instanceMethod yX1_addFraction, Cond.selects RX1 yX1_addFraction yX1_addFraction, Cond.code yX1_addFraction cX1_addFraction 18 none, Cond.static yX6_greatestDivisor, Cond.code yX6_greatestDivisor cX6_greatestDivisor 11 (some .long), Cond.methodLink RX6 252 yX6_floorOf, Cond.static yX6_floorOf, Cond.code yX6_floorOf cX6_floorOf 4 (some .long)]
def wsX6_chain : List Cond := .code yX6_chain cX6_chain 4 (some .long) :: ((wsX6_chain_r1 ++ wsX6_chain_r2) ++ wsX60 ++ wsX10 ++ wsX50 ++ wsX30 ++ (vx_atS RX6 80 "java/lang/IllegalArgumentException" ["java/lang/RuntimeException", "java/lang/Exception"]).filter goodWord)
def wsX6_look_r1 : List Cond := [Cond.classLink RX6 196 "java/lang/IndexOutOfBoundsException", Cond.initialized "java/lang/IndexOutOfBoundsException", Cond.fieldLink RX6 23 "ProcessYields" "lots" "LProcessYields$Lots;", Cond.fieldLink RX6 16 "ProcessYields" "recipes" "LProcessYields$Recipes;", Cond.fieldLink RX6 56 "ProcessYields$Recipes" "has" "[Z", Cond.fieldLink RX6 110 "ProcessYields$Recipes" "inputs" "LProcessYields$Parts;", Cond.fieldLink RX6 114 "ProcessYields$Parts" "sizes" "[I", Cond.constantLong RX6 159 (-1), Cond.fieldLink RX6 121 "ProcessYields$Recipes" "outputs" "LProcessYields$Parts;", Cond.fieldLink RX6 208 "ProcessYields$Recipes" "depths" "[I", Cond.fieldLink RX6 9 "ProcessYields" "values" "[I", Cond.fieldLink RX6 30 "ProcessYields" "priors" "LProcessYields$Priors;", Cond.fieldLink RX6 92 "ProcessYields" "today" "I", Cond.methodLink RX6 48 yX6_isGood, Cond.static yX6_isGood, Cond.initialized RX6, Cond.code yX6_isGood cX6_isGood 1 (some .boolean), Cond.methodLink RX6 52 yX6_isWithin, Cond.static yX6_isWithin, Cond.code yX6_isWithin cX6_isWithin 3 (some .boolean), Cond.methodLink RX6 155 yX2_stockOf, Cond.instanceMethod yX2_stockOf, Cond.selects RX2 yX2_stockOf yX2_stockOf, Cond.initialized RX2]
def wsX6_look_r2 : List Cond := [Cond.code yX2_stockOf cX2_stockOf 5 (some .long), Cond.fieldLink RX2 25 "ProcessYields$Lots" "size" "I", Cond.fieldLink RX2 9 "ProcessYields$Lots" "goods" "[I", Cond.fieldLink RX2 15 "ProcessYields$Lots" "lefts" "[J", Cond.methodLink RX6 201 yX2_debtOf, Cond.instanceMethod yX2_debtOf, Cond.selects RX2 yX2_debtOf yX2_debtOf, Cond.code yX2_debtOf cX2_debtOf 5 (some .long), Cond.fieldLink RX2 19 "ProcessYields$Lots" "debts" "[J", Cond.methodLink RX6 204 yX2_openOf, Cond.instanceMethod yX2_openOf, Cond.selects RX2 yX2_openOf yX2_openOf, Cond.code yX2_openOf cX2_openOf 4 (some .int), Cond.methodLink RX6 211 yX4_openOf, Cond.instanceMethod yX4_openOf, Cond.selects RX4 yX4_openOf yX4_openOf, Cond.initialized RX4, Cond.code yX4_openOf cX4_openOf 6 (some .long), Cond.fieldLink RX4 22 "ProcessYields$Priors" "size" "I", Cond.fieldLink RX4 15 "ProcessYields$Priors" "lefts" "[J", Cond.methodLink RX4 26 yX4_isOpen, Cond.instanceMethod yX4_isOpen, Cond.selects RX4 yX4_isOpen yX4_isOpen, Cond.code yX4_isOpen cX4_isOpen 4 (some .boolean)]
def wsX6_look_r3 : List Cond := [Cond.fieldLink RX4 9 "ProcessYields$Priors" "goods" "[I", Cond.fieldLink RX4 19 "ProcessYields$Priors" "untils" "[I"]
def wsX6_look : List Cond := .code yX6_look cX6_look 3 (some .long) :: ((wsX6_look_r1 ++ (wsX6_look_r2 ++ wsX6_look_r3)) ++ wsX60 ++ wsX50 ++ wsX30 ++ wsX20 ++ wsX40 ++ (vx_atS RX6 200 "java/lang/IndexOutOfBoundsException" ["java/lang/RuntimeException", "java/lang/Exception"]).filter goodWord)
def wsX6_lot : List Cond := .code yX6_lot cX6_lot 3 (some .long) :: ([.classLink RX6 196 "java/lang/IndexOutOfBoundsException", .initialized "java/lang/IndexOutOfBoundsException", .fieldLink RX6 23 "ProcessYields" "lots" "LProcessYields$Lots;", .fieldLink RX6 213 "ProcessYields$Lots" "size" "I", .fieldLink RX6 216 "ProcessYields$Lots" "goods" "[I", .fieldLink RX6 219 "ProcessYields$Lots" "lefts" "[J", .fieldLink RX6 222 "ProcessYields$Lots" "debts" "[J", .fieldLink RX6 225 "ProcessYields$Lots" "days" "[I", .methodLink RX6 52 yX6_isWithin, .static yX6_isWithin, .initialized RX6, .code yX6_isWithin cX6_isWithin 3 (some .boolean)] ++ wsX60 ++ wsX20 ++ (vx_atS RX6 200 "java/lang/IndexOutOfBoundsException" ["java/lang/RuntimeException", "java/lang/Exception"]).filter goodWord)
def wsX6_sum : List Cond := .code yX6_sum cX6_sum 2 (some .long) :: ([.fieldLink RX6 99 "ProcessYields" "imported" "J", .fieldLink RX6 103 "ProcessYields" "discharged" "J", .fieldLink RX6 165 "ProcessYields" "owed" "J", .fieldLink RX6 168 "ProcessYields" "interest" "J", .fieldLink RX6 23 "ProcessYields" "lots" "LProcessYields$Lots;", .constantLong RX6 159 (-1), .methodLink RX6 228 yX2_wholeDebt, .instanceMethod yX2_wholeDebt, .selects RX2 yX2_wholeDebt yX2_wholeDebt, .initialized RX2, .code yX2_wholeDebt cX2_wholeDebt 4 (some .long), .fieldLink RX2 25 "ProcessYields$Lots" "size" "I", .fieldLink RX2 19 "ProcessYields$Lots" "debts" "[J"] ++ wsX60 ++ wsX20)
def wsX6_quotient : List Cond := .code yX6_quotient cX6_quotient 3 (some .long) :: ([.classLink RX6 76 "java/lang/IllegalArgumentException", .initialized "java/lang/IllegalArgumentException", .classLink RX6 235 "java/lang/ArithmeticException", .initialized "java/lang/ArithmeticException", .constant RX6 232 (1000000000), .methodLink RX6 52 yX6_isWithin, .static yX6_isWithin, .initialized RX6, .code yX6_isWithin cX6_isWithin 3 (some .boolean)] ++ (vx_atS RX6 80 "java/lang/IllegalArgumentException" ["java/lang/RuntimeException", "java/lang/Exception"]).filter goodWord ++ (vx_atS RX6 239 "java/lang/ArithmeticException" ["java/lang/RuntimeException", "java/lang/Exception"]).filter goodWord)
def wsX6_count : List Cond := .code yX6_count cX6_count 2 (some .int) :: ([.fieldLink RX6 23 "ProcessYields" "lots" "LProcessYields$Lots;", .fieldLink RX6 213 "ProcessYields$Lots" "size" "I", .fieldLink RX6 16 "ProcessYields" "recipes" "LProcessYields$Recipes;", .fieldLink RX6 60 "ProcessYields$Recipes" "size" "I", .fieldLink RX6 30 "ProcessYields" "priors" "LProcessYields$Priors;", .fieldLink RX6 177 "ProcessYields$Priors" "size" "I", .fieldLink RX6 92 "ProcessYields" "today" "I"] ++ wsX60 ++ wsX20 ++ wsX50 ++ wsX40)
def wsX7_init_r1 : List Cond := [Cond.methodLink RX7 1 objectInit, Cond.instanceMethod objectInit, Cond.code objectInit ⟨#[0xb1]⟩ 1 none, Cond.arrayClass .int, Cond.fieldLink RX7 7 "ProcessYieldsModel" "value" "[I", Cond.arrayClass .boolean, Cond.fieldLink RX7 13 "ProcessYieldsModel" "isRecipe" "[Z", Cond.fieldLink RX7 17 "ProcessYieldsModel" "needs" "[I", Cond.fieldLink RX7 20 "ProcessYieldsModel" "byProducts" "[I", Cond.fieldLink RX7 23 "ProcessYieldsModel" "needGood" "[I", Cond.fieldLink RX7 26 "ProcessYieldsModel" "needUp" "[I", Cond.fieldLink RX7 29 "ProcessYieldsModel" "needDown" "[I", Cond.fieldLink RX7 32 "ProcessYieldsModel" "byGood" "[I", Cond.fieldLink RX7 35 "ProcessYieldsModel" "byUp" "[I", Cond.fieldLink RX7 38 "ProcessYieldsModel" "byDown" "[I", Cond.fieldLink RX7 41 "ProcessYieldsModel" "lotGood" "[I", Cond.fieldLink RX7 44 "ProcessYieldsModel" "lotDay" "[I", Cond.arrayClass .long, Cond.fieldLink RX7 47 "ProcessYieldsModel" "lotLeft" "[J", Cond.fieldLink RX7 51 "ProcessYieldsModel" "lotDebt" "[J", Cond.fieldLink RX7 54 "ProcessYieldsModel" "priorGood" "[I", Cond.fieldLink RX7 57 "ProcessYieldsModel" "priorUntil" "[I", Cond.fieldLink RX7 60 "ProcessYieldsModel" "priorLeft" "[J", Cond.fieldLink RX7 63 "ProcessYieldsModel" "weight" "[J"]
def wsX7_init_r2 : List Cond := [Cond.fieldLink RX7 66 "ProcessYieldsModel" "chains" "[J"]
def wsX7_init : List Cond := .code yX7_init cX7_init 1 none :: ((wsX7_init_r1 ++ wsX7_init_r2) ++ wsX70)
def wsX7_thrown : List Cond := .code yX7_thrown cX7_thrown 1 (some .int) :: ([.fieldLink RX7 69 "ProcessYieldsModel" "thrown" "I"] ++ wsX70)
def wsX7_within : List Cond := .code yX7_within cX7_within 6 (some .boolean) :: ([])
def wsX7_isGood : List Cond := .code yX7_isGood cX7_isGood 1 (some .boolean) :: ([.constantLong RX7 73 (11), .methodLink RX7 75 yX7_within, .static yX7_within, .initialized RX7, .code yX7_within cX7_within 6 (some .boolean)])
def wsX7_up : List Cond := .code yX7_up cX7_up 4 (some .long) :: ([])
def wsX7_value : List Cond := .code yX7_value cX7_value 3 (some .boolean) :: ([.fieldLink RX7 69 "ProcessYieldsModel" "thrown" "I", .constantLong RX7 83 (10000), .fieldLink RX7 7 "ProcessYieldsModel" "value" "[I", .methodLink RX7 79 yX7_isGood, .static yX7_isGood, .initialized RX7, .code yX7_isGood cX7_isGood 1 (some .boolean), .constantLong RX7 73 (11), .methodLink RX7 75 yX7_within, .static yX7_within, .code yX7_within cX7_within 6 (some .boolean)] ++ wsX70)
def wsX7_recipe : List Cond := .code yX7_recipe cX7_recipe 2 (some .boolean) :: ([.fieldLink RX7 69 "ProcessYieldsModel" "thrown" "I", .fieldLink RX7 13 "ProcessYieldsModel" "isRecipe" "[Z", .fieldLink RX7 85 "ProcessYieldsModel" "recipes" "I", .methodLink RX7 79 yX7_isGood, .static yX7_isGood, .initialized RX7, .code yX7_isGood cX7_isGood 1 (some .boolean), .constantLong RX7 73 (11), .methodLink RX7 75 yX7_within, .static yX7_within, .code yX7_within cX7_within 6 (some .boolean)] ++ wsX70)
def wsX7_isNeed : List Cond := .code yX7_isNeed cX7_isNeed 5 (some .boolean) :: ([.fieldLink RX7 17 "ProcessYieldsModel" "needs" "[I", .fieldLink RX7 23 "ProcessYieldsModel" "needGood" "[I"] ++ wsX70)
def wsX7_leads : List Cond := .code yX7_leads cX7_leads 7 (some .boolean) :: ([.fieldLink RX7 17 "ProcessYieldsModel" "needs" "[I", .fieldLink RX7 23 "ProcessYieldsModel" "needGood" "[I"] ++ wsX70)
def wsX7_depthOf : List Cond := .code yX7_depthOf cX7_depthOf 7 (some .int) :: ([.fieldLink RX7 17 "ProcessYieldsModel" "needs" "[I", .fieldLink RX7 23 "ProcessYieldsModel" "needGood" "[I"] ++ wsX70)
def wsX7_isPart : List Cond := .code yX7_isPart cX7_isPart 2 (some .boolean) :: ([.constantLong RX7 88 (12), .methodLink RX7 75 yX7_within, .static yX7_within, .initialized RX7, .code yX7_within cX7_within 6 (some .boolean)])
def wsX7_needs_r1 : List Cond := [Cond.fieldLink RX7 69 "ProcessYieldsModel" "thrown" "I", Cond.fieldLink RX7 13 "ProcessYieldsModel" "isRecipe" "[Z", Cond.fieldLink RX7 17 "ProcessYieldsModel" "needs" "[I", Cond.fieldLink RX7 23 "ProcessYieldsModel" "needGood" "[I", Cond.fieldLink RX7 26 "ProcessYieldsModel" "needUp" "[I", Cond.fieldLink RX7 29 "ProcessYieldsModel" "needDown" "[I", Cond.methodLink RX7 79 yX7_isGood, Cond.static yX7_isGood, Cond.initialized RX7, Cond.code yX7_isGood cX7_isGood 1 (some .boolean), Cond.constantLong RX7 73 (11), Cond.methodLink RX7 75 yX7_within, Cond.static yX7_within, Cond.code yX7_within cX7_within 6 (some .boolean), Cond.methodLink RX7 90 yX7_isPart, Cond.static yX7_isPart, Cond.code yX7_isPart cX7_isPart 2 (some .boolean), Cond.constantLong RX7 88 (12), Cond.methodLink RX7 94 yX7_isNeed, Cond.instanceMethod yX7_isNeed, Cond.selects RX7 yX7_isNeed yX7_isNeed, Cond.code yX7_isNeed cX7_isNeed 5 (some .boolean), Cond.methodLink RX7 97 yX7_leads, Cond.instanceMethod yX7_leads]
def wsX7_needs_r2 : List Cond := [Cond.selects RX7 yX7_leads yX7_leads, Cond.code yX7_leads cX7_leads 7 (some .boolean), Cond.methodLink RX7 100 yX7_depthOf, Cond.instanceMethod yX7_depthOf, Cond.selects RX7 yX7_depthOf yX7_depthOf, Cond.code yX7_depthOf cX7_depthOf 7 (some .int)]
def wsX7_needs : List Cond := .code yX7_needs cX7_needs 7 (some .int) :: ((wsX7_needs_r1 ++ wsX7_needs_r2) ++ wsX70)
def wsX7_yields : List Cond := .code yX7_yields cX7_yields 5 (some .int) :: ([.fieldLink RX7 69 "ProcessYieldsModel" "thrown" "I", .fieldLink RX7 13 "ProcessYieldsModel" "isRecipe" "[Z", .fieldLink RX7 20 "ProcessYieldsModel" "byProducts" "[I", .fieldLink RX7 32 "ProcessYieldsModel" "byGood" "[I", .fieldLink RX7 35 "ProcessYieldsModel" "byUp" "[I", .fieldLink RX7 38 "ProcessYieldsModel" "byDown" "[I", .methodLink RX7 79 yX7_isGood, .static yX7_isGood, .initialized RX7, .code yX7_isGood cX7_isGood 1 (some .boolean), .constantLong RX7 73 (11), .methodLink RX7 75 yX7_within, .static yX7_within, .code yX7_within cX7_within 6 (some .boolean), .methodLink RX7 90 yX7_isPart, .static yX7_isPart, .code yX7_isPart cX7_isPart 2 (some .boolean), .constantLong RX7 88 (12)] ++ wsX70)
def wsX7_stock : List Cond := .code yX7_stock cX7_stock 5 (some .long) :: ([.fieldLink RX7 104 "ProcessYieldsModel" "lots" "I", .fieldLink RX7 41 "ProcessYieldsModel" "lotGood" "[I", .fieldLink RX7 47 "ProcessYieldsModel" "lotLeft" "[J"] ++ wsX70)
def wsX7_debtOn : List Cond := .code yX7_debtOn cX7_debtOn 5 (some .long) :: ([.fieldLink RX7 104 "ProcessYieldsModel" "lots" "I", .fieldLink RX7 41 "ProcessYieldsModel" "lotGood" "[I", .fieldLink RX7 51 "ProcessYieldsModel" "lotDebt" "[J"] ++ wsX70)
def wsX7_newLot : List Cond := .code yX7_newLot cX7_newLot 6 (some .int) :: ([.fieldLink RX7 41 "ProcessYieldsModel" "lotGood" "[I", .fieldLink RX7 104 "ProcessYieldsModel" "lots" "I", .fieldLink RX7 44 "ProcessYieldsModel" "lotDay" "[I", .fieldLink RX7 107 "ProcessYieldsModel" "today" "I", .fieldLink RX7 47 "ProcessYieldsModel" "lotLeft" "[J", .fieldLink RX7 51 "ProcessYieldsModel" "lotDebt" "[J"] ++ wsX70)
def wsX7_takeOf : List Cond := .code yX7_takeOf cX7_takeOf 6 (some .long) :: ([.fieldLink RX7 47 "ProcessYieldsModel" "lotLeft" "[J", .fieldLink RX7 51 "ProcessYieldsModel" "lotDebt" "[J"] ++ wsX70)
def wsX7_take : List Cond := .code yX7_take cX7_take 11 none :: ([.fieldLink RX7 110 "ProcessYieldsModel" "takenDebt" "J", .fieldLink RX7 114 "ProcessYieldsModel" "takenInterest" "J", .fieldLink RX7 104 "ProcessYieldsModel" "lots" "I", .fieldLink RX7 41 "ProcessYieldsModel" "lotGood" "[I", .fieldLink RX7 47 "ProcessYieldsModel" "lotLeft" "[J", .fieldLink RX7 107 "ProcessYieldsModel" "today" "I", .fieldLink RX7 44 "ProcessYieldsModel" "lotDay" "[I", .constantLong RX7 121 (30), .constantLong RX7 127 (100), .methodLink RX7 117 yX7_takeOf, .instanceMethod yX7_takeOf, .selects RX7 yX7_takeOf yX7_takeOf, .initialized RX7, .code yX7_takeOf cX7_takeOf 6 (some .long), .fieldLink RX7 51 "ProcessYieldsModel" "lotDebt" "[J", .methodLink RX7 123 yX7_up, .static yX7_up, .code yX7_up cX7_up 4 (some .long)] ++ wsX70)
def wsX7_in_r1 : List Cond := [Cond.constantLong RX7 83 (10000), Cond.constantLong RX7 129 (1000000), Cond.fieldLink RX7 104 "ProcessYieldsModel" "lots" "I", Cond.fieldLink RX7 69 "ProcessYieldsModel" "thrown" "I", Cond.fieldLink RX7 131 "ProcessYieldsModel" "imported" "J", Cond.fieldLink RX7 138 "ProcessYieldsModel" "priors" "I", Cond.fieldLink RX7 54 "ProcessYieldsModel" "priorGood" "[I", Cond.fieldLink RX7 57 "ProcessYieldsModel" "priorUntil" "[I", Cond.fieldLink RX7 107 "ProcessYieldsModel" "today" "I", Cond.fieldLink RX7 60 "ProcessYieldsModel" "priorLeft" "[J", Cond.fieldLink RX7 47 "ProcessYieldsModel" "lotLeft" "[J", Cond.fieldLink RX7 141 "ProcessYieldsModel" "discharged" "J", Cond.methodLink RX7 79 yX7_isGood, Cond.static yX7_isGood, Cond.initialized RX7, Cond.code yX7_isGood cX7_isGood 1 (some .boolean), Cond.constantLong RX7 73 (11), Cond.methodLink RX7 75 yX7_within, Cond.static yX7_within, Cond.code yX7_within cX7_within 6 (some .boolean), Cond.methodLink RX7 134 yX7_newLot, Cond.instanceMethod yX7_newLot, Cond.selects RX7 yX7_newLot yX7_newLot, Cond.code yX7_newLot cX7_newLot 6 (some .int)]
def wsX7_in_r2 : List Cond := [Cond.fieldLink RX7 41 "ProcessYieldsModel" "lotGood" "[I", Cond.fieldLink RX7 44 "ProcessYieldsModel" "lotDay" "[I", Cond.fieldLink RX7 51 "ProcessYieldsModel" "lotDebt" "[J", Cond.methodLink RX7 117 yX7_takeOf, Cond.instanceMethod yX7_takeOf, Cond.selects RX7 yX7_takeOf yX7_takeOf, Cond.code yX7_takeOf cX7_takeOf 6 (some .long)]
def wsX7_in : List Cond := .code yX7_in cX7_in 9 (some .int) :: ((wsX7_in_r1 ++ wsX7_in_r2) ++ wsX70)
def wsX7_amountOf : List Cond := .code yX7_amountOf cX7_amountOf 5 (some .long) :: ([.fieldLink RX7 35 "ProcessYieldsModel" "byUp" "[I", .fieldLink RX7 38 "ProcessYieldsModel" "byDown" "[I"] ++ wsX70)
def wsX7_goodOf : List Cond := .code yX7_goodOf cX7_goodOf 3 (some .int) :: ([.fieldLink RX7 32 "ProcessYieldsModel" "byGood" "[I"] ++ wsX70)
def wsX7_share : List Cond := .code yX7_share cX7_share 13 (some .long) :: ([.fieldLink RX7 63 "ProcessYieldsModel" "weight" "[J"] ++ wsX70)
def wsX7_made_r1 : List Cond := [Cond.fieldLink RX7 17 "ProcessYieldsModel" "needs" "[I", Cond.constantLong RX7 83 (10000), Cond.fieldLink RX7 69 "ProcessYieldsModel" "thrown" "I", Cond.fieldLink RX7 20 "ProcessYieldsModel" "byProducts" "[I", Cond.fieldLink RX7 104 "ProcessYieldsModel" "lots" "I", Cond.fieldLink RX7 23 "ProcessYieldsModel" "needGood" "[I", Cond.fieldLink RX7 26 "ProcessYieldsModel" "needUp" "[I", Cond.fieldLink RX7 29 "ProcessYieldsModel" "needDown" "[I", Cond.fieldLink RX7 110 "ProcessYieldsModel" "takenDebt" "J", Cond.fieldLink RX7 63 "ProcessYieldsModel" "weight" "[J", Cond.fieldLink RX7 7 "ProcessYieldsModel" "value" "[I", Cond.methodLink RX7 79 yX7_isGood, Cond.static yX7_isGood, Cond.initialized RX7, Cond.code yX7_isGood cX7_isGood 1 (some .boolean), Cond.constantLong RX7 73 (11), Cond.methodLink RX7 75 yX7_within, Cond.static yX7_within, Cond.code yX7_within cX7_within 6 (some .boolean), Cond.methodLink RX7 144 yX7_amountOf, Cond.instanceMethod yX7_amountOf, Cond.selects RX7 yX7_amountOf yX7_amountOf, Cond.code yX7_amountOf cX7_amountOf 5 (some .long), Cond.fieldLink RX7 35 "ProcessYieldsModel" "byUp" "[I"]
def wsX7_made_r2 : List Cond := [Cond.fieldLink RX7 38 "ProcessYieldsModel" "byDown" "[I", Cond.methodLink RX7 148 yX7_stock, Cond.instanceMethod yX7_stock, Cond.selects RX7 yX7_stock yX7_stock, Cond.code yX7_stock cX7_stock 5 (some .long), Cond.fieldLink RX7 41 "ProcessYieldsModel" "lotGood" "[I", Cond.fieldLink RX7 47 "ProcessYieldsModel" "lotLeft" "[J", Cond.methodLink RX7 123 yX7_up, Cond.static yX7_up, Cond.code yX7_up cX7_up 4 (some .long), Cond.methodLink RX7 152 yX7_take, Cond.instanceMethod yX7_take, Cond.selects RX7 yX7_take yX7_take, Cond.code yX7_take cX7_take 11 none, Cond.fieldLink RX7 114 "ProcessYieldsModel" "takenInterest" "J", Cond.fieldLink RX7 107 "ProcessYieldsModel" "today" "I", Cond.fieldLink RX7 44 "ProcessYieldsModel" "lotDay" "[I", Cond.constantLong RX7 121 (30), Cond.constantLong RX7 127 (100), Cond.methodLink RX7 117 yX7_takeOf, Cond.instanceMethod yX7_takeOf, Cond.selects RX7 yX7_takeOf yX7_takeOf, Cond.code yX7_takeOf cX7_takeOf 6 (some .long), Cond.fieldLink RX7 51 "ProcessYieldsModel" "lotDebt" "[J"]
def wsX7_made_r3 : List Cond := [Cond.methodLink RX7 156 yX7_goodOf, Cond.instanceMethod yX7_goodOf, Cond.selects RX7 yX7_goodOf yX7_goodOf, Cond.code yX7_goodOf cX7_goodOf 3 (some .int), Cond.fieldLink RX7 32 "ProcessYieldsModel" "byGood" "[I", Cond.methodLink RX7 160 yX7_share, Cond.instanceMethod yX7_share, Cond.selects RX7 yX7_share yX7_share, Cond.code yX7_share cX7_share 13 (some .long), Cond.methodLink RX7 134 yX7_newLot, Cond.instanceMethod yX7_newLot, Cond.selects RX7 yX7_newLot yX7_newLot, Cond.code yX7_newLot cX7_newLot 6 (some .int)]
def wsX7_made : List Cond := .code yX7_made cX7_made 11 (some .int) :: ((wsX7_made_r1 ++ (wsX7_made_r2 ++ wsX7_made_r3)) ++ wsX70)
def wsX7_export_r1 : List Cond := [Cond.fieldLink RX7 69 "ProcessYieldsModel" "thrown" "I", Cond.constantLong RX7 163 (-1), Cond.fieldLink RX7 141 "ProcessYieldsModel" "discharged" "J", Cond.fieldLink RX7 110 "ProcessYieldsModel" "takenDebt" "J", Cond.methodLink RX7 79 yX7_isGood, Cond.static yX7_isGood, Cond.initialized RX7, Cond.code yX7_isGood cX7_isGood 1 (some .boolean), Cond.constantLong RX7 73 (11), Cond.methodLink RX7 75 yX7_within, Cond.static yX7_within, Cond.code yX7_within cX7_within 6 (some .boolean), Cond.methodLink RX7 148 yX7_stock, Cond.instanceMethod yX7_stock, Cond.selects RX7 yX7_stock yX7_stock, Cond.code yX7_stock cX7_stock 5 (some .long), Cond.fieldLink RX7 104 "ProcessYieldsModel" "lots" "I", Cond.fieldLink RX7 41 "ProcessYieldsModel" "lotGood" "[I", Cond.fieldLink RX7 47 "ProcessYieldsModel" "lotLeft" "[J", Cond.methodLink RX7 152 yX7_take, Cond.instanceMethod yX7_take, Cond.selects RX7 yX7_take yX7_take, Cond.code yX7_take cX7_take 11 none, Cond.fieldLink RX7 114 "ProcessYieldsModel" "takenInterest" "J"]
def wsX7_export_r2 : List Cond := [Cond.fieldLink RX7 107 "ProcessYieldsModel" "today" "I", Cond.fieldLink RX7 44 "ProcessYieldsModel" "lotDay" "[I", Cond.constantLong RX7 121 (30), Cond.constantLong RX7 127 (100), Cond.methodLink RX7 117 yX7_takeOf, Cond.instanceMethod yX7_takeOf, Cond.selects RX7 yX7_takeOf yX7_takeOf, Cond.code yX7_takeOf cX7_takeOf 6 (some .long), Cond.fieldLink RX7 51 "ProcessYieldsModel" "lotDebt" "[J", Cond.methodLink RX7 123 yX7_up, Cond.static yX7_up, Cond.code yX7_up cX7_up 4 (some .long)]
def wsX7_export : List Cond := .code yX7_export cX7_export 3 (some .long) :: ((wsX7_export_r1 ++ wsX7_export_r2) ++ wsX70)
def wsX7_release_r1 : List Cond := [Cond.fieldLink RX7 69 "ProcessYieldsModel" "thrown" "I", Cond.constantLong RX7 163 (-1), Cond.fieldLink RX7 165 "ProcessYieldsModel" "owed" "J", Cond.fieldLink RX7 110 "ProcessYieldsModel" "takenDebt" "J", Cond.fieldLink RX7 168 "ProcessYieldsModel" "interest" "J", Cond.fieldLink RX7 114 "ProcessYieldsModel" "takenInterest" "J", Cond.methodLink RX7 79 yX7_isGood, Cond.static yX7_isGood, Cond.initialized RX7, Cond.code yX7_isGood cX7_isGood 1 (some .boolean), Cond.constantLong RX7 73 (11), Cond.methodLink RX7 75 yX7_within, Cond.static yX7_within, Cond.code yX7_within cX7_within 6 (some .boolean), Cond.methodLink RX7 148 yX7_stock, Cond.instanceMethod yX7_stock, Cond.selects RX7 yX7_stock yX7_stock, Cond.code yX7_stock cX7_stock 5 (some .long), Cond.fieldLink RX7 104 "ProcessYieldsModel" "lots" "I", Cond.fieldLink RX7 41 "ProcessYieldsModel" "lotGood" "[I", Cond.fieldLink RX7 47 "ProcessYieldsModel" "lotLeft" "[J", Cond.methodLink RX7 152 yX7_take, Cond.instanceMethod yX7_take, Cond.selects RX7 yX7_take yX7_take]
def wsX7_release_r2 : List Cond := [Cond.code yX7_take cX7_take 11 none, Cond.fieldLink RX7 107 "ProcessYieldsModel" "today" "I", Cond.fieldLink RX7 44 "ProcessYieldsModel" "lotDay" "[I", Cond.constantLong RX7 121 (30), Cond.constantLong RX7 127 (100), Cond.methodLink RX7 117 yX7_takeOf, Cond.instanceMethod yX7_takeOf, Cond.selects RX7 yX7_takeOf yX7_takeOf, Cond.code yX7_takeOf cX7_takeOf 6 (some .long), Cond.fieldLink RX7 51 "ProcessYieldsModel" "lotDebt" "[J", Cond.methodLink RX7 123 yX7_up, Cond.static yX7_up, Cond.code yX7_up cX7_up 4 (some .long)]
def wsX7_release : List Cond := .code yX7_release cX7_release 3 (some .long) :: ((wsX7_release_r1 ++ wsX7_release_r2) ++ wsX70)
def wsX7_prior : List Cond := .code yX7_prior cX7_prior 4 (some .int) :: ([.constantLong RX7 83 (10000), .constantLong RX7 171 (100000), .fieldLink RX7 138 "ProcessYieldsModel" "priors" "I", .fieldLink RX7 69 "ProcessYieldsModel" "thrown" "I", .fieldLink RX7 54 "ProcessYieldsModel" "priorGood" "[I", .fieldLink RX7 57 "ProcessYieldsModel" "priorUntil" "[I", .fieldLink RX7 60 "ProcessYieldsModel" "priorLeft" "[J", .methodLink RX7 79 yX7_isGood, .static yX7_isGood, .initialized RX7, .code yX7_isGood cX7_isGood 1 (some .boolean), .constantLong RX7 73 (11), .methodLink RX7 75 yX7_within, .static yX7_within, .code yX7_within cX7_within 6 (some .boolean)] ++ wsX70)
def wsX7_day : List Cond := .code yX7_day cX7_day 2 (some .boolean) :: ([.fieldLink RX7 69 "ProcessYieldsModel" "thrown" "I", .fieldLink RX7 107 "ProcessYieldsModel" "today" "I", .constant RX7 173 (100000)] ++ wsX70)
def wsX7_common : List Cond := .code yX7_common cX7_common 10 (some .long) :: ([])
def wsX7_chain : List Cond := .code yX7_chain cX7_chain 7 (some .long) :: ([.fieldLink RX7 69 "ProcessYieldsModel" "thrown" "I", .fieldLink RX7 66 "ProcessYieldsModel" "chains" "[J", .constantLong RX7 174 (21300003648000), .fieldLink RX7 17 "ProcessYieldsModel" "needs" "[I", .fieldLink RX7 23 "ProcessYieldsModel" "needGood" "[I", .fieldLink RX7 26 "ProcessYieldsModel" "needUp" "[I", .fieldLink RX7 29 "ProcessYieldsModel" "needDown" "[I", .methodLink RX7 79 yX7_isGood, .static yX7_isGood, .initialized RX7, .code yX7_isGood cX7_isGood 1 (some .boolean), .constantLong RX7 73 (11), .methodLink RX7 75 yX7_within, .static yX7_within, .code yX7_within cX7_within 6 (some .boolean), .methodLink RX7 100 yX7_depthOf, .instanceMethod yX7_depthOf, .selects RX7 yX7_depthOf yX7_depthOf, .code yX7_depthOf cX7_depthOf 7 (some .int), .methodLink RX7 176 yX7_common, .static yX7_common, .code yX7_common cX7_common 10 (some .long)] ++ wsX70)
def wsX7_look_r1 : List Cond := [Cond.constantLong RX7 179 (7), Cond.fieldLink RX7 69 "ProcessYieldsModel" "thrown" "I", Cond.fieldLink RX7 104 "ProcessYieldsModel" "lots" "I", Cond.fieldLink RX7 41 "ProcessYieldsModel" "lotGood" "[I", Cond.fieldLink RX7 47 "ProcessYieldsModel" "lotLeft" "[J", Cond.fieldLink RX7 138 "ProcessYieldsModel" "priors" "I", Cond.fieldLink RX7 54 "ProcessYieldsModel" "priorGood" "[I", Cond.fieldLink RX7 57 "ProcessYieldsModel" "priorUntil" "[I", Cond.fieldLink RX7 107 "ProcessYieldsModel" "today" "I", Cond.fieldLink RX7 60 "ProcessYieldsModel" "priorLeft" "[J", Cond.fieldLink RX7 13 "ProcessYieldsModel" "isRecipe" "[Z", Cond.fieldLink RX7 17 "ProcessYieldsModel" "needs" "[I", Cond.constantLong RX7 163 (-1), Cond.fieldLink RX7 20 "ProcessYieldsModel" "byProducts" "[I", Cond.fieldLink RX7 7 "ProcessYieldsModel" "value" "[I", Cond.methodLink RX7 79 yX7_isGood, Cond.static yX7_isGood, Cond.initialized RX7, Cond.code yX7_isGood cX7_isGood 1 (some .boolean), Cond.constantLong RX7 73 (11), Cond.methodLink RX7 75 yX7_within, Cond.static yX7_within, Cond.code yX7_within cX7_within 6 (some .boolean), Cond.methodLink RX7 148 yX7_stock]
def wsX7_look_r2 : List Cond := [Cond.instanceMethod yX7_stock, Cond.selects RX7 yX7_stock yX7_stock, Cond.code yX7_stock cX7_stock 5 (some .long), Cond.methodLink RX7 181 yX7_debtOn, Cond.instanceMethod yX7_debtOn, Cond.selects RX7 yX7_debtOn yX7_debtOn, Cond.code yX7_debtOn cX7_debtOn 5 (some .long), Cond.fieldLink RX7 51 "ProcessYieldsModel" "lotDebt" "[J", Cond.methodLink RX7 100 yX7_depthOf, Cond.instanceMethod yX7_depthOf, Cond.selects RX7 yX7_depthOf yX7_depthOf, Cond.code yX7_depthOf cX7_depthOf 7 (some .int), Cond.fieldLink RX7 23 "ProcessYieldsModel" "needGood" "[I"]
def wsX7_look : List Cond := .code yX7_look cX7_look 7 (some .long) :: ((wsX7_look_r1 ++ wsX7_look_r2) ++ wsX70)
def wsX7_lot : List Cond := .code yX7_lot cX7_lot 3 (some .long) :: ([.fieldLink RX7 104 "ProcessYieldsModel" "lots" "I", .fieldLink RX7 69 "ProcessYieldsModel" "thrown" "I", .fieldLink RX7 41 "ProcessYieldsModel" "lotGood" "[I", .fieldLink RX7 47 "ProcessYieldsModel" "lotLeft" "[J", .fieldLink RX7 51 "ProcessYieldsModel" "lotDebt" "[J", .fieldLink RX7 44 "ProcessYieldsModel" "lotDay" "[I"] ++ wsX70)
def wsX7_sum : List Cond := .code yX7_sum cX7_sum 5 (some .long) :: ([.fieldLink RX7 69 "ProcessYieldsModel" "thrown" "I", .fieldLink RX7 131 "ProcessYieldsModel" "imported" "J", .fieldLink RX7 141 "ProcessYieldsModel" "discharged" "J", .fieldLink RX7 165 "ProcessYieldsModel" "owed" "J", .fieldLink RX7 168 "ProcessYieldsModel" "interest" "J", .constantLong RX7 163 (-1), .methodLink RX7 181 yX7_debtOn, .instanceMethod yX7_debtOn, .selects RX7 yX7_debtOn yX7_debtOn, .initialized RX7, .code yX7_debtOn cX7_debtOn 5 (some .long), .fieldLink RX7 104 "ProcessYieldsModel" "lots" "I", .fieldLink RX7 41 "ProcessYieldsModel" "lotGood" "[I", .fieldLink RX7 51 "ProcessYieldsModel" "lotDebt" "[J"] ++ wsX70)
def wsX7_quotient : List Cond := .code yX7_quotient cX7_quotient 3 (some .long) :: ([.constantLong RX7 184 (1000000000), .fieldLink RX7 69 "ProcessYieldsModel" "thrown" "I", .methodLink RX7 75 yX7_within, .static yX7_within, .initialized RX7, .code yX7_within cX7_within 6 (some .boolean)] ++ wsX70)
def wsX7_count : List Cond := .code yX7_count cX7_count 2 (some .int) :: ([.fieldLink RX7 69 "ProcessYieldsModel" "thrown" "I", .fieldLink RX7 104 "ProcessYieldsModel" "lots" "I", .fieldLink RX7 85 "ProcessYieldsModel" "recipes" "I", .fieldLink RX7 138 "ProcessYieldsModel" "priors" "I", .fieldLink RX7 107 "ProcessYieldsModel" "today" "I"] ++ wsX70)
def wsJ9_max_7cf53 : List Cond := .code yJ9_max_7cf53 cJ9_max_7cf53 2 (some .int) :: ([])
def wsJ9_min_7cf53 : List Cond := .code yJ9_min_7cf53 cJ9_min_7cf53 2 (some .int) :: ([])
def wsJ9_min_f86c9 : List Cond := .code yJ9_min_f86c9 cJ9_min_f86c9 4 (some .long) :: ([])
def wsL_needs_r1 : List Cond := [Cond.classLink RL 13 "java/lang/IllegalArgumentException", Cond.methodLink RL 7 yX6_needs, Cond.instanceMethod yX6_needs, Cond.selects RX6 yX6_needs yX6_needs, Cond.initialized RX6, Cond.code yX6_needs cX6_needs 5 (some .int), Cond.fieldLink RX6 16 "ProcessYields" "recipes" "LProcessYields$Recipes;", Cond.methodLink RX6 64 yX6_checkPart, Cond.static yX6_checkPart, Cond.code yX6_checkPart cX6_checkPart 4 none, Cond.classLink RX6 76 "java/lang/IllegalArgumentException", Cond.initialized "java/lang/IllegalArgumentException", Cond.methodLink RX6 48 yX6_isGood, Cond.static yX6_isGood, Cond.code yX6_isGood cX6_isGood 1 (some .boolean), Cond.methodLink RX6 52 yX6_isWithin, Cond.static yX6_isWithin, Cond.code yX6_isWithin cX6_isWithin 3 (some .boolean), Cond.methodLink RX6 68 yX5_addNeed, Cond.instanceMethod yX5_addNeed, Cond.selects RX5 yX5_addNeed yX5_addNeed, Cond.initialized RX5, Cond.code yX5_addNeed cX5_addNeed 5 (some .boolean), Cond.fieldLink RX5 9 "ProcessYields$Recipes" "has" "[Z"]
def wsL_needs_r2 : List Cond := [Cond.fieldLink RX5 20 "ProcessYields$Recipes" "inputs" "LProcessYields$Parts;", Cond.methodLink RX5 31 yX3_add, Cond.instanceMethod yX3_add, Cond.selects RX3 yX3_add yX3_add, Cond.initialized RX3, Cond.code yX3_add cX3_add 6 (some .boolean), Cond.fieldLink RX3 9 "ProcessYields$Parts" "sizes" "[I", Cond.fieldLink RX3 30 "ProcessYields$Parts" "most" "I", Cond.fieldLink RX3 15 "ProcessYields$Parts" "goods" "[I", Cond.fieldLink RX3 18 "ProcessYields$Parts" "ups" "[I", Cond.fieldLink RX3 21 "ProcessYields$Parts" "downs" "[I", Cond.methodLink RX3 34 yX3_isTold, Cond.instanceMethod yX3_isTold, Cond.selects RX3 yX3_isTold yX3_isTold, Cond.code yX3_isTold cX3_isTold 4 (some .boolean), Cond.methodLink RX3 41 yX3_goodAt, Cond.instanceMethod yX3_goodAt, Cond.selects RX3 yX3_goodAt yX3_goodAt, Cond.code yX3_goodAt cX3_goodAt 3 (some .int), Cond.methodLink RX3 38 yX3_place, Cond.static yX3_place, Cond.code yX3_place cX3_place 2 (some .int), Cond.methodLink RX5 35 yX5_measureDepths, Cond.instanceMethod yX5_measureDepths]
def wsL_needs_r3 : List Cond := [Cond.selects RX5 yX5_measureDepths yX5_measureDepths, Cond.code yX5_measureDepths cX5_measureDepths 4 (some .int), Cond.fieldLink RX5 27 "ProcessYields$Recipes" "depths" "[I", Cond.methodLink RX5 46 Lib.Math.max.name, Cond.static Lib.Math.max.name, Cond.initialized "java/lang/Math", Cond.code Lib.Math.max.name Lib.Math.max.code 2 (some .int), Cond.methodLink RX5 42 yX5_depthByNeeds, Cond.instanceMethod yX5_depthByNeeds, Cond.selects RX5 yX5_depthByNeeds yX5_depthByNeeds, Cond.code yX5_depthByNeeds cX5_depthByNeeds 4 (some .int), Cond.fieldLink RX5 52 "ProcessYields$Parts" "sizes" "[I", Cond.methodLink RX5 55 yX3_goodAt, Cond.methodLink RX5 39 yX3_dropLast, Cond.instanceMethod yX3_dropLast, Cond.selects RX3 yX3_dropLast yX3_dropLast, Cond.code yX3_dropLast cX3_dropLast 2 none]
def wsL_needs : List Cond := .codeWith yL_needs cL_needs 7 (some .int) [(0, 14, 17, 13)] :: ((wsL_needs_r1 ++ (wsL_needs_r2 ++ wsL_needs_r3)) ++ wsX60 ++ wsX50 ++ wsX30 ++ (vx_atS RX6 80 "java/lang/IllegalArgumentException" ["java/lang/RuntimeException", "java/lang/Exception"]).filter goodWord)
def wsL_yields_r1 : List Cond := [Cond.classLink RL 13 "java/lang/IllegalArgumentException", Cond.methodLink RL 15 yX6_yields, Cond.instanceMethod yX6_yields, Cond.selects RX6 yX6_yields yX6_yields, Cond.initialized RX6, Cond.code yX6_yields cX6_yields 5 (some .int), Cond.fieldLink RX6 16 "ProcessYields" "recipes" "LProcessYields$Recipes;", Cond.methodLink RX6 64 yX6_checkPart, Cond.static yX6_checkPart, Cond.code yX6_checkPart cX6_checkPart 4 none, Cond.classLink RX6 76 "java/lang/IllegalArgumentException", Cond.initialized "java/lang/IllegalArgumentException", Cond.methodLink RX6 48 yX6_isGood, Cond.static yX6_isGood, Cond.code yX6_isGood cX6_isGood 1 (some .boolean), Cond.methodLink RX6 52 yX6_isWithin, Cond.static yX6_isWithin, Cond.code yX6_isWithin cX6_isWithin 3 (some .boolean), Cond.methodLink RX6 72 yX5_addByProduct, Cond.instanceMethod yX5_addByProduct, Cond.selects RX5 yX5_addByProduct yX5_addByProduct, Cond.initialized RX5, Cond.code yX5_addByProduct cX5_addByProduct 5 (some .boolean), Cond.fieldLink RX5 9 "ProcessYields$Recipes" "has" "[Z"]
def wsL_yields_r2 : List Cond := [Cond.fieldLink RX5 24 "ProcessYields$Recipes" "outputs" "LProcessYields$Parts;", Cond.methodLink RX5 31 yX3_add, Cond.instanceMethod yX3_add, Cond.selects RX3 yX3_add yX3_add, Cond.initialized RX3, Cond.code yX3_add cX3_add 6 (some .boolean), Cond.fieldLink RX3 9 "ProcessYields$Parts" "sizes" "[I", Cond.fieldLink RX3 30 "ProcessYields$Parts" "most" "I", Cond.fieldLink RX3 15 "ProcessYields$Parts" "goods" "[I", Cond.fieldLink RX3 18 "ProcessYields$Parts" "ups" "[I", Cond.fieldLink RX3 21 "ProcessYields$Parts" "downs" "[I", Cond.methodLink RX3 34 yX3_isTold, Cond.instanceMethod yX3_isTold, Cond.selects RX3 yX3_isTold yX3_isTold, Cond.code yX3_isTold cX3_isTold 4 (some .boolean), Cond.methodLink RX3 41 yX3_goodAt, Cond.instanceMethod yX3_goodAt, Cond.selects RX3 yX3_goodAt yX3_goodAt, Cond.code yX3_goodAt cX3_goodAt 3 (some .int), Cond.methodLink RX3 38 yX3_place, Cond.static yX3_place, Cond.code yX3_place cX3_place 2 (some .int)]
def wsL_yields : List Cond := .codeWith yL_yields cL_yields 7 (some .int) [(0, 14, 17, 13)] :: ((wsL_yields_r1 ++ wsL_yields_r2) ++ wsX60 ++ wsX50 ++ wsX30 ++ (vx_atS RX6 80 "java/lang/IllegalArgumentException" ["java/lang/RuntimeException", "java/lang/Exception"]).filter goodWord)
def wsL_in_r1 : List Cond := [Cond.classLink RL 13 "java/lang/IllegalArgumentException", Cond.classLink RL 22 "java/lang/IllegalStateException", Cond.methodLink RL 18 yX6_in, Cond.instanceMethod yX6_in, Cond.selects RX6 yX6_in yX6_in, Cond.initialized RX6, Cond.code yX6_in cX6_in 5 (some .int), Cond.classLink RX6 76 "java/lang/IllegalArgumentException", Cond.initialized "java/lang/IllegalArgumentException", Cond.classLink RX6 87 "java/lang/IllegalStateException", Cond.initialized "java/lang/IllegalStateException", Cond.constant RX6 75 (1000000), Cond.fieldLink RX6 23 "ProcessYields" "lots" "LProcessYields$Lots;", Cond.fieldLink RX6 92 "ProcessYields" "today" "I", Cond.fieldLink RX6 99 "ProcessYields" "imported" "J", Cond.fieldLink RX6 103 "ProcessYields" "discharged" "J", Cond.fieldLink RX6 30 "ProcessYields" "priors" "LProcessYields$Priors;", Cond.methodLink RX6 48 yX6_isGood, Cond.static yX6_isGood, Cond.code yX6_isGood cX6_isGood 1 (some .boolean), Cond.methodLink RX6 52 yX6_isWithin, Cond.static yX6_isWithin, Cond.code yX6_isWithin cX6_isWithin 3 (some .boolean), Cond.methodLink RX6 83 yX2_free]
def wsL_in_r2 : List Cond := [Cond.instanceMethod yX2_free, Cond.selects RX2 yX2_free yX2_free, Cond.initialized RX2, Cond.code yX2_free cX2_free 1 (some .int), Cond.fieldLink RX2 25 "ProcessYields$Lots" "size" "I", Cond.methodLink RX6 95 yX2_add, Cond.instanceMethod yX2_add, Cond.selects RX2 yX2_add yX2_add, Cond.code yX2_add cX2_add 7 (some .int), Cond.fieldLink RX2 9 "ProcessYields$Lots" "goods" "[I", Cond.fieldLink RX2 15 "ProcessYields$Lots" "lefts" "[J", Cond.fieldLink RX2 19 "ProcessYields$Lots" "debts" "[J", Cond.fieldLink RX2 22 "ProcessYields$Lots" "days" "[I", Cond.methodLink RX6 106 yX4_meet, Cond.instanceMethod yX4_meet, Cond.selects RX4 yX4_meet yX4_meet, Cond.initialized RX4, Cond.code yX4_meet cX4_meet 9 (some .long), Cond.fieldLink RX4 30 "ProcessYields$Lots" "size" "I", Cond.fieldLink RX4 22 "ProcessYields$Priors" "size" "I", Cond.fieldLink RX4 36 "ProcessYields$Lots" "lefts" "[J", Cond.fieldLink RX4 37 "ProcessYields$Lots" "goods" "[I", Cond.fieldLink RX4 15 "ProcessYields$Priors" "lefts" "[J", Cond.methodLink RX4 38 Lib.MathLoose.min_long.x]
def wsL_in_r3 : List Cond := [Cond.static Lib.MathLoose.min_long.x, Cond.initialized "java/lang/Math", Cond.code Lib.MathLoose.min_long.x Lib.MathLoose.min_long.code 4 (some .long), Cond.methodLink RX4 26 yX4_isOpen, Cond.instanceMethod yX4_isOpen, Cond.selects RX4 yX4_isOpen yX4_isOpen, Cond.code yX4_isOpen cX4_isOpen 4 (some .boolean), Cond.fieldLink RX4 9 "ProcessYields$Priors" "goods" "[I", Cond.fieldLink RX4 19 "ProcessYields$Priors" "untils" "[I", Cond.methodLink RX4 44 yX2_takeFrom, Cond.instanceMethod yX2_takeFrom, Cond.selects RX2 yX2_takeFrom yX2_takeFrom, Cond.code yX2_takeFrom cX2_takeFrom 6 (some .long), Cond.static yX6_floorOf, Cond.code yX6_floorOf cX6_floorOf 4 (some .long)]
def wsL_in : List Cond := .codeWith yL_in cL_in 6 (some .int) [(0, 12, 15, 13), (0, 12, 19, 22)] :: ((wsL_in_r1 ++ (wsL_in_r2 ++ wsL_in_r3)) ++ wsX60 ++ wsX20 ++ wsX40 ++ (vx_atS RX6 80 "java/lang/IllegalArgumentException" ["java/lang/RuntimeException", "java/lang/Exception"]).filter goodWord ++ (vx_atS RX6 91 "java/lang/IllegalStateException" ["java/lang/RuntimeException", "java/lang/Exception"]).filter goodWord)
def wsL_made_r1 : List Cond := [Cond.classLink RL 13 "java/lang/IllegalArgumentException", Cond.methodLink RL 24 yX6_made, Cond.instanceMethod yX6_made, Cond.selects RX6 yX6_made yX6_made, Cond.initialized RX6, Cond.code yX6_made cX6_made 4 (some .int), Cond.classLink RX6 76 "java/lang/IllegalArgumentException", Cond.initialized "java/lang/IllegalArgumentException", Cond.fieldLink RX6 16 "ProcessYields" "recipes" "LProcessYields$Recipes;", Cond.fieldLink RX6 110 "ProcessYields$Recipes" "inputs" "LProcessYields$Parts;", Cond.fieldLink RX6 114 "ProcessYields$Parts" "sizes" "[I", Cond.fieldLink RX6 37 "ProcessYields" "batch" "LProcessYields$Batch;", Cond.fieldLink RX6 121 "ProcessYields$Recipes" "outputs" "LProcessYields$Parts;", Cond.fieldLink RX6 23 "ProcessYields" "lots" "LProcessYields$Lots;", Cond.fieldLink RX6 9 "ProcessYields" "values" "[I", Cond.fieldLink RX6 92 "ProcessYields" "today" "I", Cond.methodLink RX6 48 yX6_isGood, Cond.static yX6_isGood, Cond.code yX6_isGood cX6_isGood 1 (some .boolean), Cond.methodLink RX6 52 yX6_isWithin, Cond.static yX6_isWithin, Cond.code yX6_isWithin cX6_isWithin 3 (some .boolean), Cond.methodLink RX6 124 yX0_plan, Cond.instanceMethod yX0_plan]
def wsL_made_r2 : List Cond := [Cond.selects RX0 yX0_plan yX0_plan, Cond.initialized RX0, Cond.code yX0_plan cX0_plan 5 none, Cond.fieldLink RX0 9 "ProcessYields$Batch" "goods" "[I", Cond.fieldLink RX0 15 "ProcessYields$Batch" "amounts" "[J", Cond.fieldLink RX0 28 "ProcessYields$Batch" "size" "I", Cond.fieldLink RX0 32 "ProcessYields$Parts" "sizes" "[I", Cond.methodLink RX0 37 yX3_goodAt, Cond.instanceMethod yX3_goodAt, Cond.selects RX3 yX3_goodAt yX3_goodAt, Cond.initialized RX3, Cond.code yX3_goodAt cX3_goodAt 3 (some .int), Cond.fieldLink RX3 15 "ProcessYields$Parts" "goods" "[I", Cond.methodLink RX3 38 yX3_place, Cond.static yX3_place, Cond.code yX3_place cX3_place 2 (some .int), Cond.methodLink RX0 41 yX3_roundedDown, Cond.instanceMethod yX3_roundedDown, Cond.selects RX3 yX3_roundedDown yX3_roundedDown, Cond.code yX3_roundedDown cX3_roundedDown 5 (some .long), Cond.fieldLink RX3 18 "ProcessYields$Parts" "ups" "[I", Cond.fieldLink RX3 21 "ProcessYields$Parts" "downs" "[I", Cond.static yX6_floorOf, Cond.code yX6_floorOf cX6_floorOf 4 (some .long)]
def wsL_made_r3 : List Cond := [Cond.methodLink RX6 128 yX6_suffices, Cond.instanceMethod yX6_suffices, Cond.selects RX6 yX6_suffices yX6_suffices, Cond.code yX6_suffices cX6_suffices 5 (some .boolean), Cond.methodLink RX6 240 yX3_goodAt, Cond.methodLink RX6 155 yX2_stockOf, Cond.instanceMethod yX2_stockOf, Cond.selects RX2 yX2_stockOf yX2_stockOf, Cond.initialized RX2, Cond.code yX2_stockOf cX2_stockOf 5 (some .long), Cond.fieldLink RX2 25 "ProcessYields$Lots" "size" "I", Cond.fieldLink RX2 9 "ProcessYields$Lots" "goods" "[I", Cond.fieldLink RX2 15 "ProcessYields$Lots" "lefts" "[J", Cond.methodLink RX6 244 yX3_roundedUp, Cond.instanceMethod yX3_roundedUp, Cond.selects RX3 yX3_roundedUp yX3_roundedUp, Cond.code yX3_roundedUp cX3_roundedUp 5 (some .long), Cond.static yX6_ceilOf, Cond.code yX6_ceilOf cX6_ceilOf 4 (some .long), Cond.methodLink RX6 252 yX6_floorOf, Cond.methodLink RX6 83 yX2_free, Cond.instanceMethod yX2_free, Cond.selects RX2 yX2_free yX2_free, Cond.code yX2_free cX2_free 1 (some .int)]
def wsL_made_r4 : List Cond := [Cond.methodLink RX6 132 yX0_lotsToAdd, Cond.instanceMethod yX0_lotsToAdd, Cond.selects RX0 yX0_lotsToAdd yX0_lotsToAdd, Cond.code yX0_lotsToAdd cX0_lotsToAdd 3 (some .int), Cond.methodLink RX6 135 yX0_weigh, Cond.instanceMethod yX0_weigh, Cond.selects RX0 yX0_weigh yX0_weigh, Cond.code yX0_weigh cX0_weigh 4 none, Cond.fieldLink RX0 19 "ProcessYields$Batch" "weights" "[J", Cond.methodLink RX6 139 yX6_takeNeeds, Cond.instanceMethod yX6_takeNeeds, Cond.selects RX6 yX6_takeNeeds yX6_takeNeeds, Cond.code yX6_takeNeeds cX6_takeNeeds 7 (some .long), Cond.methodLink RX6 161 yX2_take, Cond.instanceMethod yX2_take, Cond.selects RX2 yX2_take yX2_take, Cond.code yX2_take cX2_take 14 (some .long), Cond.fieldLink RX2 29 "ProcessYields$Lots" "takenInterest" "J", Cond.methodLink RX2 33 Lib.MathLoose.min_long.x, Cond.static Lib.MathLoose.min_long.x, Cond.initialized "java/lang/Math", Cond.code Lib.MathLoose.min_long.x Lib.MathLoose.min_long.code 4 (some .long), Cond.constantLong RX2 47 (100), Cond.methodLink RX2 39 yX2_takeFrom]
def wsL_made_r5 : List Cond := [Cond.instanceMethod yX2_takeFrom, Cond.selects RX2 yX2_takeFrom yX2_takeFrom, Cond.code yX2_takeFrom cX2_takeFrom 6 (some .long), Cond.fieldLink RX2 19 "ProcessYields$Lots" "debts" "[J", Cond.methodLink RX2 43 yX2_months, Cond.instanceMethod yX2_months, Cond.selects RX2 yX2_months yX2_months, Cond.code yX2_months cX2_months 3 (some .long), Cond.fieldLink RX2 22 "ProcessYields$Lots" "days" "[I", Cond.constantLong RX2 52 (30), Cond.methodLink RX6 143 yX0_apportion, Cond.instanceMethod yX0_apportion, Cond.selects RX0 yX0_apportion yX0_apportion, Cond.code yX0_apportion cX0_apportion 8 none, Cond.fieldLink RX0 22 "ProcessYields$Batch" "shares" "[J", Cond.fieldLink RX0 25 "ProcessYields$Batch" "remainders" "[J", Cond.methodLink RX0 49 yX0_spread, Cond.instanceMethod yX0_spread, Cond.selects RX0 yX0_spread yX0_spread, Cond.code yX0_spread cX0_spread 5 none, Cond.constantLong RX0 57 (-1), Cond.methodLink RX0 53 yX0_greatestRemainder, Cond.instanceMethod yX0_greatestRemainder, Cond.selects RX0 yX0_greatestRemainder yX0_greatestRemainder]
def wsL_made_r6 : List Cond := [Cond.code yX0_greatestRemainder cX0_greatestRemainder 3 (some .int), Cond.methodLink RX6 147 yX0_store, Cond.instanceMethod yX0_store, Cond.selects RX0 yX0_store yX0_store, Cond.code yX0_store cX0_store 4 none, Cond.methodLink RX0 59 yX2_add, Cond.instanceMethod yX2_add, Cond.selects RX2 yX2_add yX2_add, Cond.code yX2_add cX2_add 7 (some .int)]
def wsL_made : List Cond := .codeWith yL_made cL_made 6 (some .int) [(0, 12, 15, 13)] :: ((wsL_made_r1 ++ (wsL_made_r2 ++ (wsL_made_r3 ++ (wsL_made_r4 ++ (wsL_made_r5 ++ wsL_made_r6))))) ++ wsX60 ++ wsX50 ++ wsX30 ++ wsX00 ++ wsX20 ++ (vx_atS RX6 80 "java/lang/IllegalArgumentException" ["java/lang/RuntimeException", "java/lang/Exception"]).filter goodWord)
def wsL_export_r1 : List Cond := [Cond.classLink RL 13 "java/lang/IllegalArgumentException", Cond.methodLink RL 28 yX6_export, Cond.instanceMethod yX6_export, Cond.selects RX6 yX6_export yX6_export, Cond.initialized RX6, Cond.code yX6_export cX6_export 5 (some .long), Cond.fieldLink RX6 23 "ProcessYields" "lots" "LProcessYields$Lots;", Cond.constantLong RX6 159 (-1), Cond.fieldLink RX6 92 "ProcessYields" "today" "I", Cond.fieldLink RX6 103 "ProcessYields" "discharged" "J", Cond.methodLink RX6 151 yX6_checkTaking, Cond.static yX6_checkTaking, Cond.code yX6_checkTaking cX6_checkTaking 2 none, Cond.classLink RX6 76 "java/lang/IllegalArgumentException", Cond.initialized "java/lang/IllegalArgumentException", Cond.methodLink RX6 48 yX6_isGood, Cond.static yX6_isGood, Cond.code yX6_isGood cX6_isGood 1 (some .boolean), Cond.methodLink RX6 52 yX6_isWithin, Cond.static yX6_isWithin, Cond.code yX6_isWithin cX6_isWithin 3 (some .boolean), Cond.methodLink RX6 155 yX2_stockOf, Cond.instanceMethod yX2_stockOf, Cond.selects RX2 yX2_stockOf yX2_stockOf]
def wsL_export_r2 : List Cond := [Cond.initialized RX2, Cond.code yX2_stockOf cX2_stockOf 5 (some .long), Cond.fieldLink RX2 25 "ProcessYields$Lots" "size" "I", Cond.fieldLink RX2 9 "ProcessYields$Lots" "goods" "[I", Cond.fieldLink RX2 15 "ProcessYields$Lots" "lefts" "[J", Cond.methodLink RX6 161 yX2_take, Cond.instanceMethod yX2_take, Cond.selects RX2 yX2_take yX2_take, Cond.code yX2_take cX2_take 14 (some .long), Cond.fieldLink RX2 29 "ProcessYields$Lots" "takenInterest" "J", Cond.methodLink RX2 33 Lib.MathLoose.min_long.x, Cond.static Lib.MathLoose.min_long.x, Cond.initialized "java/lang/Math", Cond.code Lib.MathLoose.min_long.x Lib.MathLoose.min_long.code 4 (some .long), Cond.constantLong RX2 47 (100), Cond.methodLink RX2 39 yX2_takeFrom, Cond.instanceMethod yX2_takeFrom, Cond.selects RX2 yX2_takeFrom yX2_takeFrom, Cond.code yX2_takeFrom cX2_takeFrom 6 (some .long), Cond.fieldLink RX2 19 "ProcessYields$Lots" "debts" "[J", Cond.static yX6_floorOf, Cond.code yX6_floorOf cX6_floorOf 4 (some .long), Cond.methodLink RX2 43 yX2_months, Cond.instanceMethod yX2_months]
def wsL_export_r3 : List Cond := [Cond.selects RX2 yX2_months yX2_months, Cond.code yX2_months cX2_months 3 (some .long), Cond.fieldLink RX2 22 "ProcessYields$Lots" "days" "[I", Cond.constantLong RX2 52 (30), Cond.static yX6_ceilOf, Cond.code yX6_ceilOf cX6_ceilOf 4 (some .long), Cond.methodLink RX6 252 yX6_floorOf]
def wsL_export : List Cond := .codeWith yL_export cL_export 5 (some .int) [(0, 9, 12, 13)] :: ((wsL_export_r1 ++ (wsL_export_r2 ++ wsL_export_r3)) ++ wsX60 ++ wsX20 ++ (vx_atS RX6 80 "java/lang/IllegalArgumentException" ["java/lang/RuntimeException", "java/lang/Exception"]).filter goodWord)
def wsL_release_r1 : List Cond := [Cond.classLink RL 13 "java/lang/IllegalArgumentException", Cond.methodLink RL 32 yX6_release, Cond.instanceMethod yX6_release, Cond.selects RX6 yX6_release yX6_release, Cond.initialized RX6, Cond.code yX6_release cX6_release 5 (some .long), Cond.fieldLink RX6 23 "ProcessYields" "lots" "LProcessYields$Lots;", Cond.constantLong RX6 159 (-1), Cond.fieldLink RX6 92 "ProcessYields" "today" "I", Cond.fieldLink RX6 165 "ProcessYields" "owed" "J", Cond.fieldLink RX6 168 "ProcessYields" "interest" "J", Cond.fieldLink RX6 171 "ProcessYields$Lots" "takenInterest" "J", Cond.methodLink RX6 151 yX6_checkTaking, Cond.static yX6_checkTaking, Cond.code yX6_checkTaking cX6_checkTaking 2 none, Cond.classLink RX6 76 "java/lang/IllegalArgumentException", Cond.initialized "java/lang/IllegalArgumentException", Cond.methodLink RX6 48 yX6_isGood, Cond.static yX6_isGood, Cond.code yX6_isGood cX6_isGood 1 (some .boolean), Cond.methodLink RX6 52 yX6_isWithin, Cond.static yX6_isWithin, Cond.code yX6_isWithin cX6_isWithin 3 (some .boolean), Cond.methodLink RX6 155 yX2_stockOf]
def wsL_release_r2 : List Cond := [Cond.instanceMethod yX2_stockOf, Cond.selects RX2 yX2_stockOf yX2_stockOf, Cond.initialized RX2, Cond.code yX2_stockOf cX2_stockOf 5 (some .long), Cond.fieldLink RX2 25 "ProcessYields$Lots" "size" "I", Cond.fieldLink RX2 9 "ProcessYields$Lots" "goods" "[I", Cond.fieldLink RX2 15 "ProcessYields$Lots" "lefts" "[J", Cond.methodLink RX6 161 yX2_take, Cond.instanceMethod yX2_take, Cond.selects RX2 yX2_take yX2_take, Cond.code yX2_take cX2_take 14 (some .long), Cond.fieldLink RX2 29 "ProcessYields$Lots" "takenInterest" "J", Cond.methodLink RX2 33 Lib.MathLoose.min_long.x, Cond.static Lib.MathLoose.min_long.x, Cond.initialized "java/lang/Math", Cond.code Lib.MathLoose.min_long.x Lib.MathLoose.min_long.code 4 (some .long), Cond.constantLong RX2 47 (100), Cond.methodLink RX2 39 yX2_takeFrom, Cond.instanceMethod yX2_takeFrom, Cond.selects RX2 yX2_takeFrom yX2_takeFrom, Cond.code yX2_takeFrom cX2_takeFrom 6 (some .long), Cond.fieldLink RX2 19 "ProcessYields$Lots" "debts" "[J", Cond.static yX6_floorOf, Cond.code yX6_floorOf cX6_floorOf 4 (some .long)]
def wsL_release_r3 : List Cond := [Cond.methodLink RX2 43 yX2_months, Cond.instanceMethod yX2_months, Cond.selects RX2 yX2_months yX2_months, Cond.code yX2_months cX2_months 3 (some .long), Cond.fieldLink RX2 22 "ProcessYields$Lots" "days" "[I", Cond.constantLong RX2 52 (30), Cond.static yX6_ceilOf, Cond.code yX6_ceilOf cX6_ceilOf 4 (some .long), Cond.methodLink RX6 252 yX6_floorOf]
def wsL_release : List Cond := .codeWith yL_release cL_release 5 (some .int) [(0, 9, 12, 13)] :: ((wsL_release_r1 ++ (wsL_release_r2 ++ wsL_release_r3)) ++ wsX60 ++ wsX20 ++ (vx_atS RX6 80 "java/lang/IllegalArgumentException" ["java/lang/RuntimeException", "java/lang/Exception"]).filter goodWord)
def wsL_prior_r1 : List Cond := [Cond.classLink RL 13 "java/lang/IllegalArgumentException", Cond.classLink RL 22 "java/lang/IllegalStateException", Cond.methodLink RL 35 yX6_prior, Cond.instanceMethod yX6_prior, Cond.selects RX6 yX6_prior yX6_prior, Cond.initialized RX6, Cond.code yX6_prior cX6_prior 4 (some .int), Cond.classLink RX6 76 "java/lang/IllegalArgumentException", Cond.initialized "java/lang/IllegalArgumentException", Cond.classLink RX6 87 "java/lang/IllegalStateException", Cond.initialized "java/lang/IllegalStateException", Cond.constant RX6 174 (100000), Cond.fieldLink RX6 30 "ProcessYields" "priors" "LProcessYields$Priors;", Cond.fieldLink RX6 177 "ProcessYields$Priors" "size" "I", Cond.methodLink RX6 48 yX6_isGood, Cond.static yX6_isGood, Cond.code yX6_isGood cX6_isGood 1 (some .boolean), Cond.methodLink RX6 52 yX6_isWithin, Cond.static yX6_isWithin, Cond.code yX6_isWithin cX6_isWithin 3 (some .boolean), Cond.methodLink RX6 180 yX4_add, Cond.instanceMethod yX4_add, Cond.selects RX4 yX4_add yX4_add, Cond.initialized RX4]
def wsL_prior_r2 : List Cond := [Cond.code yX4_add cX4_add 4 none, Cond.fieldLink RX4 22 "ProcessYields$Priors" "size" "I", Cond.fieldLink RX4 9 "ProcessYields$Priors" "goods" "[I", Cond.fieldLink RX4 15 "ProcessYields$Priors" "lefts" "[J", Cond.fieldLink RX4 19 "ProcessYields$Priors" "untils" "[I"]
def wsL_prior : List Cond := .codeWith yL_prior cL_prior 6 (some .int) [(0, 12, 15, 13), (0, 12, 19, 22)] :: ((wsL_prior_r1 ++ wsL_prior_r2) ++ wsX60 ++ wsX40 ++ (vx_atS RX6 80 "java/lang/IllegalArgumentException" ["java/lang/RuntimeException", "java/lang/Exception"]).filter goodWord ++ (vx_atS RX6 91 "java/lang/IllegalStateException" ["java/lang/RuntimeException", "java/lang/Exception"]).filter goodWord)
def wsL_chain_r1 : List Cond := [Cond.classLink RL 13 "java/lang/IllegalArgumentException", Cond.methodLink RL 38 yX6_chain, Cond.instanceMethod yX6_chain, Cond.selects RX6 yX6_chain yX6_chain, Cond.initialized RX6, Cond.code yX6_chain cX6_chain 4 (some .long), Cond.classLink RX6 76 "java/lang/IllegalArgumentException", Cond.initialized "java/lang/IllegalArgumentException", Cond.fieldLink RX6 44 "ProcessYields" "ways" "LProcessYields$Chain;", Cond.fieldLink RX6 16 "ProcessYields" "recipes" "LProcessYields$Recipes;", Cond.fieldLink RX6 189 "ProcessYields$Chain" "above" "[J", Cond.fieldLink RX6 193 "ProcessYields$Chain" "below" "[J", Cond.methodLink RX6 48 yX6_isGood, Cond.static yX6_isGood, Cond.code yX6_isGood cX6_isGood 1 (some .boolean), Cond.methodLink RX6 52 yX6_isWithin, Cond.static yX6_isWithin, Cond.code yX6_isWithin cX6_isWithin 3 (some .boolean), Cond.methodLink RX6 185 yX1_trace, Cond.instanceMethod yX1_trace, Cond.selects RX1 yX1_trace yX1_trace, Cond.initialized RX1, Cond.code yX1_trace cX1_trace 5 none, Cond.fieldLink RX1 9 "ProcessYields$Chain" "above" "[J"]
def wsL_chain_r2 : List Cond := [Cond.fieldLink RX1 15 "ProcessYields$Chain" "below" "[J", Cond.fieldLink RX1 18 "ProcessYields$Recipes" "depths" "[I", Cond.fieldLink RX1 24 "ProcessYields$Recipes" "inputs" "LProcessYields$Parts;", Cond.methodLink RX1 28 yX1_gather, Cond.instanceMethod yX1_gather, Cond.selects RX1 yX1_gather yX1_gather, Cond.code yX1_gather cX1_gather 6 none, Cond.fieldLink RX1 32 "ProcessYields$Parts" "sizes" "[I", Cond.fieldLink RX1 41 "ProcessYields$Parts" "goods" "[I", Cond.fieldLink RX1 44 "ProcessYields$Parts" "ups" "[I", Cond.fieldLink RX1 47 "ProcessYields$Parts" "downs" "[I", Cond.methodLink RX1 37 yX3_place, Cond.static yX3_place, Cond.initialized RX3, Cond.code yX3_place cX3_place 2 (some .int), Cond.methodLink RX1 50 yX1_addFraction, Cond.instanceMethod yX1_addFraction, Cond.selects RX1 yX1_addFraction yX1_addFraction, Cond.code yX1_addFraction cX1_addFraction 18 none, Cond.static yX6_greatestDivisor, Cond.code yX6_greatestDivisor cX6_greatestDivisor 11 (some .long), Cond.methodLink RX6 252 yX6_floorOf, Cond.static yX6_floorOf, Cond.code yX6_floorOf cX6_floorOf 4 (some .long)]
def wsL_chain : List Cond := .codeWith yL_chain cL_chain 6 (some .int) [(0, 11, 14, 13)] :: ((wsL_chain_r1 ++ wsL_chain_r2) ++ wsX60 ++ wsX10 ++ wsX50 ++ wsX30 ++ (vx_atS RX6 80 "java/lang/IllegalArgumentException" ["java/lang/RuntimeException", "java/lang/Exception"]).filter goodWord)
def wsL_look_r1 : List Cond := [Cond.classLink RL 45 "java/lang/IndexOutOfBoundsException", Cond.methodLink RL 42 yX6_look, Cond.instanceMethod yX6_look, Cond.selects RX6 yX6_look yX6_look, Cond.initialized RX6, Cond.code yX6_look cX6_look 3 (some .long), Cond.classLink RX6 196 "java/lang/IndexOutOfBoundsException", Cond.initialized "java/lang/IndexOutOfBoundsException", Cond.fieldLink RX6 23 "ProcessYields" "lots" "LProcessYields$Lots;", Cond.fieldLink RX6 16 "ProcessYields" "recipes" "LProcessYields$Recipes;", Cond.fieldLink RX6 56 "ProcessYields$Recipes" "has" "[Z", Cond.fieldLink RX6 110 "ProcessYields$Recipes" "inputs" "LProcessYields$Parts;", Cond.fieldLink RX6 114 "ProcessYields$Parts" "sizes" "[I", Cond.constantLong RX6 159 (-1), Cond.fieldLink RX6 121 "ProcessYields$Recipes" "outputs" "LProcessYields$Parts;", Cond.fieldLink RX6 208 "ProcessYields$Recipes" "depths" "[I", Cond.fieldLink RX6 9 "ProcessYields" "values" "[I", Cond.fieldLink RX6 30 "ProcessYields" "priors" "LProcessYields$Priors;", Cond.fieldLink RX6 92 "ProcessYields" "today" "I", Cond.methodLink RX6 48 yX6_isGood, Cond.static yX6_isGood, Cond.code yX6_isGood cX6_isGood 1 (some .boolean), Cond.methodLink RX6 52 yX6_isWithin, Cond.static yX6_isWithin]
def wsL_look_r2 : List Cond := [Cond.code yX6_isWithin cX6_isWithin 3 (some .boolean), Cond.methodLink RX6 155 yX2_stockOf, Cond.instanceMethod yX2_stockOf, Cond.selects RX2 yX2_stockOf yX2_stockOf, Cond.initialized RX2, Cond.code yX2_stockOf cX2_stockOf 5 (some .long), Cond.fieldLink RX2 25 "ProcessYields$Lots" "size" "I", Cond.fieldLink RX2 9 "ProcessYields$Lots" "goods" "[I", Cond.fieldLink RX2 15 "ProcessYields$Lots" "lefts" "[J", Cond.methodLink RX6 201 yX2_debtOf, Cond.instanceMethod yX2_debtOf, Cond.selects RX2 yX2_debtOf yX2_debtOf, Cond.code yX2_debtOf cX2_debtOf 5 (some .long), Cond.fieldLink RX2 19 "ProcessYields$Lots" "debts" "[J", Cond.methodLink RX6 204 yX2_openOf, Cond.instanceMethod yX2_openOf, Cond.selects RX2 yX2_openOf yX2_openOf, Cond.code yX2_openOf cX2_openOf 4 (some .int), Cond.methodLink RX6 211 yX4_openOf, Cond.instanceMethod yX4_openOf, Cond.selects RX4 yX4_openOf yX4_openOf, Cond.initialized RX4, Cond.code yX4_openOf cX4_openOf 6 (some .long), Cond.fieldLink RX4 22 "ProcessYields$Priors" "size" "I"]
def wsL_look_r3 : List Cond := [Cond.fieldLink RX4 15 "ProcessYields$Priors" "lefts" "[J", Cond.methodLink RX4 26 yX4_isOpen, Cond.instanceMethod yX4_isOpen, Cond.selects RX4 yX4_isOpen yX4_isOpen, Cond.code yX4_isOpen cX4_isOpen 4 (some .boolean), Cond.fieldLink RX4 9 "ProcessYields$Priors" "goods" "[I", Cond.fieldLink RX4 19 "ProcessYields$Priors" "untils" "[I"]
def wsL_look : List Cond := .codeWith yL_look cL_look 5 (some .int) [(0, 9, 12, 45)] :: ((wsL_look_r1 ++ (wsL_look_r2 ++ wsL_look_r3)) ++ wsX60 ++ wsX50 ++ wsX30 ++ wsX20 ++ wsX40 ++ (vx_atS RX6 200 "java/lang/IndexOutOfBoundsException" ["java/lang/RuntimeException", "java/lang/Exception"]).filter goodWord)
def wsL_lot : List Cond := .codeWith yL_lot cL_lot 5 (some .int) [(0, 9, 12, 45)] :: ([.classLink RL 45 "java/lang/IndexOutOfBoundsException", .methodLink RL 47 yX6_lot, .instanceMethod yX6_lot, .selects RX6 yX6_lot yX6_lot, .initialized RX6, .code yX6_lot cX6_lot 3 (some .long), .classLink RX6 196 "java/lang/IndexOutOfBoundsException", .initialized "java/lang/IndexOutOfBoundsException", .fieldLink RX6 23 "ProcessYields" "lots" "LProcessYields$Lots;", .fieldLink RX6 213 "ProcessYields$Lots" "size" "I", .fieldLink RX6 216 "ProcessYields$Lots" "goods" "[I", .fieldLink RX6 219 "ProcessYields$Lots" "lefts" "[J", .fieldLink RX6 222 "ProcessYields$Lots" "debts" "[J", .fieldLink RX6 225 "ProcessYields$Lots" "days" "[I", .methodLink RX6 52 yX6_isWithin, .static yX6_isWithin, .code yX6_isWithin cX6_isWithin 3 (some .boolean)] ++ wsX60 ++ wsX20 ++ (vx_atS RX6 200 "java/lang/IndexOutOfBoundsException" ["java/lang/RuntimeException", "java/lang/Exception"]).filter goodWord)
def wsL_quotient : List Cond := .codeWith yL_quotient cL_quotient 5 (some .int) [(0, 9, 12, 13), (0, 9, 16, 53)] :: ([.classLink RL 13 "java/lang/IllegalArgumentException", .classLink RL 53 "java/lang/ArithmeticException", .methodLink RL 50 yX6_quotient, .instanceMethod yX6_quotient, .selects RX6 yX6_quotient yX6_quotient, .initialized RX6, .code yX6_quotient cX6_quotient 3 (some .long), .classLink RX6 76 "java/lang/IllegalArgumentException", .initialized "java/lang/IllegalArgumentException", .classLink RX6 235 "java/lang/ArithmeticException", .initialized "java/lang/ArithmeticException", .constant RX6 232 (1000000000), .methodLink RX6 52 yX6_isWithin, .static yX6_isWithin, .code yX6_isWithin cX6_isWithin 3 (some .boolean)] ++ (vx_atS RX6 80 "java/lang/IllegalArgumentException" ["java/lang/RuntimeException", "java/lang/Exception"]).filter goodWord ++ (vx_atS RX6 239 "java/lang/ArithmeticException" ["java/lang/RuntimeException", "java/lang/Exception"]).filter goodWord)
def wsL_law0_r1 : List Cond := [Cond.classLink RL 8 RX6, Cond.instantiable RX6 11, Cond.initialized RX6, Cond.classLink RL 56 RX7, Cond.instantiable RX7 30, Cond.initialized RX7, Cond.arrayClass .long, Cond.methodLink RL 55 yX6_init, Cond.instanceMethod yX6_init, Cond.code yX6_init cX6_init 2 none, Cond.methodLink RX6 1 objectInit, Cond.instanceMethod objectInit, Cond.code objectInit ⟨#[0xb1]⟩ 1 none, Cond.arrayClass .int, Cond.fieldLink RX6 9 "ProcessYields" "values" "[I", Cond.classLink RX6 13 RX5, Cond.instantiable RX5 5, Cond.initialized RX5, Cond.fieldLink RX6 16 "ProcessYields" "recipes" "LProcessYields$Recipes;", Cond.classLink RX6 20 RX2, Cond.instantiable RX2 6, Cond.initialized RX2, Cond.fieldLink RX6 23 "ProcessYields" "lots" "LProcessYields$Lots;", Cond.classLink RX6 27 RX4]
def wsL_law0_r2 : List Cond := [Cond.instantiable RX4 4, Cond.initialized RX4, Cond.fieldLink RX6 30 "ProcessYields" "priors" "LProcessYields$Priors;", Cond.classLink RX6 34 RX0, Cond.instantiable RX0 6, Cond.initialized RX0, Cond.fieldLink RX6 37 "ProcessYields" "batch" "LProcessYields$Batch;", Cond.classLink RX6 41 RX1, Cond.instantiable RX1 2, Cond.initialized RX1, Cond.fieldLink RX6 44 "ProcessYields" "ways" "LProcessYields$Chain;", Cond.instanceMethod yX5_init, Cond.code yX5_init cX5_init 1 none, Cond.methodLink RX5 3 objectInit, Cond.arrayClass .boolean, Cond.fieldLink RX5 9 "ProcessYields$Recipes" "has" "[Z", Cond.classLink RX5 15 RX3, Cond.instantiable RX3 5, Cond.initialized RX3, Cond.fieldLink RX5 20 "ProcessYields$Recipes" "inputs" "LProcessYields$Parts;", Cond.fieldLink RX5 24 "ProcessYields$Recipes" "outputs" "LProcessYields$Parts;", Cond.fieldLink RX5 27 "ProcessYields$Recipes" "depths" "[I", Cond.methodLink RX5 17 yX3_init, Cond.instanceMethod yX3_init]
def wsL_law0_r3 : List Cond := [Cond.code yX3_init cX3_init 2 none, Cond.methodLink RX3 3 objectInit, Cond.fieldLink RX3 9 "ProcessYields$Parts" "sizes" "[I", Cond.fieldLink RX3 15 "ProcessYields$Parts" "goods" "[I", Cond.fieldLink RX3 18 "ProcessYields$Parts" "ups" "[I", Cond.fieldLink RX3 21 "ProcessYields$Parts" "downs" "[I", Cond.methodLink RX3 24 Lib.Math.min.name, Cond.static Lib.Math.min.name, Cond.initialized "java/lang/Math", Cond.code Lib.Math.min.name Lib.Math.min.code 2 (some .int), Cond.fieldLink RX3 30 "ProcessYields$Parts" "most" "I", Cond.instanceMethod yX2_init, Cond.code yX2_init cX2_init 1 none, Cond.methodLink RX2 3 objectInit, Cond.fieldLink RX2 9 "ProcessYields$Lots" "goods" "[I", Cond.fieldLink RX2 15 "ProcessYields$Lots" "lefts" "[J", Cond.fieldLink RX2 19 "ProcessYields$Lots" "debts" "[J", Cond.fieldLink RX2 22 "ProcessYields$Lots" "days" "[I", Cond.instanceMethod yX4_init, Cond.code yX4_init cX4_init 1 none, Cond.methodLink RX4 3 objectInit, Cond.fieldLink RX4 9 "ProcessYields$Priors" "goods" "[I", Cond.fieldLink RX4 15 "ProcessYields$Priors" "lefts" "[J", Cond.fieldLink RX4 19 "ProcessYields$Priors" "untils" "[I"]
def wsL_law0_r4 : List Cond := [Cond.instanceMethod yX0_init, Cond.code yX0_init cX0_init 1 none, Cond.methodLink RX0 3 objectInit, Cond.fieldLink RX0 9 "ProcessYields$Batch" "goods" "[I", Cond.fieldLink RX0 15 "ProcessYields$Batch" "amounts" "[J", Cond.fieldLink RX0 19 "ProcessYields$Batch" "weights" "[J", Cond.fieldLink RX0 22 "ProcessYields$Batch" "shares" "[J", Cond.fieldLink RX0 25 "ProcessYields$Batch" "remainders" "[J", Cond.instanceMethod yX1_init, Cond.code yX1_init cX1_init 1 none, Cond.methodLink RX1 3 objectInit, Cond.fieldLink RX1 9 "ProcessYields$Chain" "above" "[J", Cond.fieldLink RX1 15 "ProcessYields$Chain" "below" "[J", Cond.methodLink RL 58 yX7_init, Cond.instanceMethod yX7_init, Cond.code yX7_init cX7_init 1 none, Cond.methodLink RX7 1 objectInit, Cond.fieldLink RX7 7 "ProcessYieldsModel" "value" "[I", Cond.fieldLink RX7 13 "ProcessYieldsModel" "isRecipe" "[Z", Cond.fieldLink RX7 17 "ProcessYieldsModel" "needs" "[I", Cond.fieldLink RX7 20 "ProcessYieldsModel" "byProducts" "[I", Cond.fieldLink RX7 23 "ProcessYieldsModel" "needGood" "[I", Cond.fieldLink RX7 26 "ProcessYieldsModel" "needUp" "[I", Cond.fieldLink RX7 29 "ProcessYieldsModel" "needDown" "[I"]
def wsL_law0_r5 : List Cond := [Cond.fieldLink RX7 32 "ProcessYieldsModel" "byGood" "[I", Cond.fieldLink RX7 35 "ProcessYieldsModel" "byUp" "[I", Cond.fieldLink RX7 38 "ProcessYieldsModel" "byDown" "[I", Cond.fieldLink RX7 41 "ProcessYieldsModel" "lotGood" "[I", Cond.fieldLink RX7 44 "ProcessYieldsModel" "lotDay" "[I", Cond.fieldLink RX7 47 "ProcessYieldsModel" "lotLeft" "[J", Cond.fieldLink RX7 51 "ProcessYieldsModel" "lotDebt" "[J", Cond.fieldLink RX7 54 "ProcessYieldsModel" "priorGood" "[I", Cond.fieldLink RX7 57 "ProcessYieldsModel" "priorUntil" "[I", Cond.fieldLink RX7 60 "ProcessYieldsModel" "priorLeft" "[J", Cond.fieldLink RX7 63 "ProcessYieldsModel" "weight" "[J", Cond.fieldLink RX7 66 "ProcessYieldsModel" "chains" "[J", Cond.methodLink RL 59 yX6_value, Cond.instanceMethod yX6_value, Cond.selects RX6 yX6_value yX6_value, Cond.code yX6_value cX6_value 3 (some .boolean), Cond.methodLink RX6 48 yX6_isGood, Cond.static yX6_isGood, Cond.code yX6_isGood cX6_isGood 1 (some .boolean), Cond.methodLink RX6 52 yX6_isWithin, Cond.static yX6_isWithin, Cond.code yX6_isWithin cX6_isWithin 3 (some .boolean), Cond.methodLink RL 63 yX7_value, Cond.instanceMethod yX7_value]
def wsL_law0_r6 : List Cond := [Cond.selects RX7 yX7_value yX7_value, Cond.code yX7_value cX7_value 3 (some .boolean), Cond.fieldLink RX7 69 "ProcessYieldsModel" "thrown" "I", Cond.constantLong RX7 83 (10000), Cond.methodLink RX7 79 yX7_isGood, Cond.static yX7_isGood, Cond.code yX7_isGood cX7_isGood 1 (some .boolean), Cond.constantLong RX7 73 (11), Cond.methodLink RX7 75 yX7_within, Cond.static yX7_within, Cond.code yX7_within cX7_within 6 (some .boolean), Cond.methodLink RL 64 yX6_recipe, Cond.instanceMethod yX6_recipe, Cond.selects RX6 yX6_recipe yX6_recipe, Cond.code yX6_recipe cX6_recipe 2 (some .boolean), Cond.fieldLink RX6 56 "ProcessYields$Recipes" "has" "[Z", Cond.fieldLink RX6 60 "ProcessYields$Recipes" "size" "I", Cond.methodLink RL 68 yX7_recipe, Cond.instanceMethod yX7_recipe, Cond.selects RX7 yX7_recipe yX7_recipe, Cond.code yX7_recipe cX7_recipe 2 (some .boolean), Cond.fieldLink RX7 85 "ProcessYieldsModel" "recipes" "I", Cond.methodLink RL 69 yL_needs, Cond.static yL_needs]
def wsL_law0_r7 : List Cond := [Cond.initialized RL, Cond.codeWith yL_needs cL_needs 7 (some .int) [(0, 14, 17, 13)], Cond.classLink RL 13 "java/lang/IllegalArgumentException", Cond.methodLink RL 7 yX6_needs, Cond.instanceMethod yX6_needs, Cond.selects RX6 yX6_needs yX6_needs, Cond.code yX6_needs cX6_needs 5 (some .int), Cond.methodLink RX6 64 yX6_checkPart, Cond.static yX6_checkPart, Cond.code yX6_checkPart cX6_checkPart 4 none, Cond.classLink RX6 76 "java/lang/IllegalArgumentException", Cond.initialized "java/lang/IllegalArgumentException", Cond.methodLink RX6 68 yX5_addNeed, Cond.instanceMethod yX5_addNeed, Cond.selects RX5 yX5_addNeed yX5_addNeed, Cond.code yX5_addNeed cX5_addNeed 5 (some .boolean), Cond.methodLink RX5 31 yX3_add, Cond.instanceMethod yX3_add, Cond.selects RX3 yX3_add yX3_add, Cond.code yX3_add cX3_add 6 (some .boolean), Cond.methodLink RX3 34 yX3_isTold, Cond.instanceMethod yX3_isTold, Cond.selects RX3 yX3_isTold yX3_isTold, Cond.code yX3_isTold cX3_isTold 4 (some .boolean)]
def wsL_law0_r8 : List Cond := [Cond.methodLink RX3 41 yX3_goodAt, Cond.instanceMethod yX3_goodAt, Cond.selects RX3 yX3_goodAt yX3_goodAt, Cond.code yX3_goodAt cX3_goodAt 3 (some .int), Cond.methodLink RX3 38 yX3_place, Cond.static yX3_place, Cond.code yX3_place cX3_place 2 (some .int), Cond.methodLink RX5 35 yX5_measureDepths, Cond.instanceMethod yX5_measureDepths, Cond.selects RX5 yX5_measureDepths yX5_measureDepths, Cond.code yX5_measureDepths cX5_measureDepths 4 (some .int), Cond.methodLink RX5 46 Lib.Math.max.name, Cond.static Lib.Math.max.name, Cond.code Lib.Math.max.name Lib.Math.max.code 2 (some .int), Cond.methodLink RX5 42 yX5_depthByNeeds, Cond.instanceMethod yX5_depthByNeeds, Cond.selects RX5 yX5_depthByNeeds yX5_depthByNeeds, Cond.code yX5_depthByNeeds cX5_depthByNeeds 4 (some .int), Cond.fieldLink RX5 52 "ProcessYields$Parts" "sizes" "[I", Cond.methodLink RX5 55 yX3_goodAt, Cond.methodLink RX5 39 yX3_dropLast, Cond.instanceMethod yX3_dropLast, Cond.selects RX3 yX3_dropLast yX3_dropLast, Cond.code yX3_dropLast cX3_dropLast 2 none]
def wsL_law0_r9 : List Cond := [Cond.methodLink RL 74 yX7_needs, Cond.instanceMethod yX7_needs, Cond.selects RX7 yX7_needs yX7_needs, Cond.code yX7_needs cX7_needs 7 (some .int), Cond.methodLink RX7 90 yX7_isPart, Cond.static yX7_isPart, Cond.code yX7_isPart cX7_isPart 2 (some .boolean), Cond.constantLong RX7 88 (12), Cond.methodLink RX7 94 yX7_isNeed, Cond.instanceMethod yX7_isNeed, Cond.selects RX7 yX7_isNeed yX7_isNeed, Cond.code yX7_isNeed cX7_isNeed 5 (some .boolean), Cond.methodLink RX7 97 yX7_leads, Cond.instanceMethod yX7_leads, Cond.selects RX7 yX7_leads yX7_leads, Cond.code yX7_leads cX7_leads 7 (some .boolean), Cond.methodLink RX7 100 yX7_depthOf, Cond.instanceMethod yX7_depthOf, Cond.selects RX7 yX7_depthOf yX7_depthOf, Cond.code yX7_depthOf cX7_depthOf 7 (some .int), Cond.methodLink RL 75 yX7_thrown, Cond.instanceMethod yX7_thrown, Cond.selects RX7 yX7_thrown yX7_thrown, Cond.code yX7_thrown cX7_thrown 1 (some .int)]
def wsL_law0_r10 : List Cond := [Cond.methodLink RL 79 yL_yields, Cond.static yL_yields, Cond.codeWith yL_yields cL_yields 7 (some .int) [(0, 14, 17, 13)], Cond.methodLink RL 15 yX6_yields, Cond.instanceMethod yX6_yields, Cond.selects RX6 yX6_yields yX6_yields, Cond.code yX6_yields cX6_yields 5 (some .int), Cond.methodLink RX6 72 yX5_addByProduct, Cond.instanceMethod yX5_addByProduct, Cond.selects RX5 yX5_addByProduct yX5_addByProduct, Cond.code yX5_addByProduct cX5_addByProduct 5 (some .boolean), Cond.methodLink RL 81 yX7_yields, Cond.instanceMethod yX7_yields, Cond.selects RX7 yX7_yields yX7_yields, Cond.code yX7_yields cX7_yields 5 (some .int), Cond.methodLink RL 82 yL_in, Cond.static yL_in, Cond.codeWith yL_in cL_in 6 (some .int) [(0, 12, 15, 13), (0, 12, 19, 22)], Cond.classLink RL 22 "java/lang/IllegalStateException", Cond.methodLink RL 18 yX6_in, Cond.instanceMethod yX6_in, Cond.selects RX6 yX6_in yX6_in, Cond.code yX6_in cX6_in 5 (some .int), Cond.classLink RX6 87 "java/lang/IllegalStateException"]
def wsL_law0_r11 : List Cond := [Cond.initialized "java/lang/IllegalStateException", Cond.constant RX6 75 (1000000), Cond.fieldLink RX6 92 "ProcessYields" "today" "I", Cond.fieldLink RX6 99 "ProcessYields" "imported" "J", Cond.fieldLink RX6 103 "ProcessYields" "discharged" "J", Cond.methodLink RX6 83 yX2_free, Cond.instanceMethod yX2_free, Cond.selects RX2 yX2_free yX2_free, Cond.code yX2_free cX2_free 1 (some .int), Cond.fieldLink RX2 25 "ProcessYields$Lots" "size" "I", Cond.methodLink RX6 95 yX2_add, Cond.instanceMethod yX2_add, Cond.selects RX2 yX2_add yX2_add, Cond.code yX2_add cX2_add 7 (some .int), Cond.methodLink RX6 106 yX4_meet, Cond.instanceMethod yX4_meet, Cond.selects RX4 yX4_meet yX4_meet, Cond.code yX4_meet cX4_meet 9 (some .long), Cond.fieldLink RX4 30 "ProcessYields$Lots" "size" "I", Cond.fieldLink RX4 22 "ProcessYields$Priors" "size" "I", Cond.fieldLink RX4 36 "ProcessYields$Lots" "lefts" "[J", Cond.fieldLink RX4 37 "ProcessYields$Lots" "goods" "[I", Cond.methodLink RX4 38 Lib.MathLoose.min_long.x, Cond.static Lib.MathLoose.min_long.x]
def wsL_law0_r12 : List Cond := [Cond.code Lib.MathLoose.min_long.x Lib.MathLoose.min_long.code 4 (some .long), Cond.methodLink RX4 26 yX4_isOpen, Cond.instanceMethod yX4_isOpen, Cond.selects RX4 yX4_isOpen yX4_isOpen, Cond.code yX4_isOpen cX4_isOpen 4 (some .boolean), Cond.methodLink RX4 44 yX2_takeFrom, Cond.instanceMethod yX2_takeFrom, Cond.selects RX2 yX2_takeFrom yX2_takeFrom, Cond.code yX2_takeFrom cX2_takeFrom 6 (some .long), Cond.static yX6_floorOf, Cond.code yX6_floorOf cX6_floorOf 4 (some .long), Cond.methodLink RL 85 yX7_in, Cond.instanceMethod yX7_in, Cond.selects RX7 yX7_in yX7_in, Cond.code yX7_in cX7_in 9 (some .int), Cond.constantLong RX7 129 (1000000), Cond.fieldLink RX7 104 "ProcessYieldsModel" "lots" "I", Cond.fieldLink RX7 131 "ProcessYieldsModel" "imported" "J", Cond.fieldLink RX7 138 "ProcessYieldsModel" "priors" "I", Cond.fieldLink RX7 107 "ProcessYieldsModel" "today" "I", Cond.fieldLink RX7 141 "ProcessYieldsModel" "discharged" "J", Cond.methodLink RX7 134 yX7_newLot, Cond.instanceMethod yX7_newLot, Cond.selects RX7 yX7_newLot yX7_newLot]
def wsL_law0_r13 : List Cond := [Cond.code yX7_newLot cX7_newLot 6 (some .int), Cond.methodLink RX7 117 yX7_takeOf, Cond.instanceMethod yX7_takeOf, Cond.selects RX7 yX7_takeOf yX7_takeOf, Cond.code yX7_takeOf cX7_takeOf 6 (some .long), Cond.methodLink RL 86 yL_made, Cond.static yL_made, Cond.codeWith yL_made cL_made 6 (some .int) [(0, 12, 15, 13)], Cond.methodLink RL 24 yX6_made, Cond.instanceMethod yX6_made, Cond.selects RX6 yX6_made yX6_made, Cond.code yX6_made cX6_made 4 (some .int), Cond.fieldLink RX6 110 "ProcessYields$Recipes" "inputs" "LProcessYields$Parts;", Cond.fieldLink RX6 114 "ProcessYields$Parts" "sizes" "[I", Cond.fieldLink RX6 121 "ProcessYields$Recipes" "outputs" "LProcessYields$Parts;", Cond.methodLink RX6 124 yX0_plan, Cond.instanceMethod yX0_plan, Cond.selects RX0 yX0_plan yX0_plan, Cond.code yX0_plan cX0_plan 5 none, Cond.fieldLink RX0 28 "ProcessYields$Batch" "size" "I", Cond.fieldLink RX0 32 "ProcessYields$Parts" "sizes" "[I", Cond.methodLink RX0 37 yX3_goodAt, Cond.methodLink RX0 41 yX3_roundedDown, Cond.instanceMethod yX3_roundedDown]
def wsL_law0_r14 : List Cond := [Cond.selects RX3 yX3_roundedDown yX3_roundedDown, Cond.code yX3_roundedDown cX3_roundedDown 5 (some .long), Cond.methodLink RX6 128 yX6_suffices, Cond.instanceMethod yX6_suffices, Cond.selects RX6 yX6_suffices yX6_suffices, Cond.code yX6_suffices cX6_suffices 5 (some .boolean), Cond.methodLink RX6 240 yX3_goodAt, Cond.methodLink RX6 155 yX2_stockOf, Cond.instanceMethod yX2_stockOf, Cond.selects RX2 yX2_stockOf yX2_stockOf, Cond.code yX2_stockOf cX2_stockOf 5 (some .long), Cond.methodLink RX6 244 yX3_roundedUp, Cond.instanceMethod yX3_roundedUp, Cond.selects RX3 yX3_roundedUp yX3_roundedUp, Cond.code yX3_roundedUp cX3_roundedUp 5 (some .long), Cond.static yX6_ceilOf, Cond.code yX6_ceilOf cX6_ceilOf 4 (some .long), Cond.methodLink RX6 252 yX6_floorOf, Cond.methodLink RX6 132 yX0_lotsToAdd, Cond.instanceMethod yX0_lotsToAdd, Cond.selects RX0 yX0_lotsToAdd yX0_lotsToAdd, Cond.code yX0_lotsToAdd cX0_lotsToAdd 3 (some .int), Cond.methodLink RX6 135 yX0_weigh, Cond.instanceMethod yX0_weigh]
def wsL_law0_r15 : List Cond := [Cond.selects RX0 yX0_weigh yX0_weigh, Cond.code yX0_weigh cX0_weigh 4 none, Cond.methodLink RX6 139 yX6_takeNeeds, Cond.instanceMethod yX6_takeNeeds, Cond.selects RX6 yX6_takeNeeds yX6_takeNeeds, Cond.code yX6_takeNeeds cX6_takeNeeds 7 (some .long), Cond.methodLink RX6 161 yX2_take, Cond.instanceMethod yX2_take, Cond.selects RX2 yX2_take yX2_take, Cond.code yX2_take cX2_take 14 (some .long), Cond.fieldLink RX2 29 "ProcessYields$Lots" "takenInterest" "J", Cond.methodLink RX2 33 Lib.MathLoose.min_long.x, Cond.constantLong RX2 47 (100), Cond.methodLink RX2 39 yX2_takeFrom, Cond.methodLink RX2 43 yX2_months, Cond.instanceMethod yX2_months, Cond.selects RX2 yX2_months yX2_months, Cond.code yX2_months cX2_months 3 (some .long), Cond.constantLong RX2 52 (30), Cond.methodLink RX6 143 yX0_apportion, Cond.instanceMethod yX0_apportion, Cond.selects RX0 yX0_apportion yX0_apportion, Cond.code yX0_apportion cX0_apportion 8 none, Cond.methodLink RX0 49 yX0_spread]
def wsL_law0_r16 : List Cond := [Cond.instanceMethod yX0_spread, Cond.selects RX0 yX0_spread yX0_spread, Cond.code yX0_spread cX0_spread 5 none, Cond.constantLong RX0 57 (-1), Cond.methodLink RX0 53 yX0_greatestRemainder, Cond.instanceMethod yX0_greatestRemainder, Cond.selects RX0 yX0_greatestRemainder yX0_greatestRemainder, Cond.code yX0_greatestRemainder cX0_greatestRemainder 3 (some .int), Cond.methodLink RX6 147 yX0_store, Cond.instanceMethod yX0_store, Cond.selects RX0 yX0_store yX0_store, Cond.code yX0_store cX0_store 4 none, Cond.methodLink RX0 59 yX2_add, Cond.methodLink RL 89 yX7_made, Cond.instanceMethod yX7_made, Cond.selects RX7 yX7_made yX7_made, Cond.code yX7_made cX7_made 11 (some .int), Cond.fieldLink RX7 110 "ProcessYieldsModel" "takenDebt" "J", Cond.methodLink RX7 144 yX7_amountOf, Cond.instanceMethod yX7_amountOf, Cond.selects RX7 yX7_amountOf yX7_amountOf, Cond.code yX7_amountOf cX7_amountOf 5 (some .long), Cond.methodLink RX7 148 yX7_stock, Cond.instanceMethod yX7_stock]
def wsL_law0_r17 : List Cond := [Cond.selects RX7 yX7_stock yX7_stock, Cond.code yX7_stock cX7_stock 5 (some .long), Cond.methodLink RX7 123 yX7_up, Cond.static yX7_up, Cond.code yX7_up cX7_up 4 (some .long), Cond.methodLink RX7 152 yX7_take, Cond.instanceMethod yX7_take, Cond.selects RX7 yX7_take yX7_take, Cond.code yX7_take cX7_take 11 none, Cond.fieldLink RX7 114 "ProcessYieldsModel" "takenInterest" "J", Cond.constantLong RX7 121 (30), Cond.constantLong RX7 127 (100), Cond.methodLink RX7 156 yX7_goodOf, Cond.instanceMethod yX7_goodOf, Cond.selects RX7 yX7_goodOf yX7_goodOf, Cond.code yX7_goodOf cX7_goodOf 3 (some .int), Cond.methodLink RX7 160 yX7_share, Cond.instanceMethod yX7_share, Cond.selects RX7 yX7_share yX7_share, Cond.code yX7_share cX7_share 13 (some .long), Cond.methodLink RL 90 yL_export, Cond.static yL_export, Cond.codeWith yL_export cL_export 5 (some .int) [(0, 9, 12, 13)], Cond.methodLink RL 28 yX6_export]
def wsL_law0_r18 : List Cond := [Cond.instanceMethod yX6_export, Cond.selects RX6 yX6_export yX6_export, Cond.code yX6_export cX6_export 5 (some .long), Cond.constantLong RX6 159 (-1), Cond.methodLink RX6 151 yX6_checkTaking, Cond.static yX6_checkTaking, Cond.code yX6_checkTaking cX6_checkTaking 2 none, Cond.methodLink RL 93 yX7_export, Cond.instanceMethod yX7_export, Cond.selects RX7 yX7_export yX7_export, Cond.code yX7_export cX7_export 3 (some .long), Cond.constantLong RX7 163 (-1), Cond.methodLink RL 94 yL_release, Cond.static yL_release, Cond.codeWith yL_release cL_release 5 (some .int) [(0, 9, 12, 13)], Cond.methodLink RL 32 yX6_release, Cond.instanceMethod yX6_release, Cond.selects RX6 yX6_release yX6_release, Cond.code yX6_release cX6_release 5 (some .long), Cond.fieldLink RX6 165 "ProcessYields" "owed" "J", Cond.fieldLink RX6 168 "ProcessYields" "interest" "J", Cond.fieldLink RX6 171 "ProcessYields$Lots" "takenInterest" "J", Cond.methodLink RL 96 yX7_release, Cond.instanceMethod yX7_release]
def wsL_law0_r19 : List Cond := [Cond.selects RX7 yX7_release yX7_release, Cond.code yX7_release cX7_release 3 (some .long), Cond.fieldLink RX7 165 "ProcessYieldsModel" "owed" "J", Cond.fieldLink RX7 168 "ProcessYieldsModel" "interest" "J", Cond.methodLink RL 97 yL_prior, Cond.static yL_prior, Cond.codeWith yL_prior cL_prior 6 (some .int) [(0, 12, 15, 13), (0, 12, 19, 22)], Cond.methodLink RL 35 yX6_prior, Cond.instanceMethod yX6_prior, Cond.selects RX6 yX6_prior yX6_prior, Cond.code yX6_prior cX6_prior 4 (some .int), Cond.constant RX6 174 (100000), Cond.fieldLink RX6 177 "ProcessYields$Priors" "size" "I", Cond.methodLink RX6 180 yX4_add, Cond.instanceMethod yX4_add, Cond.selects RX4 yX4_add yX4_add, Cond.code yX4_add cX4_add 4 none, Cond.methodLink RL 99 yX7_prior, Cond.instanceMethod yX7_prior, Cond.selects RX7 yX7_prior yX7_prior, Cond.code yX7_prior cX7_prior 4 (some .int), Cond.constantLong RX7 171 (100000), Cond.methodLink RL 100 yX6_day, Cond.instanceMethod yX6_day]
def wsL_law0_r20 : List Cond := [Cond.selects RX6 yX6_day yX6_day, Cond.code yX6_day cX6_day 2 (some .boolean), Cond.methodLink RL 103 yX7_day, Cond.instanceMethod yX7_day, Cond.selects RX7 yX7_day yX7_day, Cond.code yX7_day cX7_day 2 (some .boolean), Cond.constant RX7 173 (100000), Cond.methodLink RL 104 yL_chain, Cond.static yL_chain, Cond.codeWith yL_chain cL_chain 6 (some .int) [(0, 11, 14, 13)], Cond.methodLink RL 38 yX6_chain, Cond.instanceMethod yX6_chain, Cond.selects RX6 yX6_chain yX6_chain, Cond.code yX6_chain cX6_chain 4 (some .long), Cond.fieldLink RX6 189 "ProcessYields$Chain" "above" "[J", Cond.fieldLink RX6 193 "ProcessYields$Chain" "below" "[J", Cond.methodLink RX6 185 yX1_trace, Cond.instanceMethod yX1_trace, Cond.selects RX1 yX1_trace yX1_trace, Cond.code yX1_trace cX1_trace 5 none, Cond.fieldLink RX1 18 "ProcessYields$Recipes" "depths" "[I", Cond.fieldLink RX1 24 "ProcessYields$Recipes" "inputs" "LProcessYields$Parts;", Cond.methodLink RX1 28 yX1_gather, Cond.instanceMethod yX1_gather]
def wsL_law0_r21 : List Cond := [Cond.selects RX1 yX1_gather yX1_gather, Cond.code yX1_gather cX1_gather 6 none, Cond.fieldLink RX1 32 "ProcessYields$Parts" "sizes" "[I", Cond.fieldLink RX1 41 "ProcessYields$Parts" "goods" "[I", Cond.fieldLink RX1 44 "ProcessYields$Parts" "ups" "[I", Cond.fieldLink RX1 47 "ProcessYields$Parts" "downs" "[I", Cond.methodLink RX1 37 yX3_place, Cond.methodLink RX1 50 yX1_addFraction, Cond.instanceMethod yX1_addFraction, Cond.selects RX1 yX1_addFraction yX1_addFraction, Cond.code yX1_addFraction cX1_addFraction 18 none, Cond.static yX6_greatestDivisor, Cond.code yX6_greatestDivisor cX6_greatestDivisor 11 (some .long), Cond.methodLink RL 106 yX7_chain, Cond.instanceMethod yX7_chain, Cond.selects RX7 yX7_chain yX7_chain, Cond.code yX7_chain cX7_chain 7 (some .long), Cond.constantLong RX7 174 (21300003648000), Cond.methodLink RX7 176 yX7_common, Cond.static yX7_common, Cond.code yX7_common cX7_common 10 (some .long), Cond.methodLink RL 107 yL_look, Cond.static yL_look, Cond.codeWith yL_look cL_look 5 (some .int) [(0, 9, 12, 45)]]
def wsL_law0_r22 : List Cond := [Cond.classLink RL 45 "java/lang/IndexOutOfBoundsException", Cond.methodLink RL 42 yX6_look, Cond.instanceMethod yX6_look, Cond.selects RX6 yX6_look yX6_look, Cond.code yX6_look cX6_look 3 (some .long), Cond.classLink RX6 196 "java/lang/IndexOutOfBoundsException", Cond.initialized "java/lang/IndexOutOfBoundsException", Cond.fieldLink RX6 208 "ProcessYields$Recipes" "depths" "[I", Cond.methodLink RX6 201 yX2_debtOf, Cond.instanceMethod yX2_debtOf, Cond.selects RX2 yX2_debtOf yX2_debtOf, Cond.code yX2_debtOf cX2_debtOf 5 (some .long), Cond.methodLink RX6 204 yX2_openOf, Cond.instanceMethod yX2_openOf, Cond.selects RX2 yX2_openOf yX2_openOf, Cond.code yX2_openOf cX2_openOf 4 (some .int), Cond.methodLink RX6 211 yX4_openOf, Cond.instanceMethod yX4_openOf, Cond.selects RX4 yX4_openOf yX4_openOf, Cond.code yX4_openOf cX4_openOf 6 (some .long), Cond.methodLink RL 109 yX7_look, Cond.instanceMethod yX7_look, Cond.selects RX7 yX7_look yX7_look, Cond.code yX7_look cX7_look 7 (some .long)]
def wsL_law0_r23 : List Cond := [Cond.constantLong RX7 179 (7), Cond.methodLink RX7 181 yX7_debtOn, Cond.instanceMethod yX7_debtOn, Cond.selects RX7 yX7_debtOn yX7_debtOn, Cond.code yX7_debtOn cX7_debtOn 5 (some .long), Cond.methodLink RL 110 yL_lot, Cond.static yL_lot, Cond.codeWith yL_lot cL_lot 5 (some .int) [(0, 9, 12, 45)], Cond.methodLink RL 47 yX6_lot, Cond.instanceMethod yX6_lot, Cond.selects RX6 yX6_lot yX6_lot, Cond.code yX6_lot cX6_lot 3 (some .long), Cond.fieldLink RX6 213 "ProcessYields$Lots" "size" "I", Cond.fieldLink RX6 216 "ProcessYields$Lots" "goods" "[I", Cond.fieldLink RX6 219 "ProcessYields$Lots" "lefts" "[J", Cond.fieldLink RX6 222 "ProcessYields$Lots" "debts" "[J", Cond.fieldLink RX6 225 "ProcessYields$Lots" "days" "[I", Cond.methodLink RL 112 yX7_lot, Cond.instanceMethod yX7_lot, Cond.selects RX7 yX7_lot yX7_lot, Cond.code yX7_lot cX7_lot 3 (some .long), Cond.methodLink RL 113 yX6_sum, Cond.instanceMethod yX6_sum, Cond.selects RX6 yX6_sum yX6_sum]
def wsL_law0_r24 : List Cond := [Cond.code yX6_sum cX6_sum 2 (some .long), Cond.methodLink RX6 228 yX2_wholeDebt, Cond.instanceMethod yX2_wholeDebt, Cond.selects RX2 yX2_wholeDebt yX2_wholeDebt, Cond.code yX2_wholeDebt cX2_wholeDebt 4 (some .long), Cond.methodLink RL 117 yX7_sum, Cond.instanceMethod yX7_sum, Cond.selects RX7 yX7_sum yX7_sum, Cond.code yX7_sum cX7_sum 5 (some .long), Cond.methodLink RL 118 yL_quotient, Cond.static yL_quotient, Cond.codeWith yL_quotient cL_quotient 5 (some .int) [(0, 9, 12, 13), (0, 9, 16, 53)], Cond.classLink RL 53 "java/lang/ArithmeticException", Cond.methodLink RL 50 yX6_quotient, Cond.instanceMethod yX6_quotient, Cond.selects RX6 yX6_quotient yX6_quotient, Cond.code yX6_quotient cX6_quotient 3 (some .long), Cond.classLink RX6 235 "java/lang/ArithmeticException", Cond.initialized "java/lang/ArithmeticException", Cond.constant RX6 232 (1000000000), Cond.methodLink RL 120 yX7_quotient, Cond.instanceMethod yX7_quotient, Cond.selects RX7 yX7_quotient yX7_quotient, Cond.code yX7_quotient cX7_quotient 3 (some .long)]
def wsL_law0_r25 : List Cond := [Cond.constantLong RX7 184 (1000000000), Cond.methodLink RL 121 yX6_count, Cond.instanceMethod yX6_count, Cond.selects RX6 yX6_count yX6_count, Cond.code yX6_count cX6_count 2 (some .int), Cond.methodLink RL 125 yX7_count, Cond.instanceMethod yX7_count, Cond.selects RX7 yX7_count yX7_count, Cond.code yX7_count cX7_count 2 (some .int)]
def wsL_law0 : List Cond := (wsL_law0_r1 ++ (wsL_law0_r2 ++ (wsL_law0_r3 ++ (wsL_law0_r4 ++ (wsL_law0_r5 ++ (wsL_law0_r6 ++ (wsL_law0_r7 ++ (wsL_law0_r8 ++ (wsL_law0_r9 ++ (wsL_law0_r10 ++ (wsL_law0_r11 ++ (wsL_law0_r12 ++ (wsL_law0_r13 ++ (wsL_law0_r14 ++ (wsL_law0_r15 ++ (wsL_law0_r16 ++ (wsL_law0_r17 ++ (wsL_law0_r18 ++ (wsL_law0_r19 ++ (wsL_law0_r20 ++ (wsL_law0_r21 ++ (wsL_law0_r22 ++ (wsL_law0_r23 ++ (wsL_law0_r24 ++ wsL_law0_r25)))))))))))))))))))))))) ++ wsX60 ++ wsX70 ++ wsX50 ++ wsX20 ++ wsX40 ++ wsX00 ++ wsX10 ++ wsX30 ++ ([] : List Cond)
def wsL_law : List Cond := wsL_law0 ++ (vx_atS RX6 80 "java/lang/IllegalArgumentException" ["java/lang/RuntimeException", "java/lang/Exception"]).filter goodWord ++ (vx_atS RX6 91 "java/lang/IllegalStateException" ["java/lang/RuntimeException", "java/lang/Exception"]).filter goodWord ++ (vx_atS RX6 200 "java/lang/IndexOutOfBoundsException" ["java/lang/RuntimeException", "java/lang/Exception"]).filter goodWord ++ (vx_atS RX6 239 "java/lang/ArithmeticException" ["java/lang/RuntimeException", "java/lang/Exception"]).filter goodWord
abbrev vwCl : List vw_C := [(RX0, TX0, 6), (RX1, TX1, 2), (RX2, TX2, 6), (RX3, TX3, 5), (RX4, TX4, 4), (RX5, TX5, 5), (RX6, TX6, 11), (RX7, TX7, 30)]
end
section
theorem dX0_init_0 : decode cX0_init 0 = .ok (.aload_n 0, 1) := by decide +kernel
theorem dX0_init_1 : decode cX0_init 1 = .ok (.invokespecial 3, 3) := by decide +kernel
theorem dX0_init_4 : decode cX0_init 4 = .ok (.aload_n 0, 1) := by decide +kernel
theorem dX0_init_5 : decode cX0_init 5 = .ok (.iconst 3, 1) := by decide +kernel
theorem dX0_init_6 : decode cX0_init 6 = .ok (.newarray .int, 2) := by decide +kernel
theorem dX0_init_8 : decode cX0_init 8 = .ok (.putfield 9, 3) := by decide +kernel
theorem dX0_init_11 : decode cX0_init 11 = .ok (.aload_n 0, 1) := by decide +kernel
theorem dX0_init_12 : decode cX0_init 12 = .ok (.iconst 3, 1) := by decide +kernel
theorem dX0_init_13 : decode cX0_init 13 = .ok (.newarray .long, 2) := by decide +kernel
theorem dX0_init_15 : decode cX0_init 15 = .ok (.putfield 15, 3) := by decide +kernel
theorem dX0_init_18 : decode cX0_init 18 = .ok (.aload_n 0, 1) := by decide +kernel
theorem dX0_init_19 : decode cX0_init 19 = .ok (.iconst 3, 1) := by decide +kernel
theorem dX0_init_20 : decode cX0_init 20 = .ok (.newarray .long, 2) := by decide +kernel
theorem dX0_init_22 : decode cX0_init 22 = .ok (.putfield 19, 3) := by decide +kernel
theorem dX0_init_25 : decode cX0_init 25 = .ok (.aload_n 0, 1) := by decide +kernel
theorem dX0_init_26 : decode cX0_init 26 = .ok (.iconst 3, 1) := by decide +kernel
theorem dX0_init_27 : decode cX0_init 27 = .ok (.newarray .long, 2) := by decide +kernel
theorem dX0_init_29 : decode cX0_init 29 = .ok (.putfield 22, 3) := by decide +kernel
theorem dX0_init_32 : decode cX0_init 32 = .ok (.aload_n 0, 1) := by decide +kernel
theorem dX0_init_33 : decode cX0_init 33 = .ok (.iconst 3, 1) := by decide +kernel
theorem dX0_init_34 : decode cX0_init 34 = .ok (.newarray .long, 2) := by decide +kernel
theorem dX0_init_36 : decode cX0_init 36 = .ok (.putfield 25, 3) := by decide +kernel
theorem dX0_init_39 : decode cX0_init 39 = .ok (.return_, 1) := by decide +kernel
set_option maxRecDepth 20000 in
theorem ggX0_plan_X3_goodAt : GoodIn wsX0_plan wsX3_goodAt := goodIn_r _ [9, 10, 11, 12, 8, 13, 29, 30, 31, 32, 33] (by decide +kernel) (by decide +kernel)
set_option maxRecDepth 20000 in
theorem gX0_plan_X3_goodAt : GoodIn wsX0_plan (wsV RX0 37 RX3 yX3_goodAt wsX3_goodAt) := goodIn_app (goodIn_of _ (by decide +kernel)) ggX0_plan_X3_goodAt
set_option maxRecDepth 20000 in
theorem ggX0_plan_X3_roundedDown : GoodIn wsX0_plan wsX3_roundedDown := goodIn_r _ [17, 18, 19, 11, 12, 8, 13, 20, 21, 22, 29, 30, 31, 32, 33] (by decide +kernel) (by decide +kernel)
set_option maxRecDepth 20000 in
theorem gX0_plan_X3_roundedDown : GoodIn wsX0_plan (wsV RX0 41 RX3 yX3_roundedDown wsX3_roundedDown) := goodIn_app (goodIn_of _ (by decide +kernel)) ggX0_plan_X3_roundedDown
theorem dX0_plan_0 : decode cX0_plan 0 = .ok (.aload_n 0, 1) := by decide +kernel
theorem dX0_plan_1 : decode cX0_plan 1 = .ok (.getfield 9, 3) := by decide +kernel
theorem dX0_plan_4 : decode cX0_plan 4 = .ok (.iconst 0, 1) := by decide +kernel
theorem dX0_plan_5 : decode cX0_plan 5 = .ok (.iload_n 2, 1) := by decide +kernel
theorem dX0_plan_6 : decode cX0_plan 6 = .ok (.iastore, 1) := by decide +kernel
theorem dX0_plan_7 : decode cX0_plan 7 = .ok (.aload_n 0, 1) := by decide +kernel
theorem dX0_plan_8 : decode cX0_plan 8 = .ok (.getfield 15, 3) := by decide +kernel
theorem dX0_plan_11 : decode cX0_plan 11 = .ok (.iconst 0, 1) := by decide +kernel
theorem dX0_plan_12 : decode cX0_plan 12 = .ok (.iload_n 3, 1) := by decide +kernel
theorem dX0_plan_13 : decode cX0_plan 13 = .ok (.i2l, 1) := by decide +kernel
theorem dX0_plan_14 : decode cX0_plan 14 = .ok (.lastore, 1) := by decide +kernel
theorem dX0_plan_15 : decode cX0_plan 15 = .ok (.aload_n 0, 1) := by decide +kernel
theorem dX0_plan_16 : decode cX0_plan 16 = .ok (.iconst 1, 1) := by decide +kernel
theorem dX0_plan_17 : decode cX0_plan 17 = .ok (.putfield 28, 3) := by decide +kernel
theorem dX0_plan_20 : decode cX0_plan 20 = .ok (.iconst 0, 1) := by decide +kernel
theorem dX0_plan_21 : decode cX0_plan 21 = .ok (.istore 4, 2) := by decide +kernel
theorem dX0_plan_23 : decode cX0_plan 23 = .ok (.iload 4, 2) := by decide +kernel
theorem dX0_plan_25 : decode cX0_plan 25 = .ok (.aload_n 1, 1) := by decide +kernel
theorem dX0_plan_26 : decode cX0_plan 26 = .ok (.getfield 32, 3) := by decide +kernel
theorem dX0_plan_29 : decode cX0_plan 29 = .ok (.iload_n 2, 1) := by decide +kernel
theorem dX0_plan_30 : decode cX0_plan 30 = .ok (.iaload, 1) := by decide +kernel
theorem dX0_plan_31 : decode cX0_plan 31 = .ok (.if_icmp .ge 60, 3) := by decide +kernel
theorem dX0_plan_34 : decode cX0_plan 34 = .ok (.aload_n 0, 1) := by decide +kernel
theorem dX0_plan_35 : decode cX0_plan 35 = .ok (.getfield 28, 3) := by decide +kernel
theorem dX0_plan_38 : decode cX0_plan 38 = .ok (.iconst 2, 1) := by decide +kernel
theorem dX0_plan_39 : decode cX0_plan 39 = .ok (.if_icmp .gt 52, 3) := by decide +kernel
theorem dX0_plan_42 : decode cX0_plan 42 = .ok (.aload_n 0, 1) := by decide +kernel
theorem dX0_plan_43 : decode cX0_plan 43 = .ok (.getfield 9, 3) := by decide +kernel
theorem dX0_plan_46 : decode cX0_plan 46 = .ok (.aload_n 0, 1) := by decide +kernel
theorem dX0_plan_47 : decode cX0_plan 47 = .ok (.getfield 28, 3) := by decide +kernel
theorem dX0_plan_50 : decode cX0_plan 50 = .ok (.aload_n 1, 1) := by decide +kernel
theorem dX0_plan_51 : decode cX0_plan 51 = .ok (.iload_n 2, 1) := by decide +kernel
theorem dX0_plan_52 : decode cX0_plan 52 = .ok (.iload 4, 2) := by decide +kernel
theorem dX0_plan_54 : decode cX0_plan 54 = .ok (.invokevirtual 37, 3) := by decide +kernel
theorem dX0_plan_57 : decode cX0_plan 57 = .ok (.iastore, 1) := by decide +kernel
theorem dX0_plan_58 : decode cX0_plan 58 = .ok (.aload_n 0, 1) := by decide +kernel
theorem dX0_plan_59 : decode cX0_plan 59 = .ok (.getfield 15, 3) := by decide +kernel
theorem dX0_plan_62 : decode cX0_plan 62 = .ok (.aload_n 0, 1) := by decide +kernel
theorem dX0_plan_63 : decode cX0_plan 63 = .ok (.getfield 28, 3) := by decide +kernel
theorem dX0_plan_66 : decode cX0_plan 66 = .ok (.aload_n 1, 1) := by decide +kernel
theorem dX0_plan_67 : decode cX0_plan 67 = .ok (.iload_n 2, 1) := by decide +kernel
theorem dX0_plan_68 : decode cX0_plan 68 = .ok (.iload 4, 2) := by decide +kernel
theorem dX0_plan_70 : decode cX0_plan 70 = .ok (.iload_n 3, 1) := by decide +kernel
theorem dX0_plan_71 : decode cX0_plan 71 = .ok (.invokevirtual 41, 3) := by decide +kernel
theorem dX0_plan_74 : decode cX0_plan 74 = .ok (.lastore, 1) := by decide +kernel
theorem dX0_plan_75 : decode cX0_plan 75 = .ok (.aload_n 0, 1) := by decide +kernel
theorem dX0_plan_76 : decode cX0_plan 76 = .ok (.dup, 1) := by decide +kernel
theorem dX0_plan_77 : decode cX0_plan 77 = .ok (.getfield 28, 3) := by decide +kernel
theorem dX0_plan_80 : decode cX0_plan 80 = .ok (.iconst 1, 1) := by decide +kernel
theorem dX0_plan_81 : decode cX0_plan 81 = .ok (.iadd, 1) := by decide +kernel
theorem dX0_plan_82 : decode cX0_plan 82 = .ok (.putfield 28, 3) := by decide +kernel
theorem dX0_plan_85 : decode cX0_plan 85 = .ok (.iinc 4 1, 3) := by decide +kernel
theorem dX0_plan_88 : decode cX0_plan 88 = .ok (.goto (-65), 3) := by decide +kernel
theorem dX0_plan_91 : decode cX0_plan 91 = .ok (.return_, 1) := by decide +kernel
theorem dX0_lotsToAdd_0 : decode cX0_lotsToAdd 0 = .ok (.iconst 0, 1) := by decide +kernel
theorem dX0_lotsToAdd_1 : decode cX0_lotsToAdd 1 = .ok (.istore_n 1, 1) := by decide +kernel
theorem dX0_lotsToAdd_2 : decode cX0_lotsToAdd 2 = .ok (.iconst 0, 1) := by decide +kernel
theorem dX0_lotsToAdd_3 : decode cX0_lotsToAdd 3 = .ok (.istore_n 2, 1) := by decide +kernel
theorem dX0_lotsToAdd_4 : decode cX0_lotsToAdd 4 = .ok (.iload_n 2, 1) := by decide +kernel
theorem dX0_lotsToAdd_5 : decode cX0_lotsToAdd 5 = .ok (.aload_n 0, 1) := by decide +kernel
theorem dX0_lotsToAdd_6 : decode cX0_lotsToAdd 6 = .ok (.getfield 28, 3) := by decide +kernel
theorem dX0_lotsToAdd_9 : decode cX0_lotsToAdd 9 = .ok (.if_icmp .ge 28, 3) := by decide +kernel
theorem dX0_lotsToAdd_12 : decode cX0_lotsToAdd 12 = .ok (.iload_n 1, 1) := by decide +kernel
theorem dX0_lotsToAdd_13 : decode cX0_lotsToAdd 13 = .ok (.aload_n 0, 1) := by decide +kernel
theorem dX0_lotsToAdd_14 : decode cX0_lotsToAdd 14 = .ok (.getfield 15, 3) := by decide +kernel
theorem dX0_lotsToAdd_17 : decode cX0_lotsToAdd 17 = .ok (.iload_n 2, 1) := by decide +kernel
theorem dX0_lotsToAdd_18 : decode cX0_lotsToAdd 18 = .ok (.laload, 1) := by decide +kernel
theorem dX0_lotsToAdd_19 : decode cX0_lotsToAdd 19 = .ok (.lconst 0, 1) := by decide +kernel
theorem dX0_lotsToAdd_20 : decode cX0_lotsToAdd 20 = .ok (.lcmp, 1) := by decide +kernel
theorem dX0_lotsToAdd_21 : decode cX0_lotsToAdd 21 = .ok (.ifCond .le 7, 3) := by decide +kernel
theorem dX0_lotsToAdd_24 : decode cX0_lotsToAdd 24 = .ok (.iconst 1, 1) := by decide +kernel
theorem dX0_lotsToAdd_25 : decode cX0_lotsToAdd 25 = .ok (.goto 4, 3) := by decide +kernel
theorem dX0_lotsToAdd_28 : decode cX0_lotsToAdd 28 = .ok (.iconst 0, 1) := by decide +kernel
theorem dX0_lotsToAdd_29 : decode cX0_lotsToAdd 29 = .ok (.iadd, 1) := by decide +kernel
theorem dX0_lotsToAdd_30 : decode cX0_lotsToAdd 30 = .ok (.istore_n 1, 1) := by decide +kernel
theorem dX0_lotsToAdd_31 : decode cX0_lotsToAdd 31 = .ok (.iinc 2 1, 3) := by decide +kernel
theorem dX0_lotsToAdd_34 : decode cX0_lotsToAdd 34 = .ok (.goto (-30), 3) := by decide +kernel
theorem dX0_lotsToAdd_37 : decode cX0_lotsToAdd 37 = .ok (.iload_n 1, 1) := by decide +kernel
theorem dX0_lotsToAdd_38 : decode cX0_lotsToAdd 38 = .ok (.ireturn, 1) := by decide +kernel
theorem dX0_weigh_0 : decode cX0_weigh 0 = .ok (.iconst 0, 1) := by decide +kernel
theorem dX0_weigh_1 : decode cX0_weigh 1 = .ok (.istore_n 3, 1) := by decide +kernel
theorem dX0_weigh_2 : decode cX0_weigh 2 = .ok (.iload_n 3, 1) := by decide +kernel
theorem dX0_weigh_3 : decode cX0_weigh 3 = .ok (.aload_n 0, 1) := by decide +kernel
theorem dX0_weigh_4 : decode cX0_weigh 4 = .ok (.getfield 28, 3) := by decide +kernel
theorem dX0_weigh_7 : decode cX0_weigh 7 = .ok (.if_icmp .ge 44, 3) := by decide +kernel
theorem dX0_weigh_10 : decode cX0_weigh 10 = .ok (.aload_n 0, 1) := by decide +kernel
theorem dX0_weigh_11 : decode cX0_weigh 11 = .ok (.getfield 19, 3) := by decide +kernel
theorem dX0_weigh_14 : decode cX0_weigh 14 = .ok (.iload_n 3, 1) := by decide +kernel
theorem dX0_weigh_15 : decode cX0_weigh 15 = .ok (.iload_n 2, 1) := by decide +kernel
theorem dX0_weigh_16 : decode cX0_weigh 16 = .ok (.ifCond .eq 22, 3) := by decide +kernel
theorem dX0_weigh_19 : decode cX0_weigh 19 = .ok (.aload_n 0, 1) := by decide +kernel
theorem dX0_weigh_20 : decode cX0_weigh 20 = .ok (.getfield 15, 3) := by decide +kernel
theorem dX0_weigh_23 : decode cX0_weigh 23 = .ok (.iload_n 3, 1) := by decide +kernel
theorem dX0_weigh_24 : decode cX0_weigh 24 = .ok (.laload, 1) := by decide +kernel
theorem dX0_weigh_25 : decode cX0_weigh 25 = .ok (.aload_n 1, 1) := by decide +kernel
theorem dX0_weigh_26 : decode cX0_weigh 26 = .ok (.aload_n 0, 1) := by decide +kernel
theorem dX0_weigh_27 : decode cX0_weigh 27 = .ok (.getfield 9, 3) := by decide +kernel
theorem dX0_weigh_30 : decode cX0_weigh 30 = .ok (.iload_n 3, 1) := by decide +kernel
theorem dX0_weigh_31 : decode cX0_weigh 31 = .ok (.iaload, 1) := by decide +kernel
theorem dX0_weigh_32 : decode cX0_weigh 32 = .ok (.iaload, 1) := by decide +kernel
theorem dX0_weigh_33 : decode cX0_weigh 33 = .ok (.i2l, 1) := by decide +kernel
theorem dX0_weigh_34 : decode cX0_weigh 34 = .ok (.lmul, 1) := by decide +kernel
theorem dX0_weigh_35 : decode cX0_weigh 35 = .ok (.goto 9, 3) := by decide +kernel
theorem dX0_weigh_38 : decode cX0_weigh 38 = .ok (.aload_n 0, 1) := by decide +kernel
theorem dX0_weigh_39 : decode cX0_weigh 39 = .ok (.getfield 15, 3) := by decide +kernel
theorem dX0_weigh_42 : decode cX0_weigh 42 = .ok (.iload_n 3, 1) := by decide +kernel
theorem dX0_weigh_43 : decode cX0_weigh 43 = .ok (.laload, 1) := by decide +kernel
theorem dX0_weigh_44 : decode cX0_weigh 44 = .ok (.lastore, 1) := by decide +kernel
theorem dX0_weigh_45 : decode cX0_weigh 45 = .ok (.iinc 3 1, 3) := by decide +kernel
theorem dX0_weigh_48 : decode cX0_weigh 48 = .ok (.goto (-46), 3) := by decide +kernel
theorem dX0_weigh_51 : decode cX0_weigh 51 = .ok (.return_, 1) := by decide +kernel
set_option maxRecDepth 20000 in
theorem ggX0_apportion_X6_floorOf : GoodIn wsX0_apportion wsX6_floorOf := goodIn_r _ [7] (by decide +kernel) (by decide +kernel)
set_option maxRecDepth 20000 in
theorem gX0_apportion_X6_floorOf_n45 : GoodIn wsX0_apportion (wsX6_floorOf) := ggX0_apportion_X6_floorOf
set_option maxRecDepth 20000 in
theorem ggX0_apportion_X0_spread : GoodIn wsX0_apportion wsX0_spread := goodIn_r _ [12, 1, 3, 4, 13, 14, 15, 16, 11, 17, 18, 19, 20, 21, 22, 23] (by decide +kernel) (by decide +kernel)
set_option maxRecDepth 20000 in
theorem gX0_apportion_X0_spread : GoodIn wsX0_apportion (wsV RX0 49 RX0 yX0_spread wsX0_spread) := goodIn_app (goodIn_of _ (by decide +kernel)) ggX0_apportion_X0_spread
theorem dX0_apportion_0 : decode cX0_apportion 0 = .ok (.lconst 0, 1) := by decide +kernel
theorem dX0_apportion_1 : decode cX0_apportion 1 = .ok (.lstore_n 3, 1) := by decide +kernel
theorem dX0_apportion_2 : decode cX0_apportion 2 = .ok (.iconst 0, 1) := by decide +kernel
theorem dX0_apportion_3 : decode cX0_apportion 3 = .ok (.istore 5, 2) := by decide +kernel
theorem dX0_apportion_5 : decode cX0_apportion 5 = .ok (.iload 5, 2) := by decide +kernel
theorem dX0_apportion_7 : decode cX0_apportion 7 = .ok (.aload_n 0, 1) := by decide +kernel
theorem dX0_apportion_8 : decode cX0_apportion 8 = .ok (.getfield 28, 3) := by decide +kernel
theorem dX0_apportion_11 : decode cX0_apportion 11 = .ok (.if_icmp .ge 19, 3) := by decide +kernel
theorem dX0_apportion_14 : decode cX0_apportion 14 = .ok (.lload_n 3, 1) := by decide +kernel
theorem dX0_apportion_15 : decode cX0_apportion 15 = .ok (.aload_n 0, 1) := by decide +kernel
theorem dX0_apportion_16 : decode cX0_apportion 16 = .ok (.getfield 19, 3) := by decide +kernel
theorem dX0_apportion_19 : decode cX0_apportion 19 = .ok (.iload 5, 2) := by decide +kernel
theorem dX0_apportion_21 : decode cX0_apportion 21 = .ok (.laload, 1) := by decide +kernel
theorem dX0_apportion_22 : decode cX0_apportion 22 = .ok (.ladd, 1) := by decide +kernel
theorem dX0_apportion_23 : decode cX0_apportion 23 = .ok (.lstore_n 3, 1) := by decide +kernel
theorem dX0_apportion_24 : decode cX0_apportion 24 = .ok (.iinc 5 1, 3) := by decide +kernel
theorem dX0_apportion_27 : decode cX0_apportion 27 = .ok (.goto (-22), 3) := by decide +kernel
theorem dX0_apportion_30 : decode cX0_apportion 30 = .ok (.lload_n 1, 1) := by decide +kernel
theorem dX0_apportion_31 : decode cX0_apportion 31 = .ok (.lstore 5, 2) := by decide +kernel
theorem dX0_apportion_33 : decode cX0_apportion 33 = .ok (.iconst 0, 1) := by decide +kernel
theorem dX0_apportion_34 : decode cX0_apportion 34 = .ok (.istore 7, 2) := by decide +kernel
theorem dX0_apportion_36 : decode cX0_apportion 36 = .ok (.iload 7, 2) := by decide +kernel
theorem dX0_apportion_38 : decode cX0_apportion 38 = .ok (.aload_n 0, 1) := by decide +kernel
theorem dX0_apportion_39 : decode cX0_apportion 39 = .ok (.getfield 28, 3) := by decide +kernel
theorem dX0_apportion_42 : decode cX0_apportion 42 = .ok (.if_icmp .ge 67, 3) := by decide +kernel
theorem dX0_apportion_45 : decode cX0_apportion 45 = .ok (.aload_n 0, 1) := by decide +kernel
theorem dX0_apportion_46 : decode cX0_apportion 46 = .ok (.getfield 22, 3) := by decide +kernel
theorem dX0_apportion_49 : decode cX0_apportion 49 = .ok (.iload 7, 2) := by decide +kernel
theorem dX0_apportion_51 : decode cX0_apportion 51 = .ok (.lload_n 1, 1) := by decide +kernel
theorem dX0_apportion_52 : decode cX0_apportion 52 = .ok (.aload_n 0, 1) := by decide +kernel
theorem dX0_apportion_53 : decode cX0_apportion 53 = .ok (.getfield 19, 3) := by decide +kernel
theorem dX0_apportion_56 : decode cX0_apportion 56 = .ok (.iload 7, 2) := by decide +kernel
theorem dX0_apportion_58 : decode cX0_apportion 58 = .ok (.laload, 1) := by decide +kernel
theorem dX0_apportion_59 : decode cX0_apportion 59 = .ok (.lmul, 1) := by decide +kernel
theorem dX0_apportion_60 : decode cX0_apportion 60 = .ok (.lload_n 3, 1) := by decide +kernel
theorem dX0_apportion_61 : decode cX0_apportion 61 = .ok (.invokestatic 45, 3) := by decide +kernel
theorem dX0_apportion_64 : decode cX0_apportion 64 = .ok (.lastore, 1) := by decide +kernel
theorem dX0_apportion_65 : decode cX0_apportion 65 = .ok (.aload_n 0, 1) := by decide +kernel
theorem dX0_apportion_66 : decode cX0_apportion 66 = .ok (.getfield 25, 3) := by decide +kernel
theorem dX0_apportion_69 : decode cX0_apportion 69 = .ok (.iload 7, 2) := by decide +kernel
theorem dX0_apportion_71 : decode cX0_apportion 71 = .ok (.lload_n 1, 1) := by decide +kernel
theorem dX0_apportion_72 : decode cX0_apportion 72 = .ok (.aload_n 0, 1) := by decide +kernel
theorem dX0_apportion_73 : decode cX0_apportion 73 = .ok (.getfield 19, 3) := by decide +kernel
theorem dX0_apportion_76 : decode cX0_apportion 76 = .ok (.iload 7, 2) := by decide +kernel
theorem dX0_apportion_78 : decode cX0_apportion 78 = .ok (.laload, 1) := by decide +kernel
theorem dX0_apportion_79 : decode cX0_apportion 79 = .ok (.lmul, 1) := by decide +kernel
theorem dX0_apportion_80 : decode cX0_apportion 80 = .ok (.aload_n 0, 1) := by decide +kernel
theorem dX0_apportion_81 : decode cX0_apportion 81 = .ok (.getfield 22, 3) := by decide +kernel
theorem dX0_apportion_84 : decode cX0_apportion 84 = .ok (.iload 7, 2) := by decide +kernel
theorem dX0_apportion_86 : decode cX0_apportion 86 = .ok (.laload, 1) := by decide +kernel
theorem dX0_apportion_87 : decode cX0_apportion 87 = .ok (.lload_n 3, 1) := by decide +kernel
theorem dX0_apportion_88 : decode cX0_apportion 88 = .ok (.lmul, 1) := by decide +kernel
theorem dX0_apportion_89 : decode cX0_apportion 89 = .ok (.lsub, 1) := by decide +kernel
theorem dX0_apportion_90 : decode cX0_apportion 90 = .ok (.lastore, 1) := by decide +kernel
theorem dX0_apportion_91 : decode cX0_apportion 91 = .ok (.lload 5, 2) := by decide +kernel
theorem dX0_apportion_93 : decode cX0_apportion 93 = .ok (.aload_n 0, 1) := by decide +kernel
theorem dX0_apportion_94 : decode cX0_apportion 94 = .ok (.getfield 22, 3) := by decide +kernel
theorem dX0_apportion_97 : decode cX0_apportion 97 = .ok (.iload 7, 2) := by decide +kernel
theorem dX0_apportion_99 : decode cX0_apportion 99 = .ok (.laload, 1) := by decide +kernel
theorem dX0_apportion_100 : decode cX0_apportion 100 = .ok (.lsub, 1) := by decide +kernel
theorem dX0_apportion_101 : decode cX0_apportion 101 = .ok (.lstore 5, 2) := by decide +kernel
theorem dX0_apportion_103 : decode cX0_apportion 103 = .ok (.iinc 7 1, 3) := by decide +kernel
theorem dX0_apportion_106 : decode cX0_apportion 106 = .ok (.goto (-70), 3) := by decide +kernel
theorem dX0_apportion_109 : decode cX0_apportion 109 = .ok (.lload_n 3, 1) := by decide +kernel
theorem dX0_apportion_110 : decode cX0_apportion 110 = .ok (.lconst 0, 1) := by decide +kernel
theorem dX0_apportion_111 : decode cX0_apportion 111 = .ok (.lcmp, 1) := by decide +kernel
theorem dX0_apportion_112 : decode cX0_apportion 112 = .ok (.ifCond .ne 14, 3) := by decide +kernel
theorem dX0_apportion_115 : decode cX0_apportion 115 = .ok (.aload_n 0, 1) := by decide +kernel
theorem dX0_apportion_116 : decode cX0_apportion 116 = .ok (.getfield 22, 3) := by decide +kernel
theorem dX0_apportion_119 : decode cX0_apportion 119 = .ok (.iconst 0, 1) := by decide +kernel
theorem dX0_apportion_120 : decode cX0_apportion 120 = .ok (.lload 5, 2) := by decide +kernel
theorem dX0_apportion_122 : decode cX0_apportion 122 = .ok (.lastore, 1) := by decide +kernel
theorem dX0_apportion_123 : decode cX0_apportion 123 = .ok (.goto 9, 3) := by decide +kernel
theorem dX0_apportion_126 : decode cX0_apportion 126 = .ok (.aload_n 0, 1) := by decide +kernel
theorem dX0_apportion_127 : decode cX0_apportion 127 = .ok (.lload 5, 2) := by decide +kernel
theorem dX0_apportion_129 : decode cX0_apportion 129 = .ok (.invokevirtual 49, 3) := by decide +kernel
theorem dX0_apportion_132 : decode cX0_apportion 132 = .ok (.return_, 1) := by decide +kernel
set_option maxRecDepth 20000 in
theorem ggX0_spread_X0_greatestRemainder : GoodIn wsX0_spread wsX0_greatestRemainder := goodIn_r _ [9, 1, 3, 10, 11, 12, 13, 14, 15] (by decide +kernel) (by decide +kernel)
set_option maxRecDepth 20000 in
theorem gX0_spread_X0_greatestRemainder : GoodIn wsX0_spread (wsV RX0 53 RX0 yX0_greatestRemainder wsX0_greatestRemainder) := goodIn_app (goodIn_of _ (by decide +kernel)) ggX0_spread_X0_greatestRemainder
theorem dX0_spread_0 : decode cX0_spread 0 = .ok (.iconst 0, 1) := by decide +kernel
theorem dX0_spread_1 : decode cX0_spread 1 = .ok (.istore_n 3, 1) := by decide +kernel
theorem dX0_spread_2 : decode cX0_spread 2 = .ok (.iload_n 3, 1) := by decide +kernel
theorem dX0_spread_3 : decode cX0_spread 3 = .ok (.aload_n 0, 1) := by decide +kernel
theorem dX0_spread_4 : decode cX0_spread 4 = .ok (.getfield 28, 3) := by decide +kernel
theorem dX0_spread_7 : decode cX0_spread 7 = .ok (.if_icmp .ge 43, 3) := by decide +kernel
theorem dX0_spread_10 : decode cX0_spread 10 = .ok (.iload_n 3, 1) := by decide +kernel
theorem dX0_spread_11 : decode cX0_spread 11 = .ok (.i2l, 1) := by decide +kernel
theorem dX0_spread_12 : decode cX0_spread 12 = .ok (.lload_n 1, 1) := by decide +kernel
theorem dX0_spread_13 : decode cX0_spread 13 = .ok (.lcmp, 1) := by decide +kernel
theorem dX0_spread_14 : decode cX0_spread 14 = .ok (.ifCond .ge 36, 3) := by decide +kernel
theorem dX0_spread_17 : decode cX0_spread 17 = .ok (.aload_n 0, 1) := by decide +kernel
theorem dX0_spread_18 : decode cX0_spread 18 = .ok (.invokevirtual 53, 3) := by decide +kernel
theorem dX0_spread_21 : decode cX0_spread 21 = .ok (.istore 4, 2) := by decide +kernel
theorem dX0_spread_23 : decode cX0_spread 23 = .ok (.aload_n 0, 1) := by decide +kernel
theorem dX0_spread_24 : decode cX0_spread 24 = .ok (.getfield 22, 3) := by decide +kernel
theorem dX0_spread_27 : decode cX0_spread 27 = .ok (.iload 4, 2) := by decide +kernel
theorem dX0_spread_29 : decode cX0_spread 29 = .ok (.dup2, 1) := by decide +kernel
theorem dX0_spread_30 : decode cX0_spread 30 = .ok (.laload, 1) := by decide +kernel
theorem dX0_spread_31 : decode cX0_spread 31 = .ok (.lconst 1, 1) := by decide +kernel
theorem dX0_spread_32 : decode cX0_spread 32 = .ok (.ladd, 1) := by decide +kernel
theorem dX0_spread_33 : decode cX0_spread 33 = .ok (.lastore, 1) := by decide +kernel
theorem dX0_spread_34 : decode cX0_spread 34 = .ok (.aload_n 0, 1) := by decide +kernel
theorem dX0_spread_35 : decode cX0_spread 35 = .ok (.getfield 25, 3) := by decide +kernel
theorem dX0_spread_38 : decode cX0_spread 38 = .ok (.iload 4, 2) := by decide +kernel
theorem dX0_spread_40 : decode cX0_spread 40 = .ok (.ldc2_w 57, 3) := by decide +kernel
theorem dX0_spread_43 : decode cX0_spread 43 = .ok (.lastore, 1) := by decide +kernel
theorem dX0_spread_44 : decode cX0_spread 44 = .ok (.iinc 3 1, 3) := by decide +kernel
theorem dX0_spread_47 : decode cX0_spread 47 = .ok (.goto (-45), 3) := by decide +kernel
theorem dX0_spread_50 : decode cX0_spread 50 = .ok (.return_, 1) := by decide +kernel
theorem dX0_greatestRemainder_0 : decode cX0_greatestRemainder 0 = .ok (.iconst 0, 1) := by decide +kernel
theorem dX0_greatestRemainder_1 : decode cX0_greatestRemainder 1 = .ok (.istore_n 1, 1) := by decide +kernel
theorem dX0_greatestRemainder_2 : decode cX0_greatestRemainder 2 = .ok (.iconst 1, 1) := by decide +kernel
theorem dX0_greatestRemainder_3 : decode cX0_greatestRemainder 3 = .ok (.istore_n 2, 1) := by decide +kernel
theorem dX0_greatestRemainder_4 : decode cX0_greatestRemainder 4 = .ok (.iload_n 2, 1) := by decide +kernel
theorem dX0_greatestRemainder_5 : decode cX0_greatestRemainder 5 = .ok (.aload_n 0, 1) := by decide +kernel
theorem dX0_greatestRemainder_6 : decode cX0_greatestRemainder 6 = .ok (.getfield 28, 3) := by decide +kernel
theorem dX0_greatestRemainder_9 : decode cX0_greatestRemainder 9 = .ok (.if_icmp .ge 27, 3) := by decide +kernel
theorem dX0_greatestRemainder_12 : decode cX0_greatestRemainder 12 = .ok (.aload_n 0, 1) := by decide +kernel
theorem dX0_greatestRemainder_13 : decode cX0_greatestRemainder 13 = .ok (.getfield 25, 3) := by decide +kernel
theorem dX0_greatestRemainder_16 : decode cX0_greatestRemainder 16 = .ok (.iload_n 2, 1) := by decide +kernel
theorem dX0_greatestRemainder_17 : decode cX0_greatestRemainder 17 = .ok (.laload, 1) := by decide +kernel
theorem dX0_greatestRemainder_18 : decode cX0_greatestRemainder 18 = .ok (.aload_n 0, 1) := by decide +kernel
theorem dX0_greatestRemainder_19 : decode cX0_greatestRemainder 19 = .ok (.getfield 25, 3) := by decide +kernel
theorem dX0_greatestRemainder_22 : decode cX0_greatestRemainder 22 = .ok (.iload_n 1, 1) := by decide +kernel
theorem dX0_greatestRemainder_23 : decode cX0_greatestRemainder 23 = .ok (.laload, 1) := by decide +kernel
theorem dX0_greatestRemainder_24 : decode cX0_greatestRemainder 24 = .ok (.lcmp, 1) := by decide +kernel
theorem dX0_greatestRemainder_25 : decode cX0_greatestRemainder 25 = .ok (.ifCond .le 5, 3) := by decide +kernel
theorem dX0_greatestRemainder_28 : decode cX0_greatestRemainder 28 = .ok (.iload_n 2, 1) := by decide +kernel
theorem dX0_greatestRemainder_29 : decode cX0_greatestRemainder 29 = .ok (.istore_n 1, 1) := by decide +kernel
theorem dX0_greatestRemainder_30 : decode cX0_greatestRemainder 30 = .ok (.iinc 2 1, 3) := by decide +kernel
theorem dX0_greatestRemainder_33 : decode cX0_greatestRemainder 33 = .ok (.goto (-29), 3) := by decide +kernel
theorem dX0_greatestRemainder_36 : decode cX0_greatestRemainder 36 = .ok (.iload_n 1, 1) := by decide +kernel
theorem dX0_greatestRemainder_37 : decode cX0_greatestRemainder 37 = .ok (.ireturn, 1) := by decide +kernel
set_option maxRecDepth 20000 in
theorem ggX0_store_X2_add : GoodIn wsX0_store wsX2_add := goodIn_r _ [9, 10, 11, 12, 13, 14, 21, 22, 23, 24, 25, 26] (by decide +kernel) (by decide +kernel)
set_option maxRecDepth 20000 in
theorem gX0_store_X2_add : GoodIn wsX0_store (wsV RX0 59 RX2 yX2_add wsX2_add) := goodIn_app (goodIn_of _ (by decide +kernel)) ggX0_store_X2_add
theorem dX0_store_0 : decode cX0_store 0 = .ok (.iconst 0, 1) := by decide +kernel
theorem dX0_store_1 : decode cX0_store 1 = .ok (.istore_n 3, 1) := by decide +kernel
theorem dX0_store_2 : decode cX0_store 2 = .ok (.iload_n 3, 1) := by decide +kernel
theorem dX0_store_3 : decode cX0_store 3 = .ok (.aload_n 0, 1) := by decide +kernel
theorem dX0_store_4 : decode cX0_store 4 = .ok (.getfield 28, 3) := by decide +kernel
theorem dX0_store_7 : decode cX0_store 7 = .ok (.if_icmp .ge 44, 3) := by decide +kernel
theorem dX0_store_10 : decode cX0_store 10 = .ok (.aload_n 0, 1) := by decide +kernel
theorem dX0_store_11 : decode cX0_store 11 = .ok (.getfield 15, 3) := by decide +kernel
theorem dX0_store_14 : decode cX0_store 14 = .ok (.iload_n 3, 1) := by decide +kernel
theorem dX0_store_15 : decode cX0_store 15 = .ok (.laload, 1) := by decide +kernel
theorem dX0_store_16 : decode cX0_store 16 = .ok (.lconst 0, 1) := by decide +kernel
theorem dX0_store_17 : decode cX0_store 17 = .ok (.lcmp, 1) := by decide +kernel
theorem dX0_store_18 : decode cX0_store 18 = .ok (.ifCond .le 27, 3) := by decide +kernel
theorem dX0_store_21 : decode cX0_store 21 = .ok (.aload_n 1, 1) := by decide +kernel
theorem dX0_store_22 : decode cX0_store 22 = .ok (.aload_n 0, 1) := by decide +kernel
theorem dX0_store_23 : decode cX0_store 23 = .ok (.getfield 9, 3) := by decide +kernel
theorem dX0_store_26 : decode cX0_store 26 = .ok (.iload_n 3, 1) := by decide +kernel
theorem dX0_store_27 : decode cX0_store 27 = .ok (.iaload, 1) := by decide +kernel
theorem dX0_store_28 : decode cX0_store 28 = .ok (.aload_n 0, 1) := by decide +kernel
theorem dX0_store_29 : decode cX0_store 29 = .ok (.getfield 15, 3) := by decide +kernel
theorem dX0_store_32 : decode cX0_store 32 = .ok (.iload_n 3, 1) := by decide +kernel
theorem dX0_store_33 : decode cX0_store 33 = .ok (.laload, 1) := by decide +kernel
theorem dX0_store_34 : decode cX0_store 34 = .ok (.aload_n 0, 1) := by decide +kernel
theorem dX0_store_35 : decode cX0_store 35 = .ok (.getfield 22, 3) := by decide +kernel
theorem dX0_store_38 : decode cX0_store 38 = .ok (.iload_n 3, 1) := by decide +kernel
theorem dX0_store_39 : decode cX0_store 39 = .ok (.laload, 1) := by decide +kernel
theorem dX0_store_40 : decode cX0_store 40 = .ok (.iload_n 2, 1) := by decide +kernel
theorem dX0_store_41 : decode cX0_store 41 = .ok (.invokevirtual 59, 3) := by decide +kernel
theorem dX0_store_44 : decode cX0_store 44 = .ok (.pop, 1) := by decide +kernel
theorem dX0_store_45 : decode cX0_store 45 = .ok (.iinc 3 1, 3) := by decide +kernel
theorem dX0_store_48 : decode cX0_store 48 = .ok (.goto (-46), 3) := by decide +kernel
theorem dX0_store_51 : decode cX0_store 51 = .ok (.return_, 1) := by decide +kernel
theorem dX1_init_0 : decode cX1_init 0 = .ok (.aload_n 0, 1) := by decide +kernel
theorem dX1_init_1 : decode cX1_init 1 = .ok (.invokespecial 3, 3) := by decide +kernel
theorem dX1_init_4 : decode cX1_init 4 = .ok (.aload_n 0, 1) := by decide +kernel
theorem dX1_init_5 : decode cX1_init 5 = .ok (.bipush 12, 2) := by decide +kernel
theorem dX1_init_7 : decode cX1_init 7 = .ok (.newarray .long, 2) := by decide +kernel
theorem dX1_init_9 : decode cX1_init 9 = .ok (.putfield 9, 3) := by decide +kernel
theorem dX1_init_12 : decode cX1_init 12 = .ok (.aload_n 0, 1) := by decide +kernel
theorem dX1_init_13 : decode cX1_init 13 = .ok (.bipush 12, 2) := by decide +kernel
theorem dX1_init_15 : decode cX1_init 15 = .ok (.newarray .long, 2) := by decide +kernel
theorem dX1_init_17 : decode cX1_init 17 = .ok (.putfield 15, 3) := by decide +kernel
theorem dX1_init_20 : decode cX1_init 20 = .ok (.return_, 1) := by decide +kernel
set_option maxRecDepth 20000 in
theorem ggX1_trace_X1_gather : GoodIn wsX1_trace wsX1_gather := goodIn_r _ [9, 10, 11, 1, 12, 2, 13, 14, 15, 16, 17, 18, 19, 20, 8, 21, 22, 23, 24, 25, 26, 27, 35, 36, 37, 38, 39, 28, 29] (by decide +kernel) (by decide +kernel)
set_option maxRecDepth 20000 in
theorem gX1_trace_X1_gather : GoodIn wsX1_trace (wsV RX1 28 RX1 yX1_gather wsX1_gather) := goodIn_app (goodIn_of _ (by decide +kernel)) ggX1_trace_X1_gather
theorem dX1_trace_0 : decode cX1_trace 0 = .ok (.iconst 0, 1) := by decide +kernel
theorem dX1_trace_1 : decode cX1_trace 1 = .ok (.istore_n 3, 1) := by decide +kernel
theorem dX1_trace_2 : decode cX1_trace 2 = .ok (.iload_n 3, 1) := by decide +kernel
theorem dX1_trace_3 : decode cX1_trace 3 = .ok (.bipush 12, 2) := by decide +kernel
theorem dX1_trace_5 : decode cX1_trace 5 = .ok (.if_icmp .ge 32, 3) := by decide +kernel
theorem dX1_trace_8 : decode cX1_trace 8 = .ok (.aload_n 0, 1) := by decide +kernel
theorem dX1_trace_9 : decode cX1_trace 9 = .ok (.getfield 9, 3) := by decide +kernel
theorem dX1_trace_12 : decode cX1_trace 12 = .ok (.iload_n 3, 1) := by decide +kernel
theorem dX1_trace_13 : decode cX1_trace 13 = .ok (.iload_n 3, 1) := by decide +kernel
theorem dX1_trace_14 : decode cX1_trace 14 = .ok (.iload_n 2, 1) := by decide +kernel
theorem dX1_trace_15 : decode cX1_trace 15 = .ok (.if_icmp .ne 7, 3) := by decide +kernel
theorem dX1_trace_18 : decode cX1_trace 18 = .ok (.lconst 1, 1) := by decide +kernel
theorem dX1_trace_19 : decode cX1_trace 19 = .ok (.goto 4, 3) := by decide +kernel
theorem dX1_trace_22 : decode cX1_trace 22 = .ok (.lconst 0, 1) := by decide +kernel
theorem dX1_trace_23 : decode cX1_trace 23 = .ok (.lastore, 1) := by decide +kernel
theorem dX1_trace_24 : decode cX1_trace 24 = .ok (.aload_n 0, 1) := by decide +kernel
theorem dX1_trace_25 : decode cX1_trace 25 = .ok (.getfield 15, 3) := by decide +kernel
theorem dX1_trace_28 : decode cX1_trace 28 = .ok (.iload_n 3, 1) := by decide +kernel
theorem dX1_trace_29 : decode cX1_trace 29 = .ok (.lconst 1, 1) := by decide +kernel
theorem dX1_trace_30 : decode cX1_trace 30 = .ok (.lastore, 1) := by decide +kernel
theorem dX1_trace_31 : decode cX1_trace 31 = .ok (.iinc 3 1, 3) := by decide +kernel
theorem dX1_trace_34 : decode cX1_trace 34 = .ok (.goto (-32), 3) := by decide +kernel
theorem dX1_trace_37 : decode cX1_trace 37 = .ok (.iconst 1, 1) := by decide +kernel
theorem dX1_trace_38 : decode cX1_trace 38 = .ok (.istore_n 3, 1) := by decide +kernel
theorem dX1_trace_39 : decode cX1_trace 39 = .ok (.iload_n 3, 1) := by decide +kernel
theorem dX1_trace_40 : decode cX1_trace 40 = .ok (.iconst 3, 1) := by decide +kernel
theorem dX1_trace_41 : decode cX1_trace 41 = .ok (.if_icmp .gt 52, 3) := by decide +kernel
theorem dX1_trace_44 : decode cX1_trace 44 = .ok (.iconst 0, 1) := by decide +kernel
theorem dX1_trace_45 : decode cX1_trace 45 = .ok (.istore 4, 2) := by decide +kernel
theorem dX1_trace_47 : decode cX1_trace 47 = .ok (.iload 4, 2) := by decide +kernel
theorem dX1_trace_49 : decode cX1_trace 49 = .ok (.bipush 12, 2) := by decide +kernel
theorem dX1_trace_51 : decode cX1_trace 51 = .ok (.if_icmp .ge 36, 3) := by decide +kernel
theorem dX1_trace_54 : decode cX1_trace 54 = .ok (.aload_n 1, 1) := by decide +kernel
theorem dX1_trace_55 : decode cX1_trace 55 = .ok (.getfield 18, 3) := by decide +kernel
theorem dX1_trace_58 : decode cX1_trace 58 = .ok (.iload 4, 2) := by decide +kernel
theorem dX1_trace_60 : decode cX1_trace 60 = .ok (.iaload, 1) := by decide +kernel
theorem dX1_trace_61 : decode cX1_trace 61 = .ok (.iload_n 3, 1) := by decide +kernel
theorem dX1_trace_62 : decode cX1_trace 62 = .ok (.if_icmp .ne 19, 3) := by decide +kernel
theorem dX1_trace_65 : decode cX1_trace 65 = .ok (.iload 4, 2) := by decide +kernel
theorem dX1_trace_67 : decode cX1_trace 67 = .ok (.iload_n 2, 1) := by decide +kernel
theorem dX1_trace_68 : decode cX1_trace 68 = .ok (.if_icmp .eq 13, 3) := by decide +kernel
theorem dX1_trace_71 : decode cX1_trace 71 = .ok (.aload_n 0, 1) := by decide +kernel
theorem dX1_trace_72 : decode cX1_trace 72 = .ok (.aload_n 1, 1) := by decide +kernel
theorem dX1_trace_73 : decode cX1_trace 73 = .ok (.getfield 24, 3) := by decide +kernel
theorem dX1_trace_76 : decode cX1_trace 76 = .ok (.iload 4, 2) := by decide +kernel
theorem dX1_trace_78 : decode cX1_trace 78 = .ok (.invokevirtual 28, 3) := by decide +kernel
theorem dX1_trace_81 : decode cX1_trace 81 = .ok (.iinc 4 1, 3) := by decide +kernel
theorem dX1_trace_84 : decode cX1_trace 84 = .ok (.goto (-37), 3) := by decide +kernel
theorem dX1_trace_87 : decode cX1_trace 87 = .ok (.iinc 3 1, 3) := by decide +kernel
theorem dX1_trace_90 : decode cX1_trace 90 = .ok (.goto (-51), 3) := by decide +kernel
theorem dX1_trace_93 : decode cX1_trace 93 = .ok (.return_, 1) := by decide +kernel
set_option maxRecDepth 20000 in
theorem ggX1_gather_X3_place : GoodIn wsX1_gather wsX3_place := goodIn_r _ [10] (by decide +kernel) (by decide +kernel)
set_option maxRecDepth 20000 in
theorem gX1_gather_X3_place : GoodIn wsX1_gather (va_wsS RX1 37 yX3_place wsX3_place) := goodIn_app (goodIn_of _ (by decide +kernel)) ggX1_gather_X3_place
set_option maxRecDepth 20000 in
theorem ggX1_gather_X1_addFraction : GoodIn wsX1_gather wsX1_addFraction := goodIn_r _ [15, 5, 3, 16, 17, 18, 19, 20, 21, 27, 28] (by decide +kernel) (by decide +kernel)
set_option maxRecDepth 20000 in
theorem gX1_gather_X1_addFraction : GoodIn wsX1_gather (wsV RX1 50 RX1 yX1_addFraction wsX1_addFraction) := goodIn_app (goodIn_of _ (by decide +kernel)) ggX1_gather_X1_addFraction
theorem dX1_gather_0 : decode cX1_gather 0 = .ok (.iconst 0, 1) := by decide +kernel
theorem dX1_gather_1 : decode cX1_gather 1 = .ok (.istore_n 3, 1) := by decide +kernel
theorem dX1_gather_2 : decode cX1_gather 2 = .ok (.iload_n 3, 1) := by decide +kernel
theorem dX1_gather_3 : decode cX1_gather 3 = .ok (.aload_n 1, 1) := by decide +kernel
theorem dX1_gather_4 : decode cX1_gather 4 = .ok (.getfield 32, 3) := by decide +kernel
theorem dX1_gather_7 : decode cX1_gather 7 = .ok (.iload_n 2, 1) := by decide +kernel
theorem dX1_gather_8 : decode cX1_gather 8 = .ok (.iaload, 1) := by decide +kernel
theorem dX1_gather_9 : decode cX1_gather 9 = .ok (.if_icmp .ge 62, 3) := by decide +kernel
theorem dX1_gather_12 : decode cX1_gather 12 = .ok (.iload_n 2, 1) := by decide +kernel
theorem dX1_gather_13 : decode cX1_gather 13 = .ok (.iload_n 3, 1) := by decide +kernel
theorem dX1_gather_14 : decode cX1_gather 14 = .ok (.invokestatic 37, 3) := by decide +kernel
theorem dX1_gather_17 : decode cX1_gather 17 = .ok (.istore 4, 2) := by decide +kernel
theorem dX1_gather_19 : decode cX1_gather 19 = .ok (.aload_n 1, 1) := by decide +kernel
theorem dX1_gather_20 : decode cX1_gather 20 = .ok (.getfield 41, 3) := by decide +kernel
theorem dX1_gather_23 : decode cX1_gather 23 = .ok (.iload 4, 2) := by decide +kernel
theorem dX1_gather_25 : decode cX1_gather 25 = .ok (.iaload, 1) := by decide +kernel
theorem dX1_gather_26 : decode cX1_gather 26 = .ok (.istore 5, 2) := by decide +kernel
theorem dX1_gather_28 : decode cX1_gather 28 = .ok (.aload_n 0, 1) := by decide +kernel
theorem dX1_gather_29 : decode cX1_gather 29 = .ok (.iload_n 2, 1) := by decide +kernel
theorem dX1_gather_30 : decode cX1_gather 30 = .ok (.aload_n 0, 1) := by decide +kernel
theorem dX1_gather_31 : decode cX1_gather 31 = .ok (.getfield 9, 3) := by decide +kernel
theorem dX1_gather_34 : decode cX1_gather 34 = .ok (.iload 5, 2) := by decide +kernel
theorem dX1_gather_36 : decode cX1_gather 36 = .ok (.laload, 1) := by decide +kernel
theorem dX1_gather_37 : decode cX1_gather 37 = .ok (.aload_n 1, 1) := by decide +kernel
theorem dX1_gather_38 : decode cX1_gather 38 = .ok (.getfield 44, 3) := by decide +kernel
theorem dX1_gather_41 : decode cX1_gather 41 = .ok (.iload 4, 2) := by decide +kernel
theorem dX1_gather_43 : decode cX1_gather 43 = .ok (.iaload, 1) := by decide +kernel
theorem dX1_gather_44 : decode cX1_gather 44 = .ok (.i2l, 1) := by decide +kernel
theorem dX1_gather_45 : decode cX1_gather 45 = .ok (.lmul, 1) := by decide +kernel
theorem dX1_gather_46 : decode cX1_gather 46 = .ok (.aload_n 0, 1) := by decide +kernel
theorem dX1_gather_47 : decode cX1_gather 47 = .ok (.getfield 15, 3) := by decide +kernel
theorem dX1_gather_50 : decode cX1_gather 50 = .ok (.iload 5, 2) := by decide +kernel
theorem dX1_gather_52 : decode cX1_gather 52 = .ok (.laload, 1) := by decide +kernel
theorem dX1_gather_53 : decode cX1_gather 53 = .ok (.aload_n 1, 1) := by decide +kernel
theorem dX1_gather_54 : decode cX1_gather 54 = .ok (.getfield 47, 3) := by decide +kernel
theorem dX1_gather_57 : decode cX1_gather 57 = .ok (.iload 4, 2) := by decide +kernel
theorem dX1_gather_59 : decode cX1_gather 59 = .ok (.iaload, 1) := by decide +kernel
theorem dX1_gather_60 : decode cX1_gather 60 = .ok (.i2l, 1) := by decide +kernel
theorem dX1_gather_61 : decode cX1_gather 61 = .ok (.lmul, 1) := by decide +kernel
theorem dX1_gather_62 : decode cX1_gather 62 = .ok (.invokevirtual 50, 3) := by decide +kernel
theorem dX1_gather_65 : decode cX1_gather 65 = .ok (.iinc 3 1, 3) := by decide +kernel
theorem dX1_gather_68 : decode cX1_gather 68 = .ok (.goto (-66), 3) := by decide +kernel
theorem dX1_gather_71 : decode cX1_gather 71 = .ok (.return_, 1) := by decide +kernel
set_option maxRecDepth 20000 in
theorem ggX1_addFraction_X6_greatestDivisor : GoodIn wsX1_addFraction wsX6_greatestDivisor := goodIn_r _ [5, 6, 7, 4, 8] (by decide +kernel) (by decide +kernel)
set_option maxRecDepth 20000 in
theorem gX1_addFraction_X6_greatestDivisor_n54 : GoodIn wsX1_addFraction (wsX6_greatestDivisor) := ggX1_addFraction_X6_greatestDivisor
set_option maxRecDepth 20000 in
theorem ggX1_addFraction_X6_floorOf : GoodIn wsX1_addFraction wsX6_floorOf := goodIn_r _ [8] (by decide +kernel) (by decide +kernel)
set_option maxRecDepth 20000 in
theorem gX1_addFraction_X6_floorOf_n58 : GoodIn wsX1_addFraction (wsX6_floorOf) := ggX1_addFraction_X6_floorOf
theorem dX1_addFraction_0 : decode cX1_addFraction 0 = .ok (.lload_n 2, 1) := by decide +kernel
theorem dX1_addFraction_1 : decode cX1_addFraction 1 = .ok (.lload 4, 2) := by decide +kernel
theorem dX1_addFraction_3 : decode cX1_addFraction 3 = .ok (.invokestatic 54, 3) := by decide +kernel
theorem dX1_addFraction_6 : decode cX1_addFraction 6 = .ok (.lstore 6, 2) := by decide +kernel
theorem dX1_addFraction_8 : decode cX1_addFraction 8 = .ok (.lload_n 2, 1) := by decide +kernel
theorem dX1_addFraction_9 : decode cX1_addFraction 9 = .ok (.lload 6, 2) := by decide +kernel
theorem dX1_addFraction_11 : decode cX1_addFraction 11 = .ok (.invokestatic 58, 3) := by decide +kernel
theorem dX1_addFraction_14 : decode cX1_addFraction 14 = .ok (.lstore 8, 2) := by decide +kernel
theorem dX1_addFraction_16 : decode cX1_addFraction 16 = .ok (.lload 4, 2) := by decide +kernel
theorem dX1_addFraction_18 : decode cX1_addFraction 18 = .ok (.lload 6, 2) := by decide +kernel
theorem dX1_addFraction_20 : decode cX1_addFraction 20 = .ok (.invokestatic 58, 3) := by decide +kernel
theorem dX1_addFraction_23 : decode cX1_addFraction 23 = .ok (.lstore 10, 2) := by decide +kernel
theorem dX1_addFraction_25 : decode cX1_addFraction 25 = .ok (.aload_n 0, 1) := by decide +kernel
theorem dX1_addFraction_26 : decode cX1_addFraction 26 = .ok (.getfield 15, 3) := by decide +kernel
theorem dX1_addFraction_29 : decode cX1_addFraction 29 = .ok (.iload_n 1, 1) := by decide +kernel
theorem dX1_addFraction_30 : decode cX1_addFraction 30 = .ok (.laload, 1) := by decide +kernel
theorem dX1_addFraction_31 : decode cX1_addFraction 31 = .ok (.aload_n 0, 1) := by decide +kernel
theorem dX1_addFraction_32 : decode cX1_addFraction 32 = .ok (.getfield 15, 3) := by decide +kernel
theorem dX1_addFraction_35 : decode cX1_addFraction 35 = .ok (.iload_n 1, 1) := by decide +kernel
theorem dX1_addFraction_36 : decode cX1_addFraction 36 = .ok (.laload, 1) := by decide +kernel
theorem dX1_addFraction_37 : decode cX1_addFraction 37 = .ok (.lload 10, 2) := by decide +kernel
theorem dX1_addFraction_39 : decode cX1_addFraction 39 = .ok (.invokestatic 54, 3) := by decide +kernel
theorem dX1_addFraction_42 : decode cX1_addFraction 42 = .ok (.invokestatic 58, 3) := by decide +kernel
theorem dX1_addFraction_45 : decode cX1_addFraction 45 = .ok (.lload 10, 2) := by decide +kernel
theorem dX1_addFraction_47 : decode cX1_addFraction 47 = .ok (.lmul, 1) := by decide +kernel
theorem dX1_addFraction_48 : decode cX1_addFraction 48 = .ok (.lstore 12, 2) := by decide +kernel
theorem dX1_addFraction_50 : decode cX1_addFraction 50 = .ok (.aload_n 0, 1) := by decide +kernel
theorem dX1_addFraction_51 : decode cX1_addFraction 51 = .ok (.getfield 9, 3) := by decide +kernel
theorem dX1_addFraction_54 : decode cX1_addFraction 54 = .ok (.iload_n 1, 1) := by decide +kernel
theorem dX1_addFraction_55 : decode cX1_addFraction 55 = .ok (.laload, 1) := by decide +kernel
theorem dX1_addFraction_56 : decode cX1_addFraction 56 = .ok (.lload 12, 2) := by decide +kernel
theorem dX1_addFraction_58 : decode cX1_addFraction 58 = .ok (.aload_n 0, 1) := by decide +kernel
theorem dX1_addFraction_59 : decode cX1_addFraction 59 = .ok (.getfield 15, 3) := by decide +kernel
theorem dX1_addFraction_62 : decode cX1_addFraction 62 = .ok (.iload_n 1, 1) := by decide +kernel
theorem dX1_addFraction_63 : decode cX1_addFraction 63 = .ok (.laload, 1) := by decide +kernel
theorem dX1_addFraction_64 : decode cX1_addFraction 64 = .ok (.invokestatic 58, 3) := by decide +kernel
theorem dX1_addFraction_67 : decode cX1_addFraction 67 = .ok (.lmul, 1) := by decide +kernel
theorem dX1_addFraction_68 : decode cX1_addFraction 68 = .ok (.lload 8, 2) := by decide +kernel
theorem dX1_addFraction_70 : decode cX1_addFraction 70 = .ok (.lload 12, 2) := by decide +kernel
theorem dX1_addFraction_72 : decode cX1_addFraction 72 = .ok (.lload 10, 2) := by decide +kernel
theorem dX1_addFraction_74 : decode cX1_addFraction 74 = .ok (.invokestatic 58, 3) := by decide +kernel
theorem dX1_addFraction_77 : decode cX1_addFraction 77 = .ok (.lmul, 1) := by decide +kernel
theorem dX1_addFraction_78 : decode cX1_addFraction 78 = .ok (.ladd, 1) := by decide +kernel
theorem dX1_addFraction_79 : decode cX1_addFraction 79 = .ok (.lstore 14, 2) := by decide +kernel
theorem dX1_addFraction_81 : decode cX1_addFraction 81 = .ok (.lload 14, 2) := by decide +kernel
theorem dX1_addFraction_83 : decode cX1_addFraction 83 = .ok (.lload 12, 2) := by decide +kernel
theorem dX1_addFraction_85 : decode cX1_addFraction 85 = .ok (.invokestatic 54, 3) := by decide +kernel
theorem dX1_addFraction_88 : decode cX1_addFraction 88 = .ok (.lstore 16, 2) := by decide +kernel
theorem dX1_addFraction_90 : decode cX1_addFraction 90 = .ok (.aload_n 0, 1) := by decide +kernel
theorem dX1_addFraction_91 : decode cX1_addFraction 91 = .ok (.getfield 9, 3) := by decide +kernel
theorem dX1_addFraction_94 : decode cX1_addFraction 94 = .ok (.iload_n 1, 1) := by decide +kernel
theorem dX1_addFraction_95 : decode cX1_addFraction 95 = .ok (.lload 14, 2) := by decide +kernel
theorem dX1_addFraction_97 : decode cX1_addFraction 97 = .ok (.lload 16, 2) := by decide +kernel
theorem dX1_addFraction_99 : decode cX1_addFraction 99 = .ok (.invokestatic 58, 3) := by decide +kernel
theorem dX1_addFraction_102 : decode cX1_addFraction 102 = .ok (.lastore, 1) := by decide +kernel
theorem dX1_addFraction_103 : decode cX1_addFraction 103 = .ok (.aload_n 0, 1) := by decide +kernel
theorem dX1_addFraction_104 : decode cX1_addFraction 104 = .ok (.getfield 15, 3) := by decide +kernel
theorem dX1_addFraction_107 : decode cX1_addFraction 107 = .ok (.iload_n 1, 1) := by decide +kernel
theorem dX1_addFraction_108 : decode cX1_addFraction 108 = .ok (.lload 12, 2) := by decide +kernel
theorem dX1_addFraction_110 : decode cX1_addFraction 110 = .ok (.lload 16, 2) := by decide +kernel
theorem dX1_addFraction_112 : decode cX1_addFraction 112 = .ok (.invokestatic 58, 3) := by decide +kernel
theorem dX1_addFraction_115 : decode cX1_addFraction 115 = .ok (.lastore, 1) := by decide +kernel
theorem dX1_addFraction_116 : decode cX1_addFraction 116 = .ok (.return_, 1) := by decide +kernel
theorem dX2_init_0 : decode cX2_init 0 = .ok (.aload_n 0, 1) := by decide +kernel
theorem dX2_init_1 : decode cX2_init 1 = .ok (.invokespecial 3, 3) := by decide +kernel
theorem dX2_init_4 : decode cX2_init 4 = .ok (.aload_n 0, 1) := by decide +kernel
theorem dX2_init_5 : decode cX2_init 5 = .ok (.sipush 200, 3) := by decide +kernel
theorem dX2_init_8 : decode cX2_init 8 = .ok (.newarray .int, 2) := by decide +kernel
theorem dX2_init_10 : decode cX2_init 10 = .ok (.putfield 9, 3) := by decide +kernel
theorem dX2_init_13 : decode cX2_init 13 = .ok (.aload_n 0, 1) := by decide +kernel
theorem dX2_init_14 : decode cX2_init 14 = .ok (.sipush 200, 3) := by decide +kernel
theorem dX2_init_17 : decode cX2_init 17 = .ok (.newarray .long, 2) := by decide +kernel
theorem dX2_init_19 : decode cX2_init 19 = .ok (.putfield 15, 3) := by decide +kernel
theorem dX2_init_22 : decode cX2_init 22 = .ok (.aload_n 0, 1) := by decide +kernel
theorem dX2_init_23 : decode cX2_init 23 = .ok (.sipush 200, 3) := by decide +kernel
theorem dX2_init_26 : decode cX2_init 26 = .ok (.newarray .long, 2) := by decide +kernel
theorem dX2_init_28 : decode cX2_init 28 = .ok (.putfield 19, 3) := by decide +kernel
theorem dX2_init_31 : decode cX2_init 31 = .ok (.aload_n 0, 1) := by decide +kernel
theorem dX2_init_32 : decode cX2_init 32 = .ok (.sipush 200, 3) := by decide +kernel
theorem dX2_init_35 : decode cX2_init 35 = .ok (.newarray .int, 2) := by decide +kernel
theorem dX2_init_37 : decode cX2_init 37 = .ok (.putfield 22, 3) := by decide +kernel
theorem dX2_init_40 : decode cX2_init 40 = .ok (.return_, 1) := by decide +kernel
theorem dX2_free_0 : decode cX2_free 0 = .ok (.sipush 200, 3) := by decide +kernel
theorem dX2_free_3 : decode cX2_free 3 = .ok (.aload_n 0, 1) := by decide +kernel
theorem dX2_free_4 : decode cX2_free 4 = .ok (.getfield 25, 3) := by decide +kernel
theorem dX2_free_7 : decode cX2_free 7 = .ok (.isub, 1) := by decide +kernel
theorem dX2_free_8 : decode cX2_free 8 = .ok (.ireturn, 1) := by decide +kernel
theorem dX2_add_0 : decode cX2_add 0 = .ok (.aload_n 0, 1) := by decide +kernel
theorem dX2_add_1 : decode cX2_add 1 = .ok (.getfield 25, 3) := by decide +kernel
theorem dX2_add_4 : decode cX2_add 4 = .ok (.sipush 200, 3) := by decide +kernel
theorem dX2_add_7 : decode cX2_add 7 = .ok (.if_icmp .lt 5, 3) := by decide +kernel
theorem dX2_add_10 : decode cX2_add 10 = .ok (.iconst (-1), 1) := by decide +kernel
theorem dX2_add_11 : decode cX2_add 11 = .ok (.ireturn, 1) := by decide +kernel
theorem dX2_add_12 : decode cX2_add 12 = .ok (.aload_n 0, 1) := by decide +kernel
theorem dX2_add_13 : decode cX2_add 13 = .ok (.getfield 9, 3) := by decide +kernel
theorem dX2_add_16 : decode cX2_add 16 = .ok (.aload_n 0, 1) := by decide +kernel
theorem dX2_add_17 : decode cX2_add 17 = .ok (.getfield 25, 3) := by decide +kernel
theorem dX2_add_20 : decode cX2_add 20 = .ok (.iload_n 1, 1) := by decide +kernel
theorem dX2_add_21 : decode cX2_add 21 = .ok (.iastore, 1) := by decide +kernel
theorem dX2_add_22 : decode cX2_add 22 = .ok (.aload_n 0, 1) := by decide +kernel
theorem dX2_add_23 : decode cX2_add 23 = .ok (.getfield 15, 3) := by decide +kernel
theorem dX2_add_26 : decode cX2_add 26 = .ok (.aload_n 0, 1) := by decide +kernel
theorem dX2_add_27 : decode cX2_add 27 = .ok (.getfield 25, 3) := by decide +kernel
theorem dX2_add_30 : decode cX2_add 30 = .ok (.lload_n 2, 1) := by decide +kernel
theorem dX2_add_31 : decode cX2_add 31 = .ok (.lastore, 1) := by decide +kernel
theorem dX2_add_32 : decode cX2_add 32 = .ok (.aload_n 0, 1) := by decide +kernel
theorem dX2_add_33 : decode cX2_add 33 = .ok (.getfield 19, 3) := by decide +kernel
theorem dX2_add_36 : decode cX2_add 36 = .ok (.aload_n 0, 1) := by decide +kernel
theorem dX2_add_37 : decode cX2_add 37 = .ok (.getfield 25, 3) := by decide +kernel
theorem dX2_add_40 : decode cX2_add 40 = .ok (.lload 4, 2) := by decide +kernel
theorem dX2_add_42 : decode cX2_add 42 = .ok (.lastore, 1) := by decide +kernel
theorem dX2_add_43 : decode cX2_add 43 = .ok (.aload_n 0, 1) := by decide +kernel
theorem dX2_add_44 : decode cX2_add 44 = .ok (.getfield 22, 3) := by decide +kernel
theorem dX2_add_47 : decode cX2_add 47 = .ok (.aload_n 0, 1) := by decide +kernel
theorem dX2_add_48 : decode cX2_add 48 = .ok (.getfield 25, 3) := by decide +kernel
theorem dX2_add_51 : decode cX2_add 51 = .ok (.iload 6, 2) := by decide +kernel
theorem dX2_add_53 : decode cX2_add 53 = .ok (.iastore, 1) := by decide +kernel
theorem dX2_add_54 : decode cX2_add 54 = .ok (.aload_n 0, 1) := by decide +kernel
theorem dX2_add_55 : decode cX2_add 55 = .ok (.dup, 1) := by decide +kernel
theorem dX2_add_56 : decode cX2_add 56 = .ok (.getfield 25, 3) := by decide +kernel
theorem dX2_add_59 : decode cX2_add 59 = .ok (.iconst 1, 1) := by decide +kernel
theorem dX2_add_60 : decode cX2_add 60 = .ok (.iadd, 1) := by decide +kernel
theorem dX2_add_61 : decode cX2_add 61 = .ok (.putfield 25, 3) := by decide +kernel
theorem dX2_add_64 : decode cX2_add 64 = .ok (.aload_n 0, 1) := by decide +kernel
theorem dX2_add_65 : decode cX2_add 65 = .ok (.getfield 25, 3) := by decide +kernel
theorem dX2_add_68 : decode cX2_add 68 = .ok (.iconst 1, 1) := by decide +kernel
theorem dX2_add_69 : decode cX2_add 69 = .ok (.isub, 1) := by decide +kernel
theorem dX2_add_70 : decode cX2_add 70 = .ok (.ireturn, 1) := by decide +kernel
theorem dX2_stockOf_0 : decode cX2_stockOf 0 = .ok (.lconst 0, 1) := by decide +kernel
theorem dX2_stockOf_1 : decode cX2_stockOf 1 = .ok (.lstore_n 2, 1) := by decide +kernel
theorem dX2_stockOf_2 : decode cX2_stockOf 2 = .ok (.iconst 0, 1) := by decide +kernel
theorem dX2_stockOf_3 : decode cX2_stockOf 3 = .ok (.istore 4, 2) := by decide +kernel
theorem dX2_stockOf_5 : decode cX2_stockOf 5 = .ok (.iload 4, 2) := by decide +kernel
theorem dX2_stockOf_7 : decode cX2_stockOf 7 = .ok (.aload_n 0, 1) := by decide +kernel
theorem dX2_stockOf_8 : decode cX2_stockOf 8 = .ok (.getfield 25, 3) := by decide +kernel
theorem dX2_stockOf_11 : decode cX2_stockOf 11 = .ok (.if_icmp .ge 34, 3) := by decide +kernel
theorem dX2_stockOf_14 : decode cX2_stockOf 14 = .ok (.lload_n 2, 1) := by decide +kernel
theorem dX2_stockOf_15 : decode cX2_stockOf 15 = .ok (.aload_n 0, 1) := by decide +kernel
theorem dX2_stockOf_16 : decode cX2_stockOf 16 = .ok (.getfield 9, 3) := by decide +kernel
theorem dX2_stockOf_19 : decode cX2_stockOf 19 = .ok (.iload 4, 2) := by decide +kernel
theorem dX2_stockOf_21 : decode cX2_stockOf 21 = .ok (.iaload, 1) := by decide +kernel
theorem dX2_stockOf_22 : decode cX2_stockOf 22 = .ok (.iload_n 1, 1) := by decide +kernel
theorem dX2_stockOf_23 : decode cX2_stockOf 23 = .ok (.if_icmp .ne 13, 3) := by decide +kernel
theorem dX2_stockOf_26 : decode cX2_stockOf 26 = .ok (.aload_n 0, 1) := by decide +kernel
theorem dX2_stockOf_27 : decode cX2_stockOf 27 = .ok (.getfield 15, 3) := by decide +kernel
theorem dX2_stockOf_30 : decode cX2_stockOf 30 = .ok (.iload 4, 2) := by decide +kernel
theorem dX2_stockOf_32 : decode cX2_stockOf 32 = .ok (.laload, 1) := by decide +kernel
theorem dX2_stockOf_33 : decode cX2_stockOf 33 = .ok (.goto 4, 3) := by decide +kernel
theorem dX2_stockOf_36 : decode cX2_stockOf 36 = .ok (.lconst 0, 1) := by decide +kernel
theorem dX2_stockOf_37 : decode cX2_stockOf 37 = .ok (.ladd, 1) := by decide +kernel
theorem dX2_stockOf_38 : decode cX2_stockOf 38 = .ok (.lstore_n 2, 1) := by decide +kernel
theorem dX2_stockOf_39 : decode cX2_stockOf 39 = .ok (.iinc 4 1, 3) := by decide +kernel
theorem dX2_stockOf_42 : decode cX2_stockOf 42 = .ok (.goto (-37), 3) := by decide +kernel
theorem dX2_stockOf_45 : decode cX2_stockOf 45 = .ok (.lload_n 2, 1) := by decide +kernel
theorem dX2_stockOf_46 : decode cX2_stockOf 46 = .ok (.lreturn, 1) := by decide +kernel
theorem dX2_debtOf_0 : decode cX2_debtOf 0 = .ok (.lconst 0, 1) := by decide +kernel
theorem dX2_debtOf_1 : decode cX2_debtOf 1 = .ok (.lstore_n 2, 1) := by decide +kernel
theorem dX2_debtOf_2 : decode cX2_debtOf 2 = .ok (.iconst 0, 1) := by decide +kernel
theorem dX2_debtOf_3 : decode cX2_debtOf 3 = .ok (.istore 4, 2) := by decide +kernel
theorem dX2_debtOf_5 : decode cX2_debtOf 5 = .ok (.iload 4, 2) := by decide +kernel
theorem dX2_debtOf_7 : decode cX2_debtOf 7 = .ok (.aload_n 0, 1) := by decide +kernel
theorem dX2_debtOf_8 : decode cX2_debtOf 8 = .ok (.getfield 25, 3) := by decide +kernel
theorem dX2_debtOf_11 : decode cX2_debtOf 11 = .ok (.if_icmp .ge 34, 3) := by decide +kernel
theorem dX2_debtOf_14 : decode cX2_debtOf 14 = .ok (.lload_n 2, 1) := by decide +kernel
theorem dX2_debtOf_15 : decode cX2_debtOf 15 = .ok (.aload_n 0, 1) := by decide +kernel
theorem dX2_debtOf_16 : decode cX2_debtOf 16 = .ok (.getfield 9, 3) := by decide +kernel
theorem dX2_debtOf_19 : decode cX2_debtOf 19 = .ok (.iload 4, 2) := by decide +kernel
theorem dX2_debtOf_21 : decode cX2_debtOf 21 = .ok (.iaload, 1) := by decide +kernel
theorem dX2_debtOf_22 : decode cX2_debtOf 22 = .ok (.iload_n 1, 1) := by decide +kernel
theorem dX2_debtOf_23 : decode cX2_debtOf 23 = .ok (.if_icmp .ne 13, 3) := by decide +kernel
theorem dX2_debtOf_26 : decode cX2_debtOf 26 = .ok (.aload_n 0, 1) := by decide +kernel
theorem dX2_debtOf_27 : decode cX2_debtOf 27 = .ok (.getfield 19, 3) := by decide +kernel
theorem dX2_debtOf_30 : decode cX2_debtOf 30 = .ok (.iload 4, 2) := by decide +kernel
theorem dX2_debtOf_32 : decode cX2_debtOf 32 = .ok (.laload, 1) := by decide +kernel
theorem dX2_debtOf_33 : decode cX2_debtOf 33 = .ok (.goto 4, 3) := by decide +kernel
theorem dX2_debtOf_36 : decode cX2_debtOf 36 = .ok (.lconst 0, 1) := by decide +kernel
theorem dX2_debtOf_37 : decode cX2_debtOf 37 = .ok (.ladd, 1) := by decide +kernel
theorem dX2_debtOf_38 : decode cX2_debtOf 38 = .ok (.lstore_n 2, 1) := by decide +kernel
theorem dX2_debtOf_39 : decode cX2_debtOf 39 = .ok (.iinc 4 1, 3) := by decide +kernel
theorem dX2_debtOf_42 : decode cX2_debtOf 42 = .ok (.goto (-37), 3) := by decide +kernel
theorem dX2_debtOf_45 : decode cX2_debtOf 45 = .ok (.lload_n 2, 1) := by decide +kernel
theorem dX2_debtOf_46 : decode cX2_debtOf 46 = .ok (.lreturn, 1) := by decide +kernel
theorem dX2_openOf_0 : decode cX2_openOf 0 = .ok (.iconst 0, 1) := by decide +kernel
theorem dX2_openOf_1 : decode cX2_openOf 1 = .ok (.istore_n 2, 1) := by decide +kernel
theorem dX2_openOf_2 : decode cX2_openOf 2 = .ok (.iconst 0, 1) := by decide +kernel
theorem dX2_openOf_3 : decode cX2_openOf 3 = .ok (.istore_n 3, 1) := by decide +kernel
theorem dX2_openOf_4 : decode cX2_openOf 4 = .ok (.iload_n 3, 1) := by decide +kernel
theorem dX2_openOf_5 : decode cX2_openOf 5 = .ok (.aload_n 0, 1) := by decide +kernel
theorem dX2_openOf_6 : decode cX2_openOf 6 = .ok (.getfield 25, 3) := by decide +kernel
theorem dX2_openOf_9 : decode cX2_openOf 9 = .ok (.if_icmp .ge 38, 3) := by decide +kernel
theorem dX2_openOf_12 : decode cX2_openOf 12 = .ok (.iload_n 2, 1) := by decide +kernel
theorem dX2_openOf_13 : decode cX2_openOf 13 = .ok (.aload_n 0, 1) := by decide +kernel
theorem dX2_openOf_14 : decode cX2_openOf 14 = .ok (.getfield 9, 3) := by decide +kernel
theorem dX2_openOf_17 : decode cX2_openOf 17 = .ok (.iload_n 3, 1) := by decide +kernel
theorem dX2_openOf_18 : decode cX2_openOf 18 = .ok (.iaload, 1) := by decide +kernel
theorem dX2_openOf_19 : decode cX2_openOf 19 = .ok (.iload_n 1, 1) := by decide +kernel
theorem dX2_openOf_20 : decode cX2_openOf 20 = .ok (.if_icmp .ne 18, 3) := by decide +kernel
theorem dX2_openOf_23 : decode cX2_openOf 23 = .ok (.aload_n 0, 1) := by decide +kernel
theorem dX2_openOf_24 : decode cX2_openOf 24 = .ok (.getfield 15, 3) := by decide +kernel
theorem dX2_openOf_27 : decode cX2_openOf 27 = .ok (.iload_n 3, 1) := by decide +kernel
theorem dX2_openOf_28 : decode cX2_openOf 28 = .ok (.laload, 1) := by decide +kernel
theorem dX2_openOf_29 : decode cX2_openOf 29 = .ok (.lconst 0, 1) := by decide +kernel
theorem dX2_openOf_30 : decode cX2_openOf 30 = .ok (.lcmp, 1) := by decide +kernel
theorem dX2_openOf_31 : decode cX2_openOf 31 = .ok (.ifCond .le 7, 3) := by decide +kernel
theorem dX2_openOf_34 : decode cX2_openOf 34 = .ok (.iconst 1, 1) := by decide +kernel
theorem dX2_openOf_35 : decode cX2_openOf 35 = .ok (.goto 4, 3) := by decide +kernel
theorem dX2_openOf_38 : decode cX2_openOf 38 = .ok (.iconst 0, 1) := by decide +kernel
theorem dX2_openOf_39 : decode cX2_openOf 39 = .ok (.iadd, 1) := by decide +kernel
theorem dX2_openOf_40 : decode cX2_openOf 40 = .ok (.istore_n 2, 1) := by decide +kernel
theorem dX2_openOf_41 : decode cX2_openOf 41 = .ok (.iinc 3 1, 3) := by decide +kernel
theorem dX2_openOf_44 : decode cX2_openOf 44 = .ok (.goto (-40), 3) := by decide +kernel
theorem dX2_openOf_47 : decode cX2_openOf 47 = .ok (.iload_n 2, 1) := by decide +kernel
theorem dX2_openOf_48 : decode cX2_openOf 48 = .ok (.ireturn, 1) := by decide +kernel
theorem dX2_wholeDebt_0 : decode cX2_wholeDebt 0 = .ok (.lconst 0, 1) := by decide +kernel
theorem dX2_wholeDebt_1 : decode cX2_wholeDebt 1 = .ok (.lstore_n 1, 1) := by decide +kernel
theorem dX2_wholeDebt_2 : decode cX2_wholeDebt 2 = .ok (.iconst 0, 1) := by decide +kernel
theorem dX2_wholeDebt_3 : decode cX2_wholeDebt 3 = .ok (.istore_n 3, 1) := by decide +kernel
theorem dX2_wholeDebt_4 : decode cX2_wholeDebt 4 = .ok (.iload_n 3, 1) := by decide +kernel
theorem dX2_wholeDebt_5 : decode cX2_wholeDebt 5 = .ok (.aload_n 0, 1) := by decide +kernel
theorem dX2_wholeDebt_6 : decode cX2_wholeDebt 6 = .ok (.getfield 25, 3) := by decide +kernel
theorem dX2_wholeDebt_9 : decode cX2_wholeDebt 9 = .ok (.if_icmp .ge 18, 3) := by decide +kernel
theorem dX2_wholeDebt_12 : decode cX2_wholeDebt 12 = .ok (.lload_n 1, 1) := by decide +kernel
theorem dX2_wholeDebt_13 : decode cX2_wholeDebt 13 = .ok (.aload_n 0, 1) := by decide +kernel
theorem dX2_wholeDebt_14 : decode cX2_wholeDebt 14 = .ok (.getfield 19, 3) := by decide +kernel
theorem dX2_wholeDebt_17 : decode cX2_wholeDebt 17 = .ok (.iload_n 3, 1) := by decide +kernel
theorem dX2_wholeDebt_18 : decode cX2_wholeDebt 18 = .ok (.laload, 1) := by decide +kernel
theorem dX2_wholeDebt_19 : decode cX2_wholeDebt 19 = .ok (.ladd, 1) := by decide +kernel
theorem dX2_wholeDebt_20 : decode cX2_wholeDebt 20 = .ok (.lstore_n 1, 1) := by decide +kernel
theorem dX2_wholeDebt_21 : decode cX2_wholeDebt 21 = .ok (.iinc 3 1, 3) := by decide +kernel
theorem dX2_wholeDebt_24 : decode cX2_wholeDebt 24 = .ok (.goto (-20), 3) := by decide +kernel
theorem dX2_wholeDebt_27 : decode cX2_wholeDebt 27 = .ok (.lload_n 1, 1) := by decide +kernel
theorem dX2_wholeDebt_28 : decode cX2_wholeDebt 28 = .ok (.lreturn, 1) := by decide +kernel
set_option maxRecDepth 20000 in
theorem ggX2_take_X2_takeFrom : GoodIn wsX2_take wsX2_takeFrom := goodIn_r _ [14, 4, 15, 16, 17, 18, 28, 29, 30, 31, 32, 33] (by decide +kernel) (by decide +kernel)
set_option maxRecDepth 20000 in
theorem gX2_take_X2_takeFrom : GoodIn wsX2_take (wsV RX2 39 RX2 yX2_takeFrom wsX2_takeFrom) := goodIn_app (goodIn_of _ (by decide +kernel)) ggX2_take_X2_takeFrom
set_option maxRecDepth 20000 in
theorem ggX2_take_X2_months : GoodIn wsX2_take wsX2_months := goodIn_r _ [22, 23, 24, 25, 17, 26, 27, 16, 18, 28, 29, 30, 31, 32, 33] (by decide +kernel) (by decide +kernel)
set_option maxRecDepth 20000 in
theorem gX2_take_X2_months : GoodIn wsX2_take (wsV RX2 43 RX2 yX2_months wsX2_months) := goodIn_app (goodIn_of _ (by decide +kernel)) ggX2_take_X2_months
theorem dX2_take_0 : decode cX2_take 0 = .ok (.lload_n 2, 1) := by decide +kernel
theorem dX2_take_1 : decode cX2_take 1 = .ok (.lstore 5, 2) := by decide +kernel
theorem dX2_take_3 : decode cX2_take 3 = .ok (.lconst 0, 1) := by decide +kernel
theorem dX2_take_4 : decode cX2_take 4 = .ok (.lstore 7, 2) := by decide +kernel
theorem dX2_take_6 : decode cX2_take 6 = .ok (.aload_n 0, 1) := by decide +kernel
theorem dX2_take_7 : decode cX2_take 7 = .ok (.lconst 0, 1) := by decide +kernel
theorem dX2_take_8 : decode cX2_take 8 = .ok (.putfield 29, 3) := by decide +kernel
theorem dX2_take_11 : decode cX2_take 11 = .ok (.iconst 0, 1) := by decide +kernel
theorem dX2_take_12 : decode cX2_take 12 = .ok (.istore 9, 2) := by decide +kernel
theorem dX2_take_14 : decode cX2_take 14 = .ok (.iload 9, 2) := by decide +kernel
theorem dX2_take_16 : decode cX2_take 16 = .ok (.aload_n 0, 1) := by decide +kernel
theorem dX2_take_17 : decode cX2_take 17 = .ok (.getfield 25, 3) := by decide +kernel
theorem dX2_take_20 : decode cX2_take 20 = .ok (.if_icmp .ge 101, 3) := by decide +kernel
theorem dX2_take_23 : decode cX2_take 23 = .ok (.lload 5, 2) := by decide +kernel
theorem dX2_take_25 : decode cX2_take 25 = .ok (.lconst 0, 1) := by decide +kernel
theorem dX2_take_26 : decode cX2_take 26 = .ok (.lcmp, 1) := by decide +kernel
theorem dX2_take_27 : decode cX2_take 27 = .ok (.ifCond .le 94, 3) := by decide +kernel
theorem dX2_take_30 : decode cX2_take 30 = .ok (.aload_n 0, 1) := by decide +kernel
theorem dX2_take_31 : decode cX2_take 31 = .ok (.getfield 9, 3) := by decide +kernel
theorem dX2_take_34 : decode cX2_take 34 = .ok (.iload 9, 2) := by decide +kernel
theorem dX2_take_36 : decode cX2_take 36 = .ok (.iaload, 1) := by decide +kernel
theorem dX2_take_37 : decode cX2_take 37 = .ok (.iload_n 1, 1) := by decide +kernel
theorem dX2_take_38 : decode cX2_take 38 = .ok (.if_icmp .ne 77, 3) := by decide +kernel
theorem dX2_take_41 : decode cX2_take 41 = .ok (.aload_n 0, 1) := by decide +kernel
theorem dX2_take_42 : decode cX2_take 42 = .ok (.getfield 15, 3) := by decide +kernel
theorem dX2_take_45 : decode cX2_take 45 = .ok (.iload 9, 2) := by decide +kernel
theorem dX2_take_47 : decode cX2_take 47 = .ok (.laload, 1) := by decide +kernel
theorem dX2_take_48 : decode cX2_take 48 = .ok (.lconst 0, 1) := by decide +kernel
theorem dX2_take_49 : decode cX2_take 49 = .ok (.lcmp, 1) := by decide +kernel
theorem dX2_take_50 : decode cX2_take 50 = .ok (.ifCond .le 65, 3) := by decide +kernel
theorem dX2_take_53 : decode cX2_take 53 = .ok (.lload 5, 2) := by decide +kernel
theorem dX2_take_55 : decode cX2_take 55 = .ok (.aload_n 0, 1) := by decide +kernel
theorem dX2_take_56 : decode cX2_take 56 = .ok (.getfield 15, 3) := by decide +kernel
theorem dX2_take_59 : decode cX2_take 59 = .ok (.iload 9, 2) := by decide +kernel
theorem dX2_take_61 : decode cX2_take 61 = .ok (.laload, 1) := by decide +kernel
theorem dX2_take_62 : decode cX2_take 62 = .ok (.invokestatic 33, 3) := by decide +kernel
theorem dX2_take_65 : decode cX2_take 65 = .ok (.lstore 10, 2) := by decide +kernel
theorem dX2_take_67 : decode cX2_take 67 = .ok (.aload_n 0, 1) := by decide +kernel
theorem dX2_take_68 : decode cX2_take 68 = .ok (.iload 9, 2) := by decide +kernel
theorem dX2_take_70 : decode cX2_take 70 = .ok (.lload 10, 2) := by decide +kernel
theorem dX2_take_72 : decode cX2_take 72 = .ok (.invokevirtual 39, 3) := by decide +kernel
theorem dX2_take_75 : decode cX2_take 75 = .ok (.lstore 12, 2) := by decide +kernel
theorem dX2_take_77 : decode cX2_take 77 = .ok (.aload_n 0, 1) := by decide +kernel
theorem dX2_take_78 : decode cX2_take 78 = .ok (.dup, 1) := by decide +kernel
theorem dX2_take_79 : decode cX2_take 79 = .ok (.getfield 29, 3) := by decide +kernel
theorem dX2_take_82 : decode cX2_take 82 = .ok (.lload 12, 2) := by decide +kernel
theorem dX2_take_84 : decode cX2_take 84 = .ok (.aload_n 0, 1) := by decide +kernel
theorem dX2_take_85 : decode cX2_take 85 = .ok (.iload 9, 2) := by decide +kernel
theorem dX2_take_87 : decode cX2_take 87 = .ok (.iload 4, 2) := by decide +kernel
theorem dX2_take_89 : decode cX2_take 89 = .ok (.invokevirtual 43, 3) := by decide +kernel
theorem dX2_take_92 : decode cX2_take 92 = .ok (.lmul, 1) := by decide +kernel
theorem dX2_take_93 : decode cX2_take 93 = .ok (.ldc2_w 47, 3) := by decide +kernel
theorem dX2_take_96 : decode cX2_take 96 = .ok (.ldiv, 1) := by decide +kernel
theorem dX2_take_97 : decode cX2_take 97 = .ok (.ladd, 1) := by decide +kernel
theorem dX2_take_98 : decode cX2_take 98 = .ok (.putfield 29, 3) := by decide +kernel
theorem dX2_take_101 : decode cX2_take 101 = .ok (.lload 7, 2) := by decide +kernel
theorem dX2_take_103 : decode cX2_take 103 = .ok (.lload 12, 2) := by decide +kernel
theorem dX2_take_105 : decode cX2_take 105 = .ok (.ladd, 1) := by decide +kernel
theorem dX2_take_106 : decode cX2_take 106 = .ok (.lstore 7, 2) := by decide +kernel
theorem dX2_take_108 : decode cX2_take 108 = .ok (.lload 5, 2) := by decide +kernel
theorem dX2_take_110 : decode cX2_take 110 = .ok (.lload 10, 2) := by decide +kernel
theorem dX2_take_112 : decode cX2_take 112 = .ok (.lsub, 1) := by decide +kernel
theorem dX2_take_113 : decode cX2_take 113 = .ok (.lstore 5, 2) := by decide +kernel
theorem dX2_take_115 : decode cX2_take 115 = .ok (.iinc 9 1, 3) := by decide +kernel
theorem dX2_take_118 : decode cX2_take 118 = .ok (.goto (-104), 3) := by decide +kernel
theorem dX2_take_121 : decode cX2_take 121 = .ok (.lload 7, 2) := by decide +kernel
theorem dX2_take_123 : decode cX2_take 123 = .ok (.lreturn, 1) := by decide +kernel
set_option maxRecDepth 20000 in
theorem ggX2_takeFrom_X6_floorOf : GoodIn wsX2_takeFrom wsX6_floorOf := goodIn_r _ [5] (by decide +kernel) (by decide +kernel)
set_option maxRecDepth 20000 in
theorem gX2_takeFrom_X6_floorOf_n49 : GoodIn wsX2_takeFrom (wsX6_floorOf) := ggX2_takeFrom_X6_floorOf
theorem dX2_takeFrom_0 : decode cX2_takeFrom 0 = .ok (.lload_n 2, 1) := by decide +kernel
theorem dX2_takeFrom_1 : decode cX2_takeFrom 1 = .ok (.aload_n 0, 1) := by decide +kernel
theorem dX2_takeFrom_2 : decode cX2_takeFrom 2 = .ok (.getfield 15, 3) := by decide +kernel
theorem dX2_takeFrom_5 : decode cX2_takeFrom 5 = .ok (.iload_n 1, 1) := by decide +kernel
theorem dX2_takeFrom_6 : decode cX2_takeFrom 6 = .ok (.laload, 1) := by decide +kernel
theorem dX2_takeFrom_7 : decode cX2_takeFrom 7 = .ok (.lcmp, 1) := by decide +kernel
theorem dX2_takeFrom_8 : decode cX2_takeFrom 8 = .ok (.ifCond .ne 12, 3) := by decide +kernel
theorem dX2_takeFrom_11 : decode cX2_takeFrom 11 = .ok (.aload_n 0, 1) := by decide +kernel
theorem dX2_takeFrom_12 : decode cX2_takeFrom 12 = .ok (.getfield 19, 3) := by decide +kernel
theorem dX2_takeFrom_15 : decode cX2_takeFrom 15 = .ok (.iload_n 1, 1) := by decide +kernel
theorem dX2_takeFrom_16 : decode cX2_takeFrom 16 = .ok (.laload, 1) := by decide +kernel
theorem dX2_takeFrom_17 : decode cX2_takeFrom 17 = .ok (.goto 20, 3) := by decide +kernel
theorem dX2_takeFrom_20 : decode cX2_takeFrom 20 = .ok (.aload_n 0, 1) := by decide +kernel
theorem dX2_takeFrom_21 : decode cX2_takeFrom 21 = .ok (.getfield 19, 3) := by decide +kernel
theorem dX2_takeFrom_24 : decode cX2_takeFrom 24 = .ok (.iload_n 1, 1) := by decide +kernel
theorem dX2_takeFrom_25 : decode cX2_takeFrom 25 = .ok (.laload, 1) := by decide +kernel
theorem dX2_takeFrom_26 : decode cX2_takeFrom 26 = .ok (.lload_n 2, 1) := by decide +kernel
theorem dX2_takeFrom_27 : decode cX2_takeFrom 27 = .ok (.lmul, 1) := by decide +kernel
theorem dX2_takeFrom_28 : decode cX2_takeFrom 28 = .ok (.aload_n 0, 1) := by decide +kernel
theorem dX2_takeFrom_29 : decode cX2_takeFrom 29 = .ok (.getfield 15, 3) := by decide +kernel
theorem dX2_takeFrom_32 : decode cX2_takeFrom 32 = .ok (.iload_n 1, 1) := by decide +kernel
theorem dX2_takeFrom_33 : decode cX2_takeFrom 33 = .ok (.laload, 1) := by decide +kernel
theorem dX2_takeFrom_34 : decode cX2_takeFrom 34 = .ok (.invokestatic 49, 3) := by decide +kernel
theorem dX2_takeFrom_37 : decode cX2_takeFrom 37 = .ok (.lstore 4, 2) := by decide +kernel
theorem dX2_takeFrom_39 : decode cX2_takeFrom 39 = .ok (.aload_n 0, 1) := by decide +kernel
theorem dX2_takeFrom_40 : decode cX2_takeFrom 40 = .ok (.getfield 15, 3) := by decide +kernel
theorem dX2_takeFrom_43 : decode cX2_takeFrom 43 = .ok (.iload_n 1, 1) := by decide +kernel
theorem dX2_takeFrom_44 : decode cX2_takeFrom 44 = .ok (.dup2, 1) := by decide +kernel
theorem dX2_takeFrom_45 : decode cX2_takeFrom 45 = .ok (.laload, 1) := by decide +kernel
theorem dX2_takeFrom_46 : decode cX2_takeFrom 46 = .ok (.lload_n 2, 1) := by decide +kernel
theorem dX2_takeFrom_47 : decode cX2_takeFrom 47 = .ok (.lsub, 1) := by decide +kernel
theorem dX2_takeFrom_48 : decode cX2_takeFrom 48 = .ok (.lastore, 1) := by decide +kernel
theorem dX2_takeFrom_49 : decode cX2_takeFrom 49 = .ok (.aload_n 0, 1) := by decide +kernel
theorem dX2_takeFrom_50 : decode cX2_takeFrom 50 = .ok (.getfield 19, 3) := by decide +kernel
theorem dX2_takeFrom_53 : decode cX2_takeFrom 53 = .ok (.iload_n 1, 1) := by decide +kernel
theorem dX2_takeFrom_54 : decode cX2_takeFrom 54 = .ok (.dup2, 1) := by decide +kernel
theorem dX2_takeFrom_55 : decode cX2_takeFrom 55 = .ok (.laload, 1) := by decide +kernel
theorem dX2_takeFrom_56 : decode cX2_takeFrom 56 = .ok (.lload 4, 2) := by decide +kernel
theorem dX2_takeFrom_58 : decode cX2_takeFrom 58 = .ok (.lsub, 1) := by decide +kernel
theorem dX2_takeFrom_59 : decode cX2_takeFrom 59 = .ok (.lastore, 1) := by decide +kernel
theorem dX2_takeFrom_60 : decode cX2_takeFrom 60 = .ok (.lload 4, 2) := by decide +kernel
theorem dX2_takeFrom_62 : decode cX2_takeFrom 62 = .ok (.lreturn, 1) := by decide +kernel
set_option maxRecDepth 20000 in
theorem ggX2_months_X6_ceilOf : GoodIn wsX2_months wsX6_ceilOf := goodIn_r _ [5, 6, 7, 4, 8] (by decide +kernel) (by decide +kernel)
set_option maxRecDepth 20000 in
theorem gX2_months_X6_ceilOf_n54 : GoodIn wsX2_months (wsX6_ceilOf) := ggX2_months_X6_ceilOf
theorem dX2_months_0 : decode cX2_months 0 = .ok (.iload_n 2, 1) := by decide +kernel
theorem dX2_months_1 : decode cX2_months 1 = .ok (.aload_n 0, 1) := by decide +kernel
theorem dX2_months_2 : decode cX2_months 2 = .ok (.getfield 22, 3) := by decide +kernel
theorem dX2_months_5 : decode cX2_months 5 = .ok (.iload_n 1, 1) := by decide +kernel
theorem dX2_months_6 : decode cX2_months 6 = .ok (.iaload, 1) := by decide +kernel
theorem dX2_months_7 : decode cX2_months 7 = .ok (.isub, 1) := by decide +kernel
theorem dX2_months_8 : decode cX2_months 8 = .ok (.i2l, 1) := by decide +kernel
theorem dX2_months_9 : decode cX2_months 9 = .ok (.ldc2_w 52, 3) := by decide +kernel
theorem dX2_months_12 : decode cX2_months 12 = .ok (.invokestatic 54, 3) := by decide +kernel
theorem dX2_months_15 : decode cX2_months 15 = .ok (.lreturn, 1) := by decide +kernel
theorem dX3_init_0 : decode cX3_init 0 = .ok (.aload_n 0, 1) := by decide +kernel
theorem dX3_init_1 : decode cX3_init 1 = .ok (.invokespecial 3, 3) := by decide +kernel
theorem dX3_init_4 : decode cX3_init 4 = .ok (.aload_n 0, 1) := by decide +kernel
theorem dX3_init_5 : decode cX3_init 5 = .ok (.bipush 12, 2) := by decide +kernel
theorem dX3_init_7 : decode cX3_init 7 = .ok (.newarray .int, 2) := by decide +kernel
theorem dX3_init_9 : decode cX3_init 9 = .ok (.putfield 9, 3) := by decide +kernel
theorem dX3_init_12 : decode cX3_init 12 = .ok (.aload_n 0, 1) := by decide +kernel
theorem dX3_init_13 : decode cX3_init 13 = .ok (.bipush 48, 2) := by decide +kernel
theorem dX3_init_15 : decode cX3_init 15 = .ok (.newarray .int, 2) := by decide +kernel
theorem dX3_init_17 : decode cX3_init 17 = .ok (.putfield 15, 3) := by decide +kernel
theorem dX3_init_20 : decode cX3_init 20 = .ok (.aload_n 0, 1) := by decide +kernel
theorem dX3_init_21 : decode cX3_init 21 = .ok (.bipush 48, 2) := by decide +kernel
theorem dX3_init_23 : decode cX3_init 23 = .ok (.newarray .int, 2) := by decide +kernel
theorem dX3_init_25 : decode cX3_init 25 = .ok (.putfield 18, 3) := by decide +kernel
theorem dX3_init_28 : decode cX3_init 28 = .ok (.aload_n 0, 1) := by decide +kernel
theorem dX3_init_29 : decode cX3_init 29 = .ok (.bipush 48, 2) := by decide +kernel
theorem dX3_init_31 : decode cX3_init 31 = .ok (.newarray .int, 2) := by decide +kernel
theorem dX3_init_33 : decode cX3_init 33 = .ok (.putfield 21, 3) := by decide +kernel
theorem dX3_init_36 : decode cX3_init 36 = .ok (.aload_n 0, 1) := by decide +kernel
theorem dX3_init_37 : decode cX3_init 37 = .ok (.iload_n 1, 1) := by decide +kernel
theorem dX3_init_38 : decode cX3_init 38 = .ok (.iconst 4, 1) := by decide +kernel
theorem dX3_init_39 : decode cX3_init 39 = .ok (.invokestatic 24, 3) := by decide +kernel
theorem dX3_init_42 : decode cX3_init 42 = .ok (.putfield 30, 3) := by decide +kernel
theorem dX3_init_45 : decode cX3_init 45 = .ok (.return_, 1) := by decide +kernel
set_option maxRecDepth 20000 in
theorem ggX3_add_X3_isTold : GoodIn wsX3_add wsX3_isTold := goodIn_r _ [10, 1, 11, 12, 13, 9, 14, 3, 15, 16, 17, 18, 19, 20, 21, 22] (by decide +kernel) (by decide +kernel)
set_option maxRecDepth 20000 in
theorem gX3_add_X3_isTold : GoodIn wsX3_add (wsV RX3 34 RX3 yX3_isTold wsX3_isTold) := goodIn_app (goodIn_of _ (by decide +kernel)) ggX3_add_X3_isTold
set_option maxRecDepth 20000 in
theorem ggX3_add_X3_place : GoodIn wsX3_add wsX3_place := goodIn_r _ [17] (by decide +kernel) (by decide +kernel)
set_option maxRecDepth 20000 in
theorem gX3_add_X3_place : GoodIn wsX3_add (va_wsS RX3 38 yX3_place wsX3_place) := goodIn_app (goodIn_of _ (by decide +kernel)) ggX3_add_X3_place
theorem dX3_add_0 : decode cX3_add 0 = .ok (.iload_n 1, 1) := by decide +kernel
theorem dX3_add_1 : decode cX3_add 1 = .ok (.iload_n 2, 1) := by decide +kernel
theorem dX3_add_2 : decode cX3_add 2 = .ok (.if_icmp .eq 25, 3) := by decide +kernel
theorem dX3_add_5 : decode cX3_add 5 = .ok (.aload_n 0, 1) := by decide +kernel
theorem dX3_add_6 : decode cX3_add 6 = .ok (.getfield 9, 3) := by decide +kernel
theorem dX3_add_9 : decode cX3_add 9 = .ok (.iload_n 1, 1) := by decide +kernel
theorem dX3_add_10 : decode cX3_add 10 = .ok (.iaload, 1) := by decide +kernel
theorem dX3_add_11 : decode cX3_add 11 = .ok (.aload_n 0, 1) := by decide +kernel
theorem dX3_add_12 : decode cX3_add 12 = .ok (.getfield 30, 3) := by decide +kernel
theorem dX3_add_15 : decode cX3_add 15 = .ok (.if_icmp .ge 12, 3) := by decide +kernel
theorem dX3_add_18 : decode cX3_add 18 = .ok (.aload_n 0, 1) := by decide +kernel
theorem dX3_add_19 : decode cX3_add 19 = .ok (.iload_n 1, 1) := by decide +kernel
theorem dX3_add_20 : decode cX3_add 20 = .ok (.iload_n 2, 1) := by decide +kernel
theorem dX3_add_21 : decode cX3_add 21 = .ok (.invokevirtual 34, 3) := by decide +kernel
theorem dX3_add_24 : decode cX3_add 24 = .ok (.ifCond .eq 5, 3) := by decide +kernel
theorem dX3_add_27 : decode cX3_add 27 = .ok (.iconst 0, 1) := by decide +kernel
theorem dX3_add_28 : decode cX3_add 28 = .ok (.ireturn, 1) := by decide +kernel
theorem dX3_add_29 : decode cX3_add 29 = .ok (.iload_n 1, 1) := by decide +kernel
theorem dX3_add_30 : decode cX3_add 30 = .ok (.aload_n 0, 1) := by decide +kernel
theorem dX3_add_31 : decode cX3_add 31 = .ok (.getfield 9, 3) := by decide +kernel
theorem dX3_add_34 : decode cX3_add 34 = .ok (.iload_n 1, 1) := by decide +kernel
theorem dX3_add_35 : decode cX3_add 35 = .ok (.iaload, 1) := by decide +kernel
theorem dX3_add_36 : decode cX3_add 36 = .ok (.invokestatic 38, 3) := by decide +kernel
theorem dX3_add_39 : decode cX3_add 39 = .ok (.istore 5, 2) := by decide +kernel
theorem dX3_add_41 : decode cX3_add 41 = .ok (.aload_n 0, 1) := by decide +kernel
theorem dX3_add_42 : decode cX3_add 42 = .ok (.getfield 15, 3) := by decide +kernel
theorem dX3_add_45 : decode cX3_add 45 = .ok (.iload 5, 2) := by decide +kernel
theorem dX3_add_47 : decode cX3_add 47 = .ok (.iload_n 2, 1) := by decide +kernel
theorem dX3_add_48 : decode cX3_add 48 = .ok (.iastore, 1) := by decide +kernel
theorem dX3_add_49 : decode cX3_add 49 = .ok (.aload_n 0, 1) := by decide +kernel
theorem dX3_add_50 : decode cX3_add 50 = .ok (.getfield 18, 3) := by decide +kernel
theorem dX3_add_53 : decode cX3_add 53 = .ok (.iload 5, 2) := by decide +kernel
theorem dX3_add_55 : decode cX3_add 55 = .ok (.iload_n 3, 1) := by decide +kernel
theorem dX3_add_56 : decode cX3_add 56 = .ok (.iastore, 1) := by decide +kernel
theorem dX3_add_57 : decode cX3_add 57 = .ok (.aload_n 0, 1) := by decide +kernel
theorem dX3_add_58 : decode cX3_add 58 = .ok (.getfield 21, 3) := by decide +kernel
theorem dX3_add_61 : decode cX3_add 61 = .ok (.iload 5, 2) := by decide +kernel
theorem dX3_add_63 : decode cX3_add 63 = .ok (.iload 4, 2) := by decide +kernel
theorem dX3_add_65 : decode cX3_add 65 = .ok (.iastore, 1) := by decide +kernel
theorem dX3_add_66 : decode cX3_add 66 = .ok (.aload_n 0, 1) := by decide +kernel
theorem dX3_add_67 : decode cX3_add 67 = .ok (.getfield 9, 3) := by decide +kernel
theorem dX3_add_70 : decode cX3_add 70 = .ok (.iload_n 1, 1) := by decide +kernel
theorem dX3_add_71 : decode cX3_add 71 = .ok (.dup2, 1) := by decide +kernel
theorem dX3_add_72 : decode cX3_add 72 = .ok (.iaload, 1) := by decide +kernel
theorem dX3_add_73 : decode cX3_add 73 = .ok (.iconst 1, 1) := by decide +kernel
theorem dX3_add_74 : decode cX3_add 74 = .ok (.iadd, 1) := by decide +kernel
theorem dX3_add_75 : decode cX3_add 75 = .ok (.iastore, 1) := by decide +kernel
theorem dX3_add_76 : decode cX3_add 76 = .ok (.iconst 1, 1) := by decide +kernel
theorem dX3_add_77 : decode cX3_add 77 = .ok (.ireturn, 1) := by decide +kernel
set_option maxRecDepth 20000 in
theorem ggX3_isTold_X3_goodAt : GoodIn wsX3_isTold wsX3_goodAt := goodIn_r _ [6, 7, 8, 9, 5, 10, 11, 12, 13, 14, 15] (by decide +kernel) (by decide +kernel)
set_option maxRecDepth 20000 in
theorem gX3_isTold_X3_goodAt : GoodIn wsX3_isTold (wsV RX3 41 RX3 yX3_goodAt wsX3_goodAt) := goodIn_app (goodIn_of _ (by decide +kernel)) ggX3_isTold_X3_goodAt
theorem dX3_isTold_0 : decode cX3_isTold 0 = .ok (.iconst 0, 1) := by decide +kernel
theorem dX3_isTold_1 : decode cX3_isTold 1 = .ok (.istore_n 3, 1) := by decide +kernel
theorem dX3_isTold_2 : decode cX3_isTold 2 = .ok (.iload_n 3, 1) := by decide +kernel
theorem dX3_isTold_3 : decode cX3_isTold 3 = .ok (.aload_n 0, 1) := by decide +kernel
theorem dX3_isTold_4 : decode cX3_isTold 4 = .ok (.getfield 9, 3) := by decide +kernel
theorem dX3_isTold_7 : decode cX3_isTold 7 = .ok (.iload_n 1, 1) := by decide +kernel
theorem dX3_isTold_8 : decode cX3_isTold 8 = .ok (.iaload, 1) := by decide +kernel
theorem dX3_isTold_9 : decode cX3_isTold 9 = .ok (.if_icmp .ge 21, 3) := by decide +kernel
theorem dX3_isTold_12 : decode cX3_isTold 12 = .ok (.aload_n 0, 1) := by decide +kernel
theorem dX3_isTold_13 : decode cX3_isTold 13 = .ok (.iload_n 1, 1) := by decide +kernel
theorem dX3_isTold_14 : decode cX3_isTold 14 = .ok (.iload_n 3, 1) := by decide +kernel
theorem dX3_isTold_15 : decode cX3_isTold 15 = .ok (.invokevirtual 41, 3) := by decide +kernel
theorem dX3_isTold_18 : decode cX3_isTold 18 = .ok (.iload_n 2, 1) := by decide +kernel
theorem dX3_isTold_19 : decode cX3_isTold 19 = .ok (.if_icmp .ne 5, 3) := by decide +kernel
theorem dX3_isTold_22 : decode cX3_isTold 22 = .ok (.iconst 1, 1) := by decide +kernel
theorem dX3_isTold_23 : decode cX3_isTold 23 = .ok (.ireturn, 1) := by decide +kernel
theorem dX3_isTold_24 : decode cX3_isTold 24 = .ok (.iinc 3 1, 3) := by decide +kernel
theorem dX3_isTold_27 : decode cX3_isTold 27 = .ok (.goto (-25), 3) := by decide +kernel
theorem dX3_isTold_30 : decode cX3_isTold 30 = .ok (.iconst 0, 1) := by decide +kernel
theorem dX3_isTold_31 : decode cX3_isTold 31 = .ok (.ireturn, 1) := by decide +kernel
theorem dX3_dropLast_0 : decode cX3_dropLast 0 = .ok (.aload_n 0, 1) := by decide +kernel
theorem dX3_dropLast_1 : decode cX3_dropLast 1 = .ok (.getfield 9, 3) := by decide +kernel
theorem dX3_dropLast_4 : decode cX3_dropLast 4 = .ok (.iload_n 1, 1) := by decide +kernel
theorem dX3_dropLast_5 : decode cX3_dropLast 5 = .ok (.iaload, 1) := by decide +kernel
theorem dX3_dropLast_6 : decode cX3_dropLast 6 = .ok (.ifCond .le 13, 3) := by decide +kernel
theorem dX3_dropLast_9 : decode cX3_dropLast 9 = .ok (.aload_n 0, 1) := by decide +kernel
theorem dX3_dropLast_10 : decode cX3_dropLast 10 = .ok (.getfield 9, 3) := by decide +kernel
theorem dX3_dropLast_13 : decode cX3_dropLast 13 = .ok (.iload_n 1, 1) := by decide +kernel
theorem dX3_dropLast_14 : decode cX3_dropLast 14 = .ok (.dup2, 1) := by decide +kernel
theorem dX3_dropLast_15 : decode cX3_dropLast 15 = .ok (.iaload, 1) := by decide +kernel
theorem dX3_dropLast_16 : decode cX3_dropLast 16 = .ok (.iconst 1, 1) := by decide +kernel
theorem dX3_dropLast_17 : decode cX3_dropLast 17 = .ok (.isub, 1) := by decide +kernel
theorem dX3_dropLast_18 : decode cX3_dropLast 18 = .ok (.iastore, 1) := by decide +kernel
theorem dX3_dropLast_19 : decode cX3_dropLast 19 = .ok (.return_, 1) := by decide +kernel
set_option maxRecDepth 20000 in
theorem ggX3_goodAt_X3_place : GoodIn wsX3_goodAt wsX3_place := goodIn_r _ [5] (by decide +kernel) (by decide +kernel)
set_option maxRecDepth 20000 in
theorem gX3_goodAt_X3_place : GoodIn wsX3_goodAt (va_wsS RX3 38 yX3_place wsX3_place) := goodIn_app (goodIn_of _ (by decide +kernel)) ggX3_goodAt_X3_place
theorem dX3_goodAt_0 : decode cX3_goodAt 0 = .ok (.aload_n 0, 1) := by decide +kernel
theorem dX3_goodAt_1 : decode cX3_goodAt 1 = .ok (.getfield 15, 3) := by decide +kernel
theorem dX3_goodAt_4 : decode cX3_goodAt 4 = .ok (.iload_n 1, 1) := by decide +kernel
theorem dX3_goodAt_5 : decode cX3_goodAt 5 = .ok (.iload_n 2, 1) := by decide +kernel
theorem dX3_goodAt_6 : decode cX3_goodAt 6 = .ok (.invokestatic 38, 3) := by decide +kernel
theorem dX3_goodAt_9 : decode cX3_goodAt 9 = .ok (.iaload, 1) := by decide +kernel
theorem dX3_goodAt_10 : decode cX3_goodAt 10 = .ok (.ireturn, 1) := by decide +kernel
set_option maxRecDepth 20000 in
theorem ggX3_roundedUp_X3_place : GoodIn wsX3_roundedUp wsX3_place := goodIn_r _ [6] (by decide +kernel) (by decide +kernel)
set_option maxRecDepth 20000 in
theorem gX3_roundedUp_X3_place : GoodIn wsX3_roundedUp (va_wsS RX3 38 yX3_place wsX3_place) := goodIn_app (goodIn_of _ (by decide +kernel)) ggX3_roundedUp_X3_place
set_option maxRecDepth 20000 in
theorem ggX3_roundedUp_X6_ceilOf : GoodIn wsX3_roundedUp wsX6_ceilOf := goodIn_r _ [9, 10, 11, 8, 12] (by decide +kernel) (by decide +kernel)
set_option maxRecDepth 20000 in
theorem gX3_roundedUp_X6_ceilOf_n44 : GoodIn wsX3_roundedUp (wsX6_ceilOf) := ggX3_roundedUp_X6_ceilOf
theorem dX3_roundedUp_0 : decode cX3_roundedUp 0 = .ok (.iload_n 1, 1) := by decide +kernel
theorem dX3_roundedUp_1 : decode cX3_roundedUp 1 = .ok (.iload_n 2, 1) := by decide +kernel
theorem dX3_roundedUp_2 : decode cX3_roundedUp 2 = .ok (.invokestatic 38, 3) := by decide +kernel
theorem dX3_roundedUp_5 : decode cX3_roundedUp 5 = .ok (.istore 4, 2) := by decide +kernel
theorem dX3_roundedUp_7 : decode cX3_roundedUp 7 = .ok (.iload_n 3, 1) := by decide +kernel
theorem dX3_roundedUp_8 : decode cX3_roundedUp 8 = .ok (.i2l, 1) := by decide +kernel
theorem dX3_roundedUp_9 : decode cX3_roundedUp 9 = .ok (.aload_n 0, 1) := by decide +kernel
theorem dX3_roundedUp_10 : decode cX3_roundedUp 10 = .ok (.getfield 18, 3) := by decide +kernel
theorem dX3_roundedUp_13 : decode cX3_roundedUp 13 = .ok (.iload 4, 2) := by decide +kernel
theorem dX3_roundedUp_15 : decode cX3_roundedUp 15 = .ok (.iaload, 1) := by decide +kernel
theorem dX3_roundedUp_16 : decode cX3_roundedUp 16 = .ok (.i2l, 1) := by decide +kernel
theorem dX3_roundedUp_17 : decode cX3_roundedUp 17 = .ok (.lmul, 1) := by decide +kernel
theorem dX3_roundedUp_18 : decode cX3_roundedUp 18 = .ok (.aload_n 0, 1) := by decide +kernel
theorem dX3_roundedUp_19 : decode cX3_roundedUp 19 = .ok (.getfield 21, 3) := by decide +kernel
theorem dX3_roundedUp_22 : decode cX3_roundedUp 22 = .ok (.iload 4, 2) := by decide +kernel
theorem dX3_roundedUp_24 : decode cX3_roundedUp 24 = .ok (.iaload, 1) := by decide +kernel
theorem dX3_roundedUp_25 : decode cX3_roundedUp 25 = .ok (.i2l, 1) := by decide +kernel
theorem dX3_roundedUp_26 : decode cX3_roundedUp 26 = .ok (.invokestatic 44, 3) := by decide +kernel
theorem dX3_roundedUp_29 : decode cX3_roundedUp 29 = .ok (.lreturn, 1) := by decide +kernel
set_option maxRecDepth 20000 in
theorem ggX3_roundedDown_X3_place : GoodIn wsX3_roundedDown wsX3_place := goodIn_r _ [6] (by decide +kernel) (by decide +kernel)
set_option maxRecDepth 20000 in
theorem gX3_roundedDown_X3_place : GoodIn wsX3_roundedDown (va_wsS RX3 38 yX3_place wsX3_place) := goodIn_app (goodIn_of _ (by decide +kernel)) ggX3_roundedDown_X3_place
set_option maxRecDepth 20000 in
theorem ggX3_roundedDown_X6_floorOf : GoodIn wsX3_roundedDown wsX6_floorOf := goodIn_r _ [9] (by decide +kernel) (by decide +kernel)
set_option maxRecDepth 20000 in
theorem gX3_roundedDown_X6_floorOf_n48 : GoodIn wsX3_roundedDown (wsX6_floorOf) := ggX3_roundedDown_X6_floorOf
theorem dX3_roundedDown_0 : decode cX3_roundedDown 0 = .ok (.iload_n 1, 1) := by decide +kernel
theorem dX3_roundedDown_1 : decode cX3_roundedDown 1 = .ok (.iload_n 2, 1) := by decide +kernel
theorem dX3_roundedDown_2 : decode cX3_roundedDown 2 = .ok (.invokestatic 38, 3) := by decide +kernel
theorem dX3_roundedDown_5 : decode cX3_roundedDown 5 = .ok (.istore 4, 2) := by decide +kernel
theorem dX3_roundedDown_7 : decode cX3_roundedDown 7 = .ok (.iload_n 3, 1) := by decide +kernel
theorem dX3_roundedDown_8 : decode cX3_roundedDown 8 = .ok (.i2l, 1) := by decide +kernel
theorem dX3_roundedDown_9 : decode cX3_roundedDown 9 = .ok (.aload_n 0, 1) := by decide +kernel
theorem dX3_roundedDown_10 : decode cX3_roundedDown 10 = .ok (.getfield 18, 3) := by decide +kernel
theorem dX3_roundedDown_13 : decode cX3_roundedDown 13 = .ok (.iload 4, 2) := by decide +kernel
theorem dX3_roundedDown_15 : decode cX3_roundedDown 15 = .ok (.iaload, 1) := by decide +kernel
theorem dX3_roundedDown_16 : decode cX3_roundedDown 16 = .ok (.i2l, 1) := by decide +kernel
theorem dX3_roundedDown_17 : decode cX3_roundedDown 17 = .ok (.lmul, 1) := by decide +kernel
theorem dX3_roundedDown_18 : decode cX3_roundedDown 18 = .ok (.aload_n 0, 1) := by decide +kernel
theorem dX3_roundedDown_19 : decode cX3_roundedDown 19 = .ok (.getfield 21, 3) := by decide +kernel
theorem dX3_roundedDown_22 : decode cX3_roundedDown 22 = .ok (.iload 4, 2) := by decide +kernel
theorem dX3_roundedDown_24 : decode cX3_roundedDown 24 = .ok (.iaload, 1) := by decide +kernel
theorem dX3_roundedDown_25 : decode cX3_roundedDown 25 = .ok (.i2l, 1) := by decide +kernel
theorem dX3_roundedDown_26 : decode cX3_roundedDown 26 = .ok (.invokestatic 48, 3) := by decide +kernel
theorem dX3_roundedDown_29 : decode cX3_roundedDown 29 = .ok (.lreturn, 1) := by decide +kernel
theorem dX3_place_0 : decode cX3_place 0 = .ok (.iload_n 0, 1) := by decide +kernel
theorem dX3_place_1 : decode cX3_place 1 = .ok (.iconst 4, 1) := by decide +kernel
theorem dX3_place_2 : decode cX3_place 2 = .ok (.imul, 1) := by decide +kernel
theorem dX3_place_3 : decode cX3_place 3 = .ok (.iload_n 1, 1) := by decide +kernel
theorem dX3_place_4 : decode cX3_place 4 = .ok (.iadd, 1) := by decide +kernel
theorem dX3_place_5 : decode cX3_place 5 = .ok (.ireturn, 1) := by decide +kernel
theorem dX4_init_0 : decode cX4_init 0 = .ok (.aload_n 0, 1) := by decide +kernel
theorem dX4_init_1 : decode cX4_init 1 = .ok (.invokespecial 3, 3) := by decide +kernel
theorem dX4_init_4 : decode cX4_init 4 = .ok (.aload_n 0, 1) := by decide +kernel
theorem dX4_init_5 : decode cX4_init 5 = .ok (.bipush 40, 2) := by decide +kernel
theorem dX4_init_7 : decode cX4_init 7 = .ok (.newarray .int, 2) := by decide +kernel
theorem dX4_init_9 : decode cX4_init 9 = .ok (.putfield 9, 3) := by decide +kernel
theorem dX4_init_12 : decode cX4_init 12 = .ok (.aload_n 0, 1) := by decide +kernel
theorem dX4_init_13 : decode cX4_init 13 = .ok (.bipush 40, 2) := by decide +kernel
theorem dX4_init_15 : decode cX4_init 15 = .ok (.newarray .long, 2) := by decide +kernel
theorem dX4_init_17 : decode cX4_init 17 = .ok (.putfield 15, 3) := by decide +kernel
theorem dX4_init_20 : decode cX4_init 20 = .ok (.aload_n 0, 1) := by decide +kernel
theorem dX4_init_21 : decode cX4_init 21 = .ok (.bipush 40, 2) := by decide +kernel
theorem dX4_init_23 : decode cX4_init 23 = .ok (.newarray .int, 2) := by decide +kernel
theorem dX4_init_25 : decode cX4_init 25 = .ok (.putfield 19, 3) := by decide +kernel
theorem dX4_init_28 : decode cX4_init 28 = .ok (.return_, 1) := by decide +kernel
theorem dX4_add_0 : decode cX4_add 0 = .ok (.aload_n 0, 1) := by decide +kernel
theorem dX4_add_1 : decode cX4_add 1 = .ok (.getfield 22, 3) := by decide +kernel
theorem dX4_add_4 : decode cX4_add 4 = .ok (.bipush 40, 2) := by decide +kernel
theorem dX4_add_6 : decode cX4_add 6 = .ok (.if_icmp .ge 44, 3) := by decide +kernel
theorem dX4_add_9 : decode cX4_add 9 = .ok (.aload_n 0, 1) := by decide +kernel
theorem dX4_add_10 : decode cX4_add 10 = .ok (.getfield 9, 3) := by decide +kernel
theorem dX4_add_13 : decode cX4_add 13 = .ok (.aload_n 0, 1) := by decide +kernel
theorem dX4_add_14 : decode cX4_add 14 = .ok (.getfield 22, 3) := by decide +kernel
theorem dX4_add_17 : decode cX4_add 17 = .ok (.iload_n 1, 1) := by decide +kernel
theorem dX4_add_18 : decode cX4_add 18 = .ok (.iastore, 1) := by decide +kernel
theorem dX4_add_19 : decode cX4_add 19 = .ok (.aload_n 0, 1) := by decide +kernel
theorem dX4_add_20 : decode cX4_add 20 = .ok (.getfield 15, 3) := by decide +kernel
theorem dX4_add_23 : decode cX4_add 23 = .ok (.aload_n 0, 1) := by decide +kernel
theorem dX4_add_24 : decode cX4_add 24 = .ok (.getfield 22, 3) := by decide +kernel
theorem dX4_add_27 : decode cX4_add 27 = .ok (.iload_n 2, 1) := by decide +kernel
theorem dX4_add_28 : decode cX4_add 28 = .ok (.i2l, 1) := by decide +kernel
theorem dX4_add_29 : decode cX4_add 29 = .ok (.lastore, 1) := by decide +kernel
theorem dX4_add_30 : decode cX4_add 30 = .ok (.aload_n 0, 1) := by decide +kernel
theorem dX4_add_31 : decode cX4_add 31 = .ok (.getfield 19, 3) := by decide +kernel
theorem dX4_add_34 : decode cX4_add 34 = .ok (.aload_n 0, 1) := by decide +kernel
theorem dX4_add_35 : decode cX4_add 35 = .ok (.getfield 22, 3) := by decide +kernel
theorem dX4_add_38 : decode cX4_add 38 = .ok (.iload_n 3, 1) := by decide +kernel
theorem dX4_add_39 : decode cX4_add 39 = .ok (.iastore, 1) := by decide +kernel
theorem dX4_add_40 : decode cX4_add 40 = .ok (.aload_n 0, 1) := by decide +kernel
theorem dX4_add_41 : decode cX4_add 41 = .ok (.dup, 1) := by decide +kernel
theorem dX4_add_42 : decode cX4_add 42 = .ok (.getfield 22, 3) := by decide +kernel
theorem dX4_add_45 : decode cX4_add 45 = .ok (.iconst 1, 1) := by decide +kernel
theorem dX4_add_46 : decode cX4_add 46 = .ok (.iadd, 1) := by decide +kernel
theorem dX4_add_47 : decode cX4_add 47 = .ok (.putfield 22, 3) := by decide +kernel
theorem dX4_add_50 : decode cX4_add 50 = .ok (.return_, 1) := by decide +kernel
theorem dX4_isOpen_0 : decode cX4_isOpen 0 = .ok (.aload_n 0, 1) := by decide +kernel
theorem dX4_isOpen_1 : decode cX4_isOpen 1 = .ok (.getfield 9, 3) := by decide +kernel
theorem dX4_isOpen_4 : decode cX4_isOpen 4 = .ok (.iload_n 1, 1) := by decide +kernel
theorem dX4_isOpen_5 : decode cX4_isOpen 5 = .ok (.iaload, 1) := by decide +kernel
theorem dX4_isOpen_6 : decode cX4_isOpen 6 = .ok (.iload_n 2, 1) := by decide +kernel
theorem dX4_isOpen_7 : decode cX4_isOpen 7 = .ok (.if_icmp .ne 28, 3) := by decide +kernel
theorem dX4_isOpen_10 : decode cX4_isOpen 10 = .ok (.aload_n 0, 1) := by decide +kernel
theorem dX4_isOpen_11 : decode cX4_isOpen 11 = .ok (.getfield 15, 3) := by decide +kernel
theorem dX4_isOpen_14 : decode cX4_isOpen 14 = .ok (.iload_n 1, 1) := by decide +kernel
theorem dX4_isOpen_15 : decode cX4_isOpen 15 = .ok (.laload, 1) := by decide +kernel
theorem dX4_isOpen_16 : decode cX4_isOpen 16 = .ok (.lconst 0, 1) := by decide +kernel
theorem dX4_isOpen_17 : decode cX4_isOpen 17 = .ok (.lcmp, 1) := by decide +kernel
theorem dX4_isOpen_18 : decode cX4_isOpen 18 = .ok (.ifCond .le 17, 3) := by decide +kernel
theorem dX4_isOpen_21 : decode cX4_isOpen 21 = .ok (.aload_n 0, 1) := by decide +kernel
theorem dX4_isOpen_22 : decode cX4_isOpen 22 = .ok (.getfield 19, 3) := by decide +kernel
theorem dX4_isOpen_25 : decode cX4_isOpen 25 = .ok (.iload_n 1, 1) := by decide +kernel
theorem dX4_isOpen_26 : decode cX4_isOpen 26 = .ok (.iaload, 1) := by decide +kernel
theorem dX4_isOpen_27 : decode cX4_isOpen 27 = .ok (.iload_n 3, 1) := by decide +kernel
theorem dX4_isOpen_28 : decode cX4_isOpen 28 = .ok (.if_icmp .lt 7, 3) := by decide +kernel
theorem dX4_isOpen_31 : decode cX4_isOpen 31 = .ok (.iconst 1, 1) := by decide +kernel
theorem dX4_isOpen_32 : decode cX4_isOpen 32 = .ok (.goto 4, 3) := by decide +kernel
theorem dX4_isOpen_35 : decode cX4_isOpen 35 = .ok (.iconst 0, 1) := by decide +kernel
theorem dX4_isOpen_36 : decode cX4_isOpen 36 = .ok (.ireturn, 1) := by decide +kernel
set_option maxRecDepth 20000 in
theorem ggX4_openOf_X4_isOpen : GoodIn wsX4_openOf wsX4_isOpen := goodIn_r _ [7, 8, 2, 9, 10, 11, 12, 13] (by decide +kernel) (by decide +kernel)
set_option maxRecDepth 20000 in
theorem gX4_openOf_X4_isOpen : GoodIn wsX4_openOf (wsV RX4 26 RX4 yX4_isOpen wsX4_isOpen) := goodIn_app (goodIn_of _ (by decide +kernel)) ggX4_openOf_X4_isOpen
theorem dX4_openOf_0 : decode cX4_openOf 0 = .ok (.lconst 0, 1) := by decide +kernel
theorem dX4_openOf_1 : decode cX4_openOf 1 = .ok (.lstore_n 3, 1) := by decide +kernel
theorem dX4_openOf_2 : decode cX4_openOf 2 = .ok (.iconst 0, 1) := by decide +kernel
theorem dX4_openOf_3 : decode cX4_openOf 3 = .ok (.istore 5, 2) := by decide +kernel
theorem dX4_openOf_5 : decode cX4_openOf 5 = .ok (.iload 5, 2) := by decide +kernel
theorem dX4_openOf_7 : decode cX4_openOf 7 = .ok (.aload_n 0, 1) := by decide +kernel
theorem dX4_openOf_8 : decode cX4_openOf 8 = .ok (.getfield 22, 3) := by decide +kernel
theorem dX4_openOf_11 : decode cX4_openOf 11 = .ok (.if_icmp .ge 34, 3) := by decide +kernel
theorem dX4_openOf_14 : decode cX4_openOf 14 = .ok (.lload_n 3, 1) := by decide +kernel
theorem dX4_openOf_15 : decode cX4_openOf 15 = .ok (.aload_n 0, 1) := by decide +kernel
theorem dX4_openOf_16 : decode cX4_openOf 16 = .ok (.iload 5, 2) := by decide +kernel
theorem dX4_openOf_18 : decode cX4_openOf 18 = .ok (.iload_n 1, 1) := by decide +kernel
theorem dX4_openOf_19 : decode cX4_openOf 19 = .ok (.iload_n 2, 1) := by decide +kernel
theorem dX4_openOf_20 : decode cX4_openOf 20 = .ok (.invokevirtual 26, 3) := by decide +kernel
theorem dX4_openOf_23 : decode cX4_openOf 23 = .ok (.ifCond .eq 13, 3) := by decide +kernel
theorem dX4_openOf_26 : decode cX4_openOf 26 = .ok (.aload_n 0, 1) := by decide +kernel
theorem dX4_openOf_27 : decode cX4_openOf 27 = .ok (.getfield 15, 3) := by decide +kernel
theorem dX4_openOf_30 : decode cX4_openOf 30 = .ok (.iload 5, 2) := by decide +kernel
theorem dX4_openOf_32 : decode cX4_openOf 32 = .ok (.laload, 1) := by decide +kernel
theorem dX4_openOf_33 : decode cX4_openOf 33 = .ok (.goto 4, 3) := by decide +kernel
theorem dX4_openOf_36 : decode cX4_openOf 36 = .ok (.lconst 0, 1) := by decide +kernel
theorem dX4_openOf_37 : decode cX4_openOf 37 = .ok (.ladd, 1) := by decide +kernel
theorem dX4_openOf_38 : decode cX4_openOf 38 = .ok (.lstore_n 3, 1) := by decide +kernel
theorem dX4_openOf_39 : decode cX4_openOf 39 = .ok (.iinc 5 1, 3) := by decide +kernel
theorem dX4_openOf_42 : decode cX4_openOf 42 = .ok (.goto (-37), 3) := by decide +kernel
theorem dX4_openOf_45 : decode cX4_openOf 45 = .ok (.lload_n 3, 1) := by decide +kernel
theorem dX4_openOf_46 : decode cX4_openOf 46 = .ok (.lreturn, 1) := by decide +kernel
set_option maxRecDepth 20000 in
theorem ggX4_meet_X6_isWithin : GoodIn wsX4_meet wsX6_isWithin := goodIn_r _ [12] (by decide +kernel) (by decide +kernel)
set_option maxRecDepth 20000 in
theorem gX4_meet_X6_isWithin_n33 : GoodIn wsX4_meet (wsX6_isWithin) := ggX4_meet_X6_isWithin
set_option maxRecDepth 20000 in
theorem ggX4_meet_X4_isOpen : GoodIn wsX4_meet wsX4_isOpen := goodIn_r _ [17, 18, 5, 19, 35, 36, 37, 38] (by decide +kernel) (by decide +kernel)
set_option maxRecDepth 20000 in
theorem gX4_meet_X4_isOpen : GoodIn wsX4_meet (wsV RX4 26 RX4 yX4_isOpen wsX4_isOpen) := goodIn_app (goodIn_of _ (by decide +kernel)) ggX4_meet_X4_isOpen
set_option maxRecDepth 20000 in
theorem ggX4_meet_X2_takeFrom : GoodIn wsX4_meet wsX2_takeFrom := goodIn_r _ [24, 25, 26, 27, 11, 28, 29, 30, 31, 32, 33, 34] (by decide +kernel) (by decide +kernel)
set_option maxRecDepth 20000 in
theorem gX4_meet_X2_takeFrom : GoodIn wsX4_meet (wsV RX4 44 RX2 yX2_takeFrom wsX2_takeFrom) := goodIn_app (goodIn_of _ (by decide +kernel)) ggX4_meet_X2_takeFrom
theorem dX4_meet_0 : decode cX4_meet 0 = .ok (.lconst 0, 1) := by decide +kernel
theorem dX4_meet_1 : decode cX4_meet 1 = .ok (.lstore 4, 2) := by decide +kernel
theorem dX4_meet_3 : decode cX4_meet 3 = .ok (.iload_n 2, 1) := by decide +kernel
theorem dX4_meet_4 : decode cX4_meet 4 = .ok (.iconst 0, 1) := by decide +kernel
theorem dX4_meet_5 : decode cX4_meet 5 = .ok (.aload_n 1, 1) := by decide +kernel
theorem dX4_meet_6 : decode cX4_meet 6 = .ok (.getfield 30, 3) := by decide +kernel
theorem dX4_meet_9 : decode cX4_meet 9 = .ok (.iconst 1, 1) := by decide +kernel
theorem dX4_meet_10 : decode cX4_meet 10 = .ok (.isub, 1) := by decide +kernel
theorem dX4_meet_11 : decode cX4_meet 11 = .ok (.invokestatic 33, 3) := by decide +kernel
theorem dX4_meet_14 : decode cX4_meet 14 = .ok (.ifCond .ne 6, 3) := by decide +kernel
theorem dX4_meet_17 : decode cX4_meet 17 = .ok (.lload 4, 2) := by decide +kernel
theorem dX4_meet_19 : decode cX4_meet 19 = .ok (.lreturn, 1) := by decide +kernel
theorem dX4_meet_20 : decode cX4_meet 20 = .ok (.iconst 0, 1) := by decide +kernel
theorem dX4_meet_21 : decode cX4_meet 21 = .ok (.istore 6, 2) := by decide +kernel
theorem dX4_meet_23 : decode cX4_meet 23 = .ok (.iload 6, 2) := by decide +kernel
theorem dX4_meet_25 : decode cX4_meet 25 = .ok (.aload_n 0, 1) := by decide +kernel
theorem dX4_meet_26 : decode cX4_meet 26 = .ok (.getfield 22, 3) := by decide +kernel
theorem dX4_meet_29 : decode cX4_meet 29 = .ok (.if_icmp .ge 78, 3) := by decide +kernel
theorem dX4_meet_32 : decode cX4_meet 32 = .ok (.aload_n 1, 1) := by decide +kernel
theorem dX4_meet_33 : decode cX4_meet 33 = .ok (.getfield 36, 3) := by decide +kernel
theorem dX4_meet_36 : decode cX4_meet 36 = .ok (.iload_n 2, 1) := by decide +kernel
theorem dX4_meet_37 : decode cX4_meet 37 = .ok (.laload, 1) := by decide +kernel
theorem dX4_meet_38 : decode cX4_meet 38 = .ok (.lconst 0, 1) := by decide +kernel
theorem dX4_meet_39 : decode cX4_meet 39 = .ok (.lcmp, 1) := by decide +kernel
theorem dX4_meet_40 : decode cX4_meet 40 = .ok (.ifCond .le 67, 3) := by decide +kernel
theorem dX4_meet_43 : decode cX4_meet 43 = .ok (.aload_n 0, 1) := by decide +kernel
theorem dX4_meet_44 : decode cX4_meet 44 = .ok (.iload 6, 2) := by decide +kernel
theorem dX4_meet_46 : decode cX4_meet 46 = .ok (.aload_n 1, 1) := by decide +kernel
theorem dX4_meet_47 : decode cX4_meet 47 = .ok (.getfield 37, 3) := by decide +kernel
theorem dX4_meet_50 : decode cX4_meet 50 = .ok (.iload_n 2, 1) := by decide +kernel
theorem dX4_meet_51 : decode cX4_meet 51 = .ok (.iaload, 1) := by decide +kernel
theorem dX4_meet_52 : decode cX4_meet 52 = .ok (.iload_n 3, 1) := by decide +kernel
theorem dX4_meet_53 : decode cX4_meet 53 = .ok (.invokevirtual 26, 3) := by decide +kernel
theorem dX4_meet_56 : decode cX4_meet 56 = .ok (.ifCond .eq 45, 3) := by decide +kernel
theorem dX4_meet_59 : decode cX4_meet 59 = .ok (.aload_n 0, 1) := by decide +kernel
theorem dX4_meet_60 : decode cX4_meet 60 = .ok (.getfield 15, 3) := by decide +kernel
theorem dX4_meet_63 : decode cX4_meet 63 = .ok (.iload 6, 2) := by decide +kernel
theorem dX4_meet_65 : decode cX4_meet 65 = .ok (.laload, 1) := by decide +kernel
theorem dX4_meet_66 : decode cX4_meet 66 = .ok (.aload_n 1, 1) := by decide +kernel
theorem dX4_meet_67 : decode cX4_meet 67 = .ok (.getfield 36, 3) := by decide +kernel
theorem dX4_meet_70 : decode cX4_meet 70 = .ok (.iload_n 2, 1) := by decide +kernel
theorem dX4_meet_71 : decode cX4_meet 71 = .ok (.laload, 1) := by decide +kernel
theorem dX4_meet_72 : decode cX4_meet 72 = .ok (.invokestatic 38, 3) := by decide +kernel
theorem dX4_meet_75 : decode cX4_meet 75 = .ok (.lstore 7, 2) := by decide +kernel
theorem dX4_meet_77 : decode cX4_meet 77 = .ok (.lload 4, 2) := by decide +kernel
theorem dX4_meet_79 : decode cX4_meet 79 = .ok (.aload_n 1, 1) := by decide +kernel
theorem dX4_meet_80 : decode cX4_meet 80 = .ok (.iload_n 2, 1) := by decide +kernel
theorem dX4_meet_81 : decode cX4_meet 81 = .ok (.lload 7, 2) := by decide +kernel
theorem dX4_meet_83 : decode cX4_meet 83 = .ok (.invokevirtual 44, 3) := by decide +kernel
theorem dX4_meet_86 : decode cX4_meet 86 = .ok (.ladd, 1) := by decide +kernel
theorem dX4_meet_87 : decode cX4_meet 87 = .ok (.lstore 4, 2) := by decide +kernel
theorem dX4_meet_89 : decode cX4_meet 89 = .ok (.aload_n 0, 1) := by decide +kernel
theorem dX4_meet_90 : decode cX4_meet 90 = .ok (.getfield 15, 3) := by decide +kernel
theorem dX4_meet_93 : decode cX4_meet 93 = .ok (.iload 6, 2) := by decide +kernel
theorem dX4_meet_95 : decode cX4_meet 95 = .ok (.dup2, 1) := by decide +kernel
theorem dX4_meet_96 : decode cX4_meet 96 = .ok (.laload, 1) := by decide +kernel
theorem dX4_meet_97 : decode cX4_meet 97 = .ok (.lload 7, 2) := by decide +kernel
theorem dX4_meet_99 : decode cX4_meet 99 = .ok (.lsub, 1) := by decide +kernel
theorem dX4_meet_100 : decode cX4_meet 100 = .ok (.lastore, 1) := by decide +kernel
theorem dX4_meet_101 : decode cX4_meet 101 = .ok (.iinc 6 1, 3) := by decide +kernel
theorem dX4_meet_104 : decode cX4_meet 104 = .ok (.goto (-81), 3) := by decide +kernel
theorem dX4_meet_107 : decode cX4_meet 107 = .ok (.lload 4, 2) := by decide +kernel
theorem dX4_meet_109 : decode cX4_meet 109 = .ok (.lreturn, 1) := by decide +kernel
set_option maxRecDepth 20000 in
theorem ggX5_init_X3_init : GoodIn wsX5_init wsX3_init := goodIn_r _ [15, 16, 2, 3, 11, 17, 18, 19, 20, 21, 22, 23, 24, 25, 31, 32, 33, 34, 35] (by decide +kernel) (by decide +kernel)
set_option maxRecDepth 20000 in
theorem gX5_init_X3_init : GoodIn wsX5_init (wsX3_init) := ggX5_init_X3_init
theorem dX5_init_0 : decode cX5_init 0 = .ok (.aload_n 0, 1) := by decide +kernel
theorem dX5_init_1 : decode cX5_init 1 = .ok (.invokespecial 3, 3) := by decide +kernel
theorem dX5_init_4 : decode cX5_init 4 = .ok (.aload_n 0, 1) := by decide +kernel
theorem dX5_init_5 : decode cX5_init 5 = .ok (.bipush 12, 2) := by decide +kernel
theorem dX5_init_7 : decode cX5_init 7 = .ok (.newarray .boolean, 2) := by decide +kernel
theorem dX5_init_9 : decode cX5_init 9 = .ok (.putfield 9, 3) := by decide +kernel
theorem dX5_init_12 : decode cX5_init 12 = .ok (.aload_n 0, 1) := by decide +kernel
theorem dX5_init_13 : decode cX5_init 13 = .ok (.new 15, 3) := by decide +kernel
theorem dX5_init_16 : decode cX5_init 16 = .ok (.dup, 1) := by decide +kernel
theorem dX5_init_17 : decode cX5_init 17 = .ok (.iconst 4, 1) := by decide +kernel
theorem dX5_init_18 : decode cX5_init 18 = .ok (.invokespecial 17, 3) := by decide +kernel
theorem dX5_init_21 : decode cX5_init 21 = .ok (.putfield 20, 3) := by decide +kernel
theorem dX5_init_24 : decode cX5_init 24 = .ok (.aload_n 0, 1) := by decide +kernel
theorem dX5_init_25 : decode cX5_init 25 = .ok (.new 15, 3) := by decide +kernel
theorem dX5_init_28 : decode cX5_init 28 = .ok (.dup, 1) := by decide +kernel
theorem dX5_init_29 : decode cX5_init 29 = .ok (.iconst 2, 1) := by decide +kernel
theorem dX5_init_30 : decode cX5_init 30 = .ok (.invokespecial 17, 3) := by decide +kernel
theorem dX5_init_33 : decode cX5_init 33 = .ok (.putfield 24, 3) := by decide +kernel
theorem dX5_init_36 : decode cX5_init 36 = .ok (.aload_n 0, 1) := by decide +kernel
theorem dX5_init_37 : decode cX5_init 37 = .ok (.bipush 12, 2) := by decide +kernel
theorem dX5_init_39 : decode cX5_init 39 = .ok (.newarray .int, 2) := by decide +kernel
theorem dX5_init_41 : decode cX5_init 41 = .ok (.putfield 27, 3) := by decide +kernel
theorem dX5_init_44 : decode cX5_init 44 = .ok (.return_, 1) := by decide +kernel
set_option maxRecDepth 20000 in
theorem ggX5_addNeed_X3_add : GoodIn wsX5_addNeed wsX3_add := goodIn_r _ [7, 8, 9, 10, 11, 12, 13, 14, 15, 6, 16, 17, 18, 19, 20, 21, 22, 23, 49, 50, 51, 52, 53] (by decide +kernel) (by decide +kernel)
set_option maxRecDepth 20000 in
theorem gX5_addNeed_X3_add : GoodIn wsX5_addNeed (wsV RX5 31 RX3 yX3_add wsX3_add) := goodIn_app (goodIn_of _ (by decide +kernel)) ggX5_addNeed_X3_add
set_option maxRecDepth 20000 in
theorem ggX5_addNeed_X5_measureDepths : GoodIn wsX5_addNeed wsX5_measureDepths := goodIn_r _ [28, 29, 30, 31, 32, 33, 34, 35, 36, 27, 37, 2, 38, 39, 18, 19, 6, 20, 10, 21, 22, 23, 44, 45, 46, 47, 48, 49, 50, 51, 52, 53] (by decide +kernel) (by decide +kernel)
set_option maxRecDepth 20000 in
theorem gX5_addNeed_X5_measureDepths : GoodIn wsX5_addNeed (wsV RX5 35 RX5 yX5_measureDepths wsX5_measureDepths) := goodIn_app (goodIn_of _ (by decide +kernel)) ggX5_addNeed_X5_measureDepths
set_option maxRecDepth 20000 in
theorem ggX5_addNeed_X3_dropLast : GoodIn wsX5_addNeed wsX3_dropLast := goodIn_r _ [43, 8, 49, 50, 51, 52, 53] (by decide +kernel) (by decide +kernel)
set_option maxRecDepth 20000 in
theorem gX5_addNeed_X3_dropLast : GoodIn wsX5_addNeed (wsV RX5 39 RX3 yX3_dropLast wsX3_dropLast) := goodIn_app (goodIn_of _ (by decide +kernel)) ggX5_addNeed_X3_dropLast
theorem dX5_addNeed_0 : decode cX5_addNeed 0 = .ok (.aload_n 0, 1) := by decide +kernel
theorem dX5_addNeed_1 : decode cX5_addNeed 1 = .ok (.getfield 9, 3) := by decide +kernel
theorem dX5_addNeed_4 : decode cX5_addNeed 4 = .ok (.iload_n 1, 1) := by decide +kernel
theorem dX5_addNeed_5 : decode cX5_addNeed 5 = .ok (.baload, 1) := by decide +kernel
theorem dX5_addNeed_6 : decode cX5_addNeed 6 = .ok (.ifCond .eq 18, 3) := by decide +kernel
theorem dX5_addNeed_9 : decode cX5_addNeed 9 = .ok (.aload_n 0, 1) := by decide +kernel
theorem dX5_addNeed_10 : decode cX5_addNeed 10 = .ok (.getfield 20, 3) := by decide +kernel
theorem dX5_addNeed_13 : decode cX5_addNeed 13 = .ok (.iload_n 1, 1) := by decide +kernel
theorem dX5_addNeed_14 : decode cX5_addNeed 14 = .ok (.iload_n 2, 1) := by decide +kernel
theorem dX5_addNeed_15 : decode cX5_addNeed 15 = .ok (.iload_n 3, 1) := by decide +kernel
theorem dX5_addNeed_16 : decode cX5_addNeed 16 = .ok (.iload 4, 2) := by decide +kernel
theorem dX5_addNeed_18 : decode cX5_addNeed 18 = .ok (.invokevirtual 31, 3) := by decide +kernel
theorem dX5_addNeed_21 : decode cX5_addNeed 21 = .ok (.ifCond .ne 5, 3) := by decide +kernel
theorem dX5_addNeed_24 : decode cX5_addNeed 24 = .ok (.iconst 0, 1) := by decide +kernel
theorem dX5_addNeed_25 : decode cX5_addNeed 25 = .ok (.ireturn, 1) := by decide +kernel
theorem dX5_addNeed_26 : decode cX5_addNeed 26 = .ok (.aload_n 0, 1) := by decide +kernel
theorem dX5_addNeed_27 : decode cX5_addNeed 27 = .ok (.invokevirtual 35, 3) := by decide +kernel
theorem dX5_addNeed_30 : decode cX5_addNeed 30 = .ok (.iconst 3, 1) := by decide +kernel
theorem dX5_addNeed_31 : decode cX5_addNeed 31 = .ok (.if_icmp .le 18, 3) := by decide +kernel
theorem dX5_addNeed_34 : decode cX5_addNeed 34 = .ok (.aload_n 0, 1) := by decide +kernel
theorem dX5_addNeed_35 : decode cX5_addNeed 35 = .ok (.getfield 20, 3) := by decide +kernel
theorem dX5_addNeed_38 : decode cX5_addNeed 38 = .ok (.iload_n 1, 1) := by decide +kernel
theorem dX5_addNeed_39 : decode cX5_addNeed 39 = .ok (.invokevirtual 39, 3) := by decide +kernel
theorem dX5_addNeed_42 : decode cX5_addNeed 42 = .ok (.aload_n 0, 1) := by decide +kernel
theorem dX5_addNeed_43 : decode cX5_addNeed 43 = .ok (.invokevirtual 35, 3) := by decide +kernel
theorem dX5_addNeed_46 : decode cX5_addNeed 46 = .ok (.pop, 1) := by decide +kernel
theorem dX5_addNeed_47 : decode cX5_addNeed 47 = .ok (.iconst 0, 1) := by decide +kernel
theorem dX5_addNeed_48 : decode cX5_addNeed 48 = .ok (.ireturn, 1) := by decide +kernel
theorem dX5_addNeed_49 : decode cX5_addNeed 49 = .ok (.iconst 1, 1) := by decide +kernel
theorem dX5_addNeed_50 : decode cX5_addNeed 50 = .ok (.ireturn, 1) := by decide +kernel
set_option maxRecDepth 20000 in
theorem ggX5_addByProduct_X3_add : GoodIn wsX5_addByProduct wsX3_add := goodIn_r _ [7, 8, 9, 10, 11, 12, 13, 14, 15, 6, 16, 17, 18, 19, 20, 21, 22, 23, 29, 30, 31, 32, 33] (by decide +kernel) (by decide +kernel)
set_option maxRecDepth 20000 in
theorem gX5_addByProduct_X3_add : GoodIn wsX5_addByProduct (wsV RX5 31 RX3 yX3_add wsX3_add) := goodIn_app (goodIn_of _ (by decide +kernel)) ggX5_addByProduct_X3_add
theorem dX5_addByProduct_0 : decode cX5_addByProduct 0 = .ok (.aload_n 0, 1) := by decide +kernel
theorem dX5_addByProduct_1 : decode cX5_addByProduct 1 = .ok (.getfield 9, 3) := by decide +kernel
theorem dX5_addByProduct_4 : decode cX5_addByProduct 4 = .ok (.iload_n 1, 1) := by decide +kernel
theorem dX5_addByProduct_5 : decode cX5_addByProduct 5 = .ok (.baload, 1) := by decide +kernel
theorem dX5_addByProduct_6 : decode cX5_addByProduct 6 = .ok (.ifCond .eq 22, 3) := by decide +kernel
theorem dX5_addByProduct_9 : decode cX5_addByProduct 9 = .ok (.aload_n 0, 1) := by decide +kernel
theorem dX5_addByProduct_10 : decode cX5_addByProduct 10 = .ok (.getfield 24, 3) := by decide +kernel
theorem dX5_addByProduct_13 : decode cX5_addByProduct 13 = .ok (.iload_n 1, 1) := by decide +kernel
theorem dX5_addByProduct_14 : decode cX5_addByProduct 14 = .ok (.iload_n 2, 1) := by decide +kernel
theorem dX5_addByProduct_15 : decode cX5_addByProduct 15 = .ok (.iload_n 3, 1) := by decide +kernel
theorem dX5_addByProduct_16 : decode cX5_addByProduct 16 = .ok (.iload 4, 2) := by decide +kernel
theorem dX5_addByProduct_18 : decode cX5_addByProduct 18 = .ok (.invokevirtual 31, 3) := by decide +kernel
theorem dX5_addByProduct_21 : decode cX5_addByProduct 21 = .ok (.ifCond .eq 7, 3) := by decide +kernel
theorem dX5_addByProduct_24 : decode cX5_addByProduct 24 = .ok (.iconst 1, 1) := by decide +kernel
theorem dX5_addByProduct_25 : decode cX5_addByProduct 25 = .ok (.goto 4, 3) := by decide +kernel
theorem dX5_addByProduct_28 : decode cX5_addByProduct 28 = .ok (.iconst 0, 1) := by decide +kernel
theorem dX5_addByProduct_29 : decode cX5_addByProduct 29 = .ok (.ireturn, 1) := by decide +kernel
set_option maxRecDepth 20000 in
theorem ggX5_measureDepths_X5_depthByNeeds : GoodIn wsX5_measureDepths wsX5_depthByNeeds := goodIn_r _ [10, 11, 12, 1, 2, 3, 4, 5, 13, 14, 15, 16, 17, 18, 19, 20, 21, 22, 23, 24, 25, 26, 27, 28, 29, 30, 31] (by decide +kernel) (by decide +kernel)
set_option maxRecDepth 20000 in
theorem gX5_measureDepths_X5_depthByNeeds : GoodIn wsX5_measureDepths (wsV RX5 42 RX5 yX5_depthByNeeds wsX5_depthByNeeds) := goodIn_app (goodIn_of _ (by decide +kernel)) ggX5_measureDepths_X5_depthByNeeds
theorem dX5_measureDepths_0 : decode cX5_measureDepths 0 = .ok (.iconst 0, 1) := by decide +kernel
theorem dX5_measureDepths_1 : decode cX5_measureDepths 1 = .ok (.istore_n 1, 1) := by decide +kernel
theorem dX5_measureDepths_2 : decode cX5_measureDepths 2 = .ok (.iconst 0, 1) := by decide +kernel
theorem dX5_measureDepths_3 : decode cX5_measureDepths 3 = .ok (.istore_n 2, 1) := by decide +kernel
theorem dX5_measureDepths_4 : decode cX5_measureDepths 4 = .ok (.iload_n 2, 1) := by decide +kernel
theorem dX5_measureDepths_5 : decode cX5_measureDepths 5 = .ok (.bipush 12, 2) := by decide +kernel
theorem dX5_measureDepths_7 : decode cX5_measureDepths 7 = .ok (.if_icmp .ge 16, 3) := by decide +kernel
theorem dX5_measureDepths_10 : decode cX5_measureDepths 10 = .ok (.aload_n 0, 1) := by decide +kernel
theorem dX5_measureDepths_11 : decode cX5_measureDepths 11 = .ok (.getfield 27, 3) := by decide +kernel
theorem dX5_measureDepths_14 : decode cX5_measureDepths 14 = .ok (.iload_n 2, 1) := by decide +kernel
theorem dX5_measureDepths_15 : decode cX5_measureDepths 15 = .ok (.iconst 0, 1) := by decide +kernel
theorem dX5_measureDepths_16 : decode cX5_measureDepths 16 = .ok (.iastore, 1) := by decide +kernel
theorem dX5_measureDepths_17 : decode cX5_measureDepths 17 = .ok (.iinc 2 1, 3) := by decide +kernel
theorem dX5_measureDepths_20 : decode cX5_measureDepths 20 = .ok (.goto (-16), 3) := by decide +kernel
theorem dX5_measureDepths_23 : decode cX5_measureDepths 23 = .ok (.iconst 0, 1) := by decide +kernel
theorem dX5_measureDepths_24 : decode cX5_measureDepths 24 = .ok (.istore_n 2, 1) := by decide +kernel
theorem dX5_measureDepths_25 : decode cX5_measureDepths 25 = .ok (.iload_n 2, 1) := by decide +kernel
theorem dX5_measureDepths_26 : decode cX5_measureDepths 26 = .ok (.iconst 3, 1) := by decide +kernel
theorem dX5_measureDepths_27 : decode cX5_measureDepths 27 = .ok (.if_icmp .gt 45, 3) := by decide +kernel
theorem dX5_measureDepths_30 : decode cX5_measureDepths 30 = .ok (.iconst 0, 1) := by decide +kernel
theorem dX5_measureDepths_31 : decode cX5_measureDepths 31 = .ok (.istore_n 3, 1) := by decide +kernel
theorem dX5_measureDepths_32 : decode cX5_measureDepths 32 = .ok (.iload_n 3, 1) := by decide +kernel
theorem dX5_measureDepths_33 : decode cX5_measureDepths 33 = .ok (.bipush 12, 2) := by decide +kernel
theorem dX5_measureDepths_35 : decode cX5_measureDepths 35 = .ok (.if_icmp .ge 31, 3) := by decide +kernel
theorem dX5_measureDepths_38 : decode cX5_measureDepths 38 = .ok (.aload_n 0, 1) := by decide +kernel
theorem dX5_measureDepths_39 : decode cX5_measureDepths 39 = .ok (.getfield 27, 3) := by decide +kernel
theorem dX5_measureDepths_42 : decode cX5_measureDepths 42 = .ok (.iload_n 3, 1) := by decide +kernel
theorem dX5_measureDepths_43 : decode cX5_measureDepths 43 = .ok (.aload_n 0, 1) := by decide +kernel
theorem dX5_measureDepths_44 : decode cX5_measureDepths 44 = .ok (.iload_n 3, 1) := by decide +kernel
theorem dX5_measureDepths_45 : decode cX5_measureDepths 45 = .ok (.invokevirtual 42, 3) := by decide +kernel
theorem dX5_measureDepths_48 : decode cX5_measureDepths 48 = .ok (.iastore, 1) := by decide +kernel
theorem dX5_measureDepths_49 : decode cX5_measureDepths 49 = .ok (.iload_n 1, 1) := by decide +kernel
theorem dX5_measureDepths_50 : decode cX5_measureDepths 50 = .ok (.aload_n 0, 1) := by decide +kernel
theorem dX5_measureDepths_51 : decode cX5_measureDepths 51 = .ok (.getfield 27, 3) := by decide +kernel
theorem dX5_measureDepths_54 : decode cX5_measureDepths 54 = .ok (.iload_n 3, 1) := by decide +kernel
theorem dX5_measureDepths_55 : decode cX5_measureDepths 55 = .ok (.iaload, 1) := by decide +kernel
theorem dX5_measureDepths_56 : decode cX5_measureDepths 56 = .ok (.invokestatic 46, 3) := by decide +kernel
theorem dX5_measureDepths_59 : decode cX5_measureDepths 59 = .ok (.istore_n 1, 1) := by decide +kernel
theorem dX5_measureDepths_60 : decode cX5_measureDepths 60 = .ok (.iinc 3 1, 3) := by decide +kernel
theorem dX5_measureDepths_63 : decode cX5_measureDepths 63 = .ok (.goto (-31), 3) := by decide +kernel
theorem dX5_measureDepths_66 : decode cX5_measureDepths 66 = .ok (.iinc 2 1, 3) := by decide +kernel
theorem dX5_measureDepths_69 : decode cX5_measureDepths 69 = .ok (.goto (-44), 3) := by decide +kernel
theorem dX5_measureDepths_72 : decode cX5_measureDepths 72 = .ok (.iload_n 1, 1) := by decide +kernel
theorem dX5_measureDepths_73 : decode cX5_measureDepths 73 = .ok (.ireturn, 1) := by decide +kernel
set_option maxRecDepth 20000 in
theorem ggX5_depthByNeeds_X3_goodAt : GoodIn wsX5_depthByNeeds wsX3_goodAt := goodIn_r _ [12, 13, 14, 15, 11, 16, 22, 23, 24, 25, 26] (by decide +kernel) (by decide +kernel)
set_option maxRecDepth 20000 in
theorem gX5_depthByNeeds_X3_goodAt : GoodIn wsX5_depthByNeeds (wsV RX5 55 RX3 yX3_goodAt wsX3_goodAt) := goodIn_app (goodIn_of _ (by decide +kernel)) ggX5_depthByNeeds_X3_goodAt
theorem dX5_depthByNeeds_0 : decode cX5_depthByNeeds 0 = .ok (.iconst 0, 1) := by decide +kernel
theorem dX5_depthByNeeds_1 : decode cX5_depthByNeeds 1 = .ok (.istore_n 2, 1) := by decide +kernel
theorem dX5_depthByNeeds_2 : decode cX5_depthByNeeds 2 = .ok (.iconst 0, 1) := by decide +kernel
theorem dX5_depthByNeeds_3 : decode cX5_depthByNeeds 3 = .ok (.istore_n 3, 1) := by decide +kernel
theorem dX5_depthByNeeds_4 : decode cX5_depthByNeeds 4 = .ok (.iload_n 3, 1) := by decide +kernel
theorem dX5_depthByNeeds_5 : decode cX5_depthByNeeds 5 = .ok (.aload_n 0, 1) := by decide +kernel
theorem dX5_depthByNeeds_6 : decode cX5_depthByNeeds 6 = .ok (.getfield 20, 3) := by decide +kernel
theorem dX5_depthByNeeds_9 : decode cX5_depthByNeeds 9 = .ok (.getfield 52, 3) := by decide +kernel
theorem dX5_depthByNeeds_12 : decode cX5_depthByNeeds 12 = .ok (.iload_n 1, 1) := by decide +kernel
theorem dX5_depthByNeeds_13 : decode cX5_depthByNeeds 13 = .ok (.iaload, 1) := by decide +kernel
theorem dX5_depthByNeeds_14 : decode cX5_depthByNeeds 14 = .ok (.if_icmp .ge 30, 3) := by decide +kernel
theorem dX5_depthByNeeds_17 : decode cX5_depthByNeeds 17 = .ok (.iload_n 2, 1) := by decide +kernel
theorem dX5_depthByNeeds_18 : decode cX5_depthByNeeds 18 = .ok (.iconst 1, 1) := by decide +kernel
theorem dX5_depthByNeeds_19 : decode cX5_depthByNeeds 19 = .ok (.aload_n 0, 1) := by decide +kernel
theorem dX5_depthByNeeds_20 : decode cX5_depthByNeeds 20 = .ok (.getfield 27, 3) := by decide +kernel
theorem dX5_depthByNeeds_23 : decode cX5_depthByNeeds 23 = .ok (.aload_n 0, 1) := by decide +kernel
theorem dX5_depthByNeeds_24 : decode cX5_depthByNeeds 24 = .ok (.getfield 20, 3) := by decide +kernel
theorem dX5_depthByNeeds_27 : decode cX5_depthByNeeds 27 = .ok (.iload_n 1, 1) := by decide +kernel
theorem dX5_depthByNeeds_28 : decode cX5_depthByNeeds 28 = .ok (.iload_n 3, 1) := by decide +kernel
theorem dX5_depthByNeeds_29 : decode cX5_depthByNeeds 29 = .ok (.invokevirtual 55, 3) := by decide +kernel
theorem dX5_depthByNeeds_32 : decode cX5_depthByNeeds 32 = .ok (.iaload, 1) := by decide +kernel
theorem dX5_depthByNeeds_33 : decode cX5_depthByNeeds 33 = .ok (.iadd, 1) := by decide +kernel
theorem dX5_depthByNeeds_34 : decode cX5_depthByNeeds 34 = .ok (.invokestatic 46, 3) := by decide +kernel
theorem dX5_depthByNeeds_37 : decode cX5_depthByNeeds 37 = .ok (.istore_n 2, 1) := by decide +kernel
theorem dX5_depthByNeeds_38 : decode cX5_depthByNeeds 38 = .ok (.iinc 3 1, 3) := by decide +kernel
theorem dX5_depthByNeeds_41 : decode cX5_depthByNeeds 41 = .ok (.goto (-37), 3) := by decide +kernel
theorem dX5_depthByNeeds_44 : decode cX5_depthByNeeds 44 = .ok (.iload_n 2, 1) := by decide +kernel
theorem dX5_depthByNeeds_45 : decode cX5_depthByNeeds 45 = .ok (.ireturn, 1) := by decide +kernel
set_option maxRecDepth 20000 in
theorem ggX6_init_X5_init : GoodIn wsX6_init wsX5_init := goodIn_r _ [27, 28, 2, 3, 29, 30, 31, 32, 33, 34, 35, 4, 36, 37, 38, 39, 40, 41, 42, 43, 44, 45, 46, 47, 48, 49, 88, 89, 90, 91, 92, 111, 112, 113, 114, 115] (by decide +kernel) (by decide +kernel)
set_option maxRecDepth 20000 in
theorem gX6_init_X5_init_n15 : GoodIn wsX6_init (wsX5_init) := ggX6_init_X5_init
set_option maxRecDepth 20000 in
theorem ggX6_init_X2_init : GoodIn wsX6_init wsX2_init := goodIn_r _ [51, 52, 2, 3, 4, 53, 54, 55, 56, 57, 93, 94, 95, 96, 97, 98] (by decide +kernel) (by decide +kernel)
set_option maxRecDepth 20000 in
theorem gX6_init_X2_init_n22 : GoodIn wsX6_init (wsX2_init) := ggX6_init_X2_init
set_option maxRecDepth 20000 in
theorem ggX6_init_X4_init : GoodIn wsX6_init wsX4_init := goodIn_r _ [59, 60, 2, 3, 4, 61, 54, 62, 63, 99, 100, 101, 102] (by decide +kernel) (by decide +kernel)
set_option maxRecDepth 20000 in
theorem gX6_init_X4_init_n29 : GoodIn wsX6_init (wsX4_init) := ggX6_init_X4_init
set_option maxRecDepth 20000 in
theorem ggX6_init_X0_init : GoodIn wsX6_init wsX0_init := goodIn_r _ [65, 66, 2, 3, 4, 67, 54, 68, 69, 70, 71, 103, 104, 105, 106, 107, 108] (by decide +kernel) (by decide +kernel)
set_option maxRecDepth 20000 in
theorem gX6_init_X0_init_n36 : GoodIn wsX6_init (wsX0_init) := ggX6_init_X0_init
set_option maxRecDepth 20000 in
theorem ggX6_init_X1_init : GoodIn wsX6_init wsX1_init := goodIn_r _ [73, 74, 2, 3, 54, 75, 76, 109, 110] (by decide +kernel) (by decide +kernel)
set_option maxRecDepth 20000 in
theorem gX6_init_X1_init_n43 : GoodIn wsX6_init (wsX1_init) := ggX6_init_X1_init
theorem dX6_init_0 : decode cX6_init 0 = .ok (.aload_n 0, 1) := by decide +kernel
theorem dX6_init_1 : decode cX6_init 1 = .ok (.invokespecial 1, 3) := by decide +kernel
theorem dX6_init_4 : decode cX6_init 4 = .ok (.aload_n 0, 1) := by decide +kernel
theorem dX6_init_5 : decode cX6_init 5 = .ok (.bipush 12, 2) := by decide +kernel
theorem dX6_init_7 : decode cX6_init 7 = .ok (.newarray .int, 2) := by decide +kernel
theorem dX6_init_9 : decode cX6_init 9 = .ok (.putfield 9, 3) := by decide +kernel
theorem dX6_init_12 : decode cX6_init 12 = .ok (.iconst 0, 1) := by decide +kernel
theorem dX6_init_13 : decode cX6_init 13 = .ok (.istore_n 1, 1) := by decide +kernel
theorem dX6_init_14 : decode cX6_init 14 = .ok (.iload_n 1, 1) := by decide +kernel
theorem dX6_init_15 : decode cX6_init 15 = .ok (.bipush 12, 2) := by decide +kernel
theorem dX6_init_17 : decode cX6_init 17 = .ok (.if_icmp .ge 16, 3) := by decide +kernel
theorem dX6_init_20 : decode cX6_init 20 = .ok (.aload_n 0, 1) := by decide +kernel
theorem dX6_init_21 : decode cX6_init 21 = .ok (.getfield 9, 3) := by decide +kernel
theorem dX6_init_24 : decode cX6_init 24 = .ok (.iload_n 1, 1) := by decide +kernel
theorem dX6_init_25 : decode cX6_init 25 = .ok (.iconst 1, 1) := by decide +kernel
theorem dX6_init_26 : decode cX6_init 26 = .ok (.iastore, 1) := by decide +kernel
theorem dX6_init_27 : decode cX6_init 27 = .ok (.iinc 1 1, 3) := by decide +kernel
theorem dX6_init_30 : decode cX6_init 30 = .ok (.goto (-16), 3) := by decide +kernel
theorem dX6_init_33 : decode cX6_init 33 = .ok (.aload_n 0, 1) := by decide +kernel
theorem dX6_init_34 : decode cX6_init 34 = .ok (.new 13, 3) := by decide +kernel
theorem dX6_init_37 : decode cX6_init 37 = .ok (.dup, 1) := by decide +kernel
theorem dX6_init_38 : decode cX6_init 38 = .ok (.invokespecial 15, 3) := by decide +kernel
theorem dX6_init_41 : decode cX6_init 41 = .ok (.putfield 16, 3) := by decide +kernel
theorem dX6_init_44 : decode cX6_init 44 = .ok (.aload_n 0, 1) := by decide +kernel
theorem dX6_init_45 : decode cX6_init 45 = .ok (.new 20, 3) := by decide +kernel
theorem dX6_init_48 : decode cX6_init 48 = .ok (.dup, 1) := by decide +kernel
theorem dX6_init_49 : decode cX6_init 49 = .ok (.invokespecial 22, 3) := by decide +kernel
theorem dX6_init_52 : decode cX6_init 52 = .ok (.putfield 23, 3) := by decide +kernel
theorem dX6_init_55 : decode cX6_init 55 = .ok (.aload_n 0, 1) := by decide +kernel
theorem dX6_init_56 : decode cX6_init 56 = .ok (.new 27, 3) := by decide +kernel
theorem dX6_init_59 : decode cX6_init 59 = .ok (.dup, 1) := by decide +kernel
theorem dX6_init_60 : decode cX6_init 60 = .ok (.invokespecial 29, 3) := by decide +kernel
theorem dX6_init_63 : decode cX6_init 63 = .ok (.putfield 30, 3) := by decide +kernel
theorem dX6_init_66 : decode cX6_init 66 = .ok (.aload_n 0, 1) := by decide +kernel
theorem dX6_init_67 : decode cX6_init 67 = .ok (.new 34, 3) := by decide +kernel
theorem dX6_init_70 : decode cX6_init 70 = .ok (.dup, 1) := by decide +kernel
theorem dX6_init_71 : decode cX6_init 71 = .ok (.invokespecial 36, 3) := by decide +kernel
theorem dX6_init_74 : decode cX6_init 74 = .ok (.putfield 37, 3) := by decide +kernel
theorem dX6_init_77 : decode cX6_init 77 = .ok (.aload_n 0, 1) := by decide +kernel
theorem dX6_init_78 : decode cX6_init 78 = .ok (.new 41, 3) := by decide +kernel
theorem dX6_init_81 : decode cX6_init 81 = .ok (.dup, 1) := by decide +kernel
theorem dX6_init_82 : decode cX6_init 82 = .ok (.invokespecial 43, 3) := by decide +kernel
theorem dX6_init_85 : decode cX6_init 85 = .ok (.putfield 44, 3) := by decide +kernel
theorem dX6_init_88 : decode cX6_init 88 = .ok (.return_, 1) := by decide +kernel
set_option maxRecDepth 20000 in
theorem ggX6_value_X6_isGood : GoodIn wsX6_value wsX6_isGood := goodIn_r _ [5, 6, 7, 4, 8] (by decide +kernel) (by decide +kernel)
set_option maxRecDepth 20000 in
theorem gX6_value_X6_isGood : GoodIn wsX6_value (va_wsS RX6 48 yX6_isGood wsX6_isGood) := goodIn_app (goodIn_of _ (by decide +kernel)) ggX6_value_X6_isGood
set_option maxRecDepth 20000 in
theorem ggX6_value_X6_isWithin : GoodIn wsX6_value wsX6_isWithin := goodIn_r _ [8] (by decide +kernel) (by decide +kernel)
set_option maxRecDepth 20000 in
theorem gX6_value_X6_isWithin : GoodIn wsX6_value (va_wsS RX6 52 yX6_isWithin wsX6_isWithin) := goodIn_app (goodIn_of _ (by decide +kernel)) ggX6_value_X6_isWithin
theorem dX6_value_0 : decode cX6_value 0 = .ok (.iload_n 1, 1) := by decide +kernel
theorem dX6_value_1 : decode cX6_value 1 = .ok (.invokestatic 48, 3) := by decide +kernel
theorem dX6_value_4 : decode cX6_value 4 = .ok (.ifCond .eq 14, 3) := by decide +kernel
theorem dX6_value_7 : decode cX6_value 7 = .ok (.iload_n 2, 1) := by decide +kernel
theorem dX6_value_8 : decode cX6_value 8 = .ok (.iconst 0, 1) := by decide +kernel
theorem dX6_value_9 : decode cX6_value 9 = .ok (.sipush 10000, 3) := by decide +kernel
theorem dX6_value_12 : decode cX6_value 12 = .ok (.invokestatic 52, 3) := by decide +kernel
theorem dX6_value_15 : decode cX6_value 15 = .ok (.ifCond .ne 5, 3) := by decide +kernel
theorem dX6_value_18 : decode cX6_value 18 = .ok (.iconst 0, 1) := by decide +kernel
theorem dX6_value_19 : decode cX6_value 19 = .ok (.ireturn, 1) := by decide +kernel
theorem dX6_value_20 : decode cX6_value 20 = .ok (.aload_n 0, 1) := by decide +kernel
theorem dX6_value_21 : decode cX6_value 21 = .ok (.getfield 9, 3) := by decide +kernel
theorem dX6_value_24 : decode cX6_value 24 = .ok (.iload_n 1, 1) := by decide +kernel
theorem dX6_value_25 : decode cX6_value 25 = .ok (.iload_n 2, 1) := by decide +kernel
theorem dX6_value_26 : decode cX6_value 26 = .ok (.iastore, 1) := by decide +kernel
theorem dX6_value_27 : decode cX6_value 27 = .ok (.iconst 1, 1) := by decide +kernel
theorem dX6_value_28 : decode cX6_value 28 = .ok (.ireturn, 1) := by decide +kernel
set_option maxRecDepth 20000 in
theorem ggX6_recipe_X6_isGood : GoodIn wsX6_recipe wsX6_isGood := goodIn_r _ [7, 8, 9, 6, 10] (by decide +kernel) (by decide +kernel)
set_option maxRecDepth 20000 in
theorem gX6_recipe_X6_isGood : GoodIn wsX6_recipe (va_wsS RX6 48 yX6_isGood wsX6_isGood) := goodIn_app (goodIn_of _ (by decide +kernel)) ggX6_recipe_X6_isGood
theorem dX6_recipe_0 : decode cX6_recipe 0 = .ok (.iload_n 1, 1) := by decide +kernel
theorem dX6_recipe_1 : decode cX6_recipe 1 = .ok (.invokestatic 48, 3) := by decide +kernel
theorem dX6_recipe_4 : decode cX6_recipe 4 = .ok (.ifCond .eq 15, 3) := by decide +kernel
theorem dX6_recipe_7 : decode cX6_recipe 7 = .ok (.aload_n 0, 1) := by decide +kernel
theorem dX6_recipe_8 : decode cX6_recipe 8 = .ok (.getfield 16, 3) := by decide +kernel
theorem dX6_recipe_11 : decode cX6_recipe 11 = .ok (.getfield 56, 3) := by decide +kernel
theorem dX6_recipe_14 : decode cX6_recipe 14 = .ok (.iload_n 1, 1) := by decide +kernel
theorem dX6_recipe_15 : decode cX6_recipe 15 = .ok (.baload, 1) := by decide +kernel
theorem dX6_recipe_16 : decode cX6_recipe 16 = .ok (.ifCond .eq 5, 3) := by decide +kernel
theorem dX6_recipe_19 : decode cX6_recipe 19 = .ok (.iconst 0, 1) := by decide +kernel
theorem dX6_recipe_20 : decode cX6_recipe 20 = .ok (.ireturn, 1) := by decide +kernel
theorem dX6_recipe_21 : decode cX6_recipe 21 = .ok (.aload_n 0, 1) := by decide +kernel
theorem dX6_recipe_22 : decode cX6_recipe 22 = .ok (.getfield 16, 3) := by decide +kernel
theorem dX6_recipe_25 : decode cX6_recipe 25 = .ok (.getfield 56, 3) := by decide +kernel
theorem dX6_recipe_28 : decode cX6_recipe 28 = .ok (.iload_n 1, 1) := by decide +kernel
theorem dX6_recipe_29 : decode cX6_recipe 29 = .ok (.iconst 1, 1) := by decide +kernel
theorem dX6_recipe_30 : decode cX6_recipe 30 = .ok (.bastore, 1) := by decide +kernel
theorem dX6_recipe_31 : decode cX6_recipe 31 = .ok (.aload_n 0, 1) := by decide +kernel
theorem dX6_recipe_32 : decode cX6_recipe 32 = .ok (.getfield 16, 3) := by decide +kernel
theorem dX6_recipe_35 : decode cX6_recipe 35 = .ok (.dup, 1) := by decide +kernel
theorem dX6_recipe_36 : decode cX6_recipe 36 = .ok (.getfield 60, 3) := by decide +kernel
theorem dX6_recipe_39 : decode cX6_recipe 39 = .ok (.iconst 1, 1) := by decide +kernel
theorem dX6_recipe_40 : decode cX6_recipe 40 = .ok (.iadd, 1) := by decide +kernel
theorem dX6_recipe_41 : decode cX6_recipe 41 = .ok (.putfield 60, 3) := by decide +kernel
theorem dX6_recipe_44 : decode cX6_recipe 44 = .ok (.iconst 1, 1) := by decide +kernel
theorem dX6_recipe_45 : decode cX6_recipe 45 = .ok (.ireturn, 1) := by decide +kernel
set_option maxRecDepth 20000 in
theorem ggX6_needs_X6_checkPart : GoodIn wsX6_needs wsX6_checkPart := goodIn_ca (goodIn_r _ [5, 6, 7, 8, 9, 4, 10, 11, 12, 13] (by decide +kernel) (by decide +kernel)) (goodIn_sub (fun _ h => List.mem_cons_of_mem _ (List.mem_append_right _ h)) (by decide +kernel))
set_option maxRecDepth 20000 in
theorem gX6_needs_X6_checkPart : GoodIn wsX6_needs (va_wsS RX6 64 yX6_checkPart wsX6_checkPart) := goodIn_app (goodIn_of _ (by decide +kernel)) ggX6_needs_X6_checkPart
set_option maxRecDepth 20000 in
theorem ggX6_needs_X5_addNeed : GoodIn wsX6_needs wsX5_addNeed := goodIn_r _ [18, 19, 20, 21, 22, 23, 24, 25, 26, 27, 28, 29, 30, 31, 32, 33, 34, 35, 36, 37, 38, 39, 40, 41, 42, 43, 44, 17, 45, 46, 47, 48, 49, 50, 51, 52, 53, 54, 55, 56, 57, 58, 59, 60, 72, 73, 74, 75, 76, 77, 78, 79, 80, 81] (by decide +kernel) (by decide +kernel)
set_option maxRecDepth 20000 in
theorem gX6_needs_X5_addNeed : GoodIn wsX6_needs (wsV RX6 68 RX5 yX5_addNeed wsX5_addNeed) := goodIn_app (goodIn_of _ (by decide +kernel)) ggX6_needs_X5_addNeed
theorem dX6_needs_0 : decode cX6_needs 0 = .ok (.iload_n 1, 1) := by decide +kernel
theorem dX6_needs_1 : decode cX6_needs 1 = .ok (.iload_n 2, 1) := by decide +kernel
theorem dX6_needs_2 : decode cX6_needs 2 = .ok (.iload_n 3, 1) := by decide +kernel
theorem dX6_needs_3 : decode cX6_needs 3 = .ok (.iload 4, 2) := by decide +kernel
theorem dX6_needs_5 : decode cX6_needs 5 = .ok (.invokestatic 64, 3) := by decide +kernel
theorem dX6_needs_8 : decode cX6_needs 8 = .ok (.aload_n 0, 1) := by decide +kernel
theorem dX6_needs_9 : decode cX6_needs 9 = .ok (.getfield 16, 3) := by decide +kernel
theorem dX6_needs_12 : decode cX6_needs 12 = .ok (.iload_n 1, 1) := by decide +kernel
theorem dX6_needs_13 : decode cX6_needs 13 = .ok (.iload_n 2, 1) := by decide +kernel
theorem dX6_needs_14 : decode cX6_needs 14 = .ok (.iload_n 3, 1) := by decide +kernel
theorem dX6_needs_15 : decode cX6_needs 15 = .ok (.iload 4, 2) := by decide +kernel
theorem dX6_needs_17 : decode cX6_needs 17 = .ok (.invokevirtual 68, 3) := by decide +kernel
theorem dX6_needs_20 : decode cX6_needs 20 = .ok (.ifCond .eq 7, 3) := by decide +kernel
theorem dX6_needs_23 : decode cX6_needs 23 = .ok (.iconst 1, 1) := by decide +kernel
theorem dX6_needs_24 : decode cX6_needs 24 = .ok (.goto 4, 3) := by decide +kernel
theorem dX6_needs_27 : decode cX6_needs 27 = .ok (.iconst 0, 1) := by decide +kernel
theorem dX6_needs_28 : decode cX6_needs 28 = .ok (.ireturn, 1) := by decide +kernel
set_option maxRecDepth 20000 in
theorem ggX6_yields_X6_checkPart : GoodIn wsX6_yields wsX6_checkPart := goodIn_ca (goodIn_r _ [5, 6, 7, 8, 9, 4, 10, 11, 12, 13] (by decide +kernel) (by decide +kernel)) (goodIn_sub (fun _ h => List.mem_cons_of_mem _ (List.mem_append_right _ h)) (by decide +kernel))
set_option maxRecDepth 20000 in
theorem gX6_yields_X6_checkPart : GoodIn wsX6_yields (va_wsS RX6 64 yX6_checkPart wsX6_checkPart) := goodIn_app (goodIn_of _ (by decide +kernel)) ggX6_yields_X6_checkPart
set_option maxRecDepth 20000 in
theorem ggX6_yields_X5_addByProduct : GoodIn wsX6_yields wsX5_addByProduct := goodIn_r _ [18, 19, 20, 21, 22, 23, 24, 25, 26, 27, 28, 29, 30, 31, 32, 33, 34, 35, 36, 37, 38, 39, 40, 41, 53, 54, 55, 56, 57, 58, 59, 60, 61, 62] (by decide +kernel) (by decide +kernel)
set_option maxRecDepth 20000 in
theorem gX6_yields_X5_addByProduct : GoodIn wsX6_yields (wsV RX6 72 RX5 yX5_addByProduct wsX5_addByProduct) := goodIn_app (goodIn_of _ (by decide +kernel)) ggX6_yields_X5_addByProduct
theorem dX6_yields_0 : decode cX6_yields 0 = .ok (.iload_n 1, 1) := by decide +kernel
theorem dX6_yields_1 : decode cX6_yields 1 = .ok (.iload_n 2, 1) := by decide +kernel
theorem dX6_yields_2 : decode cX6_yields 2 = .ok (.iload_n 3, 1) := by decide +kernel
theorem dX6_yields_3 : decode cX6_yields 3 = .ok (.iload 4, 2) := by decide +kernel
theorem dX6_yields_5 : decode cX6_yields 5 = .ok (.invokestatic 64, 3) := by decide +kernel
theorem dX6_yields_8 : decode cX6_yields 8 = .ok (.aload_n 0, 1) := by decide +kernel
theorem dX6_yields_9 : decode cX6_yields 9 = .ok (.getfield 16, 3) := by decide +kernel
theorem dX6_yields_12 : decode cX6_yields 12 = .ok (.iload_n 1, 1) := by decide +kernel
theorem dX6_yields_13 : decode cX6_yields 13 = .ok (.iload_n 2, 1) := by decide +kernel
theorem dX6_yields_14 : decode cX6_yields 14 = .ok (.iload_n 3, 1) := by decide +kernel
theorem dX6_yields_15 : decode cX6_yields 15 = .ok (.iload 4, 2) := by decide +kernel
theorem dX6_yields_17 : decode cX6_yields 17 = .ok (.invokevirtual 72, 3) := by decide +kernel
theorem dX6_yields_20 : decode cX6_yields 20 = .ok (.ifCond .eq 7, 3) := by decide +kernel
theorem dX6_yields_23 : decode cX6_yields 23 = .ok (.iconst 1, 1) := by decide +kernel
theorem dX6_yields_24 : decode cX6_yields 24 = .ok (.goto 4, 3) := by decide +kernel
theorem dX6_yields_27 : decode cX6_yields 27 = .ok (.iconst 0, 1) := by decide +kernel
theorem dX6_yields_28 : decode cX6_yields 28 = .ok (.ireturn, 1) := by decide +kernel
set_option maxRecDepth 20000 in
theorem ggX6_in_X6_isGood : GoodIn wsX6_in wsX6_isGood := goodIn_r _ [14, 15, 16, 13, 17] (by decide +kernel) (by decide +kernel)
set_option maxRecDepth 20000 in
theorem gX6_in_X6_isGood : GoodIn wsX6_in (va_wsS RX6 48 yX6_isGood wsX6_isGood) := goodIn_app (goodIn_of _ (by decide +kernel)) ggX6_in_X6_isGood
set_option maxRecDepth 20000 in
theorem ggX6_in_X6_isWithin : GoodIn wsX6_in wsX6_isWithin := goodIn_r _ [17] (by decide +kernel) (by decide +kernel)
set_option maxRecDepth 20000 in
theorem gX6_in_X6_isWithin : GoodIn wsX6_in (va_wsS RX6 52 yX6_isWithin wsX6_isWithin) := goodIn_app (goodIn_of _ (by decide +kernel)) ggX6_in_X6_isWithin
set_option maxRecDepth 20000 in
theorem ggX6_in_X2_free : GoodIn wsX6_in wsX2_free := goodIn_r _ [22, 23, 69, 70, 71, 72, 73, 74] (by decide +kernel) (by decide +kernel)
set_option maxRecDepth 20000 in
theorem gX6_in_X2_free : GoodIn wsX6_in (wsV RX6 83 RX2 yX2_free wsX2_free) := goodIn_app (goodIn_of _ (by decide +kernel)) ggX6_in_X2_free
set_option maxRecDepth 20000 in
theorem ggX6_in_X2_add : GoodIn wsX6_in wsX2_add := goodIn_r _ [27, 23, 28, 29, 30, 31, 69, 70, 71, 72, 73, 74] (by decide +kernel) (by decide +kernel)
set_option maxRecDepth 20000 in
theorem gX6_in_X2_add : GoodIn wsX6_in (wsV RX6 95 RX2 yX2_add wsX2_add) := goodIn_app (goodIn_of _ (by decide +kernel)) ggX6_in_X2_add
set_option maxRecDepth 20000 in
theorem ggX6_in_X4_meet : GoodIn wsX6_in wsX4_meet := goodIn_r _ [36, 37, 38, 39, 40, 41, 42, 43, 44, 45, 16, 13, 17, 46, 47, 48, 35, 49, 50, 51, 52, 53, 54, 21, 55, 29, 30, 56, 57, 69, 70, 71, 72, 73, 74, 75, 76, 77, 78] (by decide +kernel) (by decide +kernel)
set_option maxRecDepth 20000 in
theorem gX6_in_X4_meet : GoodIn wsX6_in (wsV RX6 106 RX4 yX4_meet wsX4_meet) := goodIn_app (goodIn_of _ (by decide +kernel)) ggX6_in_X4_meet
theorem dX6_in_0 : decode cX6_in 0 = .ok (.iload_n 1, 1) := by decide +kernel
theorem dX6_in_1 : decode cX6_in 1 = .ok (.invokestatic 48, 3) := by decide +kernel
theorem dX6_in_4 : decode cX6_in 4 = .ok (.ifCond .eq 24, 3) := by decide +kernel
theorem dX6_in_7 : decode cX6_in 7 = .ok (.iload_n 2, 1) := by decide +kernel
theorem dX6_in_8 : decode cX6_in 8 = .ok (.iconst 1, 1) := by decide +kernel
theorem dX6_in_9 : decode cX6_in 9 = .ok (.sipush 10000, 3) := by decide +kernel
theorem dX6_in_12 : decode cX6_in 12 = .ok (.invokestatic 52, 3) := by decide +kernel
theorem dX6_in_15 : decode cX6_in 15 = .ok (.ifCond .eq 13, 3) := by decide +kernel
theorem dX6_in_18 : decode cX6_in 18 = .ok (.iload_n 3, 1) := by decide +kernel
theorem dX6_in_19 : decode cX6_in 19 = .ok (.iconst 0, 1) := by decide +kernel
theorem dX6_in_20 : decode cX6_in 20 = .ok (.ldc 75, 2) := by decide +kernel
theorem dX6_in_22 : decode cX6_in 22 = .ok (.invokestatic 52, 3) := by decide +kernel
theorem dX6_in_25 : decode cX6_in 25 = .ok (.ifCond .ne 13, 3) := by decide +kernel
theorem dX6_in_28 : decode cX6_in 28 = .ok (.new 76, 3) := by decide +kernel
theorem dX6_in_31 : decode cX6_in 31 = .ok (.dup, 1) := by decide +kernel
theorem dX6_in_32 : decode cX6_in 32 = .ok (.ldc 78, 2) := by decide +kernel
theorem dX6_in_34 : decode cX6_in 34 = .ok (.invokespecial 80, 3) := by decide +kernel
theorem dX6_in_37 : decode cX6_in 37 = .ok (.athrow, 1) := by decide +kernel
theorem dX6_in_38 : decode cX6_in 38 = .ok (.aload_n 0, 1) := by decide +kernel
theorem dX6_in_39 : decode cX6_in 39 = .ok (.getfield 23, 3) := by decide +kernel
theorem dX6_in_42 : decode cX6_in 42 = .ok (.invokevirtual 83, 3) := by decide +kernel
theorem dX6_in_45 : decode cX6_in 45 = .ok (.iconst 1, 1) := by decide +kernel
theorem dX6_in_46 : decode cX6_in 46 = .ok (.if_icmp .ge 13, 3) := by decide +kernel
theorem dX6_in_49 : decode cX6_in 49 = .ok (.new 87, 3) := by decide +kernel
theorem dX6_in_52 : decode cX6_in 52 = .ok (.dup, 1) := by decide +kernel
theorem dX6_in_53 : decode cX6_in 53 = .ok (.ldc 89, 2) := by decide +kernel
theorem dX6_in_55 : decode cX6_in 55 = .ok (.invokespecial 91, 3) := by decide +kernel
theorem dX6_in_58 : decode cX6_in 58 = .ok (.athrow, 1) := by decide +kernel
theorem dX6_in_59 : decode cX6_in 59 = .ok (.aload_n 0, 1) := by decide +kernel
theorem dX6_in_60 : decode cX6_in 60 = .ok (.getfield 23, 3) := by decide +kernel
theorem dX6_in_63 : decode cX6_in 63 = .ok (.iload_n 1, 1) := by decide +kernel
theorem dX6_in_64 : decode cX6_in 64 = .ok (.iload_n 2, 1) := by decide +kernel
theorem dX6_in_65 : decode cX6_in 65 = .ok (.i2l, 1) := by decide +kernel
theorem dX6_in_66 : decode cX6_in 66 = .ok (.iload_n 3, 1) := by decide +kernel
theorem dX6_in_67 : decode cX6_in 67 = .ok (.i2l, 1) := by decide +kernel
theorem dX6_in_68 : decode cX6_in 68 = .ok (.aload_n 0, 1) := by decide +kernel
theorem dX6_in_69 : decode cX6_in 69 = .ok (.getfield 92, 3) := by decide +kernel
theorem dX6_in_72 : decode cX6_in 72 = .ok (.invokevirtual 95, 3) := by decide +kernel
theorem dX6_in_75 : decode cX6_in 75 = .ok (.istore 4, 2) := by decide +kernel
theorem dX6_in_77 : decode cX6_in 77 = .ok (.aload_n 0, 1) := by decide +kernel
theorem dX6_in_78 : decode cX6_in 78 = .ok (.dup, 1) := by decide +kernel
theorem dX6_in_79 : decode cX6_in 79 = .ok (.getfield 99, 3) := by decide +kernel
theorem dX6_in_82 : decode cX6_in 82 = .ok (.iload_n 3, 1) := by decide +kernel
theorem dX6_in_83 : decode cX6_in 83 = .ok (.i2l, 1) := by decide +kernel
theorem dX6_in_84 : decode cX6_in 84 = .ok (.ladd, 1) := by decide +kernel
theorem dX6_in_85 : decode cX6_in 85 = .ok (.putfield 99, 3) := by decide +kernel
theorem dX6_in_88 : decode cX6_in 88 = .ok (.aload_n 0, 1) := by decide +kernel
theorem dX6_in_89 : decode cX6_in 89 = .ok (.dup, 1) := by decide +kernel
theorem dX6_in_90 : decode cX6_in 90 = .ok (.getfield 103, 3) := by decide +kernel
theorem dX6_in_93 : decode cX6_in 93 = .ok (.aload_n 0, 1) := by decide +kernel
theorem dX6_in_94 : decode cX6_in 94 = .ok (.getfield 30, 3) := by decide +kernel
theorem dX6_in_97 : decode cX6_in 97 = .ok (.aload_n 0, 1) := by decide +kernel
theorem dX6_in_98 : decode cX6_in 98 = .ok (.getfield 23, 3) := by decide +kernel
theorem dX6_in_101 : decode cX6_in 101 = .ok (.iload 4, 2) := by decide +kernel
theorem dX6_in_103 : decode cX6_in 103 = .ok (.aload_n 0, 1) := by decide +kernel
theorem dX6_in_104 : decode cX6_in 104 = .ok (.getfield 92, 3) := by decide +kernel
theorem dX6_in_107 : decode cX6_in 107 = .ok (.invokevirtual 106, 3) := by decide +kernel
theorem dX6_in_110 : decode cX6_in 110 = .ok (.ladd, 1) := by decide +kernel
theorem dX6_in_111 : decode cX6_in 111 = .ok (.putfield 103, 3) := by decide +kernel
theorem dX6_in_114 : decode cX6_in 114 = .ok (.iload 4, 2) := by decide +kernel
theorem dX6_in_116 : decode cX6_in 116 = .ok (.ireturn, 1) := by decide +kernel
set_option maxRecDepth 20000 in
theorem ggX6_made_X6_isGood : GoodIn wsX6_made wsX6_isGood := goodIn_r _ [14, 15, 16, 13, 17] (by decide +kernel) (by decide +kernel)
set_option maxRecDepth 20000 in
theorem gX6_made_X6_isGood : GoodIn wsX6_made (va_wsS RX6 48 yX6_isGood wsX6_isGood) := goodIn_app (goodIn_of _ (by decide +kernel)) ggX6_made_X6_isGood
set_option maxRecDepth 20000 in
theorem ggX6_made_X6_isWithin : GoodIn wsX6_made wsX6_isWithin := goodIn_r _ [17] (by decide +kernel) (by decide +kernel)
set_option maxRecDepth 20000 in
theorem gX6_made_X6_isWithin : GoodIn wsX6_made (va_wsS RX6 52 yX6_isWithin wsX6_isWithin) := goodIn_app (goodIn_of _ (by decide +kernel)) ggX6_made_X6_isWithin
set_option maxRecDepth 20000 in
theorem ggX6_made_X0_plan : GoodIn wsX6_made wsX0_plan := goodIn_r _ [22, 23, 24, 25, 26, 27, 28, 29, 30, 31, 32, 33, 34, 35, 36, 37, 38, 39, 40, 41, 42, 13, 43, 146, 147, 148, 149, 150, 151, 141, 142, 143, 144, 145] (by decide +kernel) (by decide +kernel)
set_option maxRecDepth 20000 in
theorem gX6_made_X0_plan : GoodIn wsX6_made (wsV RX6 124 RX0 yX0_plan wsX0_plan) := goodIn_app (goodIn_of _ (by decide +kernel)) ggX6_made_X0_plan
set_option maxRecDepth 20000 in
theorem ggX6_made_X6_suffices : GoodIn wsX6_made wsX6_suffices := goodIn_r _ [47, 3, 4, 5, 8, 48, 28, 29, 30, 31, 32, 33, 34, 35, 49, 50, 51, 52, 53, 54, 55, 56, 57, 58, 59, 60, 40, 41, 61, 13, 62, 63, 42, 43, 125, 126, 127, 128, 129, 130, 131, 132, 133, 134, 135, 136, 137, 138, 139, 140, 141, 142, 143, 144, 145, 152, 153, 154, 155, 156, 157] (by decide +kernel) (by decide +kernel)
set_option maxRecDepth 20000 in
theorem gX6_made_X6_suffices : GoodIn wsX6_made (wsV RX6 128 RX6 yX6_suffices wsX6_suffices) := goodIn_app (goodIn_of _ (by decide +kernel)) ggX6_made_X6_suffices
set_option maxRecDepth 20000 in
theorem ggX6_made_X2_free : GoodIn wsX6_made wsX2_free := goodIn_r _ [67, 54, 152, 153, 154, 155, 156, 157] (by decide +kernel) (by decide +kernel)
set_option maxRecDepth 20000 in
theorem gX6_made_X2_free : GoodIn wsX6_made (wsV RX6 83 RX2 yX2_free wsX2_free) := goodIn_app (goodIn_of _ (by decide +kernel)) ggX6_made_X2_free
set_option maxRecDepth 20000 in
theorem ggX6_made_X0_lotsToAdd : GoodIn wsX6_made wsX0_lotsToAdd := goodIn_r _ [71, 25, 24, 146, 147, 148, 149, 150, 151] (by decide +kernel) (by decide +kernel)
set_option maxRecDepth 20000 in
theorem gX6_made_X0_lotsToAdd : GoodIn wsX6_made (wsV RX6 132 RX0 yX0_lotsToAdd wsX0_lotsToAdd) := goodIn_app (goodIn_of _ (by decide +kernel)) ggX6_made_X0_lotsToAdd
set_option maxRecDepth 20000 in
theorem ggX6_made_X0_weigh : GoodIn wsX6_made wsX0_weigh := goodIn_r _ [75, 25, 76, 24, 23, 146, 147, 148, 149, 150, 151] (by decide +kernel) (by decide +kernel)
set_option maxRecDepth 20000 in
theorem gX6_made_X0_weigh : GoodIn wsX6_made (wsV RX6 135 RX0 yX0_weigh wsX0_weigh) := goodIn_app (goodIn_of _ (by decide +kernel)) ggX6_made_X0_weigh
set_option maxRecDepth 20000 in
theorem ggX6_made_X6_takeNeeds : GoodIn wsX6_made wsX6_takeNeeds := goodIn_r _ [80, 3, 4, 5, 8, 10, 48, 28, 29, 30, 31, 32, 33, 34, 35, 57, 58, 59, 60, 40, 41, 61, 13, 62, 63, 42, 43, 81, 82, 83, 52, 84, 85, 54, 55, 56, 86, 87, 88, 89, 90, 91, 92, 93, 94, 95, 96, 97, 98, 99, 100, 101, 125, 126, 127, 128, 129, 130, 131, 132, 133, 134, 135, 136, 137, 138, 139, 140, 141, 142, 143, 144, 145, 152, 153, 154, 155, 156, 157] (by decide +kernel) (by decide +kernel)
set_option maxRecDepth 20000 in
theorem gX6_made_X6_takeNeeds : GoodIn wsX6_made (wsV RX6 139 RX6 yX6_takeNeeds wsX6_takeNeeds) := goodIn_app (goodIn_of _ (by decide +kernel)) ggX6_made_X6_takeNeeds
set_option maxRecDepth 20000 in
theorem ggX6_made_X0_apportion : GoodIn wsX6_made wsX0_apportion := goodIn_r _ [105, 25, 76, 106, 107, 42, 13, 43, 108, 109, 110, 21, 111, 112, 113, 114, 115, 116, 146, 147, 148, 149, 150, 151] (by decide +kernel) (by decide +kernel)
set_option maxRecDepth 20000 in
theorem gX6_made_X0_apportion : GoodIn wsX6_made (wsV RX6 143 RX0 yX0_apportion wsX0_apportion) := goodIn_app (goodIn_of _ (by decide +kernel)) ggX6_made_X0_apportion
set_option maxRecDepth 20000 in
theorem ggX6_made_X0_store : GoodIn wsX6_made wsX0_store := goodIn_r _ [120, 25, 24, 23, 106, 121, 122, 123, 52, 124, 54, 55, 56, 95, 100, 146, 147, 148, 149, 150, 151, 152, 153, 154, 155, 156, 157] (by decide +kernel) (by decide +kernel)
set_option maxRecDepth 20000 in
theorem gX6_made_X0_store : GoodIn wsX6_made (wsV RX6 147 RX0 yX0_store wsX0_store) := goodIn_app (goodIn_of _ (by decide +kernel)) ggX6_made_X0_store
theorem dX6_made_0 : decode cX6_made 0 = .ok (.iload_n 1, 1) := by decide +kernel
theorem dX6_made_1 : decode cX6_made 1 = .ok (.invokestatic 48, 3) := by decide +kernel
theorem dX6_made_4 : decode cX6_made 4 = .ok (.ifCond .eq 30, 3) := by decide +kernel
theorem dX6_made_7 : decode cX6_made 7 = .ok (.aload_n 0, 1) := by decide +kernel
theorem dX6_made_8 : decode cX6_made 8 = .ok (.getfield 16, 3) := by decide +kernel
theorem dX6_made_11 : decode cX6_made 11 = .ok (.getfield 110, 3) := by decide +kernel
theorem dX6_made_14 : decode cX6_made 14 = .ok (.getfield 114, 3) := by decide +kernel
theorem dX6_made_17 : decode cX6_made 17 = .ok (.iload_n 1, 1) := by decide +kernel
theorem dX6_made_18 : decode cX6_made 18 = .ok (.iaload, 1) := by decide +kernel
theorem dX6_made_19 : decode cX6_made 19 = .ok (.iconst 1, 1) := by decide +kernel
theorem dX6_made_20 : decode cX6_made 20 = .ok (.if_icmp .lt 14, 3) := by decide +kernel
theorem dX6_made_23 : decode cX6_made 23 = .ok (.iload_n 2, 1) := by decide +kernel
theorem dX6_made_24 : decode cX6_made 24 = .ok (.iconst 1, 1) := by decide +kernel
theorem dX6_made_25 : decode cX6_made 25 = .ok (.sipush 10000, 3) := by decide +kernel
theorem dX6_made_28 : decode cX6_made 28 = .ok (.invokestatic 52, 3) := by decide +kernel
theorem dX6_made_31 : decode cX6_made 31 = .ok (.ifCond .ne 13, 3) := by decide +kernel
theorem dX6_made_34 : decode cX6_made 34 = .ok (.new 76, 3) := by decide +kernel
theorem dX6_made_37 : decode cX6_made 37 = .ok (.dup, 1) := by decide +kernel
theorem dX6_made_38 : decode cX6_made 38 = .ok (.ldc 119, 2) := by decide +kernel
theorem dX6_made_40 : decode cX6_made 40 = .ok (.invokespecial 80, 3) := by decide +kernel
theorem dX6_made_43 : decode cX6_made 43 = .ok (.athrow, 1) := by decide +kernel
theorem dX6_made_44 : decode cX6_made 44 = .ok (.aload_n 0, 1) := by decide +kernel
theorem dX6_made_45 : decode cX6_made 45 = .ok (.getfield 37, 3) := by decide +kernel
theorem dX6_made_48 : decode cX6_made 48 = .ok (.aload_n 0, 1) := by decide +kernel
theorem dX6_made_49 : decode cX6_made 49 = .ok (.getfield 16, 3) := by decide +kernel
theorem dX6_made_52 : decode cX6_made 52 = .ok (.getfield 121, 3) := by decide +kernel
theorem dX6_made_55 : decode cX6_made 55 = .ok (.iload_n 1, 1) := by decide +kernel
theorem dX6_made_56 : decode cX6_made 56 = .ok (.iload_n 2, 1) := by decide +kernel
theorem dX6_made_57 : decode cX6_made 57 = .ok (.invokevirtual 124, 3) := by decide +kernel
theorem dX6_made_60 : decode cX6_made 60 = .ok (.aload_n 0, 1) := by decide +kernel
theorem dX6_made_61 : decode cX6_made 61 = .ok (.iload_n 1, 1) := by decide +kernel
theorem dX6_made_62 : decode cX6_made 62 = .ok (.iload_n 2, 1) := by decide +kernel
theorem dX6_made_63 : decode cX6_made 63 = .ok (.invokevirtual 128, 3) := by decide +kernel
theorem dX6_made_66 : decode cX6_made 66 = .ok (.ifCond .eq 20, 3) := by decide +kernel
theorem dX6_made_69 : decode cX6_made 69 = .ok (.aload_n 0, 1) := by decide +kernel
theorem dX6_made_70 : decode cX6_made 70 = .ok (.getfield 23, 3) := by decide +kernel
theorem dX6_made_73 : decode cX6_made 73 = .ok (.invokevirtual 83, 3) := by decide +kernel
theorem dX6_made_76 : decode cX6_made 76 = .ok (.aload_n 0, 1) := by decide +kernel
theorem dX6_made_77 : decode cX6_made 77 = .ok (.getfield 37, 3) := by decide +kernel
theorem dX6_made_80 : decode cX6_made 80 = .ok (.invokevirtual 132, 3) := by decide +kernel
theorem dX6_made_83 : decode cX6_made 83 = .ok (.if_icmp .ge 5, 3) := by decide +kernel
theorem dX6_made_86 : decode cX6_made 86 = .ok (.iconst 0, 1) := by decide +kernel
theorem dX6_made_87 : decode cX6_made 87 = .ok (.ireturn, 1) := by decide +kernel
theorem dX6_made_88 : decode cX6_made 88 = .ok (.aload_n 0, 1) := by decide +kernel
theorem dX6_made_89 : decode cX6_made 89 = .ok (.getfield 37, 3) := by decide +kernel
theorem dX6_made_92 : decode cX6_made 92 = .ok (.aload_n 0, 1) := by decide +kernel
theorem dX6_made_93 : decode cX6_made 93 = .ok (.getfield 9, 3) := by decide +kernel
theorem dX6_made_96 : decode cX6_made 96 = .ok (.iload_n 3, 1) := by decide +kernel
theorem dX6_made_97 : decode cX6_made 97 = .ok (.invokevirtual 135, 3) := by decide +kernel
theorem dX6_made_100 : decode cX6_made 100 = .ok (.aload_n 0, 1) := by decide +kernel
theorem dX6_made_101 : decode cX6_made 101 = .ok (.getfield 37, 3) := by decide +kernel
theorem dX6_made_104 : decode cX6_made 104 = .ok (.aload_n 0, 1) := by decide +kernel
theorem dX6_made_105 : decode cX6_made 105 = .ok (.iload_n 1, 1) := by decide +kernel
theorem dX6_made_106 : decode cX6_made 106 = .ok (.iload_n 2, 1) := by decide +kernel
theorem dX6_made_107 : decode cX6_made 107 = .ok (.invokevirtual 139, 3) := by decide +kernel
theorem dX6_made_110 : decode cX6_made 110 = .ok (.invokevirtual 143, 3) := by decide +kernel
theorem dX6_made_113 : decode cX6_made 113 = .ok (.aload_n 0, 1) := by decide +kernel
theorem dX6_made_114 : decode cX6_made 114 = .ok (.getfield 37, 3) := by decide +kernel
theorem dX6_made_117 : decode cX6_made 117 = .ok (.aload_n 0, 1) := by decide +kernel
theorem dX6_made_118 : decode cX6_made 118 = .ok (.getfield 23, 3) := by decide +kernel
theorem dX6_made_121 : decode cX6_made 121 = .ok (.aload_n 0, 1) := by decide +kernel
theorem dX6_made_122 : decode cX6_made 122 = .ok (.getfield 92, 3) := by decide +kernel
theorem dX6_made_125 : decode cX6_made 125 = .ok (.invokevirtual 147, 3) := by decide +kernel
theorem dX6_made_128 : decode cX6_made 128 = .ok (.iconst 1, 1) := by decide +kernel
theorem dX6_made_129 : decode cX6_made 129 = .ok (.ireturn, 1) := by decide +kernel
set_option maxRecDepth 20000 in
theorem ggX6_export_X6_checkTaking : GoodIn wsX6_export wsX6_checkTaking := goodIn_ca (goodIn_r _ [8, 9, 10, 11, 12, 7, 13, 14, 15, 16] (by decide +kernel) (by decide +kernel)) (goodIn_sub (fun _ h => List.mem_cons_of_mem _ (List.mem_append_right _ h)) (by decide +kernel))
set_option maxRecDepth 20000 in
theorem gX6_export_X6_checkTaking : GoodIn wsX6_export (va_wsS RX6 151 yX6_checkTaking wsX6_checkTaking) := goodIn_app (goodIn_of _ (by decide +kernel)) ggX6_export_X6_checkTaking
set_option maxRecDepth 20000 in
theorem ggX6_export_X2_stockOf : GoodIn wsX6_export wsX2_stockOf := goodIn_r _ [21, 22, 23, 24, 62, 63, 64, 65, 66, 67] (by decide +kernel) (by decide +kernel)
set_option maxRecDepth 20000 in
theorem gX6_export_X2_stockOf : GoodIn wsX6_export (wsV RX6 155 RX2 yX2_stockOf wsX2_stockOf) := goodIn_app (goodIn_of _ (by decide +kernel)) ggX6_export_X2_stockOf
set_option maxRecDepth 20000 in
theorem ggX6_export_X2_take : GoodIn wsX6_export wsX2_take := goodIn_r _ [28, 29, 22, 23, 24, 30, 31, 32, 33, 34, 35, 36, 37, 20, 38, 39, 40, 7, 41, 42, 43, 44, 45, 46, 47, 48, 49, 50, 62, 63, 64, 65, 66, 67] (by decide +kernel) (by decide +kernel)
set_option maxRecDepth 20000 in
theorem gX6_export_X2_take : GoodIn wsX6_export (wsV RX6 161 RX2 yX2_take wsX2_take) := goodIn_app (goodIn_of _ (by decide +kernel)) ggX6_export_X2_take
theorem dX6_export_0 : decode cX6_export 0 = .ok (.iload_n 1, 1) := by decide +kernel
theorem dX6_export_1 : decode cX6_export 1 = .ok (.iload_n 2, 1) := by decide +kernel
theorem dX6_export_2 : decode cX6_export 2 = .ok (.invokestatic 151, 3) := by decide +kernel
theorem dX6_export_5 : decode cX6_export 5 = .ok (.aload_n 0, 1) := by decide +kernel
theorem dX6_export_6 : decode cX6_export 6 = .ok (.getfield 23, 3) := by decide +kernel
theorem dX6_export_9 : decode cX6_export 9 = .ok (.iload_n 1, 1) := by decide +kernel
theorem dX6_export_10 : decode cX6_export 10 = .ok (.invokevirtual 155, 3) := by decide +kernel
theorem dX6_export_13 : decode cX6_export 13 = .ok (.iload_n 2, 1) := by decide +kernel
theorem dX6_export_14 : decode cX6_export 14 = .ok (.i2l, 1) := by decide +kernel
theorem dX6_export_15 : decode cX6_export 15 = .ok (.lcmp, 1) := by decide +kernel
theorem dX6_export_16 : decode cX6_export 16 = .ok (.ifCond .ge 7, 3) := by decide +kernel
theorem dX6_export_19 : decode cX6_export 19 = .ok (.ldc2_w 159, 3) := by decide +kernel
theorem dX6_export_22 : decode cX6_export 22 = .ok (.lreturn, 1) := by decide +kernel
theorem dX6_export_23 : decode cX6_export 23 = .ok (.aload_n 0, 1) := by decide +kernel
theorem dX6_export_24 : decode cX6_export 24 = .ok (.getfield 23, 3) := by decide +kernel
theorem dX6_export_27 : decode cX6_export 27 = .ok (.iload_n 1, 1) := by decide +kernel
theorem dX6_export_28 : decode cX6_export 28 = .ok (.iload_n 2, 1) := by decide +kernel
theorem dX6_export_29 : decode cX6_export 29 = .ok (.i2l, 1) := by decide +kernel
theorem dX6_export_30 : decode cX6_export 30 = .ok (.aload_n 0, 1) := by decide +kernel
theorem dX6_export_31 : decode cX6_export 31 = .ok (.getfield 92, 3) := by decide +kernel
theorem dX6_export_34 : decode cX6_export 34 = .ok (.invokevirtual 161, 3) := by decide +kernel
theorem dX6_export_37 : decode cX6_export 37 = .ok (.lstore_n 3, 1) := by decide +kernel
theorem dX6_export_38 : decode cX6_export 38 = .ok (.aload_n 0, 1) := by decide +kernel
theorem dX6_export_39 : decode cX6_export 39 = .ok (.dup, 1) := by decide +kernel
theorem dX6_export_40 : decode cX6_export 40 = .ok (.getfield 103, 3) := by decide +kernel
theorem dX6_export_43 : decode cX6_export 43 = .ok (.lload_n 3, 1) := by decide +kernel
theorem dX6_export_44 : decode cX6_export 44 = .ok (.ladd, 1) := by decide +kernel
theorem dX6_export_45 : decode cX6_export 45 = .ok (.putfield 103, 3) := by decide +kernel
theorem dX6_export_48 : decode cX6_export 48 = .ok (.lload_n 3, 1) := by decide +kernel
theorem dX6_export_49 : decode cX6_export 49 = .ok (.lreturn, 1) := by decide +kernel
set_option maxRecDepth 20000 in
theorem ggX6_release_X6_checkTaking : GoodIn wsX6_release wsX6_checkTaking := goodIn_ca (goodIn_r _ [10, 11, 12, 13, 14, 9, 15, 16, 17, 18] (by decide +kernel) (by decide +kernel)) (goodIn_sub (fun _ h => List.mem_cons_of_mem _ (List.mem_append_right _ h)) (by decide +kernel))
set_option maxRecDepth 20000 in
theorem gX6_release_X6_checkTaking : GoodIn wsX6_release (va_wsS RX6 151 yX6_checkTaking wsX6_checkTaking) := goodIn_app (goodIn_of _ (by decide +kernel)) ggX6_release_X6_checkTaking
set_option maxRecDepth 20000 in
theorem ggX6_release_X2_stockOf : GoodIn wsX6_release wsX2_stockOf := goodIn_r _ [23, 24, 25, 26, 64, 65, 66, 67, 68, 69] (by decide +kernel) (by decide +kernel)
set_option maxRecDepth 20000 in
theorem gX6_release_X2_stockOf : GoodIn wsX6_release (wsV RX6 155 RX2 yX2_stockOf wsX2_stockOf) := goodIn_app (goodIn_of _ (by decide +kernel)) ggX6_release_X2_stockOf
set_option maxRecDepth 20000 in
theorem ggX6_release_X2_take : GoodIn wsX6_release wsX2_take := goodIn_r _ [30, 31, 24, 25, 26, 32, 33, 34, 35, 36, 37, 38, 39, 22, 40, 41, 42, 9, 43, 44, 45, 46, 47, 48, 49, 50, 51, 52, 64, 65, 66, 67, 68, 69] (by decide +kernel) (by decide +kernel)
set_option maxRecDepth 20000 in
theorem gX6_release_X2_take : GoodIn wsX6_release (wsV RX6 161 RX2 yX2_take wsX2_take) := goodIn_app (goodIn_of _ (by decide +kernel)) ggX6_release_X2_take
theorem dX6_release_0 : decode cX6_release 0 = .ok (.iload_n 1, 1) := by decide +kernel
theorem dX6_release_1 : decode cX6_release 1 = .ok (.iload_n 2, 1) := by decide +kernel
theorem dX6_release_2 : decode cX6_release 2 = .ok (.invokestatic 151, 3) := by decide +kernel
theorem dX6_release_5 : decode cX6_release 5 = .ok (.aload_n 0, 1) := by decide +kernel
theorem dX6_release_6 : decode cX6_release 6 = .ok (.getfield 23, 3) := by decide +kernel
theorem dX6_release_9 : decode cX6_release 9 = .ok (.iload_n 1, 1) := by decide +kernel
theorem dX6_release_10 : decode cX6_release 10 = .ok (.invokevirtual 155, 3) := by decide +kernel
theorem dX6_release_13 : decode cX6_release 13 = .ok (.iload_n 2, 1) := by decide +kernel
theorem dX6_release_14 : decode cX6_release 14 = .ok (.i2l, 1) := by decide +kernel
theorem dX6_release_15 : decode cX6_release 15 = .ok (.lcmp, 1) := by decide +kernel
theorem dX6_release_16 : decode cX6_release 16 = .ok (.ifCond .ge 7, 3) := by decide +kernel
theorem dX6_release_19 : decode cX6_release 19 = .ok (.ldc2_w 159, 3) := by decide +kernel
theorem dX6_release_22 : decode cX6_release 22 = .ok (.lreturn, 1) := by decide +kernel
theorem dX6_release_23 : decode cX6_release 23 = .ok (.aload_n 0, 1) := by decide +kernel
theorem dX6_release_24 : decode cX6_release 24 = .ok (.getfield 23, 3) := by decide +kernel
theorem dX6_release_27 : decode cX6_release 27 = .ok (.iload_n 1, 1) := by decide +kernel
theorem dX6_release_28 : decode cX6_release 28 = .ok (.iload_n 2, 1) := by decide +kernel
theorem dX6_release_29 : decode cX6_release 29 = .ok (.i2l, 1) := by decide +kernel
theorem dX6_release_30 : decode cX6_release 30 = .ok (.aload_n 0, 1) := by decide +kernel
theorem dX6_release_31 : decode cX6_release 31 = .ok (.getfield 92, 3) := by decide +kernel
theorem dX6_release_34 : decode cX6_release 34 = .ok (.invokevirtual 161, 3) := by decide +kernel
theorem dX6_release_37 : decode cX6_release 37 = .ok (.lstore_n 3, 1) := by decide +kernel
theorem dX6_release_38 : decode cX6_release 38 = .ok (.aload_n 0, 1) := by decide +kernel
theorem dX6_release_39 : decode cX6_release 39 = .ok (.dup, 1) := by decide +kernel
theorem dX6_release_40 : decode cX6_release 40 = .ok (.getfield 165, 3) := by decide +kernel
theorem dX6_release_43 : decode cX6_release 43 = .ok (.lload_n 3, 1) := by decide +kernel
theorem dX6_release_44 : decode cX6_release 44 = .ok (.ladd, 1) := by decide +kernel
theorem dX6_release_45 : decode cX6_release 45 = .ok (.putfield 165, 3) := by decide +kernel
theorem dX6_release_48 : decode cX6_release 48 = .ok (.aload_n 0, 1) := by decide +kernel
theorem dX6_release_49 : decode cX6_release 49 = .ok (.dup, 1) := by decide +kernel
theorem dX6_release_50 : decode cX6_release 50 = .ok (.getfield 168, 3) := by decide +kernel
theorem dX6_release_53 : decode cX6_release 53 = .ok (.aload_n 0, 1) := by decide +kernel
theorem dX6_release_54 : decode cX6_release 54 = .ok (.getfield 23, 3) := by decide +kernel
theorem dX6_release_57 : decode cX6_release 57 = .ok (.getfield 171, 3) := by decide +kernel
theorem dX6_release_60 : decode cX6_release 60 = .ok (.ladd, 1) := by decide +kernel
theorem dX6_release_61 : decode cX6_release 61 = .ok (.putfield 168, 3) := by decide +kernel
theorem dX6_release_64 : decode cX6_release 64 = .ok (.lload_n 3, 1) := by decide +kernel
theorem dX6_release_65 : decode cX6_release 65 = .ok (.aload_n 0, 1) := by decide +kernel
theorem dX6_release_66 : decode cX6_release 66 = .ok (.getfield 23, 3) := by decide +kernel
theorem dX6_release_69 : decode cX6_release 69 = .ok (.getfield 171, 3) := by decide +kernel
theorem dX6_release_72 : decode cX6_release 72 = .ok (.ladd, 1) := by decide +kernel
theorem dX6_release_73 : decode cX6_release 73 = .ok (.lreturn, 1) := by decide +kernel
set_option maxRecDepth 20000 in
theorem ggX6_prior_X6_isGood : GoodIn wsX6_prior wsX6_isGood := goodIn_r _ [11, 12, 13, 10, 14] (by decide +kernel) (by decide +kernel)
set_option maxRecDepth 20000 in
theorem gX6_prior_X6_isGood : GoodIn wsX6_prior (va_wsS RX6 48 yX6_isGood wsX6_isGood) := goodIn_app (goodIn_of _ (by decide +kernel)) ggX6_prior_X6_isGood
set_option maxRecDepth 20000 in
theorem ggX6_prior_X6_isWithin : GoodIn wsX6_prior wsX6_isWithin := goodIn_r _ [14] (by decide +kernel) (by decide +kernel)
set_option maxRecDepth 20000 in
theorem gX6_prior_X6_isWithin : GoodIn wsX6_prior (va_wsS RX6 52 yX6_isWithin wsX6_isWithin) := goodIn_app (goodIn_of _ (by decide +kernel)) ggX6_prior_X6_isWithin
set_option maxRecDepth 20000 in
theorem ggX6_prior_X4_add : GoodIn wsX6_prior wsX4_add := goodIn_r _ [19, 20, 21, 22, 23, 35, 36, 37, 38] (by decide +kernel) (by decide +kernel)
set_option maxRecDepth 20000 in
theorem gX6_prior_X4_add : GoodIn wsX6_prior (wsV RX6 180 RX4 yX4_add wsX4_add) := goodIn_app (goodIn_of _ (by decide +kernel)) ggX6_prior_X4_add
theorem dX6_prior_0 : decode cX6_prior 0 = .ok (.iload_n 1, 1) := by decide +kernel
theorem dX6_prior_1 : decode cX6_prior 1 = .ok (.invokestatic 48, 3) := by decide +kernel
theorem dX6_prior_4 : decode cX6_prior 4 = .ok (.ifCond .eq 24, 3) := by decide +kernel
theorem dX6_prior_7 : decode cX6_prior 7 = .ok (.iload_n 2, 1) := by decide +kernel
theorem dX6_prior_8 : decode cX6_prior 8 = .ok (.iconst 1, 1) := by decide +kernel
theorem dX6_prior_9 : decode cX6_prior 9 = .ok (.sipush 10000, 3) := by decide +kernel
theorem dX6_prior_12 : decode cX6_prior 12 = .ok (.invokestatic 52, 3) := by decide +kernel
theorem dX6_prior_15 : decode cX6_prior 15 = .ok (.ifCond .eq 13, 3) := by decide +kernel
theorem dX6_prior_18 : decode cX6_prior 18 = .ok (.iload_n 3, 1) := by decide +kernel
theorem dX6_prior_19 : decode cX6_prior 19 = .ok (.iconst 0, 1) := by decide +kernel
theorem dX6_prior_20 : decode cX6_prior 20 = .ok (.ldc 174, 2) := by decide +kernel
theorem dX6_prior_22 : decode cX6_prior 22 = .ok (.invokestatic 52, 3) := by decide +kernel
theorem dX6_prior_25 : decode cX6_prior 25 = .ok (.ifCond .ne 13, 3) := by decide +kernel
theorem dX6_prior_28 : decode cX6_prior 28 = .ok (.new 76, 3) := by decide +kernel
theorem dX6_prior_31 : decode cX6_prior 31 = .ok (.dup, 1) := by decide +kernel
theorem dX6_prior_32 : decode cX6_prior 32 = .ok (.ldc 175, 2) := by decide +kernel
theorem dX6_prior_34 : decode cX6_prior 34 = .ok (.invokespecial 80, 3) := by decide +kernel
theorem dX6_prior_37 : decode cX6_prior 37 = .ok (.athrow, 1) := by decide +kernel
theorem dX6_prior_38 : decode cX6_prior 38 = .ok (.aload_n 0, 1) := by decide +kernel
theorem dX6_prior_39 : decode cX6_prior 39 = .ok (.getfield 30, 3) := by decide +kernel
theorem dX6_prior_42 : decode cX6_prior 42 = .ok (.getfield 177, 3) := by decide +kernel
theorem dX6_prior_45 : decode cX6_prior 45 = .ok (.bipush 40, 2) := by decide +kernel
theorem dX6_prior_47 : decode cX6_prior 47 = .ok (.if_icmp .lt 13, 3) := by decide +kernel
theorem dX6_prior_50 : decode cX6_prior 50 = .ok (.new 87, 3) := by decide +kernel
theorem dX6_prior_53 : decode cX6_prior 53 = .ok (.dup, 1) := by decide +kernel
theorem dX6_prior_54 : decode cX6_prior 54 = .ok (.ldc 178, 2) := by decide +kernel
theorem dX6_prior_56 : decode cX6_prior 56 = .ok (.invokespecial 91, 3) := by decide +kernel
theorem dX6_prior_59 : decode cX6_prior 59 = .ok (.athrow, 1) := by decide +kernel
theorem dX6_prior_60 : decode cX6_prior 60 = .ok (.aload_n 0, 1) := by decide +kernel
theorem dX6_prior_61 : decode cX6_prior 61 = .ok (.getfield 30, 3) := by decide +kernel
theorem dX6_prior_64 : decode cX6_prior 64 = .ok (.iload_n 1, 1) := by decide +kernel
theorem dX6_prior_65 : decode cX6_prior 65 = .ok (.iload_n 2, 1) := by decide +kernel
theorem dX6_prior_66 : decode cX6_prior 66 = .ok (.iload_n 3, 1) := by decide +kernel
theorem dX6_prior_67 : decode cX6_prior 67 = .ok (.invokevirtual 180, 3) := by decide +kernel
theorem dX6_prior_70 : decode cX6_prior 70 = .ok (.aload_n 0, 1) := by decide +kernel
theorem dX6_prior_71 : decode cX6_prior 71 = .ok (.getfield 30, 3) := by decide +kernel
theorem dX6_prior_74 : decode cX6_prior 74 = .ok (.getfield 177, 3) := by decide +kernel
theorem dX6_prior_77 : decode cX6_prior 77 = .ok (.ireturn, 1) := by decide +kernel
set_option maxRecDepth 20000 in
theorem ggX6_day_X6_isWithin : GoodIn wsX6_day wsX6_isWithin := goodIn_r _ [6] (by decide +kernel) (by decide +kernel)
set_option maxRecDepth 20000 in
theorem gX6_day_X6_isWithin : GoodIn wsX6_day (va_wsS RX6 52 yX6_isWithin wsX6_isWithin) := goodIn_app (goodIn_of _ (by decide +kernel)) ggX6_day_X6_isWithin
theorem dX6_day_0 : decode cX6_day 0 = .ok (.iload_n 1, 1) := by decide +kernel
theorem dX6_day_1 : decode cX6_day 1 = .ok (.aload_n 0, 1) := by decide +kernel
theorem dX6_day_2 : decode cX6_day 2 = .ok (.getfield 92, 3) := by decide +kernel
theorem dX6_day_5 : decode cX6_day 5 = .ok (.ldc 174, 2) := by decide +kernel
theorem dX6_day_7 : decode cX6_day 7 = .ok (.invokestatic 52, 3) := by decide +kernel
theorem dX6_day_10 : decode cX6_day 10 = .ok (.ifCond .ne 5, 3) := by decide +kernel
theorem dX6_day_13 : decode cX6_day 13 = .ok (.iconst 0, 1) := by decide +kernel
theorem dX6_day_14 : decode cX6_day 14 = .ok (.ireturn, 1) := by decide +kernel
theorem dX6_day_15 : decode cX6_day 15 = .ok (.aload_n 0, 1) := by decide +kernel
theorem dX6_day_16 : decode cX6_day 16 = .ok (.iload_n 1, 1) := by decide +kernel
theorem dX6_day_17 : decode cX6_day 17 = .ok (.putfield 92, 3) := by decide +kernel
theorem dX6_day_20 : decode cX6_day 20 = .ok (.iconst 1, 1) := by decide +kernel
theorem dX6_day_21 : decode cX6_day 21 = .ok (.ireturn, 1) := by decide +kernel
set_option maxRecDepth 20000 in
theorem ggX6_chain_X6_isGood : GoodIn wsX6_chain wsX6_isGood := goodIn_r _ [10, 11, 12, 9, 13] (by decide +kernel) (by decide +kernel)
set_option maxRecDepth 20000 in
theorem gX6_chain_X6_isGood : GoodIn wsX6_chain (va_wsS RX6 48 yX6_isGood wsX6_isGood) := goodIn_app (goodIn_of _ (by decide +kernel)) ggX6_chain_X6_isGood
set_option maxRecDepth 20000 in
theorem ggX6_chain_X6_isWithin : GoodIn wsX6_chain wsX6_isWithin := goodIn_r _ [13] (by decide +kernel) (by decide +kernel)
set_option maxRecDepth 20000 in
theorem gX6_chain_X6_isWithin : GoodIn wsX6_chain (va_wsS RX6 52 yX6_isWithin wsX6_isWithin) := goodIn_app (goodIn_of _ (by decide +kernel)) ggX6_chain_X6_isWithin
set_option maxRecDepth 20000 in
theorem ggX6_chain_X1_trace : GoodIn wsX6_chain wsX1_trace := goodIn_r _ [18, 19, 20, 21, 22, 23, 24, 25, 17, 26, 27, 28, 29, 30, 31, 32, 33, 34, 35, 36, 37, 38, 39, 9, 40, 41, 42, 43, 55, 56, 57, 58, 59, 60, 61, 62, 63, 64, 65, 66] (by decide +kernel) (by decide +kernel)
set_option maxRecDepth 20000 in
theorem gX6_chain_X1_trace : GoodIn wsX6_chain (wsV RX6 185 RX1 yX1_trace wsX1_trace) := goodIn_app (goodIn_of _ (by decide +kernel)) ggX6_chain_X1_trace
theorem dX6_chain_0 : decode cX6_chain 0 = .ok (.iload_n 1, 1) := by decide +kernel
theorem dX6_chain_1 : decode cX6_chain 1 = .ok (.invokestatic 48, 3) := by decide +kernel
theorem dX6_chain_4 : decode cX6_chain 4 = .ok (.ifCond .eq 19, 3) := by decide +kernel
theorem dX6_chain_7 : decode cX6_chain 7 = .ok (.iload_n 2, 1) := by decide +kernel
theorem dX6_chain_8 : decode cX6_chain 8 = .ok (.invokestatic 48, 3) := by decide +kernel
theorem dX6_chain_11 : decode cX6_chain 11 = .ok (.ifCond .eq 12, 3) := by decide +kernel
theorem dX6_chain_14 : decode cX6_chain 14 = .ok (.iload_n 3, 1) := by decide +kernel
theorem dX6_chain_15 : decode cX6_chain 15 = .ok (.iconst 0, 1) := by decide +kernel
theorem dX6_chain_16 : decode cX6_chain 16 = .ok (.iconst 1, 1) := by decide +kernel
theorem dX6_chain_17 : decode cX6_chain 17 = .ok (.invokestatic 52, 3) := by decide +kernel
theorem dX6_chain_20 : decode cX6_chain 20 = .ok (.ifCond .ne 13, 3) := by decide +kernel
theorem dX6_chain_23 : decode cX6_chain 23 = .ok (.new 76, 3) := by decide +kernel
theorem dX6_chain_26 : decode cX6_chain 26 = .ok (.dup, 1) := by decide +kernel
theorem dX6_chain_27 : decode cX6_chain 27 = .ok (.ldc 183, 2) := by decide +kernel
theorem dX6_chain_29 : decode cX6_chain 29 = .ok (.invokespecial 80, 3) := by decide +kernel
theorem dX6_chain_32 : decode cX6_chain 32 = .ok (.athrow, 1) := by decide +kernel
theorem dX6_chain_33 : decode cX6_chain 33 = .ok (.aload_n 0, 1) := by decide +kernel
theorem dX6_chain_34 : decode cX6_chain 34 = .ok (.getfield 44, 3) := by decide +kernel
theorem dX6_chain_37 : decode cX6_chain 37 = .ok (.aload_n 0, 1) := by decide +kernel
theorem dX6_chain_38 : decode cX6_chain 38 = .ok (.getfield 16, 3) := by decide +kernel
theorem dX6_chain_41 : decode cX6_chain 41 = .ok (.iload_n 2, 1) := by decide +kernel
theorem dX6_chain_42 : decode cX6_chain 42 = .ok (.invokevirtual 185, 3) := by decide +kernel
theorem dX6_chain_45 : decode cX6_chain 45 = .ok (.iload_n 3, 1) := by decide +kernel
theorem dX6_chain_46 : decode cX6_chain 46 = .ok (.ifCond .ne 15, 3) := by decide +kernel
theorem dX6_chain_49 : decode cX6_chain 49 = .ok (.aload_n 0, 1) := by decide +kernel
theorem dX6_chain_50 : decode cX6_chain 50 = .ok (.getfield 44, 3) := by decide +kernel
theorem dX6_chain_53 : decode cX6_chain 53 = .ok (.getfield 189, 3) := by decide +kernel
theorem dX6_chain_56 : decode cX6_chain 56 = .ok (.iload_n 1, 1) := by decide +kernel
theorem dX6_chain_57 : decode cX6_chain 57 = .ok (.laload, 1) := by decide +kernel
theorem dX6_chain_58 : decode cX6_chain 58 = .ok (.goto 12, 3) := by decide +kernel
theorem dX6_chain_61 : decode cX6_chain 61 = .ok (.aload_n 0, 1) := by decide +kernel
theorem dX6_chain_62 : decode cX6_chain 62 = .ok (.getfield 44, 3) := by decide +kernel
theorem dX6_chain_65 : decode cX6_chain 65 = .ok (.getfield 193, 3) := by decide +kernel
theorem dX6_chain_68 : decode cX6_chain 68 = .ok (.iload_n 1, 1) := by decide +kernel
theorem dX6_chain_69 : decode cX6_chain 69 = .ok (.laload, 1) := by decide +kernel
theorem dX6_chain_70 : decode cX6_chain 70 = .ok (.lreturn, 1) := by decide +kernel
set_option maxRecDepth 20000 in
theorem ggX6_look_X6_isGood : GoodIn wsX6_look wsX6_isGood := goodIn_r _ [17, 18, 19, 16, 20] (by decide +kernel) (by decide +kernel)
set_option maxRecDepth 20000 in
theorem gX6_look_X6_isGood : GoodIn wsX6_look (va_wsS RX6 48 yX6_isGood wsX6_isGood) := goodIn_app (goodIn_of _ (by decide +kernel)) ggX6_look_X6_isGood
set_option maxRecDepth 20000 in
theorem ggX6_look_X6_isWithin : GoodIn wsX6_look wsX6_isWithin := goodIn_r _ [20] (by decide +kernel) (by decide +kernel)
set_option maxRecDepth 20000 in
theorem gX6_look_X6_isWithin : GoodIn wsX6_look (va_wsS RX6 52 yX6_isWithin wsX6_isWithin) := goodIn_app (goodIn_of _ (by decide +kernel)) ggX6_look_X6_isWithin
set_option maxRecDepth 20000 in
theorem ggX6_look_X2_stockOf : GoodIn wsX6_look wsX2_stockOf := goodIn_r _ [25, 26, 27, 28, 72, 73, 74, 75, 76, 77] (by decide +kernel) (by decide +kernel)
set_option maxRecDepth 20000 in
theorem gX6_look_X2_stockOf : GoodIn wsX6_look (wsV RX6 155 RX2 yX2_stockOf wsX2_stockOf) := goodIn_app (goodIn_of _ (by decide +kernel)) ggX6_look_X2_stockOf
set_option maxRecDepth 20000 in
theorem ggX6_look_X2_debtOf : GoodIn wsX6_look wsX2_debtOf := goodIn_r _ [32, 26, 27, 33, 72, 73, 74, 75, 76, 77] (by decide +kernel) (by decide +kernel)
set_option maxRecDepth 20000 in
theorem gX6_look_X2_debtOf : GoodIn wsX6_look (wsV RX6 201 RX2 yX2_debtOf wsX2_debtOf) := goodIn_app (goodIn_of _ (by decide +kernel)) ggX6_look_X2_debtOf
set_option maxRecDepth 20000 in
theorem ggX6_look_X2_openOf : GoodIn wsX6_look wsX2_openOf := goodIn_r _ [37, 26, 27, 28, 72, 73, 74, 75, 76, 77] (by decide +kernel) (by decide +kernel)
set_option maxRecDepth 20000 in
theorem gX6_look_X2_openOf : GoodIn wsX6_look (wsV RX6 204 RX2 yX2_openOf wsX2_openOf) := goodIn_app (goodIn_of _ (by decide +kernel)) ggX6_look_X2_openOf
set_option maxRecDepth 20000 in
theorem ggX6_look_X4_openOf : GoodIn wsX6_look wsX4_openOf := goodIn_r _ [42, 43, 44, 45, 46, 47, 41, 48, 49, 50, 78, 79, 80, 81] (by decide +kernel) (by decide +kernel)
set_option maxRecDepth 20000 in
theorem gX6_look_X4_openOf : GoodIn wsX6_look (wsV RX6 211 RX4 yX4_openOf wsX4_openOf) := goodIn_app (goodIn_of _ (by decide +kernel)) ggX6_look_X4_openOf
theorem dX6_look_0 : decode cX6_look 0 = .ok (.iload_n 1, 1) := by decide +kernel
theorem dX6_look_1 : decode cX6_look 1 = .ok (.invokestatic 48, 3) := by decide +kernel
theorem dX6_look_4 : decode cX6_look 4 = .ok (.ifCond .eq 13, 3) := by decide +kernel
theorem dX6_look_7 : decode cX6_look 7 = .ok (.iload_n 2, 1) := by decide +kernel
theorem dX6_look_8 : decode cX6_look 8 = .ok (.iconst 0, 1) := by decide +kernel
theorem dX6_look_9 : decode cX6_look 9 = .ok (.bipush 7, 2) := by decide +kernel
theorem dX6_look_11 : decode cX6_look 11 = .ok (.invokestatic 52, 3) := by decide +kernel
theorem dX6_look_14 : decode cX6_look 14 = .ok (.ifCond .ne 13, 3) := by decide +kernel
theorem dX6_look_17 : decode cX6_look 17 = .ok (.new 196, 3) := by decide +kernel
theorem dX6_look_20 : decode cX6_look 20 = .ok (.dup, 1) := by decide +kernel
theorem dX6_look_21 : decode cX6_look 21 = .ok (.ldc 198, 2) := by decide +kernel
theorem dX6_look_23 : decode cX6_look 23 = .ok (.invokespecial 200, 3) := by decide +kernel
theorem dX6_look_26 : decode cX6_look 26 = .ok (.athrow, 1) := by decide +kernel
theorem dX6_look_27 : decode cX6_look 27 = .ok (.iload_n 2, 1) := by decide +kernel
theorem dX6_look_28 : decode cX6_look 28 = .ok (.tableswitch 155 0 6 #[44, 53, 62, 72, 104, 136, 147], 44) := by decide +kernel
theorem dX6_look_72 : decode cX6_look 72 = .ok (.aload_n 0, 1) := by decide +kernel
theorem dX6_look_73 : decode cX6_look 73 = .ok (.getfield 23, 3) := by decide +kernel
theorem dX6_look_76 : decode cX6_look 76 = .ok (.iload_n 1, 1) := by decide +kernel
theorem dX6_look_77 : decode cX6_look 77 = .ok (.invokevirtual 155, 3) := by decide +kernel
theorem dX6_look_80 : decode cX6_look 80 = .ok (.lreturn, 1) := by decide +kernel
theorem dX6_look_81 : decode cX6_look 81 = .ok (.aload_n 0, 1) := by decide +kernel
theorem dX6_look_82 : decode cX6_look 82 = .ok (.getfield 23, 3) := by decide +kernel
theorem dX6_look_85 : decode cX6_look 85 = .ok (.iload_n 1, 1) := by decide +kernel
theorem dX6_look_86 : decode cX6_look 86 = .ok (.invokevirtual 201, 3) := by decide +kernel
theorem dX6_look_89 : decode cX6_look 89 = .ok (.lreturn, 1) := by decide +kernel
theorem dX6_look_90 : decode cX6_look 90 = .ok (.aload_n 0, 1) := by decide +kernel
theorem dX6_look_91 : decode cX6_look 91 = .ok (.getfield 23, 3) := by decide +kernel
theorem dX6_look_94 : decode cX6_look 94 = .ok (.iload_n 1, 1) := by decide +kernel
theorem dX6_look_95 : decode cX6_look 95 = .ok (.invokevirtual 204, 3) := by decide +kernel
theorem dX6_look_98 : decode cX6_look 98 = .ok (.i2l, 1) := by decide +kernel
theorem dX6_look_99 : decode cX6_look 99 = .ok (.lreturn, 1) := by decide +kernel
theorem dX6_look_100 : decode cX6_look 100 = .ok (.aload_n 0, 1) := by decide +kernel
theorem dX6_look_101 : decode cX6_look 101 = .ok (.getfield 16, 3) := by decide +kernel
theorem dX6_look_104 : decode cX6_look 104 = .ok (.getfield 56, 3) := by decide +kernel
theorem dX6_look_107 : decode cX6_look 107 = .ok (.iload_n 1, 1) := by decide +kernel
theorem dX6_look_108 : decode cX6_look 108 = .ok (.baload, 1) := by decide +kernel
theorem dX6_look_109 : decode cX6_look 109 = .ok (.ifCond .eq 19, 3) := by decide +kernel
theorem dX6_look_112 : decode cX6_look 112 = .ok (.aload_n 0, 1) := by decide +kernel
theorem dX6_look_113 : decode cX6_look 113 = .ok (.getfield 16, 3) := by decide +kernel
theorem dX6_look_116 : decode cX6_look 116 = .ok (.getfield 110, 3) := by decide +kernel
theorem dX6_look_119 : decode cX6_look 119 = .ok (.getfield 114, 3) := by decide +kernel
theorem dX6_look_122 : decode cX6_look 122 = .ok (.iload_n 1, 1) := by decide +kernel
theorem dX6_look_123 : decode cX6_look 123 = .ok (.iaload, 1) := by decide +kernel
theorem dX6_look_124 : decode cX6_look 124 = .ok (.i2l, 1) := by decide +kernel
theorem dX6_look_125 : decode cX6_look 125 = .ok (.goto 6, 3) := by decide +kernel
theorem dX6_look_128 : decode cX6_look 128 = .ok (.ldc2_w 159, 3) := by decide +kernel
theorem dX6_look_131 : decode cX6_look 131 = .ok (.lreturn, 1) := by decide +kernel
theorem dX6_look_132 : decode cX6_look 132 = .ok (.aload_n 0, 1) := by decide +kernel
theorem dX6_look_133 : decode cX6_look 133 = .ok (.getfield 16, 3) := by decide +kernel
theorem dX6_look_136 : decode cX6_look 136 = .ok (.getfield 56, 3) := by decide +kernel
theorem dX6_look_139 : decode cX6_look 139 = .ok (.iload_n 1, 1) := by decide +kernel
theorem dX6_look_140 : decode cX6_look 140 = .ok (.baload, 1) := by decide +kernel
theorem dX6_look_141 : decode cX6_look 141 = .ok (.ifCond .eq 19, 3) := by decide +kernel
theorem dX6_look_144 : decode cX6_look 144 = .ok (.aload_n 0, 1) := by decide +kernel
theorem dX6_look_145 : decode cX6_look 145 = .ok (.getfield 16, 3) := by decide +kernel
theorem dX6_look_148 : decode cX6_look 148 = .ok (.getfield 121, 3) := by decide +kernel
theorem dX6_look_151 : decode cX6_look 151 = .ok (.getfield 114, 3) := by decide +kernel
theorem dX6_look_154 : decode cX6_look 154 = .ok (.iload_n 1, 1) := by decide +kernel
theorem dX6_look_155 : decode cX6_look 155 = .ok (.iaload, 1) := by decide +kernel
theorem dX6_look_156 : decode cX6_look 156 = .ok (.i2l, 1) := by decide +kernel
theorem dX6_look_157 : decode cX6_look 157 = .ok (.goto 6, 3) := by decide +kernel
theorem dX6_look_160 : decode cX6_look 160 = .ok (.ldc2_w 159, 3) := by decide +kernel
theorem dX6_look_163 : decode cX6_look 163 = .ok (.lreturn, 1) := by decide +kernel
theorem dX6_look_164 : decode cX6_look 164 = .ok (.aload_n 0, 1) := by decide +kernel
theorem dX6_look_165 : decode cX6_look 165 = .ok (.getfield 16, 3) := by decide +kernel
theorem dX6_look_168 : decode cX6_look 168 = .ok (.getfield 208, 3) := by decide +kernel
theorem dX6_look_171 : decode cX6_look 171 = .ok (.iload_n 1, 1) := by decide +kernel
theorem dX6_look_172 : decode cX6_look 172 = .ok (.iaload, 1) := by decide +kernel
theorem dX6_look_173 : decode cX6_look 173 = .ok (.i2l, 1) := by decide +kernel
theorem dX6_look_174 : decode cX6_look 174 = .ok (.lreturn, 1) := by decide +kernel
theorem dX6_look_175 : decode cX6_look 175 = .ok (.aload_n 0, 1) := by decide +kernel
theorem dX6_look_176 : decode cX6_look 176 = .ok (.getfield 9, 3) := by decide +kernel
theorem dX6_look_179 : decode cX6_look 179 = .ok (.iload_n 1, 1) := by decide +kernel
theorem dX6_look_180 : decode cX6_look 180 = .ok (.iaload, 1) := by decide +kernel
theorem dX6_look_181 : decode cX6_look 181 = .ok (.i2l, 1) := by decide +kernel
theorem dX6_look_182 : decode cX6_look 182 = .ok (.lreturn, 1) := by decide +kernel
theorem dX6_look_183 : decode cX6_look 183 = .ok (.aload_n 0, 1) := by decide +kernel
theorem dX6_look_184 : decode cX6_look 184 = .ok (.getfield 30, 3) := by decide +kernel
theorem dX6_look_187 : decode cX6_look 187 = .ok (.iload_n 1, 1) := by decide +kernel
theorem dX6_look_188 : decode cX6_look 188 = .ok (.aload_n 0, 1) := by decide +kernel
theorem dX6_look_189 : decode cX6_look 189 = .ok (.getfield 92, 3) := by decide +kernel
theorem dX6_look_192 : decode cX6_look 192 = .ok (.invokevirtual 211, 3) := by decide +kernel
theorem dX6_look_195 : decode cX6_look 195 = .ok (.lreturn, 1) := by decide +kernel
set_option maxRecDepth 20000 in
theorem ggX6_lot_X6_isWithin : GoodIn wsX6_lot wsX6_isWithin := goodIn_r _ [12] (by decide +kernel) (by decide +kernel)
set_option maxRecDepth 20000 in
theorem gX6_lot_X6_isWithin : GoodIn wsX6_lot (va_wsS RX6 52 yX6_isWithin wsX6_isWithin) := goodIn_app (goodIn_of _ (by decide +kernel)) ggX6_lot_X6_isWithin
theorem dX6_lot_0 : decode cX6_lot 0 = .ok (.iload_n 1, 1) := by decide +kernel
theorem dX6_lot_1 : decode cX6_lot 1 = .ok (.iconst 0, 1) := by decide +kernel
theorem dX6_lot_2 : decode cX6_lot 2 = .ok (.aload_n 0, 1) := by decide +kernel
theorem dX6_lot_3 : decode cX6_lot 3 = .ok (.getfield 23, 3) := by decide +kernel
theorem dX6_lot_6 : decode cX6_lot 6 = .ok (.getfield 213, 3) := by decide +kernel
theorem dX6_lot_9 : decode cX6_lot 9 = .ok (.iconst 1, 1) := by decide +kernel
theorem dX6_lot_10 : decode cX6_lot 10 = .ok (.isub, 1) := by decide +kernel
theorem dX6_lot_11 : decode cX6_lot 11 = .ok (.invokestatic 52, 3) := by decide +kernel
theorem dX6_lot_14 : decode cX6_lot 14 = .ok (.ifCond .eq 12, 3) := by decide +kernel
theorem dX6_lot_17 : decode cX6_lot 17 = .ok (.iload_n 2, 1) := by decide +kernel
theorem dX6_lot_18 : decode cX6_lot 18 = .ok (.iconst 0, 1) := by decide +kernel
theorem dX6_lot_19 : decode cX6_lot 19 = .ok (.iconst 3, 1) := by decide +kernel
theorem dX6_lot_20 : decode cX6_lot 20 = .ok (.invokestatic 52, 3) := by decide +kernel
theorem dX6_lot_23 : decode cX6_lot 23 = .ok (.ifCond .ne 13, 3) := by decide +kernel
theorem dX6_lot_26 : decode cX6_lot 26 = .ok (.new 196, 3) := by decide +kernel
theorem dX6_lot_29 : decode cX6_lot 29 = .ok (.dup, 1) := by decide +kernel
theorem dX6_lot_30 : decode cX6_lot 30 = .ok (.ldc 214, 2) := by decide +kernel
theorem dX6_lot_32 : decode cX6_lot 32 = .ok (.invokespecial 200, 3) := by decide +kernel
theorem dX6_lot_35 : decode cX6_lot 35 = .ok (.athrow, 1) := by decide +kernel
theorem dX6_lot_36 : decode cX6_lot 36 = .ok (.iload_n 2, 1) := by decide +kernel
theorem dX6_lot_37 : decode cX6_lot 37 = .ok (.tableswitch 58 0 2 #[27, 38, 48], 27) := by decide +kernel
theorem dX6_lot_64 : decode cX6_lot 64 = .ok (.aload_n 0, 1) := by decide +kernel
theorem dX6_lot_65 : decode cX6_lot 65 = .ok (.getfield 23, 3) := by decide +kernel
theorem dX6_lot_68 : decode cX6_lot 68 = .ok (.getfield 216, 3) := by decide +kernel
theorem dX6_lot_71 : decode cX6_lot 71 = .ok (.iload_n 1, 1) := by decide +kernel
theorem dX6_lot_72 : decode cX6_lot 72 = .ok (.iaload, 1) := by decide +kernel
theorem dX6_lot_73 : decode cX6_lot 73 = .ok (.i2l, 1) := by decide +kernel
theorem dX6_lot_74 : decode cX6_lot 74 = .ok (.lreturn, 1) := by decide +kernel
theorem dX6_lot_75 : decode cX6_lot 75 = .ok (.aload_n 0, 1) := by decide +kernel
theorem dX6_lot_76 : decode cX6_lot 76 = .ok (.getfield 23, 3) := by decide +kernel
theorem dX6_lot_79 : decode cX6_lot 79 = .ok (.getfield 219, 3) := by decide +kernel
theorem dX6_lot_82 : decode cX6_lot 82 = .ok (.iload_n 1, 1) := by decide +kernel
theorem dX6_lot_83 : decode cX6_lot 83 = .ok (.laload, 1) := by decide +kernel
theorem dX6_lot_84 : decode cX6_lot 84 = .ok (.lreturn, 1) := by decide +kernel
theorem dX6_lot_85 : decode cX6_lot 85 = .ok (.aload_n 0, 1) := by decide +kernel
theorem dX6_lot_86 : decode cX6_lot 86 = .ok (.getfield 23, 3) := by decide +kernel
theorem dX6_lot_89 : decode cX6_lot 89 = .ok (.getfield 222, 3) := by decide +kernel
theorem dX6_lot_92 : decode cX6_lot 92 = .ok (.iload_n 1, 1) := by decide +kernel
theorem dX6_lot_93 : decode cX6_lot 93 = .ok (.laload, 1) := by decide +kernel
theorem dX6_lot_94 : decode cX6_lot 94 = .ok (.lreturn, 1) := by decide +kernel
theorem dX6_lot_95 : decode cX6_lot 95 = .ok (.aload_n 0, 1) := by decide +kernel
theorem dX6_lot_96 : decode cX6_lot 96 = .ok (.getfield 23, 3) := by decide +kernel
theorem dX6_lot_99 : decode cX6_lot 99 = .ok (.getfield 225, 3) := by decide +kernel
theorem dX6_lot_102 : decode cX6_lot 102 = .ok (.iload_n 1, 1) := by decide +kernel
theorem dX6_lot_103 : decode cX6_lot 103 = .ok (.iaload, 1) := by decide +kernel
theorem dX6_lot_104 : decode cX6_lot 104 = .ok (.i2l, 1) := by decide +kernel
theorem dX6_lot_105 : decode cX6_lot 105 = .ok (.lreturn, 1) := by decide +kernel
set_option maxRecDepth 20000 in
theorem ggX6_sum_X2_wholeDebt : GoodIn wsX6_sum wsX2_wholeDebt := goodIn_r _ [11, 12, 13, 25, 26, 27, 28, 29, 30] (by decide +kernel) (by decide +kernel)
set_option maxRecDepth 20000 in
theorem gX6_sum_X2_wholeDebt : GoodIn wsX6_sum (wsV RX6 228 RX2 yX2_wholeDebt wsX2_wholeDebt) := goodIn_app (goodIn_of _ (by decide +kernel)) ggX6_sum_X2_wholeDebt
theorem dX6_sum_0 : decode cX6_sum 0 = .ok (.iload_n 1, 1) := by decide +kernel
theorem dX6_sum_1 : decode cX6_sum 1 = .ok (.tableswitch 63 0 4 #[35, 40, 45, 50, 55], 35) := by decide +kernel
theorem dX6_sum_36 : decode cX6_sum 36 = .ok (.aload_n 0, 1) := by decide +kernel
theorem dX6_sum_37 : decode cX6_sum 37 = .ok (.getfield 99, 3) := by decide +kernel
theorem dX6_sum_40 : decode cX6_sum 40 = .ok (.lreturn, 1) := by decide +kernel
theorem dX6_sum_41 : decode cX6_sum 41 = .ok (.aload_n 0, 1) := by decide +kernel
theorem dX6_sum_42 : decode cX6_sum 42 = .ok (.getfield 103, 3) := by decide +kernel
theorem dX6_sum_45 : decode cX6_sum 45 = .ok (.lreturn, 1) := by decide +kernel
theorem dX6_sum_46 : decode cX6_sum 46 = .ok (.aload_n 0, 1) := by decide +kernel
theorem dX6_sum_47 : decode cX6_sum 47 = .ok (.getfield 165, 3) := by decide +kernel
theorem dX6_sum_50 : decode cX6_sum 50 = .ok (.lreturn, 1) := by decide +kernel
theorem dX6_sum_51 : decode cX6_sum 51 = .ok (.aload_n 0, 1) := by decide +kernel
theorem dX6_sum_52 : decode cX6_sum 52 = .ok (.getfield 168, 3) := by decide +kernel
theorem dX6_sum_55 : decode cX6_sum 55 = .ok (.lreturn, 1) := by decide +kernel
theorem dX6_sum_56 : decode cX6_sum 56 = .ok (.aload_n 0, 1) := by decide +kernel
theorem dX6_sum_57 : decode cX6_sum 57 = .ok (.getfield 23, 3) := by decide +kernel
theorem dX6_sum_60 : decode cX6_sum 60 = .ok (.invokevirtual 228, 3) := by decide +kernel
theorem dX6_sum_63 : decode cX6_sum 63 = .ok (.lreturn, 1) := by decide +kernel
theorem dX6_sum_64 : decode cX6_sum 64 = .ok (.ldc2_w 159, 3) := by decide +kernel
theorem dX6_sum_67 : decode cX6_sum 67 = .ok (.lreturn, 1) := by decide +kernel
set_option maxRecDepth 20000 in
theorem ggX6_quotient_X6_isWithin : GoodIn wsX6_quotient wsX6_isWithin := goodIn_r _ [9] (by decide +kernel) (by decide +kernel)
set_option maxRecDepth 20000 in
theorem gX6_quotient_X6_isWithin : GoodIn wsX6_quotient (va_wsS RX6 52 yX6_isWithin wsX6_isWithin) := goodIn_app (goodIn_of _ (by decide +kernel)) ggX6_quotient_X6_isWithin
theorem dX6_quotient_0 : decode cX6_quotient 0 = .ok (.iload_n 1, 1) := by decide +kernel
theorem dX6_quotient_1 : decode cX6_quotient 1 = .ok (.iconst 0, 1) := by decide +kernel
theorem dX6_quotient_2 : decode cX6_quotient 2 = .ok (.ldc 232, 2) := by decide +kernel
theorem dX6_quotient_4 : decode cX6_quotient 4 = .ok (.invokestatic 52, 3) := by decide +kernel
theorem dX6_quotient_7 : decode cX6_quotient 7 = .ok (.ifCond .eq 13, 3) := by decide +kernel
theorem dX6_quotient_10 : decode cX6_quotient 10 = .ok (.iload_n 2, 1) := by decide +kernel
theorem dX6_quotient_11 : decode cX6_quotient 11 = .ok (.iconst 0, 1) := by decide +kernel
theorem dX6_quotient_12 : decode cX6_quotient 12 = .ok (.ldc 232, 2) := by decide +kernel
theorem dX6_quotient_14 : decode cX6_quotient 14 = .ok (.invokestatic 52, 3) := by decide +kernel
theorem dX6_quotient_17 : decode cX6_quotient 17 = .ok (.ifCond .ne 13, 3) := by decide +kernel
theorem dX6_quotient_20 : decode cX6_quotient 20 = .ok (.new 76, 3) := by decide +kernel
theorem dX6_quotient_23 : decode cX6_quotient 23 = .ok (.dup, 1) := by decide +kernel
theorem dX6_quotient_24 : decode cX6_quotient 24 = .ok (.ldc 233, 2) := by decide +kernel
theorem dX6_quotient_26 : decode cX6_quotient 26 = .ok (.invokespecial 80, 3) := by decide +kernel
theorem dX6_quotient_29 : decode cX6_quotient 29 = .ok (.athrow, 1) := by decide +kernel
theorem dX6_quotient_30 : decode cX6_quotient 30 = .ok (.iload_n 2, 1) := by decide +kernel
theorem dX6_quotient_31 : decode cX6_quotient 31 = .ok (.ifCond .ne 13, 3) := by decide +kernel
theorem dX6_quotient_34 : decode cX6_quotient 34 = .ok (.new 235, 3) := by decide +kernel
theorem dX6_quotient_37 : decode cX6_quotient 37 = .ok (.dup, 1) := by decide +kernel
theorem dX6_quotient_38 : decode cX6_quotient 38 = .ok (.ldc 237, 2) := by decide +kernel
theorem dX6_quotient_40 : decode cX6_quotient 40 = .ok (.invokespecial 239, 3) := by decide +kernel
theorem dX6_quotient_43 : decode cX6_quotient 43 = .ok (.athrow, 1) := by decide +kernel
theorem dX6_quotient_44 : decode cX6_quotient 44 = .ok (.iload_n 1, 1) := by decide +kernel
theorem dX6_quotient_45 : decode cX6_quotient 45 = .ok (.iload_n 2, 1) := by decide +kernel
theorem dX6_quotient_46 : decode cX6_quotient 46 = .ok (.idiv, 1) := by decide +kernel
theorem dX6_quotient_47 : decode cX6_quotient 47 = .ok (.i2l, 1) := by decide +kernel
theorem dX6_quotient_48 : decode cX6_quotient 48 = .ok (.lreturn, 1) := by decide +kernel
theorem dX6_count_0 : decode cX6_count 0 = .ok (.iload_n 1, 1) := by decide +kernel
theorem dX6_count_1 : decode cX6_count 1 = .ok (.tableswitch 60 0 3 #[31, 39, 47, 55], 31) := by decide +kernel
theorem dX6_count_32 : decode cX6_count 32 = .ok (.aload_n 0, 1) := by decide +kernel
theorem dX6_count_33 : decode cX6_count 33 = .ok (.getfield 23, 3) := by decide +kernel
theorem dX6_count_36 : decode cX6_count 36 = .ok (.getfield 213, 3) := by decide +kernel
theorem dX6_count_39 : decode cX6_count 39 = .ok (.ireturn, 1) := by decide +kernel
theorem dX6_count_40 : decode cX6_count 40 = .ok (.aload_n 0, 1) := by decide +kernel
theorem dX6_count_41 : decode cX6_count 41 = .ok (.getfield 16, 3) := by decide +kernel
theorem dX6_count_44 : decode cX6_count 44 = .ok (.getfield 60, 3) := by decide +kernel
theorem dX6_count_47 : decode cX6_count 47 = .ok (.ireturn, 1) := by decide +kernel
theorem dX6_count_48 : decode cX6_count 48 = .ok (.aload_n 0, 1) := by decide +kernel
theorem dX6_count_49 : decode cX6_count 49 = .ok (.getfield 30, 3) := by decide +kernel
theorem dX6_count_52 : decode cX6_count 52 = .ok (.getfield 177, 3) := by decide +kernel
theorem dX6_count_55 : decode cX6_count 55 = .ok (.ireturn, 1) := by decide +kernel
theorem dX6_count_56 : decode cX6_count 56 = .ok (.aload_n 0, 1) := by decide +kernel
theorem dX6_count_57 : decode cX6_count 57 = .ok (.getfield 92, 3) := by decide +kernel
theorem dX6_count_60 : decode cX6_count 60 = .ok (.ireturn, 1) := by decide +kernel
theorem dX6_count_61 : decode cX6_count 61 = .ok (.iconst (-1), 1) := by decide +kernel
theorem dX6_count_62 : decode cX6_count 62 = .ok (.ireturn, 1) := by decide +kernel
set_option maxRecDepth 20000 in
theorem ggX6_suffices_X3_goodAt : GoodIn wsX6_suffices wsX3_goodAt := goodIn_r _ [9, 10, 11, 12, 8, 13, 50, 51, 52, 53, 54] (by decide +kernel) (by decide +kernel)
set_option maxRecDepth 20000 in
theorem gX6_suffices_X3_goodAt : GoodIn wsX6_suffices (wsV RX6 240 RX3 yX3_goodAt wsX3_goodAt) := goodIn_app (goodIn_of _ (by decide +kernel)) ggX6_suffices_X3_goodAt
set_option maxRecDepth 20000 in
theorem ggX6_suffices_X2_stockOf : GoodIn wsX6_suffices wsX2_stockOf := goodIn_r _ [18, 19, 20, 21, 55, 56, 57, 58, 59, 60] (by decide +kernel) (by decide +kernel)
set_option maxRecDepth 20000 in
theorem gX6_suffices_X2_stockOf : GoodIn wsX6_suffices (wsV RX6 155 RX2 yX2_stockOf wsX2_stockOf) := goodIn_app (goodIn_of _ (by decide +kernel)) ggX6_suffices_X2_stockOf
set_option maxRecDepth 20000 in
theorem ggX6_suffices_X3_roundedUp : GoodIn wsX6_suffices wsX3_roundedUp := goodIn_r _ [25, 26, 27, 11, 12, 8, 13, 28, 29, 30, 31, 32, 33, 50, 51, 52, 53, 54] (by decide +kernel) (by decide +kernel)
set_option maxRecDepth 20000 in
theorem gX6_suffices_X3_roundedUp : GoodIn wsX6_suffices (wsV RX6 244 RX3 yX3_roundedUp wsX3_roundedUp) := goodIn_app (goodIn_of _ (by decide +kernel)) ggX6_suffices_X3_roundedUp
theorem dX6_suffices_0 : decode cX6_suffices 0 = .ok (.aload_n 0, 1) := by decide +kernel
theorem dX6_suffices_1 : decode cX6_suffices 1 = .ok (.getfield 16, 3) := by decide +kernel
theorem dX6_suffices_4 : decode cX6_suffices 4 = .ok (.getfield 110, 3) := by decide +kernel
theorem dX6_suffices_7 : decode cX6_suffices 7 = .ok (.astore_n 3, 1) := by decide +kernel
theorem dX6_suffices_8 : decode cX6_suffices 8 = .ok (.iconst 0, 1) := by decide +kernel
theorem dX6_suffices_9 : decode cX6_suffices 9 = .ok (.istore 4, 2) := by decide +kernel
theorem dX6_suffices_11 : decode cX6_suffices 11 = .ok (.iload 4, 2) := by decide +kernel
theorem dX6_suffices_13 : decode cX6_suffices 13 = .ok (.aload_n 3, 1) := by decide +kernel
theorem dX6_suffices_14 : decode cX6_suffices 14 = .ok (.getfield 114, 3) := by decide +kernel
theorem dX6_suffices_17 : decode cX6_suffices 17 = .ok (.iload_n 1, 1) := by decide +kernel
theorem dX6_suffices_18 : decode cX6_suffices 18 = .ok (.iaload, 1) := by decide +kernel
theorem dX6_suffices_19 : decode cX6_suffices 19 = .ok (.if_icmp .ge 37, 3) := by decide +kernel
theorem dX6_suffices_22 : decode cX6_suffices 22 = .ok (.aload_n 0, 1) := by decide +kernel
theorem dX6_suffices_23 : decode cX6_suffices 23 = .ok (.getfield 23, 3) := by decide +kernel
theorem dX6_suffices_26 : decode cX6_suffices 26 = .ok (.aload_n 3, 1) := by decide +kernel
theorem dX6_suffices_27 : decode cX6_suffices 27 = .ok (.iload_n 1, 1) := by decide +kernel
theorem dX6_suffices_28 : decode cX6_suffices 28 = .ok (.iload 4, 2) := by decide +kernel
theorem dX6_suffices_30 : decode cX6_suffices 30 = .ok (.invokevirtual 240, 3) := by decide +kernel
theorem dX6_suffices_33 : decode cX6_suffices 33 = .ok (.invokevirtual 155, 3) := by decide +kernel
theorem dX6_suffices_36 : decode cX6_suffices 36 = .ok (.aload_n 3, 1) := by decide +kernel
theorem dX6_suffices_37 : decode cX6_suffices 37 = .ok (.iload_n 1, 1) := by decide +kernel
theorem dX6_suffices_38 : decode cX6_suffices 38 = .ok (.iload 4, 2) := by decide +kernel
theorem dX6_suffices_40 : decode cX6_suffices 40 = .ok (.iload_n 2, 1) := by decide +kernel
theorem dX6_suffices_41 : decode cX6_suffices 41 = .ok (.invokevirtual 244, 3) := by decide +kernel
theorem dX6_suffices_44 : decode cX6_suffices 44 = .ok (.lcmp, 1) := by decide +kernel
theorem dX6_suffices_45 : decode cX6_suffices 45 = .ok (.ifCond .ge 5, 3) := by decide +kernel
theorem dX6_suffices_48 : decode cX6_suffices 48 = .ok (.iconst 0, 1) := by decide +kernel
theorem dX6_suffices_49 : decode cX6_suffices 49 = .ok (.ireturn, 1) := by decide +kernel
theorem dX6_suffices_50 : decode cX6_suffices 50 = .ok (.iinc 4 1, 3) := by decide +kernel
theorem dX6_suffices_53 : decode cX6_suffices 53 = .ok (.goto (-42), 3) := by decide +kernel
theorem dX6_suffices_56 : decode cX6_suffices 56 = .ok (.iconst 1, 1) := by decide +kernel
theorem dX6_suffices_57 : decode cX6_suffices 57 = .ok (.ireturn, 1) := by decide +kernel
set_option maxRecDepth 20000 in
theorem ggX6_takeNeeds_X3_goodAt : GoodIn wsX6_takeNeeds wsX3_goodAt := goodIn_r _ [10, 11, 12, 13, 9, 14, 68, 69, 70, 71, 72] (by decide +kernel) (by decide +kernel)
set_option maxRecDepth 20000 in
theorem gX6_takeNeeds_X3_goodAt : GoodIn wsX6_takeNeeds (wsV RX6 240 RX3 yX3_goodAt wsX3_goodAt) := goodIn_app (goodIn_of _ (by decide +kernel)) ggX6_takeNeeds_X3_goodAt
set_option maxRecDepth 20000 in
theorem ggX6_takeNeeds_X3_roundedUp : GoodIn wsX6_takeNeeds wsX3_roundedUp := goodIn_r _ [18, 19, 20, 12, 13, 9, 14, 21, 22, 23, 24, 25, 26, 68, 69, 70, 71, 72] (by decide +kernel) (by decide +kernel)
set_option maxRecDepth 20000 in
theorem gX6_takeNeeds_X3_roundedUp : GoodIn wsX6_takeNeeds (wsV RX6 244 RX3 yX3_roundedUp wsX3_roundedUp) := goodIn_app (goodIn_of _ (by decide +kernel)) ggX6_takeNeeds_X3_roundedUp
set_option maxRecDepth 20000 in
theorem ggX6_takeNeeds_X2_take : GoodIn wsX6_takeNeeds wsX2_take := goodIn_r _ [31, 32, 33, 34, 35, 36, 37, 38, 39, 40, 41, 42, 43, 30, 44, 45, 25, 22, 26, 46, 47, 48, 49, 50, 51, 21, 23, 24, 73, 74, 75, 76, 77, 78] (by decide +kernel) (by decide +kernel)
set_option maxRecDepth 20000 in
theorem gX6_takeNeeds_X2_take : GoodIn wsX6_takeNeeds (wsV RX6 161 RX2 yX2_take wsX2_take) := goodIn_app (goodIn_of _ (by decide +kernel)) ggX6_takeNeeds_X2_take
theorem dX6_takeNeeds_0 : decode cX6_takeNeeds 0 = .ok (.aload_n 0, 1) := by decide +kernel
theorem dX6_takeNeeds_1 : decode cX6_takeNeeds 1 = .ok (.getfield 16, 3) := by decide +kernel
theorem dX6_takeNeeds_4 : decode cX6_takeNeeds 4 = .ok (.getfield 110, 3) := by decide +kernel
theorem dX6_takeNeeds_7 : decode cX6_takeNeeds 7 = .ok (.astore_n 3, 1) := by decide +kernel
theorem dX6_takeNeeds_8 : decode cX6_takeNeeds 8 = .ok (.lconst 0, 1) := by decide +kernel
theorem dX6_takeNeeds_9 : decode cX6_takeNeeds 9 = .ok (.lstore 4, 2) := by decide +kernel
theorem dX6_takeNeeds_11 : decode cX6_takeNeeds 11 = .ok (.iconst 0, 1) := by decide +kernel
theorem dX6_takeNeeds_12 : decode cX6_takeNeeds 12 = .ok (.istore 6, 2) := by decide +kernel
theorem dX6_takeNeeds_14 : decode cX6_takeNeeds 14 = .ok (.iload 6, 2) := by decide +kernel
theorem dX6_takeNeeds_16 : decode cX6_takeNeeds 16 = .ok (.aload_n 3, 1) := by decide +kernel
theorem dX6_takeNeeds_17 : decode cX6_takeNeeds 17 = .ok (.getfield 114, 3) := by decide +kernel
theorem dX6_takeNeeds_20 : decode cX6_takeNeeds 20 = .ok (.iload_n 1, 1) := by decide +kernel
theorem dX6_takeNeeds_21 : decode cX6_takeNeeds 21 = .ok (.iaload, 1) := by decide +kernel
theorem dX6_takeNeeds_22 : decode cX6_takeNeeds 22 = .ok (.if_icmp .ge 40, 3) := by decide +kernel
theorem dX6_takeNeeds_25 : decode cX6_takeNeeds 25 = .ok (.lload 4, 2) := by decide +kernel
theorem dX6_takeNeeds_27 : decode cX6_takeNeeds 27 = .ok (.aload_n 0, 1) := by decide +kernel
theorem dX6_takeNeeds_28 : decode cX6_takeNeeds 28 = .ok (.getfield 23, 3) := by decide +kernel
theorem dX6_takeNeeds_31 : decode cX6_takeNeeds 31 = .ok (.aload_n 3, 1) := by decide +kernel
theorem dX6_takeNeeds_32 : decode cX6_takeNeeds 32 = .ok (.iload_n 1, 1) := by decide +kernel
theorem dX6_takeNeeds_33 : decode cX6_takeNeeds 33 = .ok (.iload 6, 2) := by decide +kernel
theorem dX6_takeNeeds_35 : decode cX6_takeNeeds 35 = .ok (.invokevirtual 240, 3) := by decide +kernel
theorem dX6_takeNeeds_38 : decode cX6_takeNeeds 38 = .ok (.aload_n 3, 1) := by decide +kernel
theorem dX6_takeNeeds_39 : decode cX6_takeNeeds 39 = .ok (.iload_n 1, 1) := by decide +kernel
theorem dX6_takeNeeds_40 : decode cX6_takeNeeds 40 = .ok (.iload 6, 2) := by decide +kernel
theorem dX6_takeNeeds_42 : decode cX6_takeNeeds 42 = .ok (.iload_n 2, 1) := by decide +kernel
theorem dX6_takeNeeds_43 : decode cX6_takeNeeds 43 = .ok (.invokevirtual 244, 3) := by decide +kernel
theorem dX6_takeNeeds_46 : decode cX6_takeNeeds 46 = .ok (.aload_n 0, 1) := by decide +kernel
theorem dX6_takeNeeds_47 : decode cX6_takeNeeds 47 = .ok (.getfield 92, 3) := by decide +kernel
theorem dX6_takeNeeds_50 : decode cX6_takeNeeds 50 = .ok (.invokevirtual 161, 3) := by decide +kernel
theorem dX6_takeNeeds_53 : decode cX6_takeNeeds 53 = .ok (.ladd, 1) := by decide +kernel
theorem dX6_takeNeeds_54 : decode cX6_takeNeeds 54 = .ok (.lstore 4, 2) := by decide +kernel
theorem dX6_takeNeeds_56 : decode cX6_takeNeeds 56 = .ok (.iinc 6 1, 3) := by decide +kernel
theorem dX6_takeNeeds_59 : decode cX6_takeNeeds 59 = .ok (.goto (-45), 3) := by decide +kernel
theorem dX6_takeNeeds_62 : decode cX6_takeNeeds 62 = .ok (.lload 4, 2) := by decide +kernel
theorem dX6_takeNeeds_64 : decode cX6_takeNeeds 64 = .ok (.lreturn, 1) := by decide +kernel
set_option maxRecDepth 20000 in
theorem ggX6_checkPart_X6_isGood : GoodIn wsX6_checkPart wsX6_isGood := goodIn_r _ [6, 7, 8, 5, 9] (by decide +kernel) (by decide +kernel)
set_option maxRecDepth 20000 in
theorem gX6_checkPart_X6_isGood : GoodIn wsX6_checkPart (va_wsS RX6 48 yX6_isGood wsX6_isGood) := goodIn_app (goodIn_of _ (by decide +kernel)) ggX6_checkPart_X6_isGood
set_option maxRecDepth 20000 in
theorem ggX6_checkPart_X6_isWithin : GoodIn wsX6_checkPart wsX6_isWithin := goodIn_r _ [9] (by decide +kernel) (by decide +kernel)
set_option maxRecDepth 20000 in
theorem gX6_checkPart_X6_isWithin : GoodIn wsX6_checkPart (va_wsS RX6 52 yX6_isWithin wsX6_isWithin) := goodIn_app (goodIn_of _ (by decide +kernel)) ggX6_checkPart_X6_isWithin
theorem dX6_checkPart_0 : decode cX6_checkPart 0 = .ok (.iload_n 0, 1) := by decide +kernel
theorem dX6_checkPart_1 : decode cX6_checkPart 1 = .ok (.invokestatic 48, 3) := by decide +kernel
theorem dX6_checkPart_4 : decode cX6_checkPart 4 = .ok (.ifCond .eq 30, 3) := by decide +kernel
theorem dX6_checkPart_7 : decode cX6_checkPart 7 = .ok (.iload_n 1, 1) := by decide +kernel
theorem dX6_checkPart_8 : decode cX6_checkPart 8 = .ok (.invokestatic 48, 3) := by decide +kernel
theorem dX6_checkPart_11 : decode cX6_checkPart 11 = .ok (.ifCond .eq 23, 3) := by decide +kernel
theorem dX6_checkPart_14 : decode cX6_checkPart 14 = .ok (.iload_n 2, 1) := by decide +kernel
theorem dX6_checkPart_15 : decode cX6_checkPart 15 = .ok (.iconst 1, 1) := by decide +kernel
theorem dX6_checkPart_16 : decode cX6_checkPart 16 = .ok (.bipush 12, 2) := by decide +kernel
theorem dX6_checkPart_18 : decode cX6_checkPart 18 = .ok (.invokestatic 52, 3) := by decide +kernel
theorem dX6_checkPart_21 : decode cX6_checkPart 21 = .ok (.ifCond .eq 13, 3) := by decide +kernel
theorem dX6_checkPart_24 : decode cX6_checkPart 24 = .ok (.iload_n 3, 1) := by decide +kernel
theorem dX6_checkPart_25 : decode cX6_checkPart 25 = .ok (.iconst 1, 1) := by decide +kernel
theorem dX6_checkPart_26 : decode cX6_checkPart 26 = .ok (.bipush 12, 2) := by decide +kernel
theorem dX6_checkPart_28 : decode cX6_checkPart 28 = .ok (.invokestatic 52, 3) := by decide +kernel
theorem dX6_checkPart_31 : decode cX6_checkPart 31 = .ok (.ifCond .ne 13, 3) := by decide +kernel
theorem dX6_checkPart_34 : decode cX6_checkPart 34 = .ok (.new 76, 3) := by decide +kernel
theorem dX6_checkPart_37 : decode cX6_checkPart 37 = .ok (.dup, 1) := by decide +kernel
theorem dX6_checkPart_38 : decode cX6_checkPart 38 = .ok (.ldc 248, 2) := by decide +kernel
theorem dX6_checkPart_40 : decode cX6_checkPart 40 = .ok (.invokespecial 80, 3) := by decide +kernel
theorem dX6_checkPart_43 : decode cX6_checkPart 43 = .ok (.athrow, 1) := by decide +kernel
theorem dX6_checkPart_44 : decode cX6_checkPart 44 = .ok (.return_, 1) := by decide +kernel
set_option maxRecDepth 20000 in
theorem ggX6_checkTaking_X6_isGood : GoodIn wsX6_checkTaking wsX6_isGood := goodIn_r _ [6, 7, 8, 5, 9] (by decide +kernel) (by decide +kernel)
set_option maxRecDepth 20000 in
theorem gX6_checkTaking_X6_isGood : GoodIn wsX6_checkTaking (va_wsS RX6 48 yX6_isGood wsX6_isGood) := goodIn_app (goodIn_of _ (by decide +kernel)) ggX6_checkTaking_X6_isGood
theorem dX6_checkTaking_0 : decode cX6_checkTaking 0 = .ok (.iload_n 0, 1) := by decide +kernel
theorem dX6_checkTaking_1 : decode cX6_checkTaking 1 = .ok (.invokestatic 48, 3) := by decide +kernel
theorem dX6_checkTaking_4 : decode cX6_checkTaking 4 = .ok (.ifCond .eq 8, 3) := by decide +kernel
theorem dX6_checkTaking_7 : decode cX6_checkTaking 7 = .ok (.iload_n 1, 1) := by decide +kernel
theorem dX6_checkTaking_8 : decode cX6_checkTaking 8 = .ok (.iconst 1, 1) := by decide +kernel
theorem dX6_checkTaking_9 : decode cX6_checkTaking 9 = .ok (.if_icmp .ge 13, 3) := by decide +kernel
theorem dX6_checkTaking_12 : decode cX6_checkTaking 12 = .ok (.new 76, 3) := by decide +kernel
theorem dX6_checkTaking_15 : decode cX6_checkTaking 15 = .ok (.dup, 1) := by decide +kernel
theorem dX6_checkTaking_16 : decode cX6_checkTaking 16 = .ok (.ldc 250, 2) := by decide +kernel
theorem dX6_checkTaking_18 : decode cX6_checkTaking 18 = .ok (.invokespecial 80, 3) := by decide +kernel
theorem dX6_checkTaking_21 : decode cX6_checkTaking 21 = .ok (.athrow, 1) := by decide +kernel
theorem dX6_checkTaking_22 : decode cX6_checkTaking 22 = .ok (.return_, 1) := by decide +kernel
set_option maxRecDepth 20000 in
theorem ggX6_isGood_X6_isWithin : GoodIn wsX6_isGood wsX6_isWithin := goodIn_r _ [4] (by decide +kernel) (by decide +kernel)
set_option maxRecDepth 20000 in
theorem gX6_isGood_X6_isWithin : GoodIn wsX6_isGood (va_wsS RX6 52 yX6_isWithin wsX6_isWithin) := goodIn_app (goodIn_of _ (by decide +kernel)) ggX6_isGood_X6_isWithin
theorem dX6_isGood_0 : decode cX6_isGood 0 = .ok (.iload_n 0, 1) := by decide +kernel
theorem dX6_isGood_1 : decode cX6_isGood 1 = .ok (.iconst 0, 1) := by decide +kernel
theorem dX6_isGood_2 : decode cX6_isGood 2 = .ok (.bipush 11, 2) := by decide +kernel
theorem dX6_isGood_4 : decode cX6_isGood 4 = .ok (.invokestatic 52, 3) := by decide +kernel
theorem dX6_isGood_7 : decode cX6_isGood 7 = .ok (.ireturn, 1) := by decide +kernel
theorem dX6_isWithin_0 : decode cX6_isWithin 0 = .ok (.iload_n 0, 1) := by decide +kernel
theorem dX6_isWithin_1 : decode cX6_isWithin 1 = .ok (.iload_n 1, 1) := by decide +kernel
theorem dX6_isWithin_2 : decode cX6_isWithin 2 = .ok (.if_icmp .lt 12, 3) := by decide +kernel
theorem dX6_isWithin_5 : decode cX6_isWithin 5 = .ok (.iload_n 0, 1) := by decide +kernel
theorem dX6_isWithin_6 : decode cX6_isWithin 6 = .ok (.iload_n 2, 1) := by decide +kernel
theorem dX6_isWithin_7 : decode cX6_isWithin 7 = .ok (.if_icmp .gt 7, 3) := by decide +kernel
theorem dX6_isWithin_10 : decode cX6_isWithin 10 = .ok (.iconst 1, 1) := by decide +kernel
theorem dX6_isWithin_11 : decode cX6_isWithin 11 = .ok (.goto 4, 3) := by decide +kernel
theorem dX6_isWithin_14 : decode cX6_isWithin 14 = .ok (.iconst 0, 1) := by decide +kernel
theorem dX6_isWithin_15 : decode cX6_isWithin 15 = .ok (.ireturn, 1) := by decide +kernel
theorem dX6_floorOf_0 : decode cX6_floorOf 0 = .ok (.lload_n 2, 1) := by decide +kernel
theorem dX6_floorOf_1 : decode cX6_floorOf 1 = .ok (.lconst 1, 1) := by decide +kernel
theorem dX6_floorOf_2 : decode cX6_floorOf 2 = .ok (.lcmp, 1) := by decide +kernel
theorem dX6_floorOf_3 : decode cX6_floorOf 3 = .ok (.ifCond .ge 7, 3) := by decide +kernel
theorem dX6_floorOf_6 : decode cX6_floorOf 6 = .ok (.lconst 0, 1) := by decide +kernel
theorem dX6_floorOf_7 : decode cX6_floorOf 7 = .ok (.goto 6, 3) := by decide +kernel
theorem dX6_floorOf_10 : decode cX6_floorOf 10 = .ok (.lload_n 0, 1) := by decide +kernel
theorem dX6_floorOf_11 : decode cX6_floorOf 11 = .ok (.lload_n 2, 1) := by decide +kernel
theorem dX6_floorOf_12 : decode cX6_floorOf 12 = .ok (.ldiv, 1) := by decide +kernel
theorem dX6_floorOf_13 : decode cX6_floorOf 13 = .ok (.lreturn, 1) := by decide +kernel
set_option maxRecDepth 20000 in
theorem ggX6_ceilOf_X6_floorOf : GoodIn wsX6_ceilOf wsX6_floorOf := goodIn_r _ [4] (by decide +kernel) (by decide +kernel)
set_option maxRecDepth 20000 in
theorem gX6_ceilOf_X6_floorOf : GoodIn wsX6_ceilOf (va_wsS RX6 252 yX6_floorOf wsX6_floorOf) := goodIn_app (goodIn_of _ (by decide +kernel)) ggX6_ceilOf_X6_floorOf
theorem dX6_ceilOf_0 : decode cX6_ceilOf 0 = .ok (.lload_n 0, 1) := by decide +kernel
theorem dX6_ceilOf_1 : decode cX6_ceilOf 1 = .ok (.lload_n 2, 1) := by decide +kernel
theorem dX6_ceilOf_2 : decode cX6_ceilOf 2 = .ok (.ladd, 1) := by decide +kernel
theorem dX6_ceilOf_3 : decode cX6_ceilOf 3 = .ok (.lconst 1, 1) := by decide +kernel
theorem dX6_ceilOf_4 : decode cX6_ceilOf 4 = .ok (.lsub, 1) := by decide +kernel
theorem dX6_ceilOf_5 : decode cX6_ceilOf 5 = .ok (.lload_n 2, 1) := by decide +kernel
theorem dX6_ceilOf_6 : decode cX6_ceilOf 6 = .ok (.invokestatic 252, 3) := by decide +kernel
theorem dX6_ceilOf_9 : decode cX6_ceilOf 9 = .ok (.lreturn, 1) := by decide +kernel
set_option maxRecDepth 20000 in
theorem ggX6_greatestDivisor_X6_floorOf : GoodIn wsX6_greatestDivisor wsX6_floorOf := goodIn_r _ [4] (by decide +kernel) (by decide +kernel)
set_option maxRecDepth 20000 in
theorem gX6_greatestDivisor_X6_floorOf : GoodIn wsX6_greatestDivisor (va_wsS RX6 252 yX6_floorOf wsX6_floorOf) := goodIn_app (goodIn_of _ (by decide +kernel)) ggX6_greatestDivisor_X6_floorOf
theorem dX6_greatestDivisor_0 : decode cX6_greatestDivisor 0 = .ok (.lload_n 0, 1) := by decide +kernel
theorem dX6_greatestDivisor_1 : decode cX6_greatestDivisor 1 = .ok (.lstore 4, 2) := by decide +kernel
theorem dX6_greatestDivisor_3 : decode cX6_greatestDivisor 3 = .ok (.lload_n 2, 1) := by decide +kernel
theorem dX6_greatestDivisor_4 : decode cX6_greatestDivisor 4 = .ok (.lstore 6, 2) := by decide +kernel
theorem dX6_greatestDivisor_6 : decode cX6_greatestDivisor 6 = .ok (.iconst 0, 1) := by decide +kernel
theorem dX6_greatestDivisor_7 : decode cX6_greatestDivisor 7 = .ok (.istore 8, 2) := by decide +kernel
theorem dX6_greatestDivisor_9 : decode cX6_greatestDivisor 9 = .ok (.iload 8, 2) := by decide +kernel
theorem dX6_greatestDivisor_11 : decode cX6_greatestDivisor 11 = .ok (.sipush 200, 3) := by decide +kernel
theorem dX6_greatestDivisor_14 : decode cX6_greatestDivisor 14 = .ok (.if_icmp .ge 39, 3) := by decide +kernel
theorem dX6_greatestDivisor_17 : decode cX6_greatestDivisor 17 = .ok (.lload 6, 2) := by decide +kernel
theorem dX6_greatestDivisor_19 : decode cX6_greatestDivisor 19 = .ok (.lconst 0, 1) := by decide +kernel
theorem dX6_greatestDivisor_20 : decode cX6_greatestDivisor 20 = .ok (.lcmp, 1) := by decide +kernel
theorem dX6_greatestDivisor_21 : decode cX6_greatestDivisor 21 = .ok (.ifCond .le 32, 3) := by decide +kernel
theorem dX6_greatestDivisor_24 : decode cX6_greatestDivisor 24 = .ok (.lload 4, 2) := by decide +kernel
theorem dX6_greatestDivisor_26 : decode cX6_greatestDivisor 26 = .ok (.lload 4, 2) := by decide +kernel
theorem dX6_greatestDivisor_28 : decode cX6_greatestDivisor 28 = .ok (.lload 6, 2) := by decide +kernel
theorem dX6_greatestDivisor_30 : decode cX6_greatestDivisor 30 = .ok (.invokestatic 252, 3) := by decide +kernel
theorem dX6_greatestDivisor_33 : decode cX6_greatestDivisor 33 = .ok (.lload 6, 2) := by decide +kernel
theorem dX6_greatestDivisor_35 : decode cX6_greatestDivisor 35 = .ok (.lmul, 1) := by decide +kernel
theorem dX6_greatestDivisor_36 : decode cX6_greatestDivisor 36 = .ok (.lsub, 1) := by decide +kernel
theorem dX6_greatestDivisor_37 : decode cX6_greatestDivisor 37 = .ok (.lstore 9, 2) := by decide +kernel
theorem dX6_greatestDivisor_39 : decode cX6_greatestDivisor 39 = .ok (.lload 6, 2) := by decide +kernel
theorem dX6_greatestDivisor_41 : decode cX6_greatestDivisor 41 = .ok (.lstore 4, 2) := by decide +kernel
theorem dX6_greatestDivisor_43 : decode cX6_greatestDivisor 43 = .ok (.lload 9, 2) := by decide +kernel
theorem dX6_greatestDivisor_45 : decode cX6_greatestDivisor 45 = .ok (.lstore 6, 2) := by decide +kernel
theorem dX6_greatestDivisor_47 : decode cX6_greatestDivisor 47 = .ok (.iinc 8 1, 3) := by decide +kernel
theorem dX6_greatestDivisor_50 : decode cX6_greatestDivisor 50 = .ok (.goto (-41), 3) := by decide +kernel
theorem dX6_greatestDivisor_53 : decode cX6_greatestDivisor 53 = .ok (.lload 4, 2) := by decide +kernel
theorem dX6_greatestDivisor_55 : decode cX6_greatestDivisor 55 = .ok (.lconst 1, 1) := by decide +kernel
theorem dX6_greatestDivisor_56 : decode cX6_greatestDivisor 56 = .ok (.lcmp, 1) := by decide +kernel
theorem dX6_greatestDivisor_57 : decode cX6_greatestDivisor 57 = .ok (.ifCond .ge 7, 3) := by decide +kernel
theorem dX6_greatestDivisor_60 : decode cX6_greatestDivisor 60 = .ok (.lconst 1, 1) := by decide +kernel
theorem dX6_greatestDivisor_61 : decode cX6_greatestDivisor 61 = .ok (.goto 5, 3) := by decide +kernel
theorem dX6_greatestDivisor_64 : decode cX6_greatestDivisor 64 = .ok (.lload 4, 2) := by decide +kernel
theorem dX6_greatestDivisor_66 : decode cX6_greatestDivisor 66 = .ok (.lreturn, 1) := by decide +kernel
end
section
/-! The words in which every contract here is said: the array types, the nest's links and the texts, a world before, behind and within a method. -/
abbrev gT (cI cJ cZ : ClassId) : List (ClassId × FieldType) := [(cI, .int), (cJ, .long), (cZ, .boolean)]
def nkQ : List (String × Nat × MethodName) := [(RX6, 15, yX5_init), (RX6, 22, yX2_init), (RX6, 29, yX4_init), (RX6, 36, yX0_init), (RX6, 43, yX1_init), (RX0, 45, yX6_floorOf), (RX1, 54, yX6_greatestDivisor), (RX1, 58, yX6_floorOf), (RX2, 49, yX6_floorOf), (RX2, 54, yX6_ceilOf), (RX3, 44, yX6_ceilOf), (RX3, 48, yX6_floorOf), (RX4, 33, yX6_isWithin)]
def skQ : List (Nat × String) := [(119, "no such good with needs, or no such amount"), (175, "no such good, amount or day"), (178, "no room for a prior export"), (183, "no such goods or side"), (198, "no such good or what"), (214, "no such lot or what"), (233, "not 0 .. 1000000000"), (237, "a yield of 0"), (248, "no such goods, or up or down is not 1 .. 12"), (250, "no such good, or an amount below 1"), (78, "no such good, amount or debt"), (89, "no room for a lot")]
def nk (U : State) : Prop := (∀ q ∈ nkQ, va_Nw (.methodLinkNest q.1 q.2.1 q.2.2 RX6) U) ∧ ∀ q ∈ skQ, ∃ sa : Nat, vk_R RX6 q.1 q.2 sa U
theorem nk.warm {s U : State} (hW : s.WarmedH U.vm) (h : nk s) : nk U := ⟨fun q hq => va_Nw.warmM hW (h.1 q hq), fun q hq => by
  obtain ⟨sa, hs⟩ := h.2 q hq
  exact ⟨sa, vk_R.warm hW hs⟩⟩
theorem nk.same {u U : State} (hv : U.vm = u.vm) (h : nk u) : nk U := ⟨fun q hq => va_Nw.same rfl hv.symm (h.1 q hq), fun q hq => by
  obtain ⟨sa, hs⟩ := h.2 q hq
  exact ⟨sa, vk_R.same hv hs⟩⟩
/-- what a method finds -/
def gP (D : va_G) (tys : List (ClassId × FieldType)) (w : va_W) (sz : Nat) (U : State) : Prop := U.heap.size = sz ∧ va_P D vwCl w U.heap ∧ va_K D vwCl tys U ∧ va_D (fun _ => True) w ∧ nk U
/-- what it leaves -/
def gB (D : va_G) (tys : List (ClassId × FieldType)) (w : va_W) (A : Nat → Prop) (t : State) : Prop := va_P D vwCl w t.heap ∧ va_K D vwCl tys t ∧ va_D A w
/-- where a walk stands -/
def vE (s : State) (A : Nat → Prop) (D : va_G) (tys : List (ClassId × FieldType)) (w : va_W) (H : Heap) (locs : List Loc) : Prop := va_P D vwCl w H ∧ va_K D vwCl tys s ∧ va_D A w ∧ va_S A s.heap H locs
theorem gP_blind {D : va_G} {tys : List (ClassId × FieldType)} {w : va_W} {sz : Nat} {av : List Value} : FrameBlind (va_Pc av (gP D tys w sz)) := fun a U g mk q => by
  obtain ⟨q0, q1, qP, qK, qD, qN⟩ := q
  exact ⟨q0, q1, qP, va_K.moved (u := U) (U := U.calling g mk a) (Vm.Alike.refl U.vm) qK, qD, nk.same rfl qN⟩
abbrev gQi (D : va_G) (tys : List (ClassId × FieldType)) (A : Nat → Prop) (w' : va_W) (r : Int32) : Array Value → State → Outcome → State → Prop := va_Qi (fun (x : Int32) (_ : Unit) => x = r) (fun _ => gB D tys w' A) A
abbrev gQl (D : va_G) (tys : List (ClassId × FieldType)) (A : Nat → Prop) (w' : va_W) (r : Int64) : Array Value → State → Outcome → State → Prop := va_Ql (fun (x : Int64) (_ : Unit) => x = r) (fun _ => gB D tys w' A) A
abbrev gQv (D : va_G) (tys : List (ClassId × FieldType)) (A : Nat → Prop) (w' : va_W) : Array Value → State → Outcome → State → Prop := va_Qv (fun (_ : Unit) => True) (fun _ => gB D tys w' A) A
/-- contracts: from the world w with the arguments av to the world w' -/
abbrev gMi (l : Launch) (y : MethodName) (ws : List Cond) (rm : Room) (D : va_G) (tys : List (ClassId × FieldType)) (w w' : va_W) (sz : Nat) (av : List Value) (r : Int32) : Prop := Met l y ws rm (va_Pc av (gP D tys w sz)) (gQi D tys (va_A w sz) w' r) 0 0 (va_A w sz)
abbrev gMl (l : Launch) (y : MethodName) (ws : List Cond) (rm : Room) (D : va_G) (tys : List (ClassId × FieldType)) (w w' : va_W) (sz : Nat) (av : List Value) (r : Int64) : Prop := Met l y ws rm (va_Pc av (gP D tys w sz)) (gQl D tys (va_A w sz) w' r) 0 0 (va_A w sz)
abbrev gMv (l : Launch) (y : MethodName) (ws : List Cond) (rm : Room) (D : va_G) (tys : List (ClassId × FieldType)) (w w' : va_W) (sz : Nat) (av : List Value) : Prop := Met l y ws rm (va_Pc av (gP D tys w sz)) (gQv D tys (va_A w sz) w') 0 0 (va_A w sz)
/-- the facts of a walk that don't change -/
def gC (p : Program) (s : State) (m : MethodId) (args : Array Value) (meth : Method) (c : Code) (cc : ByteArray) (maxL : Nat) (ret : Option FieldType) (ws : List Cond) (own : String) (A : Nat → Prop) : Prop :=
  p.tables.exec = Jvm.exec ∧ c.code = cc ∧ meth.sig.returnType = ret ∧ c.maxLocals = maxL ∧ s.vm.findClass own = some m.cls ∧ (∀ w ∈ ws, w.before args s = true) ∧ meth.locks = false ∧ nk s ∧ ∀ q : Nat, s.heap.size ≤ q → A q
theorem g_of {l : Launch} {y : MethodName} {ws ws' : List Cond} {rm : Room} {D : va_G} {tys : List (ClassId × FieldType)} {w : va_W} {sz : Nat} {av : List Value} {cc : ByteArray} {maxL : Nat} {ret : Option FieldType} {Qc : Array Value → State → Outcome → State → Prop}
    (hy : plainName y.cls = true) (hw : ws = Cond.code y cc maxL ret :: ws') (hn : (lg_sl av).length ≤ maxL)
    (body : ∀ (p : Program) (e : Env) (s : State) (m : MethodId) (below : List Frame) (meth : Method) (c : Code) (A : Nat → Prop) (ls : Array Slot), A = va_A w sz → gC p s m av.toArray meth c cc maxL ret ws y.cls A → lv_has ls maxL (lv_args 0 av) → vE s A D tys w s.heap [] →
      W p l e rm s m av.toArray below meth c s.heap [] 0 0 (MQ below Qc av.toArray s 0 0 (va_A w sz)) (F0 m 0 ls [])) : Met l y ws rm (va_Pc av (gP D tys w sz)) Qc 0 0 (va_A w sz) := by
  refine Met.ofW (cc := cc) (maxL := maxL) (ret := ret) hy hw ?_
  intro p e s m args below meth c s₁ B hml hv
  obtain ⟨rfl, hsz, hP, hK, hD0, hN⟩ := hv
  subst hsz
  have hD := hD0.self (sz := s.heap.size)
  have hl := lv_entry av (n := maxL) hn
  rw [lg_entry_eq]
  exact body p e s m below meth c (va_A w s.heap.size) _ rfl ⟨B.exec, B.bytes, B.returns, hml, findClass_of_methodNamed B.named, atoms_spec (ws := ws) B.pre, B.notSynchronized, hN, fun q h => Or.inr h⟩ hl ⟨hP, hK, hD, va_S.rf⟩
section GW
variable {p : Program} {l : Launch} {e : Env} {R : Room} {s : State} {m : MethodId} {args : Array Value} {below : List Frame} {meth : Method} {c : Code} {H : Heap} {locs : List Loc} {cells slots : Nat} {Q : State → Prop}
variable {cc : ByteArray} {pc maxL : Nat} {ls : Array Slot} {rest st0 : List Value} {D : va_G} {A : Nat → Prop} {b : Nat} {tys : List (ClassId × FieldType)} {w w' : va_W} {ret : Option FieldType} {ws : List Cond} {own : String} {cI cJ cZ : ClassId}
theorem g_iret {r : Int32} (C : gC p s m args meth c cc maxL (some .int) ws own A) (E : vE s A D tys w' H locs) (hdg : decode cc pc = .ok (.ireturn, 1)) : W p l e R s m args below meth c H locs 0 0 (MQ below (gQi D tys A w' r) args s 0 0 A) (F0 m pc ls [.int r]) := by
  obtain ⟨hx, hb, hr, hml, hown, hts, hlocks, hN, hA⟩ := C
  exact W.iret hx hb hr (fun t ht hW => ⟨⟨r, (), rfl, rfl, by rw [ht]; exact E.1, va_K.moved hW.alike E.2.1, E.2.2.1⟩, E.2.2.2.F ht⟩) E.2.2.2.2.2 hdg
theorem g_zret {r : Int32} (C : gC p s m args meth c cc maxL (some .boolean) ws own A) (E : vE s A D tys w' H locs) (hz : narrow .boolean (.int r) = .int r) (hdg : decode cc pc = .ok (.ireturn, 1)) : W p l e R s m args below meth c H locs 0 0 (MQ below (gQi D tys A w' r) args s 0 0 A) (F0 m pc ls [.int r]) := by
  obtain ⟨hx, hb, hr, hml, hown, hts, hlocks, hN, hA⟩ := C
  exact W.zret hx hb hr hz (fun t ht hW => ⟨⟨r, (), rfl, rfl, by rw [ht]; exact E.1, va_K.moved hW.alike E.2.1, E.2.2.1⟩, E.2.2.2.F ht⟩) E.2.2.2.2.2 hdg
theorem g_lret {r : Int64} (C : gC p s m args meth c cc maxL (some .long) ws own A) (E : vE s A D tys w' H locs) (hdg : decode cc pc = .ok (.lreturn, 1)) : W p l e R s m args below meth c H locs 0 0 (MQ below (gQl D tys A w' r) args s 0 0 A) (F0 m pc ls [.long r]) := by
  obtain ⟨hx, hb, hr, hml, hown, hts, hlocks, hN, hA⟩ := C
  exact W.lret hx hb hr (fun t ht hW => ⟨⟨r, (), rfl, rfl, by rw [ht]; exact E.1, va_K.moved hW.alike E.2.1, E.2.2.1⟩, E.2.2.2.F ht⟩) E.2.2.2.2.2 hdg
theorem g_vret (C : gC p s m args meth c cc maxL none ws own A) (E : vE s A D tys w' H locs) (hdg : decode cc pc = .ok (.return_, 1)) : W p l e R s m args below meth c H locs 0 0 (MQ below (gQv D tys A w') args s 0 0 A) (F0 m pc ls []) := by
  obtain ⟨hx, hb, hr, hml, hown, hts, hlocks, hN, hA⟩ := C
  exact W.vret hx hb hr (fun t ht hW => ⟨⟨(), rfl, trivial, by rw [ht]; exact E.1, va_K.moved hW.alike E.2.1, E.2.2.1⟩, E.2.2.2.F ht⟩) E.2.2.2.2.2 hdg
theorem g_free (E : vE s A D tys w H locs) (hA : ∀ q : Nat, s.heap.size ≤ q → A q) : ∀ q, va_A w H.size q → A q := by
  intro q h
  rcases h with ⟨k, z, h⟩ | h
  · exact E.2.2.1.2 k (q, z) h
  · exact hA q (Nat.le_trans E.2.2.2.1 h)
theorem g_pre (E : vE s A D tys w H locs) (hN : nk s) {av : List Value} : ∀ U : State, U.heap = H → s.WarmedH U.vm → va_Pc av (gP D tys w H.size) av.toArray U := fun U hU hW => ⟨rfl, by rw [hU], by rw [hU]; exact E.1, va_K.moved hW.alike E.2.1, E.2.2.1.weaken (fun _ _ _ _ => trivial), nk.warm hW hN⟩
section Runs9
variable {y : MethodName} {bytes : ByteArray} {maxY mc ms n index : Nat} {rety : Option FieldType} {wy : List Cond} {rm : Room} {Qc : Array Value → State → Outcome → State → Prop} {Cn : String} {As : List Value}
theorem g_runV (C : gC p s m args meth c cc maxL ret ws own A) (E : vE s A D tys w H locs) (hM : Met l y wy rm (va_Pc (.ref b :: As) (gP D tys w H.size)) Qc mc ms (va_A w H.size)) (cw : CallW R s args own Cn index y bytes maxY rety wy rm mc ms n) {q0 ci : Nat} {fs : List Value} {q : vw_C} (he : w[q0]? = some (b, .inr (ci, fs))) (hc : vwCl[ci]? = some q) (hq : q.1 = Cn)
    (hn : As.length = n) (hl : ls.size = maxL) (hst : st0 = As.reverse ++ .ref b :: rest) (hW : (rest.map fun v => v.category).sum ≤ 8) (hdg : decode cc pc = .ok (.invokevirtual index, 3)) (hf : cells + mc ≤ R.cells ∧ slots + ms ≤ R.slots) :
    va_Run p l e R s m args below meth c H locs cells slots mc ms (F0 m pc ls st0) rest (Qc (Value.ref b :: As).toArray) (va_A w H.size) := by
  obtain ⟨hx, hb, hr, hml, hown, hts, hlocks, hN, hA⟩ := C
  have hrv := va_recv E.2.1 E.1 hc he
  rw [hq] at hrv
  exact va_runV (As := As) (rest := rest) ⟨hx, hb, hml, hown, hts⟩ hM cw ⟨gP_blind, hrv, g_pre E hN⟩ rfl hn hl hst (lv_room (m := m) (pc := pc) (ls := ls) (rest := st0) hW) hdg hf
theorem g_runS (C : gC p s m args meth c cc maxL ret ws own A) (E : vE s A D tys w H locs) (hM : Met l y wy rm (va_Pc As (gP D tys w H.size)) Qc mc ms (va_A w H.size)) (cw : CallB R s args own index y bytes maxY rety wy rm mc ms n ∧ (Cond.static y).before args s = true)
    (hn : As.length = n) (hl : ls.size = maxL) (hst : st0 = As.reverse ++ rest) (hW : (rest.map fun v => v.category).sum ≤ 8) (hdg : decode cc pc = .ok (.invokestatic index, 3)) (hf : cells + mc ≤ R.cells ∧ slots + ms ≤ R.slots) :
    va_Run p l e R s m args below meth c H locs cells slots mc ms (F0 m pc ls st0) rest (Qc As.toArray) (va_A w H.size) := by
  obtain ⟨hx, hb, hr, hml, hown, hts, hlocks, hN, hA⟩ := C
  exact va_runS (As := As) (rest := rest) ⟨hx, hb, hml, hown, hts⟩ hM cw ⟨gP_blind, g_pre E hN⟩ rfl hn hl hst (lv_room (m := m) (pc := pc) (ls := ls) (rest := st0) hW) hdg hf
theorem g_runSN (C : gC p s m args meth c cc maxL ret ws own A) (E : vE s A D tys w H locs) (hM : Met l y wy rm (va_Pc As (gP D tys w H.size)) Qc mc ms (va_A w H.size)) (cw : va_CN R s args own index y RX6 bytes maxY rety wy rm mc ms n ∧ (Cond.static y).before args s = true ∧ True)
    (hn : As.length = n) (hl : ls.size = maxL) (hst : st0 = As.reverse ++ rest) (hW : (rest.map fun v => v.category).sum ≤ 8) (hdg : decode cc pc = .ok (.invokestatic index, 3)) (hf : cells + mc ≤ R.cells ∧ slots + ms ≤ R.slots) :
    va_Run p l e R s m args below meth c H locs cells slots mc ms (F0 m pc ls st0) rest (Qc As.toArray) (va_A w H.size) := by
  obtain ⟨hx, hb, hr, hml, hown, hts, hlocks, hN, hA⟩ := C
  exact va_runSN (As := As) (rest := rest) ⟨hx, hb, hml, hown, hts⟩ hM cw ⟨gP_blind, g_pre E hN⟩ rfl hn hl hst (lv_room (m := m) (pc := pc) (ls := ls) (rest := st0) hW) hdg hf
end Runs9
theorem g_calli {r : Int32} {a : Array Value} (C : gC p s m args meth c cc maxL ret ws own A) (E : vE s A D tys w H locs) (hr : va_Run p l e R s m args below meth c H locs cells slots 0 0 (F0 m pc ls st0) rest (gQi D tys (va_A w H.size) w' r a) (va_A w H.size))
    (kk : ∀ (H1 : Heap) (locs1 : List Loc), vE s A D tys w' H1 locs1 → W p l e R s m args below meth c H1 locs1 cells slots Q (F0 m (pc + 3) ls (.int r :: rest))) : W p l e R s m args below meth c H locs cells slots Q (F0 m pc ls st0) := by
  obtain ⟨hx, hb, -, hml, hown, hts, hlocks, hN, hA⟩ := C
  have hF := g_free E hA
  refine va_calli hr E.2.2.2 (fun q _ h => hF q h) hF (fun r1 u t H1 locs1 ht hvm hw hB hz1 hk1 hS => ?_)
  subst hw
  obtain ⟨hP1, hK1, hD1⟩ := hB
  exact kk H1 locs1 ⟨by rw [← ht]; exact hP1, E.2.1, hD1.weaken (fun k q _ h => hF q.1 h), hS⟩
theorem g_calll {r : Int64} {a : Array Value} (C : gC p s m args meth c cc maxL ret ws own A) (E : vE s A D tys w H locs) (hr : va_Run p l e R s m args below meth c H locs cells slots 0 0 (F0 m pc ls st0) rest (gQl D tys (va_A w H.size) w' r a) (va_A w H.size))
    (kk : ∀ (H1 : Heap) (locs1 : List Loc), vE s A D tys w' H1 locs1 → W p l e R s m args below meth c H1 locs1 cells slots Q (F0 m (pc + 3) ls (.long r :: rest))) : W p l e R s m args below meth c H locs cells slots Q (F0 m pc ls st0) := by
  obtain ⟨hx, hb, -, hml, hown, hts, hlocks, hN, hA⟩ := C
  have hF := g_free E hA
  refine va_calll hr E.2.2.2 (fun q _ h => hF q h) hF (fun r1 u t H1 locs1 ht hvm hw hB hz1 hk1 hS => ?_)
  subst hw
  obtain ⟨hP1, hK1, hD1⟩ := hB
  exact kk H1 locs1 ⟨by rw [← ht]; exact hP1, E.2.1, hD1.weaken (fun k q _ h => hF q.1 h), hS⟩
theorem g_callv {a : Array Value} (C : gC p s m args meth c cc maxL ret ws own A) (E : vE s A D tys w H locs) (hr : va_Run p l e R s m args below meth c H locs cells slots 0 0 (F0 m pc ls st0) rest (gQv D tys (va_A w H.size) w' a) (va_A w H.size))
    (kk : ∀ (H1 : Heap) (locs1 : List Loc), vE s A D tys w' H1 locs1 → W p l e R s m args below meth c H1 locs1 cells slots Q (F0 m (pc + 3) ls rest)) : W p l e R s m args below meth c H locs cells slots Q (F0 m pc ls st0) := by
  obtain ⟨hx, hb, -, hml, hown, hts, hlocks, hN, hA⟩ := C
  have hF := g_free E hA
  refine va_callv hr E.2.2.2 (fun q _ h => hF q h) hF (fun u t H1 locs1 ht hvm hw hB hz1 hk1 hS => ?_)
  obtain ⟨hP1, hK1, hD1⟩ := hB
  exact kk H1 locs1 ⟨by rw [← ht]; exact hP1, E.2.1, hD1.weaken (fun k q _ h => hF q.1 h), hS⟩
/-- rows on arrays and fields, over vE -/
theorem g_iald (C : gC p s m args meth c cc maxL ret ws own A) (E : vE s A D (gT cI cJ cZ) w H locs) (q0 : Nat) {n : Nat} {f : Nat → Int32} {i : Int32} (ha : w[q0]? = some (b, .inl (cI, n, .inl f))) (hin : vp_in i n) (hdg : decode cc pc = .ok (.iaload, 1))
    (kk : W p l e R s m args below meth c H locs cells slots Q (F0 m (pc + 1) ls (.int (f i.toNatClampNeg) :: rest))) : W p l e R s m args below meth c H locs cells slots Q (F0 m pc ls (.int i :: .ref b :: rest)) := va_iald C.1 C.2.1 E.2.1 E.1 q0 0 ha rfl hin hdg kk
theorem g_lald (C : gC p s m args meth c cc maxL ret ws own A) (E : vE s A D (gT cI cJ cZ) w H locs) (q0 : Nat) {n : Nat} {f : Nat → Int64} {i : Int32} (ha : w[q0]? = some (b, .inl (cJ, n, .inr (.inl f)))) (hin : vp_in i n) (hdg : decode cc pc = .ok (.laload, 1))
    (kk : W p l e R s m args below meth c H locs cells slots Q (F0 m (pc + 1) ls (.long (f i.toNatClampNeg) :: rest))) : W p l e R s m args below meth c H locs cells slots Q (F0 m pc ls (.int i :: .ref b :: rest)) := va_lald C.1 C.2.1 E.2.1 E.1 q0 1 ha rfl hin hdg kk
theorem g_zald (C : gC p s m args meth c cc maxL ret ws own A) (E : vE s A D (gT cI cJ cZ) w H locs) (q0 : Nat) {n : Nat} {f : Nat → Int32} {i : Int32} (ha : w[q0]? = some (b, .inl (cZ, n, .inl f))) (hin : vp_in i n) (hdg : decode cc pc = .ok (.baload, 1))
    (kk : W p l e R s m args below meth c H locs cells slots Q (F0 m (pc + 1) ls (.int (f i.toNatClampNeg) :: rest))) : W p l e R s m args below meth c H locs cells slots Q (F0 m pc ls (.int i :: .ref b :: rest)) := va_zald C.1 C.2.1 E.2.1 E.1 q0 2 ha rfl hin hdg kk
theorem g_iast (C : gC p s m args meth c cc maxL ret ws own A) (E : vE s A D (gT cI cJ cZ) w H locs) (q0 : Nat) {n : Nat} {f : Nat → Int32} {i x : Int32} (ha : w[q0]? = some (b, .inl (cI, n, .inl f))) (hin : vp_in i n) (hdg : decode cc pc = .ok (.iastore, 1)) (hw : w.set q0 (b, .inl (cI, n, .inl (upd f i.toNatClampNeg x))) = w')
    (kk : ∀ (H1 : Heap) (locs1 : List Loc), vE s A D (gT cI cJ cZ) w' H1 locs1 → W p l e R s m args below meth c H1 locs1 cells slots Q (F0 m (pc + 1) ls rest)) : W p l e R s m args below meth c H locs cells slots Q (F0 m pc ls (.int x :: .int i :: .ref b :: rest)) := by
  subst hw
  exact va_iast C.1 C.2.1 E.2.1 E.1 E.2.2.1 E.2.2.2 q0 0 ha rfl hin hdg (fun H1 locs1 hP hD hS => kk H1 locs1 ⟨hP, E.2.1, hD, hS⟩)
theorem g_last (C : gC p s m args meth c cc maxL ret ws own A) (E : vE s A D (gT cI cJ cZ) w H locs) (q0 : Nat) {n : Nat} {f : Nat → Int64} {i : Int32} {x : Int64} (ha : w[q0]? = some (b, .inl (cJ, n, .inr (.inl f)))) (hin : vp_in i n) (hdg : decode cc pc = .ok (.lastore, 1)) (hw : w.set q0 (b, .inl (cJ, n, .inr (.inl (vp_updL f i.toNatClampNeg x)))) = w')
    (kk : ∀ (H1 : Heap) (locs1 : List Loc), vE s A D (gT cI cJ cZ) w' H1 locs1 → W p l e R s m args below meth c H1 locs1 cells slots Q (F0 m (pc + 1) ls rest)) : W p l e R s m args below meth c H locs cells slots Q (F0 m pc ls (.long x :: .int i :: .ref b :: rest)) := by
  subst hw
  exact va_last C.1 C.2.1 E.2.1 E.1 E.2.2.1 E.2.2.2 q0 1 ha rfl hin hdg (fun H1 locs1 hP hD hS => kk H1 locs1 ⟨hP, E.2.1, hD, hS⟩)
theorem g_zast (C : gC p s m args meth c cc maxL ret ws own A) (E : vE s A D (gT cI cJ cZ) w H locs) (q0 : Nat) {n : Nat} {f : Nat → Int32} {i x : Int32} (ha : w[q0]? = some (b, .inl (cZ, n, .inl f))) (hin : vp_in i n) (hdg : decode cc pc = .ok (.bastore, 1)) (hw : w.set q0 (b, .inl (cZ, n, .inl (upd f i.toNatClampNeg (vp_nar .boolean x)))) = w')
    (kk : ∀ (H1 : Heap) (locs1 : List Loc), vE s A D (gT cI cJ cZ) w' H1 locs1 → W p l e R s m args below meth c H1 locs1 cells slots Q (F0 m (pc + 1) ls rest)) : W p l e R s m args below meth c H locs cells slots Q (F0 m pc ls (.int x :: .int i :: .ref b :: rest)) := by
  subst hw
  exact va_zast C.1 C.2.1 E.2.1 E.1 E.2.2.1 E.2.2.2 q0 2 ha rfl hin hdg (fun H1 locs1 hP hD hS => kk H1 locs1 ⟨hP, E.2.1, hD, hS⟩)
theorem g_get (C : gC p s m args meth c cc maxL ret ws own A) (E : vE s A D tys w H locs) (q0 : Nat) {Cn ref : String} {T : u_T} {N ci index : Nat} {fs : List Value} {v : Value} (k : Nat) (hin : ∀ x ∈ u_ws Cn T N, x ∈ ws) (he : w[q0]? = some (b, .inr (ci, fs))) (hc : vwCl[ci]? = some (Cn, T, N)) (hk : k < N) (hl : Cond.fieldLink own index ref (T k).2.1 (T k).2.2.1 ∈ ws) (hd : (T k).1 = ref) (hv : fs[k]? = some v) (hdg : decode cc pc = .ok (.getfield index, 3))
    (kk : W p l e R s m args below meth c H locs cells slots Q (F0 m (pc + 3) ls (v :: rest))) : W p l e R s m args below meth c H locs cells slots Q (F0 m pc ls (.ref b :: rest)) := by
  obtain ⟨hx, hb, hr, hml, hown, hts, hlocks, hN, hA⟩ := C
  exact va_get hx hb hts hin hown E.2.1 E.1 q0 he hc k hk (hts _ hl) (fun x h => by rw [← hd]; exact h) hv hdg kk
theorem g_put (C : gC p s m args meth c cc maxL ret ws own A) (E : vE s A D tys w H locs) (q0 : Nat) {Cn ref : String} {T : u_T} {N ci index : Nat} {fs : List Value} {v : Value} {ty : FieldType} (k : Nat) (ty0 : Nat → FieldType) (hty : ∀ j, j < N → parseFieldDescriptor (T j).2.2.1 = some (ty0 j)) (hnm : ∀ a, a < N → ∀ b, b < N → a ≠ b → (T a).2.1 ≠ (T b).2.1) (hin : ∀ x ∈ u_ws Cn T N, x ∈ ws) (he : w[q0]? = some (b, .inr (ci, fs))) (hc : vwCl[ci]? = some (Cn, T, N)) (hk : k < N) (hl : Cond.fieldLink own index ref (T k).2.1 (T k).2.2.1 ∈ ws) (hd : (T k).1 = ref) (hfin : (T k).2.2.2 = false) (hpd : ty0 k = ty) (hn : narrow ty v = v) (hfit : fits ty v = true) (hlen : k < fs.length) (hdg : decode cc pc = .ok (.putfield index, 3)) (hw : w.set q0 (b, .inr (ci, fs.set k v)) = w')
    (kk : ∀ (H1 : Heap) (locs1 : List Loc), vE s A D tys w' H1 locs1 → W p l e R s m args below meth c H1 locs1 cells slots Q (F0 m (pc + 3) ls rest)) : W p l e R s m args below meth c H locs cells slots Q (F0 m pc ls (v :: .ref b :: rest)) := by
  obtain ⟨hx, hb, hr, hml, hown, hts, hlocks, hN, hA⟩ := C
  subst hw
  subst hpd
  exact va_put hx hb hts hin ty0 hty hnm hown E.2.1 E.1 E.2.2.1 E.2.2.2 q0 he hc k hk (hts _ hl) (fun x h => by rw [← hd]; exact h) hfin (hty k hk) hn hfit hlen hdg (fun H1 locs1 hP hD hS => kk H1 locs1 ⟨hP, E.2.1, hD, hS⟩)
end GW
/-! the pure side: an index that is tested, a step that may fail -/
def ck {β : Type} (i : Int32) (n : Nat) (x : Option β) : Option β := if ¬ (i < 0 ∨ n ≤ i.toNatClampNeg) then x else none
theorem ck_some {β : Type} {i : Int32} {n : Nat} {x : Option β} {o : β} (h : ck i n x = some o) : vp_in i n ∧ x = some o := by
  unfold ck at h
  by_cases hc : ¬ (i < 0 ∨ n ≤ i.toNatClampNeg)
  · rw [if_pos hc] at h
    exact ⟨hc, h⟩
  · rw [if_neg hc] at h
    cases h
theorem ck_nI {β : Type} {j n : Nat} {x : Option β} (h : j < n) (hn : n < 2 ^ 31) : ck (nI j) n x = x := if_pos (vp_in_nI h hn)
def okZ {β : Type} (r : Int32) (x : Option β) : Option β := if r = 0 ∨ r = 1 then x else none
theorem okZ_some {β : Type} {r : Int32} {x : Option β} {o : β} (h : okZ r x = some o) : narrow .boolean (.int r) = .int r ∧ x = some o := by
  unfold okZ at h
  by_cases hc : r = 0 ∨ r = 1
  · rw [if_pos hc] at h
    refine ⟨?_, h⟩
    rcases hc with rfl | rfl <;> rfl
  · rw [if_neg hc] at h
    cases h
def nzL {β : Type} (d : Int64) (x : Option β) : Option β := if d = 0 then none else x
theorem nzL_some {β : Type} {d : Int64} {x : Option β} {o : β} (h : nzL d x = some o) : ¬ d = 0 ∧ x = some o := by
  unfold nzL at h
  by_cases hc : d = 0
  · rw [if_pos hc] at h
    cases h
  · rw [if_neg hc] at h
    exact ⟨hc, h⟩
def nzI {β : Type} (d : Int32) (x : Option β) : Option β := if d = 0 then none else x
theorem nzI_some {β : Type} {d : Int32} {x : Option β} {o : β} (h : nzI d x = some o) : ¬ d = 0 ∧ x = some o := by
  unfold nzI at h
  by_cases hc : d = 0
  · rw [if_pos hc] at h
    cases h
  · rw [if_neg hc] at h
    exact ⟨hc, h⟩
theorem bd_some {α β : Type} {x : Option α} {k : α → Option β} {o : β} (h : x.bind k = some o) : ∃ r, x = some r ∧ k r = some o := by
  cases x with
  | none => cases h
  | some r => exact ⟨r, rfl, h⟩
end
section
/-- steps enough for every loop -/
def FU : Nat := 1000
def cW (a : Nat → Nat) (cI cJ cZ : ClassId) (vl : Nat → Int32) (hs : Nat → Int32) (isz : Nat → Int32) (igd : Nat → Int32) (iup : Nat → Int32) (idn : Nat → Int32) (osz : Nat → Int32) (ogd : Nat → Int32) (oup : Nat → Int32) (odn : Nat → Int32) (dep : Nat → Int32) (rsz : Int32) (lgd : Nat → Int32) (llf : Nat → Int64) (ldb : Nat → Int64) (ldy : Nat → Int32) (lsz : Int32) (lti : Int64) (pgd : Nat → Int32) (plf : Nat → Int64) (pun : Nat → Int32) (psz : Int32) (bgd : Nat → Int32) (bam : Nat → Int64) (bwt : Nat → Int64) (bsh : Nat → Int64) (brm : Nat → Int64) (bsz : Int32) (cab : Nat → Int64) (cbl : Nat → Int64) (tod : Int32) (imp : Int64) (dis : Int64) (owe : Int64) (itr : Int64) : va_W := [(a 0, .inr (6, [.ref (a 1), .ref (a 2), .ref (a 15), .ref (a 20), .ref (a 24), .ref (a 30), .int tod, .long imp, .long dis, .long owe, .long itr])),
  (a 1, .inl (cI, 12, .inl vl)),
  (a 2, .inr (5, [.ref (a 3), .ref (a 4), .ref (a 9), .ref (a 14), .int rsz])),
  (a 3, .inl (cZ, 12, .inl hs)),
  (a 4, .inr (3, [.int 4, .ref (a 5), .ref (a 6), .ref (a 7), .ref (a 8)])),
  (a 5, .inl (cI, 12, .inl isz)),
  (a 6, .inl (cI, 48, .inl igd)),
  (a 7, .inl (cI, 48, .inl iup)),
  (a 8, .inl (cI, 48, .inl idn)),
  (a 9, .inr (3, [.int 2, .ref (a 10), .ref (a 11), .ref (a 12), .ref (a 13)])),
  (a 10, .inl (cI, 12, .inl osz)),
  (a 11, .inl (cI, 48, .inl ogd)),
  (a 12, .inl (cI, 48, .inl oup)),
  (a 13, .inl (cI, 48, .inl odn)),
  (a 14, .inl (cI, 12, .inl dep)),
  (a 15, .inr (2, [.ref (a 16), .ref (a 17), .ref (a 18), .ref (a 19), .int lsz, .long lti])),
  (a 16, .inl (cI, 200, .inl lgd)),
  (a 17, .inl (cJ, 200, .inr (.inl llf))),
  (a 18, .inl (cJ, 200, .inr (.inl ldb))),
  (a 19, .inl (cI, 200, .inl ldy)),
  (a 20, .inr (4, [.ref (a 21), .ref (a 22), .ref (a 23), .int psz])),
  (a 21, .inl (cI, 40, .inl pgd)),
  (a 22, .inl (cJ, 40, .inr (.inl plf))),
  (a 23, .inl (cI, 40, .inl pun)),
  (a 24, .inr (0, [.ref (a 25), .ref (a 26), .ref (a 27), .ref (a 28), .ref (a 29), .int bsz])),
  (a 25, .inl (cI, 3, .inl bgd)),
  (a 26, .inl (cJ, 3, .inr (.inl bam))),
  (a 27, .inl (cJ, 3, .inr (.inl bwt))),
  (a 28, .inl (cJ, 3, .inr (.inl bsh))),
  (a 29, .inl (cJ, 3, .inr (.inl brm))),
  (a 30, .inr (1, [.ref (a 31), .ref (a 32)])),
  (a 31, .inl (cJ, 12, .inr (.inl cab))),
  (a 32, .inl (cJ, 12, .inr (.inl cbl)))]
abbrev rm_X6_isWithin : Room := { frames := 0, cells := 0, slots := 0, locals := 0 }
theorem hd_X6_isWithin : yX6_isWithin.cls ≠ "java/lang/invoke/MethodHandle" ∧ yX6_isWithin.cls ≠ "java/lang/invoke/VarHandle" ∧ (parseMethodDescriptor yX6_isWithin.desc).map (fun d => d.parameters.length) = some 3 := by decide +kernel
def f_X6_isWithin  (x0 : Int32) (x1 : Int32) (x2 : Int32) : Option (Int32) :=
  if x0 < x1 then
    some ((0 : Int32))
  else
    if x2 < x0 then
      some ((0 : Int32))
    else
      some ((1 : Int32))
set_option maxHeartbeats 4000000 in
set_option maxRecDepth 100000 in
theorem c_X6_isWithin {l : Launch} {D : va_G} {tys : List (ClassId × FieldType)} {w : va_W} {sz : Nat} {x0 : Int32} {x1 : Int32} {x2 : Int32} {o : Int32} (hf : f_X6_isWithin x0 x1 x2 = some o) : gMi l yX6_isWithin wsX6_isWithin rm_X6_isWithin D tys w w sz [.int x0, .int x1, .int x2] o := by
  refine g_of (cc := cX6_isWithin) (maxL := 3) (ret := (some .boolean)) (by decide) rfl (Nat.le_of_ble_eq_true rfl) ?_
  intro p e s m below meth c A ls hAe C hl E
  rw [← hAe]
  obtain ⟨hx, hb, hr, hml, hown, hts, hlocks, hN, hA⟩ := id C
  have hl : lv_has ls 3 [(0, .int x0), (1, .int x1), (2, .int x2)] := hl
  have E : vE s A D tys w s.heap [] := E
  rw [f_X6_isWithin] at hf
  refine lv_iload_n hx hb dX6_isWithin_0 rfl (lv_at hl 0 rfl) ?_
  refine lv_iload_n hx hb dX6_isWithin_1 rfl (lv_at hl 1 rfl) ?_
  refine lv_icmp_lt (tgt := 14) hx hb dX6_isWithin_2 (by decide) (fun c1 => ?_) (fun c1 => ?_)
  · rw [if_pos c1] at hf
    refine lv_iconst (v := 0) hx hb dX6_isWithin_14 (by decide) ?_
    obtain rfl := Option.some.inj hf
    exact g_zret (r := 0) C E rfl dX6_isWithin_15
  · rw [if_neg c1] at hf
    refine lv_iload_n hx hb dX6_isWithin_5 rfl (lv_at hl 0 rfl) ?_
    refine lv_iload_n hx hb dX6_isWithin_6 rfl (lv_at hl 2 rfl) ?_
    refine lv_icmp_gt (tgt := 14) hx hb dX6_isWithin_7 (by decide) (fun c2 => ?_) (fun c2 => ?_)
    · rw [if_pos c2] at hf
      refine lv_iconst (v := 0) hx hb dX6_isWithin_14 (by decide) ?_
      obtain rfl := Option.some.inj hf
      exact g_zret (r := 0) C E rfl dX6_isWithin_15
    · rw [if_neg c2] at hf
      refine lv_iconst (v := 1) hx hb dX6_isWithin_10 (by decide) ?_
      refine lv_goto (tgt := 15) hx hb dX6_isWithin_11 (by decide) ?_
      obtain rfl := Option.some.inj hf
      exact g_zret (r := 1) C E rfl dX6_isWithin_15
abbrev rm_X6_isGood : Room := { frames := 1, cells := 0, slots := 0, locals := 22 }
theorem hd_X6_isGood : yX6_isGood.cls ≠ "java/lang/invoke/MethodHandle" ∧ yX6_isGood.cls ≠ "java/lang/invoke/VarHandle" ∧ (parseMethodDescriptor yX6_isGood.desc).map (fun d => d.parameters.length) = some 1 := by decide +kernel
def f_X6_isGood  (x0 : Int32) : Option (Int32) :=
  (f_X6_isWithin x0 (0 : Int32) (11 : Int32)).bind fun o1 =>
  okZ o1 <|
  some (o1)
set_option maxHeartbeats 4000000 in
set_option maxRecDepth 100000 in
theorem c_X6_isGood {l : Launch} {D : va_G} {tys : List (ClassId × FieldType)} {w : va_W} {sz : Nat} {x0 : Int32} {o : Int32} (hf : f_X6_isGood x0 = some o) : gMi l yX6_isGood wsX6_isGood rm_X6_isGood D tys w w sz [.int x0] o := by
  refine g_of (cc := cX6_isGood) (maxL := 1) (ret := (some .boolean)) (by decide) rfl (Nat.le_of_ble_eq_true rfl) ?_
  intro p e s m below meth c A ls hAe C hl E
  rw [← hAe]
  obtain ⟨hx, hb, hr, hml, hown, hts, hlocks, hN, hA⟩ := id C
  have hl : lv_has ls 1 [(0, .int x0)] := hl
  have E : vE s A D tys w s.heap [] := E
  rw [f_X6_isGood] at hf
  refine lv_iload_n hx hb dX6_isGood_0 rfl (lv_at hl 0 rfl) ?_
  refine lv_iconst (v := 0) hx hb dX6_isGood_1 (by decide) ?_
  refine lv_bipush (v := 11) hx hb dX6_isGood_2 (by decide) ?_
  obtain ⟨o1, e2, hf⟩ := bd_some hf
  refine g_calli (w' := w) C E (g_runS (As := [.int x0, .int (0 : Int32), .int (11 : Int32)]) (rest := []) C E (c_X6_isWithin e2) (va_cwS 3 hts gX6_isGood_X6_isWithin rfl rfl rfl hd_X6_isWithin ⟨Nat.le_of_ble_eq_true rfl, Nat.le_of_ble_eq_true rfl⟩) rfl hl.1 rfl (Nat.le_of_ble_eq_true rfl) dX6_isGood_4 ⟨Nat.le_of_ble_eq_true rfl, Nat.le_of_ble_eq_true rfl⟩) (fun H locs E => ?_)
  obtain ⟨h3, hf⟩ := okZ_some hf
  obtain rfl := Option.some.inj hf
  exact g_zret (r := o1) C E h3 dX6_isGood_7
abbrev rm_X6_floorOf : Room := { frames := 0, cells := 0, slots := 0, locals := 0 }
theorem hd_X6_floorOf : yX6_floorOf.cls ≠ "java/lang/invoke/MethodHandle" ∧ yX6_floorOf.cls ≠ "java/lang/invoke/VarHandle" ∧ (parseMethodDescriptor yX6_floorOf.desc).map (fun d => d.parameters.length) = some 2 := by decide +kernel
def f_X6_floorOf  (x0 : Int64) (x2 : Int64) : Option (Int64) :=
  if 0 ≤ (lg_cmp x2 (1 : Int64)) then
    nzL x2 <|
    some ((x0 / x2))
  else
    some ((0 : Int64))
set_option maxHeartbeats 4000000 in
set_option maxRecDepth 100000 in
theorem c_X6_floorOf {l : Launch} {D : va_G} {tys : List (ClassId × FieldType)} {w : va_W} {sz : Nat} {x0 : Int64} {x2 : Int64} {o : Int64} (hf : f_X6_floorOf x0 x2 = some o) : gMl l yX6_floorOf wsX6_floorOf rm_X6_floorOf D tys w w sz [.long x0, .long x2] o := by
  refine g_of (cc := cX6_floorOf) (maxL := 4) (ret := (some .long)) (by decide) rfl (Nat.le_of_ble_eq_true rfl) ?_
  intro p e s m below meth c A ls hAe C hl E
  rw [← hAe]
  obtain ⟨hx, hb, hr, hml, hown, hts, hlocks, hN, hA⟩ := id C
  have hl : lv_has ls 4 [(0, .long x0), (2, .long x2)] := hl
  have E : vE s A D tys w s.heap [] := E
  rw [f_X6_floorOf] at hf
  refine lv_lload_n hx hb dX6_floorOf_0 rfl (lv_at hl 1 rfl) ?_
  refine lv_lconst (v := 1) hx hb dX6_floorOf_1 (by decide) ?_
  refine W.lcmp hx hb dX6_floorOf_2 ?_
  refine lv_if_ge (tgt := 10) hx hb dX6_floorOf_3 (by decide) (fun c1 => ?_) (fun c1 => ?_)
  · rw [if_pos c1] at hf
    refine lv_lload_n hx hb dX6_floorOf_10 rfl (lv_at hl 0 rfl) ?_
    refine lv_lload_n hx hb dX6_floorOf_11 rfl (lv_at hl 1 rfl) ?_
    obtain ⟨h2, hf⟩ := nzL_some hf
    refine lv_ldiv hx hb dX6_floorOf_12 h2 ?_
    obtain rfl := Option.some.inj hf
    exact g_lret C E dX6_floorOf_13
  · rw [if_neg c1] at hf
    refine lv_lconst (v := 0) hx hb dX6_floorOf_6 (by decide) ?_
    refine lv_goto (tgt := 13) hx hb dX6_floorOf_7 (by decide) ?_
    obtain rfl := Option.some.inj hf
    exact g_lret C E dX6_floorOf_13
abbrev rm_X6_ceilOf : Room := { frames := 1, cells := 0, slots := 0, locals := 23 }
theorem hd_X6_ceilOf : yX6_ceilOf.cls ≠ "java/lang/invoke/MethodHandle" ∧ yX6_ceilOf.cls ≠ "java/lang/invoke/VarHandle" ∧ (parseMethodDescriptor yX6_ceilOf.desc).map (fun d => d.parameters.length) = some 2 := by decide +kernel
def f_X6_ceilOf  (x0 : Int64) (x2 : Int64) : Option (Int64) :=
  (f_X6_floorOf ((x0 + x2) - (1 : Int64)) x2).bind fun o1 =>
  some (o1)
set_option maxHeartbeats 4000000 in
set_option maxRecDepth 100000 in
theorem c_X6_ceilOf {l : Launch} {D : va_G} {tys : List (ClassId × FieldType)} {w : va_W} {sz : Nat} {x0 : Int64} {x2 : Int64} {o : Int64} (hf : f_X6_ceilOf x0 x2 = some o) : gMl l yX6_ceilOf wsX6_ceilOf rm_X6_ceilOf D tys w w sz [.long x0, .long x2] o := by
  refine g_of (cc := cX6_ceilOf) (maxL := 4) (ret := (some .long)) (by decide) rfl (Nat.le_of_ble_eq_true rfl) ?_
  intro p e s m below meth c A ls hAe C hl E
  rw [← hAe]
  obtain ⟨hx, hb, hr, hml, hown, hts, hlocks, hN, hA⟩ := id C
  have hl : lv_has ls 4 [(0, .long x0), (2, .long x2)] := hl
  have E : vE s A D tys w s.heap [] := E
  rw [f_X6_ceilOf] at hf
  refine lv_lload_n hx hb dX6_ceilOf_0 rfl (lv_at hl 0 rfl) ?_
  refine lv_lload_n hx hb dX6_ceilOf_1 rfl (lv_at hl 1 rfl) ?_
  refine lv_ladd hx hb dX6_ceilOf_2 ?_
  refine lv_lconst (v := 1) hx hb dX6_ceilOf_3 (by decide) ?_
  refine lv_lsub hx hb dX6_ceilOf_4 ?_
  refine lv_lload_n hx hb dX6_ceilOf_5 rfl (lv_at hl 1 rfl) ?_
  obtain ⟨o1, e2, hf⟩ := bd_some hf
  refine g_calll (w' := w) C E (g_runS (As := [.long ((x0 + x2) - (1 : Int64)), .long x2]) (rest := []) C E (c_X6_floorOf e2) (va_cwS 2 hts gX6_ceilOf_X6_floorOf rfl rfl rfl hd_X6_floorOf ⟨Nat.le_of_ble_eq_true rfl, Nat.le_of_ble_eq_true rfl⟩) rfl hl.1 rfl (Nat.le_of_ble_eq_true rfl) dX6_ceilOf_6 ⟨Nat.le_of_ble_eq_true rfl, Nat.le_of_ble_eq_true rfl⟩) (fun H locs E => ?_)
  obtain rfl := Option.some.inj hf
  exact g_lret C E dX6_ceilOf_9
abbrev rm_X6_greatestDivisor : Room := { frames := 1, cells := 0, slots := 0, locals := 23 }
theorem hd_X6_greatestDivisor : yX6_greatestDivisor.cls ≠ "java/lang/invoke/MethodHandle" ∧ yX6_greatestDivisor.cls ≠ "java/lang/invoke/VarHandle" ∧ (parseMethodDescriptor yX6_greatestDivisor.desc).map (fun d => d.parameters.length) = some 2 := by decide +kernel
def f_X6_greatestDivisor_L9  : Nat → Int64 → Int64 → Int32 → Option (Int64)
  | 0, _, _, _ => none
  | n + 1, x4, x6, x8 =>
  if (200 : Int32) ≤ x8 then
    if 0 ≤ (lg_cmp x4 (1 : Int64)) then
      some (x4)
    else
      some ((1 : Int64))
  else
    if (lg_cmp x6 (0 : Int64)) ≤ 0 then
      if 0 ≤ (lg_cmp x4 (1 : Int64)) then
        some (x4)
      else
        some ((1 : Int64))
    else
      (f_X6_floorOf x4 x6).bind fun o5 =>
      f_X6_greatestDivisor_L9  n x6 (x4 - (o5 * x6)) (x8 + 1)
set_option maxHeartbeats 4000000 in
set_option maxRecDepth 100000 in
theorem w_X6_greatestDivisor_L9 {p : Program} {l : Launch} {e : Env} {s : State} {m : MethodId} {args : Array Value} {below : List Frame} {meth : Method} {c : Code} {A : Nat → Prop} {D : va_G} {tys : List (ClassId × FieldType)} {w : va_W} (C : gC p s m args meth c cX6_greatestDivisor 11 (some .long) wsX6_greatestDivisor RX6 A) {o : Int64} :
    ∀ (n : Nat) (x4 : Int64) (x6 : Int64) (x8 : Int32) (H : Heap) (locs : List Loc) (ls : Array Slot), vE s A D tys w H locs → lv_has ls 11 [(4, .long x4), (6, .long x6), (8, .int x8)] → f_X6_greatestDivisor_L9  n x4 x6 x8 = some o → W p l e rm_X6_greatestDivisor s m args below meth c H locs 0 0 (MQ below (gQl D tys A w o) args s 0 0 A) (F0 m 9 ls []) := by
  obtain ⟨hx, hb, hr, hml, hown, hts, hlocks, hN, hA⟩ := id C
  intro n
  induction n with
  | zero =>
    intro x4 x6 x8 H locs ls E hl hf
    rw [f_X6_greatestDivisor_L9] at hf
    cases hf
  | succ n ih =>
    intro x4 x6 x8 H locs ls E hl hf
    rw [f_X6_greatestDivisor_L9] at hf
    refine lv_iload hx hb dX6_greatestDivisor_9 (lv_at hl 2 rfl) ?_
    refine lv_sipush (v := 200) hx hb dX6_greatestDivisor_11 (by decide) ?_
    refine lv_icmp_ge (tgt := 53) hx hb dX6_greatestDivisor_14 (by decide) (fun c1 => ?_) (fun c1 => ?_)
    · rw [if_pos c1] at hf
      refine lv_lload hx hb dX6_greatestDivisor_53 (lv_at hl 0 rfl) ?_
      refine lv_lconst (v := 1) hx hb dX6_greatestDivisor_55 (by decide) ?_
      refine W.lcmp hx hb dX6_greatestDivisor_56 ?_
      refine lv_if_ge (tgt := 64) hx hb dX6_greatestDivisor_57 (by decide) (fun c2 => ?_) (fun c2 => ?_)
      · rw [if_pos c2] at hf
        refine lv_lload hx hb dX6_greatestDivisor_64 (lv_at hl 0 rfl) ?_
        obtain rfl := Option.some.inj hf
        exact g_lret C E dX6_greatestDivisor_66
      · rw [if_neg c2] at hf
        refine lv_lconst (v := 1) hx hb dX6_greatestDivisor_60 (by decide) ?_
        refine lv_goto (tgt := 66) hx hb dX6_greatestDivisor_61 (by decide) ?_
        obtain rfl := Option.some.inj hf
        exact g_lret C E dX6_greatestDivisor_66
    · rw [if_neg c1] at hf
      refine lv_lload hx hb dX6_greatestDivisor_17 (lv_at hl 1 rfl) ?_
      refine lv_lconst (v := 0) hx hb dX6_greatestDivisor_19 (by decide) ?_
      refine W.lcmp hx hb dX6_greatestDivisor_20 ?_
      refine lv_if_le (tgt := 53) hx hb dX6_greatestDivisor_21 (by decide) (fun c3 => ?_) (fun c3 => ?_)
      · rw [if_pos c3] at hf
        refine lv_lload hx hb dX6_greatestDivisor_53 (lv_at hl 0 rfl) ?_
        refine lv_lconst (v := 1) hx hb dX6_greatestDivisor_55 (by decide) ?_
        refine W.lcmp hx hb dX6_greatestDivisor_56 ?_
        refine lv_if_ge (tgt := 64) hx hb dX6_greatestDivisor_57 (by decide) (fun c4 => ?_) (fun c4 => ?_)
        · rw [if_pos c4] at hf
          refine lv_lload hx hb dX6_greatestDivisor_64 (lv_at hl 0 rfl) ?_
          obtain rfl := Option.some.inj hf
          exact g_lret C E dX6_greatestDivisor_66
        · rw [if_neg c4] at hf
          refine lv_lconst (v := 1) hx hb dX6_greatestDivisor_60 (by decide) ?_
          refine lv_goto (tgt := 66) hx hb dX6_greatestDivisor_61 (by decide) ?_
          obtain rfl := Option.some.inj hf
          exact g_lret C E dX6_greatestDivisor_66
      · rw [if_neg c3] at hf
        refine lv_lload hx hb dX6_greatestDivisor_24 (lv_at hl 0 rfl) ?_
        refine lv_lload hx hb dX6_greatestDivisor_26 (lv_at hl 0 rfl) ?_
        refine lv_lload hx hb dX6_greatestDivisor_28 (lv_at hl 1 rfl) ?_
        obtain ⟨o5, e6, hf⟩ := bd_some hf
        refine g_calll (w' := w) C E (g_runS (As := [.long x4, .long x6]) (rest := [.long x4]) C E (c_X6_floorOf e6) (va_cwS 2 hts gX6_greatestDivisor_X6_floorOf rfl rfl rfl hd_X6_floorOf ⟨Nat.le_of_ble_eq_true rfl, Nat.le_of_ble_eq_true rfl⟩) rfl hl.1 rfl (Nat.le_of_ble_eq_true rfl) dX6_greatestDivisor_30 ⟨Nat.le_of_ble_eq_true rfl, Nat.le_of_ble_eq_true rfl⟩) (fun H locs E => ?_)
        refine lv_lload hx hb dX6_greatestDivisor_33 (lv_at hl 1 rfl) ?_
        refine lv_lmul hx hb dX6_greatestDivisor_35 ?_
        refine lv_lsub hx hb dX6_greatestDivisor_36 ?_
        refine lv_lstore (lv' := [(9, .long (x4 - (o5 * x6))), (4, .long x4), (6, .long x6), (8, .int x8)]) hx hb dX6_greatestDivisor_37 hl (by decide) rfl (fun ls hl => ?_)
        refine lv_lload hx hb dX6_greatestDivisor_39 (lv_at hl 2 rfl) ?_
        refine lv_lstore (lv' := [(4, .long x6), (9, .long (x4 - (o5 * x6))), (6, .long x6), (8, .int x8)]) hx hb dX6_greatestDivisor_41 hl (by decide) rfl (fun ls hl => ?_)
        refine lv_lload hx hb dX6_greatestDivisor_43 (lv_at hl 1 rfl) ?_
        refine lv_lstore (lv' := [(6, .long (x4 - (o5 * x6))), (4, .long x6), (9, .long (x4 - (o5 * x6))), (8, .int x8)]) hx hb dX6_greatestDivisor_45 hl (by decide) rfl (fun ls hl => ?_)
        refine lv_iinc (v := (x8 + 1)) (lv' := [(8, .int (x8 + 1)), (6, .long (x4 - (o5 * x6))), (4, .long x6), (9, .long (x4 - (o5 * x6)))]) hx hb dX6_greatestDivisor_47 hl (k := 3) rfl rfl (by decide) rfl (fun ls hl => ?_)
        refine lv_goto (tgt := 9) hx hb dX6_greatestDivisor_50 (by decide) ?_
        exact ih x6 (x4 - (o5 * x6)) (x8 + 1) _ _ _ E (lv_sub hl [2, 1, 0] rfl) hf
def f_X6_greatestDivisor  (x0 : Int64) (x2 : Int64) : Option (Int64) :=
  f_X6_greatestDivisor_L9  FU x0 x2 (0 : Int32)
set_option maxHeartbeats 4000000 in
set_option maxRecDepth 100000 in
theorem c_X6_greatestDivisor {l : Launch} {D : va_G} {tys : List (ClassId × FieldType)} {w : va_W} {sz : Nat} {x0 : Int64} {x2 : Int64} {o : Int64} (hf : f_X6_greatestDivisor x0 x2 = some o) : gMl l yX6_greatestDivisor wsX6_greatestDivisor rm_X6_greatestDivisor D tys w w sz [.long x0, .long x2] o := by
  refine g_of (cc := cX6_greatestDivisor) (maxL := 11) (ret := (some .long)) (by decide) rfl (Nat.le_of_ble_eq_true rfl) ?_
  intro p e s m below meth c A ls hAe C hl E
  rw [← hAe]
  obtain ⟨hx, hb, hr, hml, hown, hts, hlocks, hN, hA⟩ := id C
  have hl : lv_has ls 11 [(0, .long x0), (2, .long x2)] := hl
  have E : vE s A D tys w s.heap [] := E
  rw [f_X6_greatestDivisor] at hf
  refine lv_lload_n hx hb dX6_greatestDivisor_0 rfl (lv_at hl 0 rfl) ?_
  refine lv_lstore (lv' := [(4, .long x0), (0, .long x0), (2, .long x2)]) hx hb dX6_greatestDivisor_1 hl (by decide) rfl (fun ls hl => ?_)
  refine lv_lload_n hx hb dX6_greatestDivisor_3 rfl (lv_at hl 2 rfl) ?_
  refine lv_lstore (lv' := [(6, .long x2), (4, .long x0), (0, .long x0), (2, .long x2)]) hx hb dX6_greatestDivisor_4 hl (by decide) rfl (fun ls hl => ?_)
  refine lv_iconst (v := 0) hx hb dX6_greatestDivisor_6 (by decide) ?_
  refine lv_istore (lv' := [(8, .int (0 : Int32)), (6, .long x2), (4, .long x0), (0, .long x0), (2, .long x2)]) hx hb dX6_greatestDivisor_7 hl (by decide) rfl (fun ls hl => ?_)
  exact w_X6_greatestDivisor_L9 C  FU x0 x2 (0 : Int32) _ _ _ E (lv_sub hl [2, 1, 0] rfl) hf
abbrev rm_X3_place : Room := { frames := 0, cells := 0, slots := 0, locals := 0 }
theorem hd_X3_place : yX3_place.cls ≠ "java/lang/invoke/MethodHandle" ∧ yX3_place.cls ≠ "java/lang/invoke/VarHandle" ∧ (parseMethodDescriptor yX3_place.desc).map (fun d => d.parameters.length) = some 2 := by decide +kernel
def f_X3_place  (x0 : Int32) (x1 : Int32) : Option (Int32) :=
  some (((x0 * (4 : Int32)) + x1))
set_option maxHeartbeats 4000000 in
set_option maxRecDepth 100000 in
theorem c_X3_place {l : Launch} {D : va_G} {tys : List (ClassId × FieldType)} {w : va_W} {sz : Nat} {x0 : Int32} {x1 : Int32} {o : Int32} (hf : f_X3_place x0 x1 = some o) : gMi l yX3_place wsX3_place rm_X3_place D tys w w sz [.int x0, .int x1] o := by
  refine g_of (cc := cX3_place) (maxL := 2) (ret := (some .int)) (by decide) rfl (Nat.le_of_ble_eq_true rfl) ?_
  intro p e s m below meth c A ls hAe C hl E
  rw [← hAe]
  obtain ⟨hx, hb, hr, hml, hown, hts, hlocks, hN, hA⟩ := id C
  have hl : lv_has ls 2 [(0, .int x0), (1, .int x1)] := hl
  have E : vE s A D tys w s.heap [] := E
  rw [f_X3_place] at hf
  refine lv_iload_n hx hb dX3_place_0 rfl (lv_at hl 0 rfl) ?_
  refine lv_iconst (v := 4) hx hb dX3_place_1 (by decide) ?_
  refine lv_imul hx hb dX3_place_2 ?_
  refine lv_iload_n hx hb dX3_place_3 rfl (lv_at hl 1 rfl) ?_
  refine lv_iadd hx hb dX3_place_4 ?_
  obtain rfl := Option.some.inj hf
  exact g_iret C E dX3_place_5
end
section
abbrev rm_X3_goodAt_i : Room := { frames := 1, cells := 0, slots := 0, locals := 21 }
theorem hd_X3_goodAt_i : yX3_goodAt.cls ≠ "java/lang/invoke/MethodHandle" ∧ yX3_goodAt.cls ≠ "java/lang/invoke/VarHandle" ∧ (parseMethodDescriptor yX3_goodAt.desc).map (fun d => d.parameters.length) = some 2 := by decide +kernel
def f_X3_goodAt_i (igd : Nat → Int32) (x1 : Int32) (x2 : Int32) : Option (Int32) :=
  (f_X3_place x1 x2).bind fun o1 =>
  ck o1 48 <|
  some ((igd o1.toNatClampNeg))
set_option maxHeartbeats 4000000 in
set_option maxRecDepth 100000 in
theorem c_X3_goodAt_i {l : Launch} {D : va_G} {cI cJ cZ : ClassId} {a : Nat → Nat} {sz : Nat} {vl : Nat → Int32} {hs : Nat → Int32} {isz : Nat → Int32} {igd : Nat → Int32} {iup : Nat → Int32} {idn : Nat → Int32} {osz : Nat → Int32} {ogd : Nat → Int32} {oup : Nat → Int32} {odn : Nat → Int32} {dep : Nat → Int32} {rsz : Int32} {lgd : Nat → Int32} {llf : Nat → Int64} {ldb : Nat → Int64} {ldy : Nat → Int32} {lsz : Int32} {lti : Int64} {pgd : Nat → Int32} {plf : Nat → Int64} {pun : Nat → Int32} {psz : Int32} {bgd : Nat → Int32} {bam : Nat → Int64} {bwt : Nat → Int64} {bsh : Nat → Int64} {brm : Nat → Int64} {bsz : Int32} {cab : Nat → Int64} {cbl : Nat → Int64} {tod : Int32} {imp : Int64} {dis : Int64} {owe : Int64} {itr : Int64} {x1 : Int32} {x2 : Int32} {o : Int32} (hf : f_X3_goodAt_i igd x1 x2 = some o) : gMi l yX3_goodAt wsX3_goodAt rm_X3_goodAt_i D (gT cI cJ cZ) (cW a cI cJ cZ vl hs isz igd iup idn osz ogd oup odn dep rsz lgd llf ldb ldy lsz lti pgd plf pun psz bgd bam bwt bsh brm bsz cab cbl tod imp dis owe itr) (cW a cI cJ cZ vl hs isz igd iup idn osz ogd oup odn dep rsz lgd llf ldb ldy lsz lti pgd plf pun psz bgd bam bwt bsh brm bsz cab cbl tod imp dis owe itr) sz [.ref (a 4), .int x1, .int x2] o := by
  refine g_of (cc := cX3_goodAt) (maxL := 3) (ret := (some .int)) (by decide) rfl (Nat.le_of_ble_eq_true rfl) ?_
  intro p e s m below meth c A ls hAe C hl E
  rw [← hAe]
  obtain ⟨hx, hb, hr, hml, hown, hts, hlocks, hN, hA⟩ := id C
  have hl : lv_has ls 3 [(0, .ref (a 4)), (1, .int x1), (2, .int x2)] := hl
  have E : vE s A D (gT cI cJ cZ) (cW a cI cJ cZ vl hs isz igd iup idn osz ogd oup odn dep rsz lgd llf ldb ldy lsz lti pgd plf pun psz bgd bam bwt bsh brm bsz cab cbl tod imp dis owe itr) s.heap [] := E
  rw [f_X3_goodAt_i] at hf
  refine lv_aload_n hx hb dX3_goodAt_0 rfl (lv_at hl 0 rfl) ?_
  refine g_get C E 4 2 (fun _ h => List.mem_cons_of_mem _ (List.mem_append_right _ h)) rfl rfl (by decide) (List.mem_of_getElem? (i := 1) rfl) rfl rfl dX3_goodAt_1 ?_
  refine lv_iload_n hx hb dX3_goodAt_4 rfl (lv_at hl 1 rfl) ?_
  refine lv_iload_n hx hb dX3_goodAt_5 rfl (lv_at hl 2 rfl) ?_
  obtain ⟨o1, e2, hf⟩ := bd_some hf
  refine g_calli (w' := (cW a cI cJ cZ vl hs isz igd iup idn osz ogd oup odn dep rsz lgd llf ldb ldy lsz lti pgd plf pun psz bgd bam bwt bsh brm bsz cab cbl tod imp dis owe itr)) C E (g_runS (As := [.int x1, .int x2]) (rest := [.ref (a 6)]) C E (c_X3_place e2) (va_cwS 2 hts gX3_goodAt_X3_place rfl rfl rfl hd_X3_place ⟨Nat.le_of_ble_eq_true rfl, Nat.le_of_ble_eq_true rfl⟩) rfl hl.1 rfl (Nat.le_of_ble_eq_true rfl) dX3_goodAt_6 ⟨Nat.le_of_ble_eq_true rfl, Nat.le_of_ble_eq_true rfl⟩) (fun H locs E => ?_)
  obtain ⟨h3, hf⟩ := ck_some hf
  refine g_iald C E 6 rfl h3 dX3_goodAt_9 ?_
  obtain rfl := Option.some.inj hf
  exact g_iret C E dX3_goodAt_10
abbrev rm_X3_isTold_i : Room := { frames := 2, cells := 0, slots := 0, locals := 43 }
theorem hd_X3_isTold_i : yX3_isTold.cls ≠ "java/lang/invoke/MethodHandle" ∧ yX3_isTold.cls ≠ "java/lang/invoke/VarHandle" ∧ (parseMethodDescriptor yX3_isTold.desc).map (fun d => d.parameters.length) = some 2 := by decide +kernel
def f_X3_isTold_i_L2 (isz : Nat → Int32) (igd : Nat → Int32) (x1 : Int32) (x2 : Int32) : Nat → Int32 → Option (Int32)
  | 0, _ => none
  | n + 1, x3 =>
  ck x1 12 <|
  if (isz x1.toNatClampNeg) ≤ x3 then
    some ((0 : Int32))
  else
    (f_X3_goodAt_i igd x1 x3).bind fun o3 =>
    if o3 = x2 then
      some ((1 : Int32))
    else
      f_X3_isTold_i_L2 isz igd x1 x2 n (x3 + 1)
set_option maxHeartbeats 4000000 in
set_option maxRecDepth 100000 in
theorem w_X3_isTold_i_L2 {p : Program} {l : Launch} {e : Env} {s : State} {m : MethodId} {args : Array Value} {below : List Frame} {meth : Method} {c : Code} {A : Nat → Prop} {D : va_G} {cI cJ cZ : ClassId} {a : Nat → Nat} {vl : Nat → Int32} {hs : Nat → Int32} {isz : Nat → Int32} {igd : Nat → Int32} {iup : Nat → Int32} {idn : Nat → Int32} {osz : Nat → Int32} {ogd : Nat → Int32} {oup : Nat → Int32} {odn : Nat → Int32} {dep : Nat → Int32} {rsz : Int32} {lgd : Nat → Int32} {llf : Nat → Int64} {ldb : Nat → Int64} {ldy : Nat → Int32} {lsz : Int32} {lti : Int64} {pgd : Nat → Int32} {plf : Nat → Int64} {pun : Nat → Int32} {psz : Int32} {bgd : Nat → Int32} {bam : Nat → Int64} {bwt : Nat → Int64} {bsh : Nat → Int64} {brm : Nat → Int64} {bsz : Int32} {cab : Nat → Int64} {cbl : Nat → Int64} {tod : Int32} {imp : Int64} {dis : Int64} {owe : Int64} {itr : Int64} (C : gC p s m args meth c cX3_isTold 4 (some .boolean) wsX3_isTold RX3 A) {x1 : Int32} {x2 : Int32} {o : Int32} :
    ∀ (n : Nat) (x3 : Int32) (H : Heap) (locs : List Loc) (ls : Array Slot), vE s A D (gT cI cJ cZ) (cW a cI cJ cZ vl hs isz igd iup idn osz ogd oup odn dep rsz lgd llf ldb ldy lsz lti pgd plf pun psz bgd bam bwt bsh brm bsz cab cbl tod imp dis owe itr) H locs → lv_has ls 4 [(0, .ref (a 4)), (1, .int x1), (2, .int x2), (3, .int x3)] → f_X3_isTold_i_L2 isz igd x1 x2 n x3 = some o → W p l e rm_X3_isTold_i s m args below meth c H locs 0 0 (MQ below (gQi D (gT cI cJ cZ) A (cW a cI cJ cZ vl hs isz igd iup idn osz ogd oup odn dep rsz lgd llf ldb ldy lsz lti pgd plf pun psz bgd bam bwt bsh brm bsz cab cbl tod imp dis owe itr) o) args s 0 0 A) (F0 m 2 ls []) := by
  obtain ⟨hx, hb, hr, hml, hown, hts, hlocks, hN, hA⟩ := id C
  intro n
  induction n with
  | zero =>
    intro x3 H locs ls E hl hf
    rw [f_X3_isTold_i_L2] at hf
    cases hf
  | succ n ih =>
    intro x3 H locs ls E hl hf
    rw [f_X3_isTold_i_L2] at hf
    refine lv_iload_n hx hb dX3_isTold_2 rfl (lv_at hl 3 rfl) ?_
    refine lv_aload_n hx hb dX3_isTold_3 rfl (lv_at hl 0 rfl) ?_
    refine g_get C E 4 1 (fun _ h => List.mem_cons_of_mem _ (List.mem_append_right _ h)) rfl rfl (by decide) (List.mem_of_getElem? (i := 1) rfl) rfl rfl dX3_isTold_4 ?_
    refine lv_iload_n hx hb dX3_isTold_7 rfl (lv_at hl 1 rfl) ?_
    obtain ⟨h1, hf⟩ := ck_some hf
    refine g_iald C E 5 rfl h1 dX3_isTold_8 ?_
    refine lv_icmp_ge (tgt := 30) hx hb dX3_isTold_9 (by decide) (fun c2 => ?_) (fun c2 => ?_)
    · rw [if_pos c2] at hf
      refine lv_iconst (v := 0) hx hb dX3_isTold_30 (by decide) ?_
      obtain rfl := Option.some.inj hf
      exact g_zret (r := 0) C E rfl dX3_isTold_31
    · rw [if_neg c2] at hf
      refine lv_aload_n hx hb dX3_isTold_12 rfl (lv_at hl 0 rfl) ?_
      refine lv_iload_n hx hb dX3_isTold_13 rfl (lv_at hl 1 rfl) ?_
      refine lv_iload_n hx hb dX3_isTold_14 rfl (lv_at hl 3 rfl) ?_
      obtain ⟨o3, e4, hf⟩ := bd_some hf
      refine g_calli (w' := (cW a cI cJ cZ vl hs isz igd iup idn osz ogd oup odn dep rsz lgd llf ldb ldy lsz lti pgd plf pun psz bgd bam bwt bsh brm bsz cab cbl tod imp dis owe itr)) C E (g_runV (As := [.int x1, .int x3]) (rest := []) C E (c_X3_goodAt_i e4) (cwV 2 hts gX3_isTold_X3_goodAt rfl rfl rfl ⟨rfl, hd_X3_goodAt_i⟩ ⟨Nat.le_of_ble_eq_true rfl, Nat.le_of_ble_eq_true rfl⟩) (q0 := 4) (ci := 3) rfl rfl rfl rfl hl.1 rfl (Nat.le_of_ble_eq_true rfl) dX3_isTold_15 ⟨Nat.le_of_ble_eq_true rfl, Nat.le_of_ble_eq_true rfl⟩) (fun H locs E => ?_)
      refine lv_iload_n hx hb dX3_isTold_18 rfl (lv_at hl 2 rfl) ?_
      refine lv_icmp_ne (tgt := 24) hx hb dX3_isTold_19 (by decide) (fun c5 => ?_) (fun c5 => ?_)
      · rw [if_neg c5] at hf
        refine lv_iinc (v := (x3 + 1)) (lv' := [(3, .int (x3 + 1)), (0, .ref (a 4)), (1, .int x1), (2, .int x2)]) hx hb dX3_isTold_24 hl (k := 3) rfl rfl (by decide) rfl (fun ls hl => ?_)
        refine lv_goto (tgt := 2) hx hb dX3_isTold_27 (by decide) ?_
        exact ih (x3 + 1) _ _ _ E (lv_sub hl [1, 2, 3, 0] rfl) hf
      · rw [if_pos c5] at hf
        refine lv_iconst (v := 1) hx hb dX3_isTold_22 (by decide) ?_
        obtain rfl := Option.some.inj hf
        exact g_zret (r := 1) C E rfl dX3_isTold_23
def f_X3_isTold_i (isz : Nat → Int32) (igd : Nat → Int32) (x1 : Int32) (x2 : Int32) : Option (Int32) :=
  f_X3_isTold_i_L2 isz igd x1 x2 FU (0 : Int32)
set_option maxHeartbeats 4000000 in
set_option maxRecDepth 100000 in
theorem c_X3_isTold_i {l : Launch} {D : va_G} {cI cJ cZ : ClassId} {a : Nat → Nat} {sz : Nat} {vl : Nat → Int32} {hs : Nat → Int32} {isz : Nat → Int32} {igd : Nat → Int32} {iup : Nat → Int32} {idn : Nat → Int32} {osz : Nat → Int32} {ogd : Nat → Int32} {oup : Nat → Int32} {odn : Nat → Int32} {dep : Nat → Int32} {rsz : Int32} {lgd : Nat → Int32} {llf : Nat → Int64} {ldb : Nat → Int64} {ldy : Nat → Int32} {lsz : Int32} {lti : Int64} {pgd : Nat → Int32} {plf : Nat → Int64} {pun : Nat → Int32} {psz : Int32} {bgd : Nat → Int32} {bam : Nat → Int64} {bwt : Nat → Int64} {bsh : Nat → Int64} {brm : Nat → Int64} {bsz : Int32} {cab : Nat → Int64} {cbl : Nat → Int64} {tod : Int32} {imp : Int64} {dis : Int64} {owe : Int64} {itr : Int64} {x1 : Int32} {x2 : Int32} {o : Int32} (hf : f_X3_isTold_i isz igd x1 x2 = some o) : gMi l yX3_isTold wsX3_isTold rm_X3_isTold_i D (gT cI cJ cZ) (cW a cI cJ cZ vl hs isz igd iup idn osz ogd oup odn dep rsz lgd llf ldb ldy lsz lti pgd plf pun psz bgd bam bwt bsh brm bsz cab cbl tod imp dis owe itr) (cW a cI cJ cZ vl hs isz igd iup idn osz ogd oup odn dep rsz lgd llf ldb ldy lsz lti pgd plf pun psz bgd bam bwt bsh brm bsz cab cbl tod imp dis owe itr) sz [.ref (a 4), .int x1, .int x2] o := by
  refine g_of (cc := cX3_isTold) (maxL := 4) (ret := (some .boolean)) (by decide) rfl (Nat.le_of_ble_eq_true rfl) ?_
  intro p e s m below meth c A ls hAe C hl E
  rw [← hAe]
  obtain ⟨hx, hb, hr, hml, hown, hts, hlocks, hN, hA⟩ := id C
  have hl : lv_has ls 4 [(0, .ref (a 4)), (1, .int x1), (2, .int x2)] := hl
  have E : vE s A D (gT cI cJ cZ) (cW a cI cJ cZ vl hs isz igd iup idn osz ogd oup odn dep rsz lgd llf ldb ldy lsz lti pgd plf pun psz bgd bam bwt bsh brm bsz cab cbl tod imp dis owe itr) s.heap [] := E
  rw [f_X3_isTold_i] at hf
  refine lv_iconst (v := 0) hx hb dX3_isTold_0 (by decide) ?_
  refine lv_istore_n (lv' := [(3, .int (0 : Int32)), (0, .ref (a 4)), (1, .int x1), (2, .int x2)]) hx hb dX3_isTold_1 rfl hl (by decide) rfl (fun ls hl => ?_)
  exact w_X3_isTold_i_L2 C  FU (0 : Int32) _ _ _ E (lv_sub hl [1, 2, 3, 0] rfl) hf
abbrev rm_X3_add_i : Room := { frames := 3, cells := 0, slots := 0, locals := 66 }
theorem hd_X3_add_i : yX3_add.cls ≠ "java/lang/invoke/MethodHandle" ∧ yX3_add.cls ≠ "java/lang/invoke/VarHandle" ∧ (parseMethodDescriptor yX3_add.desc).map (fun d => d.parameters.length) = some 4 := by decide +kernel
def f_X3_add_i (isz : Nat → Int32) (igd : Nat → Int32) (iup : Nat → Int32) (idn : Nat → Int32) (x1 : Int32) (x2 : Int32) (x3 : Int32) (x4 : Int32) : Option (Int32 × (Nat → Int32) × (Nat → Int32) × (Nat → Int32) × (Nat → Int32)) :=
  if x1 = x2 then
    some ((0 : Int32), isz, igd, iup, idn)
  else
    ck x1 12 <|
    if (4 : Int32) ≤ (isz x1.toNatClampNeg) then
      some ((0 : Int32), isz, igd, iup, idn)
    else
      (f_X3_isTold_i isz igd x1 x2).bind fun o4 =>
      if o4 = 0 then
        ck x1 12 <|
        (f_X3_place x1 (isz x1.toNatClampNeg)).bind fun o8 =>
        ck o8 48 <|
        ck o8 48 <|
        ck o8 48 <|
        ck x1 12 <|
        ck x1 12 <|
        some ((1 : Int32), (upd isz x1.toNatClampNeg ((isz x1.toNatClampNeg) + (1 : Int32))), (upd igd o8.toNatClampNeg x2), (upd iup o8.toNatClampNeg x3), (upd idn o8.toNatClampNeg x4))
      else
        some ((0 : Int32), isz, igd, iup, idn)
set_option maxHeartbeats 4000000 in
set_option maxRecDepth 100000 in
theorem c_X3_add_i {l : Launch} {D : va_G} {cI cJ cZ : ClassId} {a : Nat → Nat} {sz : Nat} {vl : Nat → Int32} {hs : Nat → Int32} {isz : Nat → Int32} {igd : Nat → Int32} {iup : Nat → Int32} {idn : Nat → Int32} {osz : Nat → Int32} {ogd : Nat → Int32} {oup : Nat → Int32} {odn : Nat → Int32} {dep : Nat → Int32} {rsz : Int32} {lgd : Nat → Int32} {llf : Nat → Int64} {ldb : Nat → Int64} {ldy : Nat → Int32} {lsz : Int32} {lti : Int64} {pgd : Nat → Int32} {plf : Nat → Int64} {pun : Nat → Int32} {psz : Int32} {bgd : Nat → Int32} {bam : Nat → Int64} {bwt : Nat → Int64} {bsh : Nat → Int64} {brm : Nat → Int64} {bsz : Int32} {cab : Nat → Int64} {cbl : Nat → Int64} {tod : Int32} {imp : Int64} {dis : Int64} {owe : Int64} {itr : Int64} {x1 : Int32} {x2 : Int32} {x3 : Int32} {x4 : Int32} {o : Int32 × (Nat → Int32) × (Nat → Int32) × (Nat → Int32) × (Nat → Int32)} (hf : f_X3_add_i isz igd iup idn x1 x2 x3 x4 = some o) : gMi l yX3_add wsX3_add rm_X3_add_i D (gT cI cJ cZ) (cW a cI cJ cZ vl hs isz igd iup idn osz ogd oup odn dep rsz lgd llf ldb ldy lsz lti pgd plf pun psz bgd bam bwt bsh brm bsz cab cbl tod imp dis owe itr) (cW a cI cJ cZ vl hs o.2.1 o.2.2.1 o.2.2.2.1 o.2.2.2.2 osz ogd oup odn dep rsz lgd llf ldb ldy lsz lti pgd plf pun psz bgd bam bwt bsh brm bsz cab cbl tod imp dis owe itr) sz [.ref (a 4), .int x1, .int x2, .int x3, .int x4] o.1 := by
  refine g_of (cc := cX3_add) (maxL := 6) (ret := (some .boolean)) (by decide) rfl (Nat.le_of_ble_eq_true rfl) ?_
  intro p e s m below meth c A ls hAe C hl E
  rw [← hAe]
  obtain ⟨hx, hb, hr, hml, hown, hts, hlocks, hN, hA⟩ := id C
  have hl : lv_has ls 6 [(0, .ref (a 4)), (1, .int x1), (2, .int x2), (3, .int x3), (4, .int x4)] := hl
  have E : vE s A D (gT cI cJ cZ) (cW a cI cJ cZ vl hs isz igd iup idn osz ogd oup odn dep rsz lgd llf ldb ldy lsz lti pgd plf pun psz bgd bam bwt bsh brm bsz cab cbl tod imp dis owe itr) s.heap [] := E
  rw [f_X3_add_i] at hf
  refine lv_iload_n hx hb dX3_add_0 rfl (lv_at hl 1 rfl) ?_
  refine lv_iload_n hx hb dX3_add_1 rfl (lv_at hl 2 rfl) ?_
  refine lv_icmp_eq (tgt := 27) hx hb dX3_add_2 (by decide) (fun c1 => ?_) (fun c1 => ?_)
  · rw [if_pos c1] at hf
    refine lv_iconst (v := 0) hx hb dX3_add_27 (by decide) ?_
    obtain rfl := Option.some.inj hf
    exact g_zret (r := 0) C E rfl dX3_add_28
  · rw [if_neg c1] at hf
    refine lv_aload_n hx hb dX3_add_5 rfl (lv_at hl 0 rfl) ?_
    refine g_get C E 4 1 (fun _ h => List.mem_cons_of_mem _ (List.mem_append_right _ h)) rfl rfl (by decide) (List.mem_of_getElem? (i := 1) rfl) rfl rfl dX3_add_6 ?_
    refine lv_iload_n hx hb dX3_add_9 rfl (lv_at hl 1 rfl) ?_
    obtain ⟨h2, hf⟩ := ck_some hf
    refine g_iald C E 5 rfl h2 dX3_add_10 ?_
    refine lv_aload_n hx hb dX3_add_11 rfl (lv_at hl 0 rfl) ?_
    refine g_get C E 4 0 (fun _ h => List.mem_cons_of_mem _ (List.mem_append_right _ h)) rfl rfl (by decide) (List.mem_of_getElem? (i := 2) rfl) rfl rfl dX3_add_12 ?_
    refine lv_icmp_ge (tgt := 27) hx hb dX3_add_15 (by decide) (fun c3 => ?_) (fun c3 => ?_)
    · rw [if_pos c3] at hf
      refine lv_iconst (v := 0) hx hb dX3_add_27 (by decide) ?_
      obtain rfl := Option.some.inj hf
      exact g_zret (r := 0) C E rfl dX3_add_28
    · rw [if_neg c3] at hf
      refine lv_aload_n hx hb dX3_add_18 rfl (lv_at hl 0 rfl) ?_
      refine lv_iload_n hx hb dX3_add_19 rfl (lv_at hl 1 rfl) ?_
      refine lv_iload_n hx hb dX3_add_20 rfl (lv_at hl 2 rfl) ?_
      obtain ⟨o4, e5, hf⟩ := bd_some hf
      refine g_calli (w' := (cW a cI cJ cZ vl hs isz igd iup idn osz ogd oup odn dep rsz lgd llf ldb ldy lsz lti pgd plf pun psz bgd bam bwt bsh brm bsz cab cbl tod imp dis owe itr)) C E (g_runV (As := [.int x1, .int x2]) (rest := []) C E (c_X3_isTold_i e5) (cwV 2 hts gX3_add_X3_isTold rfl rfl rfl ⟨rfl, hd_X3_isTold_i⟩ ⟨Nat.le_of_ble_eq_true rfl, Nat.le_of_ble_eq_true rfl⟩) (q0 := 4) (ci := 3) rfl rfl rfl rfl hl.1 rfl (Nat.le_of_ble_eq_true rfl) dX3_add_21 ⟨Nat.le_of_ble_eq_true rfl, Nat.le_of_ble_eq_true rfl⟩) (fun H locs E => ?_)
      refine lv_if_eq (tgt := 29) hx hb dX3_add_24 (by decide) (fun c6 => ?_) (fun c6 => ?_)
      · rw [if_pos c6] at hf
        refine lv_iload_n hx hb dX3_add_29 rfl (lv_at hl 1 rfl) ?_
        refine lv_aload_n hx hb dX3_add_30 rfl (lv_at hl 0 rfl) ?_
        refine g_get C E 4 1 (fun _ h => List.mem_cons_of_mem _ (List.mem_append_right _ h)) rfl rfl (by decide) (List.mem_of_getElem? (i := 1) rfl) rfl rfl dX3_add_31 ?_
        refine lv_iload_n hx hb dX3_add_34 rfl (lv_at hl 1 rfl) ?_
        obtain ⟨h7, hf⟩ := ck_some hf
        refine g_iald C E 5 rfl h7 dX3_add_35 ?_
        obtain ⟨o8, e9, hf⟩ := bd_some hf
        refine g_calli (w' := (cW a cI cJ cZ vl hs isz igd iup idn osz ogd oup odn dep rsz lgd llf ldb ldy lsz lti pgd plf pun psz bgd bam bwt bsh brm bsz cab cbl tod imp dis owe itr)) C E (g_runS (As := [.int x1, .int (isz x1.toNatClampNeg)]) (rest := []) C E (c_X3_place e9) (va_cwS 2 hts gX3_add_X3_place rfl rfl rfl hd_X3_place ⟨Nat.le_of_ble_eq_true rfl, Nat.le_of_ble_eq_true rfl⟩) rfl hl.1 rfl (Nat.le_of_ble_eq_true rfl) dX3_add_36 ⟨Nat.le_of_ble_eq_true rfl, Nat.le_of_ble_eq_true rfl⟩) (fun H locs E => ?_)
        refine lv_istore (lv' := [(5, .int o8), (0, .ref (a 4)), (1, .int x1), (2, .int x2), (3, .int x3), (4, .int x4)]) hx hb dX3_add_39 hl (by decide) rfl (fun ls hl => ?_)
        refine lv_aload_n hx hb dX3_add_41 rfl (lv_at hl 1 rfl) ?_
        refine g_get C E 4 2 (fun _ h => List.mem_cons_of_mem _ (List.mem_append_right _ h)) rfl rfl (by decide) (List.mem_of_getElem? (i := 3) rfl) rfl rfl dX3_add_42 ?_
        refine lv_iload hx hb dX3_add_45 (lv_at hl 0 rfl) ?_
        refine lv_iload_n hx hb dX3_add_47 rfl (lv_at hl 3 rfl) ?_
        obtain ⟨h10, hf⟩ := ck_some hf
        refine g_iast (w' := (cW a cI cJ cZ vl hs isz (upd igd o8.toNatClampNeg x2) iup idn osz ogd oup odn dep rsz lgd llf ldb ldy lsz lti pgd plf pun psz bgd bam bwt bsh brm bsz cab cbl tod imp dis owe itr)) C E 6 rfl h10 dX3_add_48 rfl (fun H locs E => ?_)
        refine lv_aload_n hx hb dX3_add_49 rfl (lv_at hl 1 rfl) ?_
        refine g_get C E 4 3 (fun _ h => List.mem_cons_of_mem _ (List.mem_append_right _ h)) rfl rfl (by decide) (List.mem_of_getElem? (i := 4) rfl) rfl rfl dX3_add_50 ?_
        refine lv_iload hx hb dX3_add_53 (lv_at hl 0 rfl) ?_
        refine lv_iload_n hx hb dX3_add_55 rfl (lv_at hl 4 rfl) ?_
        obtain ⟨h11, hf⟩ := ck_some hf
        refine g_iast (w' := (cW a cI cJ cZ vl hs isz (upd igd o8.toNatClampNeg x2) (upd iup o8.toNatClampNeg x3) idn osz ogd oup odn dep rsz lgd llf ldb ldy lsz lti pgd plf pun psz bgd bam bwt bsh brm bsz cab cbl tod imp dis owe itr)) C E 7 rfl h11 dX3_add_56 rfl (fun H locs E => ?_)
        refine lv_aload_n hx hb dX3_add_57 rfl (lv_at hl 1 rfl) ?_
        refine g_get C E 4 4 (fun _ h => List.mem_cons_of_mem _ (List.mem_append_right _ h)) rfl rfl (by decide) (List.mem_of_getElem? (i := 5) rfl) rfl rfl dX3_add_58 ?_
        refine lv_iload hx hb dX3_add_61 (lv_at hl 0 rfl) ?_
        refine lv_iload hx hb dX3_add_63 (lv_at hl 5 rfl) ?_
        obtain ⟨h12, hf⟩ := ck_some hf
        refine g_iast (w' := (cW a cI cJ cZ vl hs isz (upd igd o8.toNatClampNeg x2) (upd iup o8.toNatClampNeg x3) (upd idn o8.toNatClampNeg x4) osz ogd oup odn dep rsz lgd llf ldb ldy lsz lti pgd plf pun psz bgd bam bwt bsh brm bsz cab cbl tod imp dis owe itr)) C E 8 rfl h12 dX3_add_65 rfl (fun H locs E => ?_)
        refine lv_aload_n hx hb dX3_add_66 rfl (lv_at hl 1 rfl) ?_
        refine g_get C E 4 1 (fun _ h => List.mem_cons_of_mem _ (List.mem_append_right _ h)) rfl rfl (by decide) (List.mem_of_getElem? (i := 1) rfl) rfl rfl dX3_add_67 ?_
        refine lv_iload_n hx hb dX3_add_70 rfl (lv_at hl 2 rfl) ?_
        refine lv_dup2_11 hx hb dX3_add_71 rfl rfl ?_
        obtain ⟨h13, hf⟩ := ck_some hf
        refine g_iald C E 5 rfl h13 dX3_add_72 ?_
        refine lv_iconst (v := 1) hx hb dX3_add_73 (by decide) ?_
        refine lv_iadd hx hb dX3_add_74 ?_
        obtain ⟨h14, hf⟩ := ck_some hf
        refine g_iast (w' := (cW a cI cJ cZ vl hs (upd isz x1.toNatClampNeg ((isz x1.toNatClampNeg) + (1 : Int32))) (upd igd o8.toNatClampNeg x2) (upd iup o8.toNatClampNeg x3) (upd idn o8.toNatClampNeg x4) osz ogd oup odn dep rsz lgd llf ldb ldy lsz lti pgd plf pun psz bgd bam bwt bsh brm bsz cab cbl tod imp dis owe itr)) C E 5 rfl h14 dX3_add_75 rfl (fun H locs E => ?_)
        refine lv_iconst (v := 1) hx hb dX3_add_76 (by decide) ?_
        obtain rfl := Option.some.inj hf
        exact g_zret (r := 1) C E rfl dX3_add_77
      · rw [if_neg c6] at hf
        refine lv_iconst (v := 0) hx hb dX3_add_27 (by decide) ?_
        obtain rfl := Option.some.inj hf
        exact g_zret (r := 0) C E rfl dX3_add_28
abbrev rm_X3_dropLast_i : Room := { frames := 0, cells := 0, slots := 0, locals := 0 }
theorem hd_X3_dropLast_i : yX3_dropLast.cls ≠ "java/lang/invoke/MethodHandle" ∧ yX3_dropLast.cls ≠ "java/lang/invoke/VarHandle" ∧ (parseMethodDescriptor yX3_dropLast.desc).map (fun d => d.parameters.length) = some 1 := by decide +kernel
def f_X3_dropLast_i (isz : Nat → Int32) (x1 : Int32) : Option ((Nat → Int32)) :=
  ck x1 12 <|
  if (isz x1.toNatClampNeg) ≤ 0 then
    some (isz)
  else
    ck x1 12 <|
    ck x1 12 <|
    some ((upd isz x1.toNatClampNeg ((isz x1.toNatClampNeg) - (1 : Int32))))
set_option maxHeartbeats 4000000 in
set_option maxRecDepth 100000 in
theorem c_X3_dropLast_i {l : Launch} {D : va_G} {cI cJ cZ : ClassId} {a : Nat → Nat} {sz : Nat} {vl : Nat → Int32} {hs : Nat → Int32} {isz : Nat → Int32} {igd : Nat → Int32} {iup : Nat → Int32} {idn : Nat → Int32} {osz : Nat → Int32} {ogd : Nat → Int32} {oup : Nat → Int32} {odn : Nat → Int32} {dep : Nat → Int32} {rsz : Int32} {lgd : Nat → Int32} {llf : Nat → Int64} {ldb : Nat → Int64} {ldy : Nat → Int32} {lsz : Int32} {lti : Int64} {pgd : Nat → Int32} {plf : Nat → Int64} {pun : Nat → Int32} {psz : Int32} {bgd : Nat → Int32} {bam : Nat → Int64} {bwt : Nat → Int64} {bsh : Nat → Int64} {brm : Nat → Int64} {bsz : Int32} {cab : Nat → Int64} {cbl : Nat → Int64} {tod : Int32} {imp : Int64} {dis : Int64} {owe : Int64} {itr : Int64} {x1 : Int32} {o : (Nat → Int32)} (hf : f_X3_dropLast_i isz x1 = some o) : gMv l yX3_dropLast wsX3_dropLast rm_X3_dropLast_i D (gT cI cJ cZ) (cW a cI cJ cZ vl hs isz igd iup idn osz ogd oup odn dep rsz lgd llf ldb ldy lsz lti pgd plf pun psz bgd bam bwt bsh brm bsz cab cbl tod imp dis owe itr) (cW a cI cJ cZ vl hs o igd iup idn osz ogd oup odn dep rsz lgd llf ldb ldy lsz lti pgd plf pun psz bgd bam bwt bsh brm bsz cab cbl tod imp dis owe itr) sz [.ref (a 4), .int x1] := by
  refine g_of (cc := cX3_dropLast) (maxL := 2) (ret := none) (by decide) rfl (Nat.le_of_ble_eq_true rfl) ?_
  intro p e s m below meth c A ls hAe C hl E
  rw [← hAe]
  obtain ⟨hx, hb, hr, hml, hown, hts, hlocks, hN, hA⟩ := id C
  have hl : lv_has ls 2 [(0, .ref (a 4)), (1, .int x1)] := hl
  have E : vE s A D (gT cI cJ cZ) (cW a cI cJ cZ vl hs isz igd iup idn osz ogd oup odn dep rsz lgd llf ldb ldy lsz lti pgd plf pun psz bgd bam bwt bsh brm bsz cab cbl tod imp dis owe itr) s.heap [] := E
  rw [f_X3_dropLast_i] at hf
  refine lv_aload_n hx hb dX3_dropLast_0 rfl (lv_at hl 0 rfl) ?_
  refine g_get C E 4 1 (fun _ h => List.mem_cons_of_mem _ (List.mem_append_right _ h)) rfl rfl (by decide) (List.mem_of_getElem? (i := 1) rfl) rfl rfl dX3_dropLast_1 ?_
  refine lv_iload_n hx hb dX3_dropLast_4 rfl (lv_at hl 1 rfl) ?_
  obtain ⟨h1, hf⟩ := ck_some hf
  refine g_iald C E 5 rfl h1 dX3_dropLast_5 ?_
  refine lv_if_le (tgt := 19) hx hb dX3_dropLast_6 (by decide) (fun c2 => ?_) (fun c2 => ?_)
  · rw [if_pos c2] at hf
    obtain rfl := Option.some.inj hf
    exact g_vret C E dX3_dropLast_19
  · rw [if_neg c2] at hf
    refine lv_aload_n hx hb dX3_dropLast_9 rfl (lv_at hl 0 rfl) ?_
    refine g_get C E 4 1 (fun _ h => List.mem_cons_of_mem _ (List.mem_append_right _ h)) rfl rfl (by decide) (List.mem_of_getElem? (i := 1) rfl) rfl rfl dX3_dropLast_10 ?_
    refine lv_iload_n hx hb dX3_dropLast_13 rfl (lv_at hl 1 rfl) ?_
    refine lv_dup2_11 hx hb dX3_dropLast_14 rfl rfl ?_
    obtain ⟨h3, hf⟩ := ck_some hf
    refine g_iald C E 5 rfl h3 dX3_dropLast_15 ?_
    refine lv_iconst (v := 1) hx hb dX3_dropLast_16 (by decide) ?_
    refine lv_isub hx hb dX3_dropLast_17 ?_
    obtain ⟨h4, hf⟩ := ck_some hf
    refine g_iast (w' := (cW a cI cJ cZ vl hs (upd isz x1.toNatClampNeg ((isz x1.toNatClampNeg) - (1 : Int32))) igd iup idn osz ogd oup odn dep rsz lgd llf ldb ldy lsz lti pgd plf pun psz bgd bam bwt bsh brm bsz cab cbl tod imp dis owe itr)) C E 5 rfl h4 dX3_dropLast_18 rfl (fun H locs E => ?_)
    obtain rfl := Option.some.inj hf
    exact g_vret C E dX3_dropLast_19
abbrev rm_X3_roundedUp_i : Room := { frames := 2, cells := 0, slots := 0, locals := 46 }
theorem hd_X3_roundedUp_i : yX3_roundedUp.cls ≠ "java/lang/invoke/MethodHandle" ∧ yX3_roundedUp.cls ≠ "java/lang/invoke/VarHandle" ∧ (parseMethodDescriptor yX3_roundedUp.desc).map (fun d => d.parameters.length) = some 3 := by decide +kernel
def f_X3_roundedUp_i (iup : Nat → Int32) (idn : Nat → Int32) (x1 : Int32) (x2 : Int32) (x3 : Int32) : Option (Int64) :=
  (f_X3_place x1 x2).bind fun o1 =>
  ck o1 48 <|
  ck o1 48 <|
  (f_X6_ceilOf (x3.toInt64 * (iup o1.toNatClampNeg).toInt64) ((idn o1.toNatClampNeg).toInt64)).bind fun o5 =>
  some (o5)
set_option maxHeartbeats 4000000 in
set_option maxRecDepth 100000 in
theorem c_X3_roundedUp_i {l : Launch} {D : va_G} {cI cJ cZ : ClassId} {a : Nat → Nat} {sz : Nat} {vl : Nat → Int32} {hs : Nat → Int32} {isz : Nat → Int32} {igd : Nat → Int32} {iup : Nat → Int32} {idn : Nat → Int32} {osz : Nat → Int32} {ogd : Nat → Int32} {oup : Nat → Int32} {odn : Nat → Int32} {dep : Nat → Int32} {rsz : Int32} {lgd : Nat → Int32} {llf : Nat → Int64} {ldb : Nat → Int64} {ldy : Nat → Int32} {lsz : Int32} {lti : Int64} {pgd : Nat → Int32} {plf : Nat → Int64} {pun : Nat → Int32} {psz : Int32} {bgd : Nat → Int32} {bam : Nat → Int64} {bwt : Nat → Int64} {bsh : Nat → Int64} {brm : Nat → Int64} {bsz : Int32} {cab : Nat → Int64} {cbl : Nat → Int64} {tod : Int32} {imp : Int64} {dis : Int64} {owe : Int64} {itr : Int64} {x1 : Int32} {x2 : Int32} {x3 : Int32} {o : Int64} (hf : f_X3_roundedUp_i iup idn x1 x2 x3 = some o) : gMl l yX3_roundedUp wsX3_roundedUp rm_X3_roundedUp_i D (gT cI cJ cZ) (cW a cI cJ cZ vl hs isz igd iup idn osz ogd oup odn dep rsz lgd llf ldb ldy lsz lti pgd plf pun psz bgd bam bwt bsh brm bsz cab cbl tod imp dis owe itr) (cW a cI cJ cZ vl hs isz igd iup idn osz ogd oup odn dep rsz lgd llf ldb ldy lsz lti pgd plf pun psz bgd bam bwt bsh brm bsz cab cbl tod imp dis owe itr) sz [.ref (a 4), .int x1, .int x2, .int x3] o := by
  refine g_of (cc := cX3_roundedUp) (maxL := 5) (ret := (some .long)) (by decide) rfl (Nat.le_of_ble_eq_true rfl) ?_
  intro p e s m below meth c A ls hAe C hl E
  rw [← hAe]
  obtain ⟨hx, hb, hr, hml, hown, hts, hlocks, hN, hA⟩ := id C
  have hl : lv_has ls 5 [(0, .ref (a 4)), (1, .int x1), (2, .int x2), (3, .int x3)] := hl
  have E : vE s A D (gT cI cJ cZ) (cW a cI cJ cZ vl hs isz igd iup idn osz ogd oup odn dep rsz lgd llf ldb ldy lsz lti pgd plf pun psz bgd bam bwt bsh brm bsz cab cbl tod imp dis owe itr) s.heap [] := E
  rw [f_X3_roundedUp_i] at hf
  refine lv_iload_n hx hb dX3_roundedUp_0 rfl (lv_at hl 1 rfl) ?_
  refine lv_iload_n hx hb dX3_roundedUp_1 rfl (lv_at hl 2 rfl) ?_
  obtain ⟨o1, e2, hf⟩ := bd_some hf
  refine g_calli (w' := (cW a cI cJ cZ vl hs isz igd iup idn osz ogd oup odn dep rsz lgd llf ldb ldy lsz lti pgd plf pun psz bgd bam bwt bsh brm bsz cab cbl tod imp dis owe itr)) C E (g_runS (As := [.int x1, .int x2]) (rest := []) C E (c_X3_place e2) (va_cwS 2 hts gX3_roundedUp_X3_place rfl rfl rfl hd_X3_place ⟨Nat.le_of_ble_eq_true rfl, Nat.le_of_ble_eq_true rfl⟩) rfl hl.1 rfl (Nat.le_of_ble_eq_true rfl) dX3_roundedUp_2 ⟨Nat.le_of_ble_eq_true rfl, Nat.le_of_ble_eq_true rfl⟩) (fun H locs E => ?_)
  refine lv_istore (lv' := [(4, .int o1), (0, .ref (a 4)), (1, .int x1), (2, .int x2), (3, .int x3)]) hx hb dX3_roundedUp_5 hl (by decide) rfl (fun ls hl => ?_)
  refine lv_iload_n hx hb dX3_roundedUp_7 rfl (lv_at hl 4 rfl) ?_
  refine lv_i2l hx hb dX3_roundedUp_8 rfl ?_
  refine lv_aload_n hx hb dX3_roundedUp_9 rfl (lv_at hl 1 rfl) ?_
  refine g_get C E 4 3 (fun _ h => List.mem_cons_of_mem _ (List.mem_append_right _ h)) rfl rfl (by decide) (List.mem_of_getElem? (i := 1) rfl) rfl rfl dX3_roundedUp_10 ?_
  refine lv_iload hx hb dX3_roundedUp_13 (lv_at hl 0 rfl) ?_
  obtain ⟨h3, hf⟩ := ck_some hf
  refine g_iald C E 7 rfl h3 dX3_roundedUp_15 ?_
  refine lv_i2l hx hb dX3_roundedUp_16 rfl ?_
  refine lv_lmul hx hb dX3_roundedUp_17 ?_
  refine lv_aload_n hx hb dX3_roundedUp_18 rfl (lv_at hl 1 rfl) ?_
  refine g_get C E 4 4 (fun _ h => List.mem_cons_of_mem _ (List.mem_append_right _ h)) rfl rfl (by decide) (List.mem_of_getElem? (i := 2) rfl) rfl rfl dX3_roundedUp_19 ?_
  refine lv_iload hx hb dX3_roundedUp_22 (lv_at hl 0 rfl) ?_
  obtain ⟨h4, hf⟩ := ck_some hf
  refine g_iald C E 8 rfl h4 dX3_roundedUp_24 ?_
  refine lv_i2l hx hb dX3_roundedUp_25 rfl ?_
  obtain ⟨o5, e6, hf⟩ := bd_some hf
  refine g_calll (w' := (cW a cI cJ cZ vl hs isz igd iup idn osz ogd oup odn dep rsz lgd llf ldb ldy lsz lti pgd plf pun psz bgd bam bwt bsh brm bsz cab cbl tod imp dis owe itr)) C E (g_runSN (As := [.long (x3.toInt64 * (iup o1.toNatClampNeg).toInt64), .long ((idn o1.toNatClampNeg).toInt64)]) (rest := []) C E (c_X6_ceilOf e6) ⟨va_cnB 2 hts gX3_roundedUp_X6_ceilOf_n44 rfl rfl rfl (hN.1 _ (List.mem_of_getElem? (i := 10) rfl)) (hts (.initialized RX6) (List.mem_of_getElem? (i := 8) rfl)) hd_X6_ceilOf ⟨Nat.le_of_ble_eq_true rfl, Nat.le_of_ble_eq_true rfl⟩, hts (.static yX6_ceilOf) (List.mem_of_getElem? (i := 7) rfl), trivial⟩ rfl hl.1 rfl (Nat.le_of_ble_eq_true rfl) dX3_roundedUp_26 ⟨Nat.le_of_ble_eq_true rfl, Nat.le_of_ble_eq_true rfl⟩) (fun H locs E => ?_)
  obtain rfl := Option.some.inj hf
  exact g_lret C E dX3_roundedUp_29
abbrev rm_X3_goodAt_o : Room := { frames := 1, cells := 0, slots := 0, locals := 21 }
theorem hd_X3_goodAt_o : yX3_goodAt.cls ≠ "java/lang/invoke/MethodHandle" ∧ yX3_goodAt.cls ≠ "java/lang/invoke/VarHandle" ∧ (parseMethodDescriptor yX3_goodAt.desc).map (fun d => d.parameters.length) = some 2 := by decide +kernel
def f_X3_goodAt_o (ogd : Nat → Int32) (x1 : Int32) (x2 : Int32) : Option (Int32) :=
  (f_X3_place x1 x2).bind fun o1 =>
  ck o1 48 <|
  some ((ogd o1.toNatClampNeg))
set_option maxHeartbeats 4000000 in
set_option maxRecDepth 100000 in
theorem c_X3_goodAt_o {l : Launch} {D : va_G} {cI cJ cZ : ClassId} {a : Nat → Nat} {sz : Nat} {vl : Nat → Int32} {hs : Nat → Int32} {isz : Nat → Int32} {igd : Nat → Int32} {iup : Nat → Int32} {idn : Nat → Int32} {osz : Nat → Int32} {ogd : Nat → Int32} {oup : Nat → Int32} {odn : Nat → Int32} {dep : Nat → Int32} {rsz : Int32} {lgd : Nat → Int32} {llf : Nat → Int64} {ldb : Nat → Int64} {ldy : Nat → Int32} {lsz : Int32} {lti : Int64} {pgd : Nat → Int32} {plf : Nat → Int64} {pun : Nat → Int32} {psz : Int32} {bgd : Nat → Int32} {bam : Nat → Int64} {bwt : Nat → Int64} {bsh : Nat → Int64} {brm : Nat → Int64} {bsz : Int32} {cab : Nat → Int64} {cbl : Nat → Int64} {tod : Int32} {imp : Int64} {dis : Int64} {owe : Int64} {itr : Int64} {x1 : Int32} {x2 : Int32} {o : Int32} (hf : f_X3_goodAt_o ogd x1 x2 = some o) : gMi l yX3_goodAt wsX3_goodAt rm_X3_goodAt_o D (gT cI cJ cZ) (cW a cI cJ cZ vl hs isz igd iup idn osz ogd oup odn dep rsz lgd llf ldb ldy lsz lti pgd plf pun psz bgd bam bwt bsh brm bsz cab cbl tod imp dis owe itr) (cW a cI cJ cZ vl hs isz igd iup idn osz ogd oup odn dep rsz lgd llf ldb ldy lsz lti pgd plf pun psz bgd bam bwt bsh brm bsz cab cbl tod imp dis owe itr) sz [.ref (a 9), .int x1, .int x2] o := by
  refine g_of (cc := cX3_goodAt) (maxL := 3) (ret := (some .int)) (by decide) rfl (Nat.le_of_ble_eq_true rfl) ?_
  intro p e s m below meth c A ls hAe C hl E
  rw [← hAe]
  obtain ⟨hx, hb, hr, hml, hown, hts, hlocks, hN, hA⟩ := id C
  have hl : lv_has ls 3 [(0, .ref (a 9)), (1, .int x1), (2, .int x2)] := hl
  have E : vE s A D (gT cI cJ cZ) (cW a cI cJ cZ vl hs isz igd iup idn osz ogd oup odn dep rsz lgd llf ldb ldy lsz lti pgd plf pun psz bgd bam bwt bsh brm bsz cab cbl tod imp dis owe itr) s.heap [] := E
  rw [f_X3_goodAt_o] at hf
  refine lv_aload_n hx hb dX3_goodAt_0 rfl (lv_at hl 0 rfl) ?_
  refine g_get C E 9 2 (fun _ h => List.mem_cons_of_mem _ (List.mem_append_right _ h)) rfl rfl (by decide) (List.mem_of_getElem? (i := 1) rfl) rfl rfl dX3_goodAt_1 ?_
  refine lv_iload_n hx hb dX3_goodAt_4 rfl (lv_at hl 1 rfl) ?_
  refine lv_iload_n hx hb dX3_goodAt_5 rfl (lv_at hl 2 rfl) ?_
  obtain ⟨o1, e2, hf⟩ := bd_some hf
  refine g_calli (w' := (cW a cI cJ cZ vl hs isz igd iup idn osz ogd oup odn dep rsz lgd llf ldb ldy lsz lti pgd plf pun psz bgd bam bwt bsh brm bsz cab cbl tod imp dis owe itr)) C E (g_runS (As := [.int x1, .int x2]) (rest := [.ref (a 11)]) C E (c_X3_place e2) (va_cwS 2 hts gX3_goodAt_X3_place rfl rfl rfl hd_X3_place ⟨Nat.le_of_ble_eq_true rfl, Nat.le_of_ble_eq_true rfl⟩) rfl hl.1 rfl (Nat.le_of_ble_eq_true rfl) dX3_goodAt_6 ⟨Nat.le_of_ble_eq_true rfl, Nat.le_of_ble_eq_true rfl⟩) (fun H locs E => ?_)
  obtain ⟨h3, hf⟩ := ck_some hf
  refine g_iald C E 11 rfl h3 dX3_goodAt_9 ?_
  obtain rfl := Option.some.inj hf
  exact g_iret C E dX3_goodAt_10
abbrev rm_X3_isTold_o : Room := { frames := 2, cells := 0, slots := 0, locals := 43 }
theorem hd_X3_isTold_o : yX3_isTold.cls ≠ "java/lang/invoke/MethodHandle" ∧ yX3_isTold.cls ≠ "java/lang/invoke/VarHandle" ∧ (parseMethodDescriptor yX3_isTold.desc).map (fun d => d.parameters.length) = some 2 := by decide +kernel
def f_X3_isTold_o_L2 (osz : Nat → Int32) (ogd : Nat → Int32) (x1 : Int32) (x2 : Int32) : Nat → Int32 → Option (Int32)
  | 0, _ => none
  | n + 1, x3 =>
  ck x1 12 <|
  if (osz x1.toNatClampNeg) ≤ x3 then
    some ((0 : Int32))
  else
    (f_X3_goodAt_o ogd x1 x3).bind fun o3 =>
    if o3 = x2 then
      some ((1 : Int32))
    else
      f_X3_isTold_o_L2 osz ogd x1 x2 n (x3 + 1)
set_option maxHeartbeats 4000000 in
set_option maxRecDepth 100000 in
theorem w_X3_isTold_o_L2 {p : Program} {l : Launch} {e : Env} {s : State} {m : MethodId} {args : Array Value} {below : List Frame} {meth : Method} {c : Code} {A : Nat → Prop} {D : va_G} {cI cJ cZ : ClassId} {a : Nat → Nat} {vl : Nat → Int32} {hs : Nat → Int32} {isz : Nat → Int32} {igd : Nat → Int32} {iup : Nat → Int32} {idn : Nat → Int32} {osz : Nat → Int32} {ogd : Nat → Int32} {oup : Nat → Int32} {odn : Nat → Int32} {dep : Nat → Int32} {rsz : Int32} {lgd : Nat → Int32} {llf : Nat → Int64} {ldb : Nat → Int64} {ldy : Nat → Int32} {lsz : Int32} {lti : Int64} {pgd : Nat → Int32} {plf : Nat → Int64} {pun : Nat → Int32} {psz : Int32} {bgd : Nat → Int32} {bam : Nat → Int64} {bwt : Nat → Int64} {bsh : Nat → Int64} {brm : Nat → Int64} {bsz : Int32} {cab : Nat → Int64} {cbl : Nat → Int64} {tod : Int32} {imp : Int64} {dis : Int64} {owe : Int64} {itr : Int64} (C : gC p s m args meth c cX3_isTold 4 (some .boolean) wsX3_isTold RX3 A) {x1 : Int32} {x2 : Int32} {o : Int32} :
    ∀ (n : Nat) (x3 : Int32) (H : Heap) (locs : List Loc) (ls : Array Slot), vE s A D (gT cI cJ cZ) (cW a cI cJ cZ vl hs isz igd iup idn osz ogd oup odn dep rsz lgd llf ldb ldy lsz lti pgd plf pun psz bgd bam bwt bsh brm bsz cab cbl tod imp dis owe itr) H locs → lv_has ls 4 [(0, .ref (a 9)), (1, .int x1), (2, .int x2), (3, .int x3)] → f_X3_isTold_o_L2 osz ogd x1 x2 n x3 = some o → W p l e rm_X3_isTold_o s m args below meth c H locs 0 0 (MQ below (gQi D (gT cI cJ cZ) A (cW a cI cJ cZ vl hs isz igd iup idn osz ogd oup odn dep rsz lgd llf ldb ldy lsz lti pgd plf pun psz bgd bam bwt bsh brm bsz cab cbl tod imp dis owe itr) o) args s 0 0 A) (F0 m 2 ls []) := by
  obtain ⟨hx, hb, hr, hml, hown, hts, hlocks, hN, hA⟩ := id C
  intro n
  induction n with
  | zero =>
    intro x3 H locs ls E hl hf
    rw [f_X3_isTold_o_L2] at hf
    cases hf
  | succ n ih =>
    intro x3 H locs ls E hl hf
    rw [f_X3_isTold_o_L2] at hf
    refine lv_iload_n hx hb dX3_isTold_2 rfl (lv_at hl 3 rfl) ?_
    refine lv_aload_n hx hb dX3_isTold_3 rfl (lv_at hl 0 rfl) ?_
    refine g_get C E 9 1 (fun _ h => List.mem_cons_of_mem _ (List.mem_append_right _ h)) rfl rfl (by decide) (List.mem_of_getElem? (i := 1) rfl) rfl rfl dX3_isTold_4 ?_
    refine lv_iload_n hx hb dX3_isTold_7 rfl (lv_at hl 1 rfl) ?_
    obtain ⟨h1, hf⟩ := ck_some hf
    refine g_iald C E 10 rfl h1 dX3_isTold_8 ?_
    refine lv_icmp_ge (tgt := 30) hx hb dX3_isTold_9 (by decide) (fun c2 => ?_) (fun c2 => ?_)
    · rw [if_pos c2] at hf
      refine lv_iconst (v := 0) hx hb dX3_isTold_30 (by decide) ?_
      obtain rfl := Option.some.inj hf
      exact g_zret (r := 0) C E rfl dX3_isTold_31
    · rw [if_neg c2] at hf
      refine lv_aload_n hx hb dX3_isTold_12 rfl (lv_at hl 0 rfl) ?_
      refine lv_iload_n hx hb dX3_isTold_13 rfl (lv_at hl 1 rfl) ?_
      refine lv_iload_n hx hb dX3_isTold_14 rfl (lv_at hl 3 rfl) ?_
      obtain ⟨o3, e4, hf⟩ := bd_some hf
      refine g_calli (w' := (cW a cI cJ cZ vl hs isz igd iup idn osz ogd oup odn dep rsz lgd llf ldb ldy lsz lti pgd plf pun psz bgd bam bwt bsh brm bsz cab cbl tod imp dis owe itr)) C E (g_runV (As := [.int x1, .int x3]) (rest := []) C E (c_X3_goodAt_o e4) (cwV 2 hts gX3_isTold_X3_goodAt rfl rfl rfl ⟨rfl, hd_X3_goodAt_o⟩ ⟨Nat.le_of_ble_eq_true rfl, Nat.le_of_ble_eq_true rfl⟩) (q0 := 9) (ci := 3) rfl rfl rfl rfl hl.1 rfl (Nat.le_of_ble_eq_true rfl) dX3_isTold_15 ⟨Nat.le_of_ble_eq_true rfl, Nat.le_of_ble_eq_true rfl⟩) (fun H locs E => ?_)
      refine lv_iload_n hx hb dX3_isTold_18 rfl (lv_at hl 2 rfl) ?_
      refine lv_icmp_ne (tgt := 24) hx hb dX3_isTold_19 (by decide) (fun c5 => ?_) (fun c5 => ?_)
      · rw [if_neg c5] at hf
        refine lv_iinc (v := (x3 + 1)) (lv' := [(3, .int (x3 + 1)), (0, .ref (a 9)), (1, .int x1), (2, .int x2)]) hx hb dX3_isTold_24 hl (k := 3) rfl rfl (by decide) rfl (fun ls hl => ?_)
        refine lv_goto (tgt := 2) hx hb dX3_isTold_27 (by decide) ?_
        exact ih (x3 + 1) _ _ _ E (lv_sub hl [1, 2, 3, 0] rfl) hf
      · rw [if_pos c5] at hf
        refine lv_iconst (v := 1) hx hb dX3_isTold_22 (by decide) ?_
        obtain rfl := Option.some.inj hf
        exact g_zret (r := 1) C E rfl dX3_isTold_23
def f_X3_isTold_o (osz : Nat → Int32) (ogd : Nat → Int32) (x1 : Int32) (x2 : Int32) : Option (Int32) :=
  f_X3_isTold_o_L2 osz ogd x1 x2 FU (0 : Int32)
set_option maxHeartbeats 4000000 in
set_option maxRecDepth 100000 in
theorem c_X3_isTold_o {l : Launch} {D : va_G} {cI cJ cZ : ClassId} {a : Nat → Nat} {sz : Nat} {vl : Nat → Int32} {hs : Nat → Int32} {isz : Nat → Int32} {igd : Nat → Int32} {iup : Nat → Int32} {idn : Nat → Int32} {osz : Nat → Int32} {ogd : Nat → Int32} {oup : Nat → Int32} {odn : Nat → Int32} {dep : Nat → Int32} {rsz : Int32} {lgd : Nat → Int32} {llf : Nat → Int64} {ldb : Nat → Int64} {ldy : Nat → Int32} {lsz : Int32} {lti : Int64} {pgd : Nat → Int32} {plf : Nat → Int64} {pun : Nat → Int32} {psz : Int32} {bgd : Nat → Int32} {bam : Nat → Int64} {bwt : Nat → Int64} {bsh : Nat → Int64} {brm : Nat → Int64} {bsz : Int32} {cab : Nat → Int64} {cbl : Nat → Int64} {tod : Int32} {imp : Int64} {dis : Int64} {owe : Int64} {itr : Int64} {x1 : Int32} {x2 : Int32} {o : Int32} (hf : f_X3_isTold_o osz ogd x1 x2 = some o) : gMi l yX3_isTold wsX3_isTold rm_X3_isTold_o D (gT cI cJ cZ) (cW a cI cJ cZ vl hs isz igd iup idn osz ogd oup odn dep rsz lgd llf ldb ldy lsz lti pgd plf pun psz bgd bam bwt bsh brm bsz cab cbl tod imp dis owe itr) (cW a cI cJ cZ vl hs isz igd iup idn osz ogd oup odn dep rsz lgd llf ldb ldy lsz lti pgd plf pun psz bgd bam bwt bsh brm bsz cab cbl tod imp dis owe itr) sz [.ref (a 9), .int x1, .int x2] o := by
  refine g_of (cc := cX3_isTold) (maxL := 4) (ret := (some .boolean)) (by decide) rfl (Nat.le_of_ble_eq_true rfl) ?_
  intro p e s m below meth c A ls hAe C hl E
  rw [← hAe]
  obtain ⟨hx, hb, hr, hml, hown, hts, hlocks, hN, hA⟩ := id C
  have hl : lv_has ls 4 [(0, .ref (a 9)), (1, .int x1), (2, .int x2)] := hl
  have E : vE s A D (gT cI cJ cZ) (cW a cI cJ cZ vl hs isz igd iup idn osz ogd oup odn dep rsz lgd llf ldb ldy lsz lti pgd plf pun psz bgd bam bwt bsh brm bsz cab cbl tod imp dis owe itr) s.heap [] := E
  rw [f_X3_isTold_o] at hf
  refine lv_iconst (v := 0) hx hb dX3_isTold_0 (by decide) ?_
  refine lv_istore_n (lv' := [(3, .int (0 : Int32)), (0, .ref (a 9)), (1, .int x1), (2, .int x2)]) hx hb dX3_isTold_1 rfl hl (by decide) rfl (fun ls hl => ?_)
  exact w_X3_isTold_o_L2 C  FU (0 : Int32) _ _ _ E (lv_sub hl [1, 2, 3, 0] rfl) hf
abbrev rm_X3_add_o : Room := { frames := 3, cells := 0, slots := 0, locals := 66 }
theorem hd_X3_add_o : yX3_add.cls ≠ "java/lang/invoke/MethodHandle" ∧ yX3_add.cls ≠ "java/lang/invoke/VarHandle" ∧ (parseMethodDescriptor yX3_add.desc).map (fun d => d.parameters.length) = some 4 := by decide +kernel
def f_X3_add_o (osz : Nat → Int32) (ogd : Nat → Int32) (oup : Nat → Int32) (odn : Nat → Int32) (x1 : Int32) (x2 : Int32) (x3 : Int32) (x4 : Int32) : Option (Int32 × (Nat → Int32) × (Nat → Int32) × (Nat → Int32) × (Nat → Int32)) :=
  if x1 = x2 then
    some ((0 : Int32), osz, ogd, oup, odn)
  else
    ck x1 12 <|
    if (2 : Int32) ≤ (osz x1.toNatClampNeg) then
      some ((0 : Int32), osz, ogd, oup, odn)
    else
      (f_X3_isTold_o osz ogd x1 x2).bind fun o4 =>
      if o4 = 0 then
        ck x1 12 <|
        (f_X3_place x1 (osz x1.toNatClampNeg)).bind fun o8 =>
        ck o8 48 <|
        ck o8 48 <|
        ck o8 48 <|
        ck x1 12 <|
        ck x1 12 <|
        some ((1 : Int32), (upd osz x1.toNatClampNeg ((osz x1.toNatClampNeg) + (1 : Int32))), (upd ogd o8.toNatClampNeg x2), (upd oup o8.toNatClampNeg x3), (upd odn o8.toNatClampNeg x4))
      else
        some ((0 : Int32), osz, ogd, oup, odn)
set_option maxHeartbeats 4000000 in
set_option maxRecDepth 100000 in
theorem c_X3_add_o {l : Launch} {D : va_G} {cI cJ cZ : ClassId} {a : Nat → Nat} {sz : Nat} {vl : Nat → Int32} {hs : Nat → Int32} {isz : Nat → Int32} {igd : Nat → Int32} {iup : Nat → Int32} {idn : Nat → Int32} {osz : Nat → Int32} {ogd : Nat → Int32} {oup : Nat → Int32} {odn : Nat → Int32} {dep : Nat → Int32} {rsz : Int32} {lgd : Nat → Int32} {llf : Nat → Int64} {ldb : Nat → Int64} {ldy : Nat → Int32} {lsz : Int32} {lti : Int64} {pgd : Nat → Int32} {plf : Nat → Int64} {pun : Nat → Int32} {psz : Int32} {bgd : Nat → Int32} {bam : Nat → Int64} {bwt : Nat → Int64} {bsh : Nat → Int64} {brm : Nat → Int64} {bsz : Int32} {cab : Nat → Int64} {cbl : Nat → Int64} {tod : Int32} {imp : Int64} {dis : Int64} {owe : Int64} {itr : Int64} {x1 : Int32} {x2 : Int32} {x3 : Int32} {x4 : Int32} {o : Int32 × (Nat → Int32) × (Nat → Int32) × (Nat → Int32) × (Nat → Int32)} (hf : f_X3_add_o osz ogd oup odn x1 x2 x3 x4 = some o) : gMi l yX3_add wsX3_add rm_X3_add_o D (gT cI cJ cZ) (cW a cI cJ cZ vl hs isz igd iup idn osz ogd oup odn dep rsz lgd llf ldb ldy lsz lti pgd plf pun psz bgd bam bwt bsh brm bsz cab cbl tod imp dis owe itr) (cW a cI cJ cZ vl hs isz igd iup idn o.2.1 o.2.2.1 o.2.2.2.1 o.2.2.2.2 dep rsz lgd llf ldb ldy lsz lti pgd plf pun psz bgd bam bwt bsh brm bsz cab cbl tod imp dis owe itr) sz [.ref (a 9), .int x1, .int x2, .int x3, .int x4] o.1 := by
  refine g_of (cc := cX3_add) (maxL := 6) (ret := (some .boolean)) (by decide) rfl (Nat.le_of_ble_eq_true rfl) ?_
  intro p e s m below meth c A ls hAe C hl E
  rw [← hAe]
  obtain ⟨hx, hb, hr, hml, hown, hts, hlocks, hN, hA⟩ := id C
  have hl : lv_has ls 6 [(0, .ref (a 9)), (1, .int x1), (2, .int x2), (3, .int x3), (4, .int x4)] := hl
  have E : vE s A D (gT cI cJ cZ) (cW a cI cJ cZ vl hs isz igd iup idn osz ogd oup odn dep rsz lgd llf ldb ldy lsz lti pgd plf pun psz bgd bam bwt bsh brm bsz cab cbl tod imp dis owe itr) s.heap [] := E
  rw [f_X3_add_o] at hf
  refine lv_iload_n hx hb dX3_add_0 rfl (lv_at hl 1 rfl) ?_
  refine lv_iload_n hx hb dX3_add_1 rfl (lv_at hl 2 rfl) ?_
  refine lv_icmp_eq (tgt := 27) hx hb dX3_add_2 (by decide) (fun c1 => ?_) (fun c1 => ?_)
  · rw [if_pos c1] at hf
    refine lv_iconst (v := 0) hx hb dX3_add_27 (by decide) ?_
    obtain rfl := Option.some.inj hf
    exact g_zret (r := 0) C E rfl dX3_add_28
  · rw [if_neg c1] at hf
    refine lv_aload_n hx hb dX3_add_5 rfl (lv_at hl 0 rfl) ?_
    refine g_get C E 9 1 (fun _ h => List.mem_cons_of_mem _ (List.mem_append_right _ h)) rfl rfl (by decide) (List.mem_of_getElem? (i := 1) rfl) rfl rfl dX3_add_6 ?_
    refine lv_iload_n hx hb dX3_add_9 rfl (lv_at hl 1 rfl) ?_
    obtain ⟨h2, hf⟩ := ck_some hf
    refine g_iald C E 10 rfl h2 dX3_add_10 ?_
    refine lv_aload_n hx hb dX3_add_11 rfl (lv_at hl 0 rfl) ?_
    refine g_get C E 9 0 (fun _ h => List.mem_cons_of_mem _ (List.mem_append_right _ h)) rfl rfl (by decide) (List.mem_of_getElem? (i := 2) rfl) rfl rfl dX3_add_12 ?_
    refine lv_icmp_ge (tgt := 27) hx hb dX3_add_15 (by decide) (fun c3 => ?_) (fun c3 => ?_)
    · rw [if_pos c3] at hf
      refine lv_iconst (v := 0) hx hb dX3_add_27 (by decide) ?_
      obtain rfl := Option.some.inj hf
      exact g_zret (r := 0) C E rfl dX3_add_28
    · rw [if_neg c3] at hf
      refine lv_aload_n hx hb dX3_add_18 rfl (lv_at hl 0 rfl) ?_
      refine lv_iload_n hx hb dX3_add_19 rfl (lv_at hl 1 rfl) ?_
      refine lv_iload_n hx hb dX3_add_20 rfl (lv_at hl 2 rfl) ?_
      obtain ⟨o4, e5, hf⟩ := bd_some hf
      refine g_calli (w' := (cW a cI cJ cZ vl hs isz igd iup idn osz ogd oup odn dep rsz lgd llf ldb ldy lsz lti pgd plf pun psz bgd bam bwt bsh brm bsz cab cbl tod imp dis owe itr)) C E (g_runV (As := [.int x1, .int x2]) (rest := []) C E (c_X3_isTold_o e5) (cwV 2 hts gX3_add_X3_isTold rfl rfl rfl ⟨rfl, hd_X3_isTold_o⟩ ⟨Nat.le_of_ble_eq_true rfl, Nat.le_of_ble_eq_true rfl⟩) (q0 := 9) (ci := 3) rfl rfl rfl rfl hl.1 rfl (Nat.le_of_ble_eq_true rfl) dX3_add_21 ⟨Nat.le_of_ble_eq_true rfl, Nat.le_of_ble_eq_true rfl⟩) (fun H locs E => ?_)
      refine lv_if_eq (tgt := 29) hx hb dX3_add_24 (by decide) (fun c6 => ?_) (fun c6 => ?_)
      · rw [if_pos c6] at hf
        refine lv_iload_n hx hb dX3_add_29 rfl (lv_at hl 1 rfl) ?_
        refine lv_aload_n hx hb dX3_add_30 rfl (lv_at hl 0 rfl) ?_
        refine g_get C E 9 1 (fun _ h => List.mem_cons_of_mem _ (List.mem_append_right _ h)) rfl rfl (by decide) (List.mem_of_getElem? (i := 1) rfl) rfl rfl dX3_add_31 ?_
        refine lv_iload_n hx hb dX3_add_34 rfl (lv_at hl 1 rfl) ?_
        obtain ⟨h7, hf⟩ := ck_some hf
        refine g_iald C E 10 rfl h7 dX3_add_35 ?_
        obtain ⟨o8, e9, hf⟩ := bd_some hf
        refine g_calli (w' := (cW a cI cJ cZ vl hs isz igd iup idn osz ogd oup odn dep rsz lgd llf ldb ldy lsz lti pgd plf pun psz bgd bam bwt bsh brm bsz cab cbl tod imp dis owe itr)) C E (g_runS (As := [.int x1, .int (osz x1.toNatClampNeg)]) (rest := []) C E (c_X3_place e9) (va_cwS 2 hts gX3_add_X3_place rfl rfl rfl hd_X3_place ⟨Nat.le_of_ble_eq_true rfl, Nat.le_of_ble_eq_true rfl⟩) rfl hl.1 rfl (Nat.le_of_ble_eq_true rfl) dX3_add_36 ⟨Nat.le_of_ble_eq_true rfl, Nat.le_of_ble_eq_true rfl⟩) (fun H locs E => ?_)
        refine lv_istore (lv' := [(5, .int o8), (0, .ref (a 9)), (1, .int x1), (2, .int x2), (3, .int x3), (4, .int x4)]) hx hb dX3_add_39 hl (by decide) rfl (fun ls hl => ?_)
        refine lv_aload_n hx hb dX3_add_41 rfl (lv_at hl 1 rfl) ?_
        refine g_get C E 9 2 (fun _ h => List.mem_cons_of_mem _ (List.mem_append_right _ h)) rfl rfl (by decide) (List.mem_of_getElem? (i := 3) rfl) rfl rfl dX3_add_42 ?_
        refine lv_iload hx hb dX3_add_45 (lv_at hl 0 rfl) ?_
        refine lv_iload_n hx hb dX3_add_47 rfl (lv_at hl 3 rfl) ?_
        obtain ⟨h10, hf⟩ := ck_some hf
        refine g_iast (w' := (cW a cI cJ cZ vl hs isz igd iup idn osz (upd ogd o8.toNatClampNeg x2) oup odn dep rsz lgd llf ldb ldy lsz lti pgd plf pun psz bgd bam bwt bsh brm bsz cab cbl tod imp dis owe itr)) C E 11 rfl h10 dX3_add_48 rfl (fun H locs E => ?_)
        refine lv_aload_n hx hb dX3_add_49 rfl (lv_at hl 1 rfl) ?_
        refine g_get C E 9 3 (fun _ h => List.mem_cons_of_mem _ (List.mem_append_right _ h)) rfl rfl (by decide) (List.mem_of_getElem? (i := 4) rfl) rfl rfl dX3_add_50 ?_
        refine lv_iload hx hb dX3_add_53 (lv_at hl 0 rfl) ?_
        refine lv_iload_n hx hb dX3_add_55 rfl (lv_at hl 4 rfl) ?_
        obtain ⟨h11, hf⟩ := ck_some hf
        refine g_iast (w' := (cW a cI cJ cZ vl hs isz igd iup idn osz (upd ogd o8.toNatClampNeg x2) (upd oup o8.toNatClampNeg x3) odn dep rsz lgd llf ldb ldy lsz lti pgd plf pun psz bgd bam bwt bsh brm bsz cab cbl tod imp dis owe itr)) C E 12 rfl h11 dX3_add_56 rfl (fun H locs E => ?_)
        refine lv_aload_n hx hb dX3_add_57 rfl (lv_at hl 1 rfl) ?_
        refine g_get C E 9 4 (fun _ h => List.mem_cons_of_mem _ (List.mem_append_right _ h)) rfl rfl (by decide) (List.mem_of_getElem? (i := 5) rfl) rfl rfl dX3_add_58 ?_
        refine lv_iload hx hb dX3_add_61 (lv_at hl 0 rfl) ?_
        refine lv_iload hx hb dX3_add_63 (lv_at hl 5 rfl) ?_
        obtain ⟨h12, hf⟩ := ck_some hf
        refine g_iast (w' := (cW a cI cJ cZ vl hs isz igd iup idn osz (upd ogd o8.toNatClampNeg x2) (upd oup o8.toNatClampNeg x3) (upd odn o8.toNatClampNeg x4) dep rsz lgd llf ldb ldy lsz lti pgd plf pun psz bgd bam bwt bsh brm bsz cab cbl tod imp dis owe itr)) C E 13 rfl h12 dX3_add_65 rfl (fun H locs E => ?_)
        refine lv_aload_n hx hb dX3_add_66 rfl (lv_at hl 1 rfl) ?_
        refine g_get C E 9 1 (fun _ h => List.mem_cons_of_mem _ (List.mem_append_right _ h)) rfl rfl (by decide) (List.mem_of_getElem? (i := 1) rfl) rfl rfl dX3_add_67 ?_
        refine lv_iload_n hx hb dX3_add_70 rfl (lv_at hl 2 rfl) ?_
        refine lv_dup2_11 hx hb dX3_add_71 rfl rfl ?_
        obtain ⟨h13, hf⟩ := ck_some hf
        refine g_iald C E 10 rfl h13 dX3_add_72 ?_
        refine lv_iconst (v := 1) hx hb dX3_add_73 (by decide) ?_
        refine lv_iadd hx hb dX3_add_74 ?_
        obtain ⟨h14, hf⟩ := ck_some hf
        refine g_iast (w' := (cW a cI cJ cZ vl hs isz igd iup idn (upd osz x1.toNatClampNeg ((osz x1.toNatClampNeg) + (1 : Int32))) (upd ogd o8.toNatClampNeg x2) (upd oup o8.toNatClampNeg x3) (upd odn o8.toNatClampNeg x4) dep rsz lgd llf ldb ldy lsz lti pgd plf pun psz bgd bam bwt bsh brm bsz cab cbl tod imp dis owe itr)) C E 10 rfl h14 dX3_add_75 rfl (fun H locs E => ?_)
        refine lv_iconst (v := 1) hx hb dX3_add_76 (by decide) ?_
        obtain rfl := Option.some.inj hf
        exact g_zret (r := 1) C E rfl dX3_add_77
      · rw [if_neg c6] at hf
        refine lv_iconst (v := 0) hx hb dX3_add_27 (by decide) ?_
        obtain rfl := Option.some.inj hf
        exact g_zret (r := 0) C E rfl dX3_add_28
abbrev rm_X3_roundedDown_o : Room := { frames := 1, cells := 0, slots := 0, locals := 23 }
theorem hd_X3_roundedDown_o : yX3_roundedDown.cls ≠ "java/lang/invoke/MethodHandle" ∧ yX3_roundedDown.cls ≠ "java/lang/invoke/VarHandle" ∧ (parseMethodDescriptor yX3_roundedDown.desc).map (fun d => d.parameters.length) = some 3 := by decide +kernel
def f_X3_roundedDown_o (oup : Nat → Int32) (odn : Nat → Int32) (x1 : Int32) (x2 : Int32) (x3 : Int32) : Option (Int64) :=
  (f_X3_place x1 x2).bind fun o1 =>
  ck o1 48 <|
  ck o1 48 <|
  (f_X6_floorOf (x3.toInt64 * (oup o1.toNatClampNeg).toInt64) ((odn o1.toNatClampNeg).toInt64)).bind fun o5 =>
  some (o5)
set_option maxHeartbeats 4000000 in
set_option maxRecDepth 100000 in
theorem c_X3_roundedDown_o {l : Launch} {D : va_G} {cI cJ cZ : ClassId} {a : Nat → Nat} {sz : Nat} {vl : Nat → Int32} {hs : Nat → Int32} {isz : Nat → Int32} {igd : Nat → Int32} {iup : Nat → Int32} {idn : Nat → Int32} {osz : Nat → Int32} {ogd : Nat → Int32} {oup : Nat → Int32} {odn : Nat → Int32} {dep : Nat → Int32} {rsz : Int32} {lgd : Nat → Int32} {llf : Nat → Int64} {ldb : Nat → Int64} {ldy : Nat → Int32} {lsz : Int32} {lti : Int64} {pgd : Nat → Int32} {plf : Nat → Int64} {pun : Nat → Int32} {psz : Int32} {bgd : Nat → Int32} {bam : Nat → Int64} {bwt : Nat → Int64} {bsh : Nat → Int64} {brm : Nat → Int64} {bsz : Int32} {cab : Nat → Int64} {cbl : Nat → Int64} {tod : Int32} {imp : Int64} {dis : Int64} {owe : Int64} {itr : Int64} {x1 : Int32} {x2 : Int32} {x3 : Int32} {o : Int64} (hf : f_X3_roundedDown_o oup odn x1 x2 x3 = some o) : gMl l yX3_roundedDown wsX3_roundedDown rm_X3_roundedDown_o D (gT cI cJ cZ) (cW a cI cJ cZ vl hs isz igd iup idn osz ogd oup odn dep rsz lgd llf ldb ldy lsz lti pgd plf pun psz bgd bam bwt bsh brm bsz cab cbl tod imp dis owe itr) (cW a cI cJ cZ vl hs isz igd iup idn osz ogd oup odn dep rsz lgd llf ldb ldy lsz lti pgd plf pun psz bgd bam bwt bsh brm bsz cab cbl tod imp dis owe itr) sz [.ref (a 9), .int x1, .int x2, .int x3] o := by
  refine g_of (cc := cX3_roundedDown) (maxL := 5) (ret := (some .long)) (by decide) rfl (Nat.le_of_ble_eq_true rfl) ?_
  intro p e s m below meth c A ls hAe C hl E
  rw [← hAe]
  obtain ⟨hx, hb, hr, hml, hown, hts, hlocks, hN, hA⟩ := id C
  have hl : lv_has ls 5 [(0, .ref (a 9)), (1, .int x1), (2, .int x2), (3, .int x3)] := hl
  have E : vE s A D (gT cI cJ cZ) (cW a cI cJ cZ vl hs isz igd iup idn osz ogd oup odn dep rsz lgd llf ldb ldy lsz lti pgd plf pun psz bgd bam bwt bsh brm bsz cab cbl tod imp dis owe itr) s.heap [] := E
  rw [f_X3_roundedDown_o] at hf
  refine lv_iload_n hx hb dX3_roundedDown_0 rfl (lv_at hl 1 rfl) ?_
  refine lv_iload_n hx hb dX3_roundedDown_1 rfl (lv_at hl 2 rfl) ?_
  obtain ⟨o1, e2, hf⟩ := bd_some hf
  refine g_calli (w' := (cW a cI cJ cZ vl hs isz igd iup idn osz ogd oup odn dep rsz lgd llf ldb ldy lsz lti pgd plf pun psz bgd bam bwt bsh brm bsz cab cbl tod imp dis owe itr)) C E (g_runS (As := [.int x1, .int x2]) (rest := []) C E (c_X3_place e2) (va_cwS 2 hts gX3_roundedDown_X3_place rfl rfl rfl hd_X3_place ⟨Nat.le_of_ble_eq_true rfl, Nat.le_of_ble_eq_true rfl⟩) rfl hl.1 rfl (Nat.le_of_ble_eq_true rfl) dX3_roundedDown_2 ⟨Nat.le_of_ble_eq_true rfl, Nat.le_of_ble_eq_true rfl⟩) (fun H locs E => ?_)
  refine lv_istore (lv' := [(4, .int o1), (0, .ref (a 9)), (1, .int x1), (2, .int x2), (3, .int x3)]) hx hb dX3_roundedDown_5 hl (by decide) rfl (fun ls hl => ?_)
  refine lv_iload_n hx hb dX3_roundedDown_7 rfl (lv_at hl 4 rfl) ?_
  refine lv_i2l hx hb dX3_roundedDown_8 rfl ?_
  refine lv_aload_n hx hb dX3_roundedDown_9 rfl (lv_at hl 1 rfl) ?_
  refine g_get C E 9 3 (fun _ h => List.mem_cons_of_mem _ (List.mem_append_right _ h)) rfl rfl (by decide) (List.mem_of_getElem? (i := 1) rfl) rfl rfl dX3_roundedDown_10 ?_
  refine lv_iload hx hb dX3_roundedDown_13 (lv_at hl 0 rfl) ?_
  obtain ⟨h3, hf⟩ := ck_some hf
  refine g_iald C E 12 rfl h3 dX3_roundedDown_15 ?_
  refine lv_i2l hx hb dX3_roundedDown_16 rfl ?_
  refine lv_lmul hx hb dX3_roundedDown_17 ?_
  refine lv_aload_n hx hb dX3_roundedDown_18 rfl (lv_at hl 1 rfl) ?_
  refine g_get C E 9 4 (fun _ h => List.mem_cons_of_mem _ (List.mem_append_right _ h)) rfl rfl (by decide) (List.mem_of_getElem? (i := 2) rfl) rfl rfl dX3_roundedDown_19 ?_
  refine lv_iload hx hb dX3_roundedDown_22 (lv_at hl 0 rfl) ?_
  obtain ⟨h4, hf⟩ := ck_some hf
  refine g_iald C E 13 rfl h4 dX3_roundedDown_24 ?_
  refine lv_i2l hx hb dX3_roundedDown_25 rfl ?_
  obtain ⟨o5, e6, hf⟩ := bd_some hf
  refine g_calll (w' := (cW a cI cJ cZ vl hs isz igd iup idn osz ogd oup odn dep rsz lgd llf ldb ldy lsz lti pgd plf pun psz bgd bam bwt bsh brm bsz cab cbl tod imp dis owe itr)) C E (g_runSN (As := [.long (x3.toInt64 * (oup o1.toNatClampNeg).toInt64), .long ((odn o1.toNatClampNeg).toInt64)]) (rest := []) C E (c_X6_floorOf e6) ⟨va_cnB 2 hts gX3_roundedDown_X6_floorOf_n48 rfl rfl rfl (hN.1 _ (List.mem_of_getElem? (i := 11) rfl)) (hts (.initialized RX6) (List.mem_of_getElem? (i := 8) rfl)) hd_X6_floorOf ⟨Nat.le_of_ble_eq_true rfl, Nat.le_of_ble_eq_true rfl⟩, hts (.static yX6_floorOf) (List.mem_of_getElem? (i := 7) rfl), trivial⟩ rfl hl.1 rfl (Nat.le_of_ble_eq_true rfl) dX3_roundedDown_26 ⟨Nat.le_of_ble_eq_true rfl, Nat.le_of_ble_eq_true rfl⟩) (fun H locs E => ?_)
  obtain rfl := Option.some.inj hf
  exact g_lret C E dX3_roundedDown_29
end
section
abbrev rm_X5_depthByNeeds : Room := { frames := 2, cells := 0, slots := 0, locals := 43 }
theorem hd_X5_depthByNeeds : yX5_depthByNeeds.cls ≠ "java/lang/invoke/MethodHandle" ∧ yX5_depthByNeeds.cls ≠ "java/lang/invoke/VarHandle" ∧ (parseMethodDescriptor yX5_depthByNeeds.desc).map (fun d => d.parameters.length) = some 1 := by decide +kernel
def f_X5_depthByNeeds_L4 (isz : Nat → Int32) (igd : Nat → Int32) (dep : Nat → Int32) (x1 : Int32) : Nat → Int32 → Int32 → Option (Int32)
  | 0, _, _ => none
  | n + 1, x2, x3 =>
  ck x1 12 <|
  if (isz x1.toNatClampNeg) ≤ x3 then
    some (x2)
  else
    (f_X3_goodAt_i igd x1 x3).bind fun o3 =>
    ck o3 12 <|
    f_X5_depthByNeeds_L4 isz igd dep x1 n (if x2 < ((1 : Int32) + (dep o3.toNatClampNeg)) then ((1 : Int32) + (dep o3.toNatClampNeg)) else x2) (x3 + 1)
set_option maxHeartbeats 4000000 in
set_option maxRecDepth 100000 in
theorem w_X5_depthByNeeds_L4 {p : Program} {l : Launch} {e : Env} {s : State} {m : MethodId} {args : Array Value} {below : List Frame} {meth : Method} {c : Code} {A : Nat → Prop} {D : va_G} {cI cJ cZ : ClassId} {a : Nat → Nat} {vl : Nat → Int32} {hs : Nat → Int32} {isz : Nat → Int32} {igd : Nat → Int32} {iup : Nat → Int32} {idn : Nat → Int32} {osz : Nat → Int32} {ogd : Nat → Int32} {oup : Nat → Int32} {odn : Nat → Int32} {dep : Nat → Int32} {rsz : Int32} {lgd : Nat → Int32} {llf : Nat → Int64} {ldb : Nat → Int64} {ldy : Nat → Int32} {lsz : Int32} {lti : Int64} {pgd : Nat → Int32} {plf : Nat → Int64} {pun : Nat → Int32} {psz : Int32} {bgd : Nat → Int32} {bam : Nat → Int64} {bwt : Nat → Int64} {bsh : Nat → Int64} {brm : Nat → Int64} {bsz : Int32} {cab : Nat → Int64} {cbl : Nat → Int64} {tod : Int32} {imp : Int64} {dis : Int64} {owe : Int64} {itr : Int64} (C : gC p s m args meth c cX5_depthByNeeds 4 (some .int) wsX5_depthByNeeds RX5 A) {x1 : Int32} {o : Int32} :
    ∀ (n : Nat) (x2 : Int32) (x3 : Int32) (H : Heap) (locs : List Loc) (ls : Array Slot), vE s A D (gT cI cJ cZ) (cW a cI cJ cZ vl hs isz igd iup idn osz ogd oup odn dep rsz lgd llf ldb ldy lsz lti pgd plf pun psz bgd bam bwt bsh brm bsz cab cbl tod imp dis owe itr) H locs → lv_has ls 4 [(0, .ref (a 2)), (1, .int x1), (2, .int x2), (3, .int x3)] → f_X5_depthByNeeds_L4 isz igd dep x1 n x2 x3 = some o → W p l e rm_X5_depthByNeeds s m args below meth c H locs 0 0 (MQ below (gQi D (gT cI cJ cZ) A (cW a cI cJ cZ vl hs isz igd iup idn osz ogd oup odn dep rsz lgd llf ldb ldy lsz lti pgd plf pun psz bgd bam bwt bsh brm bsz cab cbl tod imp dis owe itr) o) args s 0 0 A) (F0 m 4 ls []) := by
  obtain ⟨hx, hb, hr, hml, hown, hts, hlocks, hN, hA⟩ := id C
  intro n
  induction n with
  | zero =>
    intro x2 x3 H locs ls E hl hf
    rw [f_X5_depthByNeeds_L4] at hf
    cases hf
  | succ n ih =>
    intro x2 x3 H locs ls E hl hf
    rw [f_X5_depthByNeeds_L4] at hf
    refine lv_iload_n hx hb dX5_depthByNeeds_4 rfl (lv_at hl 3 rfl) ?_
    refine lv_aload_n hx hb dX5_depthByNeeds_5 rfl (lv_at hl 0 rfl) ?_
    refine g_get C E 2 1 (fun _ h => List.mem_cons_of_mem _ (List.mem_append_left _ (List.mem_append_right _ h))) rfl rfl (by decide) (List.mem_of_getElem? (i := 1) rfl) rfl rfl dX5_depthByNeeds_6 ?_
    refine g_get C E 4 1 (fun _ h => List.mem_cons_of_mem _ (List.mem_append_right _ h)) rfl rfl (by decide) (List.mem_of_getElem? (i := 2) rfl) rfl rfl dX5_depthByNeeds_9 ?_
    refine lv_iload_n hx hb dX5_depthByNeeds_12 rfl (lv_at hl 1 rfl) ?_
    obtain ⟨h1, hf⟩ := ck_some hf
    refine g_iald C E 5 rfl h1 dX5_depthByNeeds_13 ?_
    refine lv_icmp_ge (tgt := 44) hx hb dX5_depthByNeeds_14 (by decide) (fun c2 => ?_) (fun c2 => ?_)
    · rw [if_pos c2] at hf
      refine lv_iload_n hx hb dX5_depthByNeeds_44 rfl (lv_at hl 2 rfl) ?_
      obtain rfl := Option.some.inj hf
      exact g_iret C E dX5_depthByNeeds_45
    · rw [if_neg c2] at hf
      refine lv_iload_n hx hb dX5_depthByNeeds_17 rfl (lv_at hl 2 rfl) ?_
      refine lv_iconst (v := 1) hx hb dX5_depthByNeeds_18 (by decide) ?_
      refine lv_aload_n hx hb dX5_depthByNeeds_19 rfl (lv_at hl 0 rfl) ?_
      refine g_get C E 2 3 (fun _ h => List.mem_cons_of_mem _ (List.mem_append_left _ (List.mem_append_right _ h))) rfl rfl (by decide) (List.mem_of_getElem? (i := 3) rfl) rfl rfl dX5_depthByNeeds_20 ?_
      refine lv_aload_n hx hb dX5_depthByNeeds_23 rfl (lv_at hl 0 rfl) ?_
      refine g_get C E 2 1 (fun _ h => List.mem_cons_of_mem _ (List.mem_append_left _ (List.mem_append_right _ h))) rfl rfl (by decide) (List.mem_of_getElem? (i := 1) rfl) rfl rfl dX5_depthByNeeds_24 ?_
      refine lv_iload_n hx hb dX5_depthByNeeds_27 rfl (lv_at hl 1 rfl) ?_
      refine lv_iload_n hx hb dX5_depthByNeeds_28 rfl (lv_at hl 3 rfl) ?_
      obtain ⟨o3, e4, hf⟩ := bd_some hf
      refine g_calli (w' := (cW a cI cJ cZ vl hs isz igd iup idn osz ogd oup odn dep rsz lgd llf ldb ldy lsz lti pgd plf pun psz bgd bam bwt bsh brm bsz cab cbl tod imp dis owe itr)) C E (g_runV (As := [.int x1, .int x3]) (rest := [.ref (a 14), .int (1 : Int32), .int x2]) C E (c_X3_goodAt_i e4) (cwV 2 hts gX5_depthByNeeds_X3_goodAt rfl rfl rfl ⟨rfl, hd_X3_goodAt_i⟩ ⟨Nat.le_of_ble_eq_true rfl, Nat.le_of_ble_eq_true rfl⟩) (q0 := 4) (ci := 3) rfl rfl rfl rfl hl.1 rfl (Nat.le_of_ble_eq_true rfl) dX5_depthByNeeds_29 ⟨Nat.le_of_ble_eq_true rfl, Nat.le_of_ble_eq_true rfl⟩) (fun H locs E => ?_)
      obtain ⟨h5, hf⟩ := ck_some hf
      refine g_iald C E 14 rfl h5 dX5_depthByNeeds_32 ?_
      refine lv_iadd hx hb dX5_depthByNeeds_33 ?_
      refine va_mmax hx hb (hml.trans hl.1.symm) hown (hts (.methodLink RX5 46 Lib.Math.max.name) (List.mem_of_getElem? (i := 4) rfl)) (hts (.static Lib.Math.max.name) (List.mem_of_getElem? (i := 5) rfl)) (hts (.initialized "java/lang/Math") (List.mem_of_getElem? (i := 6) rfl)) (hts (.code Lib.Math.max.name Lib.Math.max.code 2 (some .int)) (List.mem_of_getElem? (i := 7) rfl)) (Nat.le_of_ble_eq_true rfl) (Nat.le_of_ble_eq_true rfl) (Nat.le_of_ble_eq_true rfl) (Nat.le_of_ble_eq_true rfl) dX5_depthByNeeds_34 ?_
      refine lv_istore_n (lv' := [(2, .int (if x2 < ((1 : Int32) + (dep o3.toNatClampNeg)) then ((1 : Int32) + (dep o3.toNatClampNeg)) else x2)), (0, .ref (a 2)), (1, .int x1), (3, .int x3)]) hx hb dX5_depthByNeeds_37 rfl hl (by decide) rfl (fun ls hl => ?_)
      refine lv_iinc (v := (x3 + 1)) (lv' := [(3, .int (x3 + 1)), (2, .int (if x2 < ((1 : Int32) + (dep o3.toNatClampNeg)) then ((1 : Int32) + (dep o3.toNatClampNeg)) else x2)), (0, .ref (a 2)), (1, .int x1)]) hx hb dX5_depthByNeeds_38 hl (k := 3) rfl rfl (by decide) rfl (fun ls hl => ?_)
      refine lv_goto (tgt := 4) hx hb dX5_depthByNeeds_41 (by decide) ?_
      exact ih (if x2 < ((1 : Int32) + (dep o3.toNatClampNeg)) then ((1 : Int32) + (dep o3.toNatClampNeg)) else x2) (x3 + 1) _ _ _ E (lv_sub hl [2, 3, 1, 0] rfl) hf
def f_X5_depthByNeeds (isz : Nat → Int32) (igd : Nat → Int32) (dep : Nat → Int32) (x1 : Int32) : Option (Int32) :=
  f_X5_depthByNeeds_L4 isz igd dep x1 FU (0 : Int32) (0 : Int32)
set_option maxHeartbeats 4000000 in
set_option maxRecDepth 100000 in
theorem c_X5_depthByNeeds {l : Launch} {D : va_G} {cI cJ cZ : ClassId} {a : Nat → Nat} {sz : Nat} {vl : Nat → Int32} {hs : Nat → Int32} {isz : Nat → Int32} {igd : Nat → Int32} {iup : Nat → Int32} {idn : Nat → Int32} {osz : Nat → Int32} {ogd : Nat → Int32} {oup : Nat → Int32} {odn : Nat → Int32} {dep : Nat → Int32} {rsz : Int32} {lgd : Nat → Int32} {llf : Nat → Int64} {ldb : Nat → Int64} {ldy : Nat → Int32} {lsz : Int32} {lti : Int64} {pgd : Nat → Int32} {plf : Nat → Int64} {pun : Nat → Int32} {psz : Int32} {bgd : Nat → Int32} {bam : Nat → Int64} {bwt : Nat → Int64} {bsh : Nat → Int64} {brm : Nat → Int64} {bsz : Int32} {cab : Nat → Int64} {cbl : Nat → Int64} {tod : Int32} {imp : Int64} {dis : Int64} {owe : Int64} {itr : Int64} {x1 : Int32} {o : Int32} (hf : f_X5_depthByNeeds isz igd dep x1 = some o) : gMi l yX5_depthByNeeds wsX5_depthByNeeds rm_X5_depthByNeeds D (gT cI cJ cZ) (cW a cI cJ cZ vl hs isz igd iup idn osz ogd oup odn dep rsz lgd llf ldb ldy lsz lti pgd plf pun psz bgd bam bwt bsh brm bsz cab cbl tod imp dis owe itr) (cW a cI cJ cZ vl hs isz igd iup idn osz ogd oup odn dep rsz lgd llf ldb ldy lsz lti pgd plf pun psz bgd bam bwt bsh brm bsz cab cbl tod imp dis owe itr) sz [.ref (a 2), .int x1] o := by
  refine g_of (cc := cX5_depthByNeeds) (maxL := 4) (ret := (some .int)) (by decide) rfl (Nat.le_of_ble_eq_true rfl) ?_
  intro p e s m below meth c A ls hAe C hl E
  rw [← hAe]
  obtain ⟨hx, hb, hr, hml, hown, hts, hlocks, hN, hA⟩ := id C
  have hl : lv_has ls 4 [(0, .ref (a 2)), (1, .int x1)] := hl
  have E : vE s A D (gT cI cJ cZ) (cW a cI cJ cZ vl hs isz igd iup idn osz ogd oup odn dep rsz lgd llf ldb ldy lsz lti pgd plf pun psz bgd bam bwt bsh brm bsz cab cbl tod imp dis owe itr) s.heap [] := E
  rw [f_X5_depthByNeeds] at hf
  refine lv_iconst (v := 0) hx hb dX5_depthByNeeds_0 (by decide) ?_
  refine lv_istore_n (lv' := [(2, .int (0 : Int32)), (0, .ref (a 2)), (1, .int x1)]) hx hb dX5_depthByNeeds_1 rfl hl (by decide) rfl (fun ls hl => ?_)
  refine lv_iconst (v := 0) hx hb dX5_depthByNeeds_2 (by decide) ?_
  refine lv_istore_n (lv' := [(3, .int (0 : Int32)), (2, .int (0 : Int32)), (0, .ref (a 2)), (1, .int x1)]) hx hb dX5_depthByNeeds_3 rfl hl (by decide) rfl (fun ls hl => ?_)
  exact w_X5_depthByNeeds_L4 C  FU (0 : Int32) (0 : Int32) _ _ _ E (lv_sub hl [2, 3, 1, 0] rfl) hf
abbrev rm_X5_measureDepths : Room := { frames := 3, cells := 0, slots := 0, locals := 66 }
theorem hd_X5_measureDepths : yX5_measureDepths.cls ≠ "java/lang/invoke/MethodHandle" ∧ yX5_measureDepths.cls ≠ "java/lang/invoke/VarHandle" ∧ (parseMethodDescriptor yX5_measureDepths.desc).map (fun d => d.parameters.length) = some 0 := by decide +kernel
def f_X5_measureDepths_L32 (isz : Nat → Int32) (igd : Nat → Int32) (x2 : Int32) (k25 : (Nat → Int32) → Int32 → Int32 → Option (Int32 × (Nat → Int32))) : Nat → (Nat → Int32) → Int32 → Int32 → Option (Int32 × (Nat → Int32))
  | 0, _, _, _ => none
  | n + 1, dep, x1, x3 =>
  if (12 : Int32) ≤ x3 then
    k25 dep x1 (x2 + 1)
  else
    (f_X5_depthByNeeds isz igd dep x3).bind fun o2 =>
    ck x3 12 <|
    ck x3 12 <|
    f_X5_measureDepths_L32 isz igd x2 k25 n (upd dep x3.toNatClampNeg o2) (if x1 < ((upd dep x3.toNatClampNeg o2) x3.toNatClampNeg) then ((upd dep x3.toNatClampNeg o2) x3.toNatClampNeg) else x1) (x3 + 1)
set_option maxHeartbeats 4000000 in
set_option maxRecDepth 100000 in
theorem w_X5_measureDepths_L32 {p : Program} {l : Launch} {e : Env} {s : State} {m : MethodId} {args : Array Value} {below : List Frame} {meth : Method} {c : Code} {A : Nat → Prop} {D : va_G} {cI cJ cZ : ClassId} {a : Nat → Nat} {vl : Nat → Int32} {hs : Nat → Int32} {isz : Nat → Int32} {igd : Nat → Int32} {iup : Nat → Int32} {idn : Nat → Int32} {osz : Nat → Int32} {ogd : Nat → Int32} {oup : Nat → Int32} {odn : Nat → Int32} {rsz : Int32} {lgd : Nat → Int32} {llf : Nat → Int64} {ldb : Nat → Int64} {ldy : Nat → Int32} {lsz : Int32} {lti : Int64} {pgd : Nat → Int32} {plf : Nat → Int64} {pun : Nat → Int32} {psz : Int32} {bgd : Nat → Int32} {bam : Nat → Int64} {bwt : Nat → Int64} {bsh : Nat → Int64} {brm : Nat → Int64} {bsz : Int32} {cab : Nat → Int64} {cbl : Nat → Int64} {tod : Int32} {imp : Int64} {dis : Int64} {owe : Int64} {itr : Int64} (C : gC p s m args meth c cX5_measureDepths 4 (some .int) wsX5_measureDepths RX5 A) {x2 : Int32} {o : Int32 × (Nat → Int32)} {k25 : (Nat → Int32) → Int32 → Int32 → Option (Int32 × (Nat → Int32))} (hk25 : ∀ (dep : Nat → Int32) (x1 : Int32) (x2 : Int32) (H : Heap) (locs : List Loc) (ls : Array Slot), vE s A D (gT cI cJ cZ) (cW a cI cJ cZ vl hs isz igd iup idn osz ogd oup odn dep rsz lgd llf ldb ldy lsz lti pgd plf pun psz bgd bam bwt bsh brm bsz cab cbl tod imp dis owe itr) H locs → lv_has ls 4 [(0, .ref (a 2)), (1, .int x1), (2, .int x2)] → k25 dep x1 x2 = some o → W p l e rm_X5_measureDepths s m args below meth c H locs 0 0 (MQ below (gQi D (gT cI cJ cZ) A (cW a cI cJ cZ vl hs isz igd iup idn osz ogd oup odn o.2 rsz lgd llf ldb ldy lsz lti pgd plf pun psz bgd bam bwt bsh brm bsz cab cbl tod imp dis owe itr) o.1) args s 0 0 A) (F0 m 25 ls [])) :
    ∀ (n : Nat) (dep : Nat → Int32) (x1 : Int32) (x3 : Int32) (H : Heap) (locs : List Loc) (ls : Array Slot), vE s A D (gT cI cJ cZ) (cW a cI cJ cZ vl hs isz igd iup idn osz ogd oup odn dep rsz lgd llf ldb ldy lsz lti pgd plf pun psz bgd bam bwt bsh brm bsz cab cbl tod imp dis owe itr) H locs → lv_has ls 4 [(0, .ref (a 2)), (1, .int x1), (2, .int x2), (3, .int x3)] → f_X5_measureDepths_L32 isz igd x2 k25 n dep x1 x3 = some o → W p l e rm_X5_measureDepths s m args below meth c H locs 0 0 (MQ below (gQi D (gT cI cJ cZ) A (cW a cI cJ cZ vl hs isz igd iup idn osz ogd oup odn o.2 rsz lgd llf ldb ldy lsz lti pgd plf pun psz bgd bam bwt bsh brm bsz cab cbl tod imp dis owe itr) o.1) args s 0 0 A) (F0 m 32 ls []) := by
  obtain ⟨hx, hb, hr, hml, hown, hts, hlocks, hN, hA⟩ := id C
  intro n
  induction n with
  | zero =>
    intro dep x1 x3 H locs ls E hl hf
    rw [f_X5_measureDepths_L32] at hf
    cases hf
  | succ n ih =>
    intro dep x1 x3 H locs ls E hl hf
    rw [f_X5_measureDepths_L32] at hf
    refine lv_iload_n hx hb dX5_measureDepths_32 rfl (lv_at hl 3 rfl) ?_
    refine lv_bipush (v := 12) hx hb dX5_measureDepths_33 (by decide) ?_
    refine lv_icmp_ge (tgt := 66) hx hb dX5_measureDepths_35 (by decide) (fun c1 => ?_) (fun c1 => ?_)
    · rw [if_pos c1] at hf
      refine lv_iinc (v := (x2 + 1)) (lv' := [(2, .int (x2 + 1)), (0, .ref (a 2)), (1, .int x1), (3, .int x3)]) hx hb dX5_measureDepths_66 hl (k := 2) rfl rfl (by decide) rfl (fun ls hl => ?_)
      refine lv_goto (tgt := 25) hx hb dX5_measureDepths_69 (by decide) ?_
      exact hk25 dep x1 (x2 + 1) _ _ _ E (lv_sub hl [1, 2, 0] rfl) hf
    · rw [if_neg c1] at hf
      refine lv_aload_n hx hb dX5_measureDepths_38 rfl (lv_at hl 0 rfl) ?_
      refine g_get C E 2 3 (fun _ h => List.mem_cons_of_mem _ (List.mem_append_left _ (List.mem_append_right _ h))) rfl rfl (by decide) (List.mem_of_getElem? (i := 1) rfl) rfl rfl dX5_measureDepths_39 ?_
      refine lv_iload_n hx hb dX5_measureDepths_42 rfl (lv_at hl 3 rfl) ?_
      refine lv_aload_n hx hb dX5_measureDepths_43 rfl (lv_at hl 0 rfl) ?_
      refine lv_iload_n hx hb dX5_measureDepths_44 rfl (lv_at hl 3 rfl) ?_
      obtain ⟨o2, e3, hf⟩ := bd_some hf
      refine g_calli (w' := (cW a cI cJ cZ vl hs isz igd iup idn osz ogd oup odn dep rsz lgd llf ldb ldy lsz lti pgd plf pun psz bgd bam bwt bsh brm bsz cab cbl tod imp dis owe itr)) C E (g_runV (As := [.int x3]) (rest := [.int x3, .ref (a 14)]) C E (c_X5_depthByNeeds e3) (cwV 1 hts gX5_measureDepths_X5_depthByNeeds rfl rfl rfl ⟨rfl, hd_X5_depthByNeeds⟩ ⟨Nat.le_of_ble_eq_true rfl, Nat.le_of_ble_eq_true rfl⟩) (q0 := 2) (ci := 5) rfl rfl rfl rfl hl.1 rfl (Nat.le_of_ble_eq_true rfl) dX5_measureDepths_45 ⟨Nat.le_of_ble_eq_true rfl, Nat.le_of_ble_eq_true rfl⟩) (fun H locs E => ?_)
      obtain ⟨h4, hf⟩ := ck_some hf
      refine g_iast (w' := (cW a cI cJ cZ vl hs isz igd iup idn osz ogd oup odn (upd dep x3.toNatClampNeg o2) rsz lgd llf ldb ldy lsz lti pgd plf pun psz bgd bam bwt bsh brm bsz cab cbl tod imp dis owe itr)) C E 14 rfl h4 dX5_measureDepths_48 rfl (fun H locs E => ?_)
      refine lv_iload_n hx hb dX5_measureDepths_49 rfl (lv_at hl 1 rfl) ?_
      refine lv_aload_n hx hb dX5_measureDepths_50 rfl (lv_at hl 0 rfl) ?_
      refine g_get C E 2 3 (fun _ h => List.mem_cons_of_mem _ (List.mem_append_left _ (List.mem_append_right _ h))) rfl rfl (by decide) (List.mem_of_getElem? (i := 1) rfl) rfl rfl dX5_measureDepths_51 ?_
      refine lv_iload_n hx hb dX5_measureDepths_54 rfl (lv_at hl 3 rfl) ?_
      obtain ⟨h5, hf⟩ := ck_some hf
      refine g_iald C E 14 rfl h5 dX5_measureDepths_55 ?_
      refine va_mmax hx hb (hml.trans hl.1.symm) hown (hts (.methodLink RX5 46 Lib.Math.max.name) (List.mem_of_getElem? (i := 2) rfl)) (hts (.static Lib.Math.max.name) (List.mem_of_getElem? (i := 3) rfl)) (hts (.initialized "java/lang/Math") (List.mem_of_getElem? (i := 4) rfl)) (hts (.code Lib.Math.max.name Lib.Math.max.code 2 (some .int)) (List.mem_of_getElem? (i := 5) rfl)) (Nat.le_of_ble_eq_true rfl) (Nat.le_of_ble_eq_true rfl) (Nat.le_of_ble_eq_true rfl) (Nat.le_of_ble_eq_true rfl) dX5_measureDepths_56 ?_
      refine lv_istore_n (lv' := [(1, .int (if x1 < ((upd dep x3.toNatClampNeg o2) x3.toNatClampNeg) then ((upd dep x3.toNatClampNeg o2) x3.toNatClampNeg) else x1)), (0, .ref (a 2)), (2, .int x2), (3, .int x3)]) hx hb dX5_measureDepths_59 rfl hl (by decide) rfl (fun ls hl => ?_)
      refine lv_iinc (v := (x3 + 1)) (lv' := [(3, .int (x3 + 1)), (1, .int (if x1 < ((upd dep x3.toNatClampNeg o2) x3.toNatClampNeg) then ((upd dep x3.toNatClampNeg o2) x3.toNatClampNeg) else x1)), (0, .ref (a 2)), (2, .int x2)]) hx hb dX5_measureDepths_60 hl (k := 3) rfl rfl (by decide) rfl (fun ls hl => ?_)
      refine lv_goto (tgt := 32) hx hb dX5_measureDepths_63 (by decide) ?_
      exact ih (upd dep x3.toNatClampNeg o2) (if x1 < ((upd dep x3.toNatClampNeg o2) x3.toNatClampNeg) then ((upd dep x3.toNatClampNeg o2) x3.toNatClampNeg) else x1) (x3 + 1) _ _ _ E (lv_sub hl [2, 1, 3, 0] rfl) hf
def f_X5_measureDepths_L25 (isz : Nat → Int32) (igd : Nat → Int32) : Nat → (Nat → Int32) → Int32 → Int32 → Option (Int32 × (Nat → Int32))
  | 0, _, _, _ => none
  | n + 1, dep, x1, x2 =>
  if (3 : Int32) < x2 then
    some (x1, dep)
  else
    f_X5_measureDepths_L32 isz igd x2 (fun dep x1 x2 => f_X5_measureDepths_L25 isz igd n dep x1 x2) FU dep x1 (0 : Int32)
set_option maxHeartbeats 4000000 in
set_option maxRecDepth 100000 in
theorem w_X5_measureDepths_L25 {p : Program} {l : Launch} {e : Env} {s : State} {m : MethodId} {args : Array Value} {below : List Frame} {meth : Method} {c : Code} {A : Nat → Prop} {D : va_G} {cI cJ cZ : ClassId} {a : Nat → Nat} {vl : Nat → Int32} {hs : Nat → Int32} {isz : Nat → Int32} {igd : Nat → Int32} {iup : Nat → Int32} {idn : Nat → Int32} {osz : Nat → Int32} {ogd : Nat → Int32} {oup : Nat → Int32} {odn : Nat → Int32} {rsz : Int32} {lgd : Nat → Int32} {llf : Nat → Int64} {ldb : Nat → Int64} {ldy : Nat → Int32} {lsz : Int32} {lti : Int64} {pgd : Nat → Int32} {plf : Nat → Int64} {pun : Nat → Int32} {psz : Int32} {bgd : Nat → Int32} {bam : Nat → Int64} {bwt : Nat → Int64} {bsh : Nat → Int64} {brm : Nat → Int64} {bsz : Int32} {cab : Nat → Int64} {cbl : Nat → Int64} {tod : Int32} {imp : Int64} {dis : Int64} {owe : Int64} {itr : Int64} (C : gC p s m args meth c cX5_measureDepths 4 (some .int) wsX5_measureDepths RX5 A) {o : Int32 × (Nat → Int32)} :
    ∀ (n : Nat) (dep : Nat → Int32) (x1 : Int32) (x2 : Int32) (H : Heap) (locs : List Loc) (ls : Array Slot), vE s A D (gT cI cJ cZ) (cW a cI cJ cZ vl hs isz igd iup idn osz ogd oup odn dep rsz lgd llf ldb ldy lsz lti pgd plf pun psz bgd bam bwt bsh brm bsz cab cbl tod imp dis owe itr) H locs → lv_has ls 4 [(0, .ref (a 2)), (1, .int x1), (2, .int x2)] → f_X5_measureDepths_L25 isz igd n dep x1 x2 = some o → W p l e rm_X5_measureDepths s m args below meth c H locs 0 0 (MQ below (gQi D (gT cI cJ cZ) A (cW a cI cJ cZ vl hs isz igd iup idn osz ogd oup odn o.2 rsz lgd llf ldb ldy lsz lti pgd plf pun psz bgd bam bwt bsh brm bsz cab cbl tod imp dis owe itr) o.1) args s 0 0 A) (F0 m 25 ls []) := by
  obtain ⟨hx, hb, hr, hml, hown, hts, hlocks, hN, hA⟩ := id C
  intro n
  induction n with
  | zero =>
    intro dep x1 x2 H locs ls E hl hf
    rw [f_X5_measureDepths_L25] at hf
    cases hf
  | succ n ih =>
    intro dep x1 x2 H locs ls E hl hf
    rw [f_X5_measureDepths_L25] at hf
    refine lv_iload_n hx hb dX5_measureDepths_25 rfl (lv_at hl 2 rfl) ?_
    refine lv_iconst (v := 3) hx hb dX5_measureDepths_26 (by decide) ?_
    refine lv_icmp_gt (tgt := 72) hx hb dX5_measureDepths_27 (by decide) (fun c1 => ?_) (fun c1 => ?_)
    · rw [if_pos c1] at hf
      refine lv_iload_n hx hb dX5_measureDepths_72 rfl (lv_at hl 1 rfl) ?_
      obtain rfl := Option.some.inj hf
      exact g_iret C E dX5_measureDepths_73
    · rw [if_neg c1] at hf
      refine lv_iconst (v := 0) hx hb dX5_measureDepths_30 (by decide) ?_
      refine lv_istore_n (lv' := [(3, .int (0 : Int32)), (0, .ref (a 2)), (1, .int x1), (2, .int x2)]) hx hb dX5_measureDepths_31 rfl hl (by decide) rfl (fun ls hl => ?_)
      exact w_X5_measureDepths_L32 C ih FU dep x1 (0 : Int32) _ _ _ E (lv_sub hl [1, 2, 3, 0] rfl) hf
def f_X5_measureDepths_L4 (isz : Nat → Int32) (igd : Nat → Int32) (x1 : Int32) : Nat → (Nat → Int32) → Int32 → Option (Int32 × (Nat → Int32))
  | 0, _, _ => none
  | n + 1, dep, x2 =>
  if (12 : Int32) ≤ x2 then
    f_X5_measureDepths_L25 isz igd FU dep x1 (0 : Int32)
  else
    ck x2 12 <|
    f_X5_measureDepths_L4 isz igd x1 n (upd dep x2.toNatClampNeg (0 : Int32)) (x2 + 1)
set_option maxHeartbeats 4000000 in
set_option maxRecDepth 100000 in
theorem w_X5_measureDepths_L4 {p : Program} {l : Launch} {e : Env} {s : State} {m : MethodId} {args : Array Value} {below : List Frame} {meth : Method} {c : Code} {A : Nat → Prop} {D : va_G} {cI cJ cZ : ClassId} {a : Nat → Nat} {vl : Nat → Int32} {hs : Nat → Int32} {isz : Nat → Int32} {igd : Nat → Int32} {iup : Nat → Int32} {idn : Nat → Int32} {osz : Nat → Int32} {ogd : Nat → Int32} {oup : Nat → Int32} {odn : Nat → Int32} {rsz : Int32} {lgd : Nat → Int32} {llf : Nat → Int64} {ldb : Nat → Int64} {ldy : Nat → Int32} {lsz : Int32} {lti : Int64} {pgd : Nat → Int32} {plf : Nat → Int64} {pun : Nat → Int32} {psz : Int32} {bgd : Nat → Int32} {bam : Nat → Int64} {bwt : Nat → Int64} {bsh : Nat → Int64} {brm : Nat → Int64} {bsz : Int32} {cab : Nat → Int64} {cbl : Nat → Int64} {tod : Int32} {imp : Int64} {dis : Int64} {owe : Int64} {itr : Int64} (C : gC p s m args meth c cX5_measureDepths 4 (some .int) wsX5_measureDepths RX5 A) {x1 : Int32} {o : Int32 × (Nat → Int32)} :
    ∀ (n : Nat) (dep : Nat → Int32) (x2 : Int32) (H : Heap) (locs : List Loc) (ls : Array Slot), vE s A D (gT cI cJ cZ) (cW a cI cJ cZ vl hs isz igd iup idn osz ogd oup odn dep rsz lgd llf ldb ldy lsz lti pgd plf pun psz bgd bam bwt bsh brm bsz cab cbl tod imp dis owe itr) H locs → lv_has ls 4 [(0, .ref (a 2)), (1, .int x1), (2, .int x2)] → f_X5_measureDepths_L4 isz igd x1 n dep x2 = some o → W p l e rm_X5_measureDepths s m args below meth c H locs 0 0 (MQ below (gQi D (gT cI cJ cZ) A (cW a cI cJ cZ vl hs isz igd iup idn osz ogd oup odn o.2 rsz lgd llf ldb ldy lsz lti pgd plf pun psz bgd bam bwt bsh brm bsz cab cbl tod imp dis owe itr) o.1) args s 0 0 A) (F0 m 4 ls []) := by
  obtain ⟨hx, hb, hr, hml, hown, hts, hlocks, hN, hA⟩ := id C
  intro n
  induction n with
  | zero =>
    intro dep x2 H locs ls E hl hf
    rw [f_X5_measureDepths_L4] at hf
    cases hf
  | succ n ih =>
    intro dep x2 H locs ls E hl hf
    rw [f_X5_measureDepths_L4] at hf
    refine lv_iload_n hx hb dX5_measureDepths_4 rfl (lv_at hl 2 rfl) ?_
    refine lv_bipush (v := 12) hx hb dX5_measureDepths_5 (by decide) ?_
    refine lv_icmp_ge (tgt := 23) hx hb dX5_measureDepths_7 (by decide) (fun c1 => ?_) (fun c1 => ?_)
    · rw [if_pos c1] at hf
      refine lv_iconst (v := 0) hx hb dX5_measureDepths_23 (by decide) ?_
      refine lv_istore_n (lv' := [(2, .int (0 : Int32)), (0, .ref (a 2)), (1, .int x1)]) hx hb dX5_measureDepths_24 rfl hl (by decide) rfl (fun ls hl => ?_)
      exact w_X5_measureDepths_L25 C  FU dep x1 (0 : Int32) _ _ _ E (lv_sub hl [1, 2, 0] rfl) hf
    · rw [if_neg c1] at hf
      refine lv_aload_n hx hb dX5_measureDepths_10 rfl (lv_at hl 0 rfl) ?_
      refine g_get C E 2 3 (fun _ h => List.mem_cons_of_mem _ (List.mem_append_left _ (List.mem_append_right _ h))) rfl rfl (by decide) (List.mem_of_getElem? (i := 1) rfl) rfl rfl dX5_measureDepths_11 ?_
      refine lv_iload_n hx hb dX5_measureDepths_14 rfl (lv_at hl 2 rfl) ?_
      refine lv_iconst (v := 0) hx hb dX5_measureDepths_15 (by decide) ?_
      obtain ⟨h2, hf⟩ := ck_some hf
      refine g_iast (w' := (cW a cI cJ cZ vl hs isz igd iup idn osz ogd oup odn (upd dep x2.toNatClampNeg (0 : Int32)) rsz lgd llf ldb ldy lsz lti pgd plf pun psz bgd bam bwt bsh brm bsz cab cbl tod imp dis owe itr)) C E 14 rfl h2 dX5_measureDepths_16 rfl (fun H locs E => ?_)
      refine lv_iinc (v := (x2 + 1)) (lv' := [(2, .int (x2 + 1)), (0, .ref (a 2)), (1, .int x1)]) hx hb dX5_measureDepths_17 hl (k := 2) rfl rfl (by decide) rfl (fun ls hl => ?_)
      refine lv_goto (tgt := 4) hx hb dX5_measureDepths_20 (by decide) ?_
      exact ih (upd dep x2.toNatClampNeg (0 : Int32)) (x2 + 1) _ _ _ E (lv_sub hl [1, 2, 0] rfl) hf
def f_X5_measureDepths (isz : Nat → Int32) (igd : Nat → Int32) (dep : Nat → Int32)  : Option (Int32 × (Nat → Int32)) :=
  f_X5_measureDepths_L4 isz igd (0 : Int32) FU dep (0 : Int32)
set_option maxHeartbeats 4000000 in
set_option maxRecDepth 100000 in
theorem c_X5_measureDepths {l : Launch} {D : va_G} {cI cJ cZ : ClassId} {a : Nat → Nat} {sz : Nat} {vl : Nat → Int32} {hs : Nat → Int32} {isz : Nat → Int32} {igd : Nat → Int32} {iup : Nat → Int32} {idn : Nat → Int32} {osz : Nat → Int32} {ogd : Nat → Int32} {oup : Nat → Int32} {odn : Nat → Int32} {dep : Nat → Int32} {rsz : Int32} {lgd : Nat → Int32} {llf : Nat → Int64} {ldb : Nat → Int64} {ldy : Nat → Int32} {lsz : Int32} {lti : Int64} {pgd : Nat → Int32} {plf : Nat → Int64} {pun : Nat → Int32} {psz : Int32} {bgd : Nat → Int32} {bam : Nat → Int64} {bwt : Nat → Int64} {bsh : Nat → Int64} {brm : Nat → Int64} {bsz : Int32} {cab : Nat → Int64} {cbl : Nat → Int64} {tod : Int32} {imp : Int64} {dis : Int64} {owe : Int64} {itr : Int64} {o : Int32 × (Nat → Int32)} (hf : f_X5_measureDepths isz igd dep = some o) : gMi l yX5_measureDepths wsX5_measureDepths rm_X5_measureDepths D (gT cI cJ cZ) (cW a cI cJ cZ vl hs isz igd iup idn osz ogd oup odn dep rsz lgd llf ldb ldy lsz lti pgd plf pun psz bgd bam bwt bsh brm bsz cab cbl tod imp dis owe itr) (cW a cI cJ cZ vl hs isz igd iup idn osz ogd oup odn o.2 rsz lgd llf ldb ldy lsz lti pgd plf pun psz bgd bam bwt bsh brm bsz cab cbl tod imp dis owe itr) sz [.ref (a 2)] o.1 := by
  refine g_of (cc := cX5_measureDepths) (maxL := 4) (ret := (some .int)) (by decide) rfl (Nat.le_of_ble_eq_true rfl) ?_
  intro p e s m below meth c A ls hAe C hl E
  rw [← hAe]
  obtain ⟨hx, hb, hr, hml, hown, hts, hlocks, hN, hA⟩ := id C
  have hl : lv_has ls 4 [(0, .ref (a 2))] := hl
  have E : vE s A D (gT cI cJ cZ) (cW a cI cJ cZ vl hs isz igd iup idn osz ogd oup odn dep rsz lgd llf ldb ldy lsz lti pgd plf pun psz bgd bam bwt bsh brm bsz cab cbl tod imp dis owe itr) s.heap [] := E
  rw [f_X5_measureDepths] at hf
  refine lv_iconst (v := 0) hx hb dX5_measureDepths_0 (by decide) ?_
  refine lv_istore_n (lv' := [(1, .int (0 : Int32)), (0, .ref (a 2))]) hx hb dX5_measureDepths_1 rfl hl (by decide) rfl (fun ls hl => ?_)
  refine lv_iconst (v := 0) hx hb dX5_measureDepths_2 (by decide) ?_
  refine lv_istore_n (lv' := [(2, .int (0 : Int32)), (1, .int (0 : Int32)), (0, .ref (a 2))]) hx hb dX5_measureDepths_3 rfl hl (by decide) rfl (fun ls hl => ?_)
  exact w_X5_measureDepths_L4 C  FU dep (0 : Int32) _ _ _ E (lv_sub hl [2, 1, 0] rfl) hf
abbrev rm_X5_addNeed : Room := { frames := 4, cells := 0, slots := 0, locals := 91 }
theorem hd_X5_addNeed : yX5_addNeed.cls ≠ "java/lang/invoke/MethodHandle" ∧ yX5_addNeed.cls ≠ "java/lang/invoke/VarHandle" ∧ (parseMethodDescriptor yX5_addNeed.desc).map (fun d => d.parameters.length) = some 4 := by decide +kernel
def f_X5_addNeed (hs : Nat → Int32) (isz : Nat → Int32) (igd : Nat → Int32) (iup : Nat → Int32) (idn : Nat → Int32) (dep : Nat → Int32) (x1 : Int32) (x2 : Int32) (x3 : Int32) (x4 : Int32) : Option (Int32 × (Nat → Int32) × (Nat → Int32) × (Nat → Int32) × (Nat → Int32) × (Nat → Int32)) :=
  ck x1 12 <|
  if (hs x1.toNatClampNeg) = 0 then
    some ((0 : Int32), isz, igd, iup, idn, dep)
  else
    (f_X3_add_i isz igd iup idn x1 x2 x3 x4).bind fun o3 =>
    if o3.1 = 0 then
      some ((0 : Int32), o3.2.1, o3.2.2.1, o3.2.2.2.1, o3.2.2.2.2, dep)
    else
      (f_X5_measureDepths o3.2.1 o3.2.2.1 dep).bind fun o6 =>
      if o6.1 ≤ (3 : Int32) then
        some ((1 : Int32), o3.2.1, o3.2.2.1, o3.2.2.2.1, o3.2.2.2.2, o6.2)
      else
        (f_X3_dropLast_i o3.2.1 x1).bind fun o9 =>
        (f_X5_measureDepths o9 o3.2.2.1 o6.2).bind fun o11 =>
        some ((0 : Int32), o9, o3.2.2.1, o3.2.2.2.1, o3.2.2.2.2, o11.2)
set_option maxHeartbeats 4000000 in
set_option maxRecDepth 100000 in
theorem c_X5_addNeed {l : Launch} {D : va_G} {cI cJ cZ : ClassId} {a : Nat → Nat} {sz : Nat} {vl : Nat → Int32} {hs : Nat → Int32} {isz : Nat → Int32} {igd : Nat → Int32} {iup : Nat → Int32} {idn : Nat → Int32} {osz : Nat → Int32} {ogd : Nat → Int32} {oup : Nat → Int32} {odn : Nat → Int32} {dep : Nat → Int32} {rsz : Int32} {lgd : Nat → Int32} {llf : Nat → Int64} {ldb : Nat → Int64} {ldy : Nat → Int32} {lsz : Int32} {lti : Int64} {pgd : Nat → Int32} {plf : Nat → Int64} {pun : Nat → Int32} {psz : Int32} {bgd : Nat → Int32} {bam : Nat → Int64} {bwt : Nat → Int64} {bsh : Nat → Int64} {brm : Nat → Int64} {bsz : Int32} {cab : Nat → Int64} {cbl : Nat → Int64} {tod : Int32} {imp : Int64} {dis : Int64} {owe : Int64} {itr : Int64} {x1 : Int32} {x2 : Int32} {x3 : Int32} {x4 : Int32} {o : Int32 × (Nat → Int32) × (Nat → Int32) × (Nat → Int32) × (Nat → Int32) × (Nat → Int32)} (hf : f_X5_addNeed hs isz igd iup idn dep x1 x2 x3 x4 = some o) : gMi l yX5_addNeed wsX5_addNeed rm_X5_addNeed D (gT cI cJ cZ) (cW a cI cJ cZ vl hs isz igd iup idn osz ogd oup odn dep rsz lgd llf ldb ldy lsz lti pgd plf pun psz bgd bam bwt bsh brm bsz cab cbl tod imp dis owe itr) (cW a cI cJ cZ vl hs o.2.1 o.2.2.1 o.2.2.2.1 o.2.2.2.2.1 osz ogd oup odn o.2.2.2.2.2 rsz lgd llf ldb ldy lsz lti pgd plf pun psz bgd bam bwt bsh brm bsz cab cbl tod imp dis owe itr) sz [.ref (a 2), .int x1, .int x2, .int x3, .int x4] o.1 := by
  refine g_of (cc := cX5_addNeed) (maxL := 5) (ret := (some .boolean)) (by decide) rfl (Nat.le_of_ble_eq_true rfl) ?_
  intro p e s m below meth c A ls hAe C hl E
  rw [← hAe]
  obtain ⟨hx, hb, hr, hml, hown, hts, hlocks, hN, hA⟩ := id C
  have hl : lv_has ls 5 [(0, .ref (a 2)), (1, .int x1), (2, .int x2), (3, .int x3), (4, .int x4)] := hl
  have E : vE s A D (gT cI cJ cZ) (cW a cI cJ cZ vl hs isz igd iup idn osz ogd oup odn dep rsz lgd llf ldb ldy lsz lti pgd plf pun psz bgd bam bwt bsh brm bsz cab cbl tod imp dis owe itr) s.heap [] := E
  rw [f_X5_addNeed] at hf
  refine lv_aload_n hx hb dX5_addNeed_0 rfl (lv_at hl 0 rfl) ?_
  refine g_get C E 2 0 (fun _ h => List.mem_cons_of_mem _ (List.mem_append_left _ (List.mem_append_right _ h))) rfl rfl (by decide) (List.mem_of_getElem? (i := 1) rfl) rfl rfl dX5_addNeed_1 ?_
  refine lv_iload_n hx hb dX5_addNeed_4 rfl (lv_at hl 1 rfl) ?_
  obtain ⟨h1, hf⟩ := ck_some hf
  refine g_zald C E 3 rfl h1 dX5_addNeed_5 ?_
  refine lv_if_eq (tgt := 24) hx hb dX5_addNeed_6 (by decide) (fun c2 => ?_) (fun c2 => ?_)
  · rw [if_pos c2] at hf
    refine lv_iconst (v := 0) hx hb dX5_addNeed_24 (by decide) ?_
    obtain rfl := Option.some.inj hf
    exact g_zret (r := 0) C E rfl dX5_addNeed_25
  · rw [if_neg c2] at hf
    refine lv_aload_n hx hb dX5_addNeed_9 rfl (lv_at hl 0 rfl) ?_
    refine g_get C E 2 1 (fun _ h => List.mem_cons_of_mem _ (List.mem_append_left _ (List.mem_append_right _ h))) rfl rfl (by decide) (List.mem_of_getElem? (i := 2) rfl) rfl rfl dX5_addNeed_10 ?_
    refine lv_iload_n hx hb dX5_addNeed_13 rfl (lv_at hl 1 rfl) ?_
    refine lv_iload_n hx hb dX5_addNeed_14 rfl (lv_at hl 2 rfl) ?_
    refine lv_iload_n hx hb dX5_addNeed_15 rfl (lv_at hl 3 rfl) ?_
    refine lv_iload hx hb dX5_addNeed_16 (lv_at hl 4 rfl) ?_
    obtain ⟨o3, e4, hf⟩ := bd_some hf
    refine g_calli (w' := (cW a cI cJ cZ vl hs o3.2.1 o3.2.2.1 o3.2.2.2.1 o3.2.2.2.2 osz ogd oup odn dep rsz lgd llf ldb ldy lsz lti pgd plf pun psz bgd bam bwt bsh brm bsz cab cbl tod imp dis owe itr)) C E (g_runV (As := [.int x1, .int x2, .int x3, .int x4]) (rest := []) C E (c_X3_add_i e4) (cwV 4 hts gX5_addNeed_X3_add rfl rfl rfl ⟨rfl, hd_X3_add_i⟩ ⟨Nat.le_of_ble_eq_true rfl, Nat.le_of_ble_eq_true rfl⟩) (q0 := 4) (ci := 3) rfl rfl rfl rfl hl.1 rfl (Nat.le_of_ble_eq_true rfl) dX5_addNeed_18 ⟨Nat.le_of_ble_eq_true rfl, Nat.le_of_ble_eq_true rfl⟩) (fun H locs E => ?_)
    refine lv_if_ne (tgt := 26) hx hb dX5_addNeed_21 (by decide) (fun c5 => ?_) (fun c5 => ?_)
    · rw [if_neg c5] at hf
      refine lv_aload_n hx hb dX5_addNeed_26 rfl (lv_at hl 0 rfl) ?_
      obtain ⟨o6, e7, hf⟩ := bd_some hf
      refine g_calli (w' := (cW a cI cJ cZ vl hs o3.2.1 o3.2.2.1 o3.2.2.2.1 o3.2.2.2.2 osz ogd oup odn o6.2 rsz lgd llf ldb ldy lsz lti pgd plf pun psz bgd bam bwt bsh brm bsz cab cbl tod imp dis owe itr)) C E (g_runV (As := []) (rest := []) C E (c_X5_measureDepths e7) (cwV 0 hts gX5_addNeed_X5_measureDepths rfl rfl rfl ⟨rfl, hd_X5_measureDepths⟩ ⟨Nat.le_of_ble_eq_true rfl, Nat.le_of_ble_eq_true rfl⟩) (q0 := 2) (ci := 5) rfl rfl rfl rfl hl.1 rfl (Nat.le_of_ble_eq_true rfl) dX5_addNeed_27 ⟨Nat.le_of_ble_eq_true rfl, Nat.le_of_ble_eq_true rfl⟩) (fun H locs E => ?_)
      refine lv_iconst (v := 3) hx hb dX5_addNeed_30 (by decide) ?_
      refine lv_icmp_le (tgt := 49) hx hb dX5_addNeed_31 (by decide) (fun c8 => ?_) (fun c8 => ?_)
      · rw [if_pos c8] at hf
        refine lv_iconst (v := 1) hx hb dX5_addNeed_49 (by decide) ?_
        obtain rfl := Option.some.inj hf
        exact g_zret (r := 1) C E rfl dX5_addNeed_50
      · rw [if_neg c8] at hf
        refine lv_aload_n hx hb dX5_addNeed_34 rfl (lv_at hl 0 rfl) ?_
        refine g_get C E 2 1 (fun _ h => List.mem_cons_of_mem _ (List.mem_append_left _ (List.mem_append_right _ h))) rfl rfl (by decide) (List.mem_of_getElem? (i := 2) rfl) rfl rfl dX5_addNeed_35 ?_
        refine lv_iload_n hx hb dX5_addNeed_38 rfl (lv_at hl 1 rfl) ?_
        obtain ⟨o9, e10, hf⟩ := bd_some hf
        refine g_callv (w' := (cW a cI cJ cZ vl hs o9 o3.2.2.1 o3.2.2.2.1 o3.2.2.2.2 osz ogd oup odn o6.2 rsz lgd llf ldb ldy lsz lti pgd plf pun psz bgd bam bwt bsh brm bsz cab cbl tod imp dis owe itr)) C E (g_runV (As := [.int x1]) (rest := []) C E (c_X3_dropLast_i e10) (cwV 1 hts gX5_addNeed_X3_dropLast rfl rfl rfl ⟨rfl, hd_X3_dropLast_i⟩ ⟨Nat.le_of_ble_eq_true rfl, Nat.le_of_ble_eq_true rfl⟩) (q0 := 4) (ci := 3) rfl rfl rfl rfl hl.1 rfl (Nat.le_of_ble_eq_true rfl) dX5_addNeed_39 ⟨Nat.le_of_ble_eq_true rfl, Nat.le_of_ble_eq_true rfl⟩) (fun H locs E => ?_)
        refine lv_aload_n hx hb dX5_addNeed_42 rfl (lv_at hl 0 rfl) ?_
        obtain ⟨o11, e12, hf⟩ := bd_some hf
        refine g_calli (w' := (cW a cI cJ cZ vl hs o9 o3.2.2.1 o3.2.2.2.1 o3.2.2.2.2 osz ogd oup odn o11.2 rsz lgd llf ldb ldy lsz lti pgd plf pun psz bgd bam bwt bsh brm bsz cab cbl tod imp dis owe itr)) C E (g_runV (As := []) (rest := []) C E (c_X5_measureDepths e12) (cwV 0 hts gX5_addNeed_X5_measureDepths rfl rfl rfl ⟨rfl, hd_X5_measureDepths⟩ ⟨Nat.le_of_ble_eq_true rfl, Nat.le_of_ble_eq_true rfl⟩) (q0 := 2) (ci := 5) rfl rfl rfl rfl hl.1 rfl (Nat.le_of_ble_eq_true rfl) dX5_addNeed_43 ⟨Nat.le_of_ble_eq_true rfl, Nat.le_of_ble_eq_true rfl⟩) (fun H locs E => ?_)
        refine lv_pop hx hb dX5_addNeed_46 rfl ?_
        refine lv_iconst (v := 0) hx hb dX5_addNeed_47 (by decide) ?_
        obtain rfl := Option.some.inj hf
        exact g_zret (r := 0) C E rfl dX5_addNeed_48
    · rw [if_pos c5] at hf
      refine lv_iconst (v := 0) hx hb dX5_addNeed_24 (by decide) ?_
      obtain rfl := Option.some.inj hf
      exact g_zret (r := 0) C E rfl dX5_addNeed_25
abbrev rm_X5_addByProduct : Room := { frames := 4, cells := 0, slots := 0, locals := 91 }
theorem hd_X5_addByProduct : yX5_addByProduct.cls ≠ "java/lang/invoke/MethodHandle" ∧ yX5_addByProduct.cls ≠ "java/lang/invoke/VarHandle" ∧ (parseMethodDescriptor yX5_addByProduct.desc).map (fun d => d.parameters.length) = some 4 := by decide +kernel
def f_X5_addByProduct (hs : Nat → Int32) (osz : Nat → Int32) (ogd : Nat → Int32) (oup : Nat → Int32) (odn : Nat → Int32) (x1 : Int32) (x2 : Int32) (x3 : Int32) (x4 : Int32) : Option (Int32 × (Nat → Int32) × (Nat → Int32) × (Nat → Int32) × (Nat → Int32)) :=
  ck x1 12 <|
  if (hs x1.toNatClampNeg) = 0 then
    some ((0 : Int32), osz, ogd, oup, odn)
  else
    (f_X3_add_o osz ogd oup odn x1 x2 x3 x4).bind fun o3 =>
    if o3.1 = 0 then
      some ((0 : Int32), o3.2.1, o3.2.2.1, o3.2.2.2.1, o3.2.2.2.2)
    else
      some ((1 : Int32), o3.2.1, o3.2.2.1, o3.2.2.2.1, o3.2.2.2.2)
set_option maxHeartbeats 4000000 in
set_option maxRecDepth 100000 in
theorem c_X5_addByProduct {l : Launch} {D : va_G} {cI cJ cZ : ClassId} {a : Nat → Nat} {sz : Nat} {vl : Nat → Int32} {hs : Nat → Int32} {isz : Nat → Int32} {igd : Nat → Int32} {iup : Nat → Int32} {idn : Nat → Int32} {osz : Nat → Int32} {ogd : Nat → Int32} {oup : Nat → Int32} {odn : Nat → Int32} {dep : Nat → Int32} {rsz : Int32} {lgd : Nat → Int32} {llf : Nat → Int64} {ldb : Nat → Int64} {ldy : Nat → Int32} {lsz : Int32} {lti : Int64} {pgd : Nat → Int32} {plf : Nat → Int64} {pun : Nat → Int32} {psz : Int32} {bgd : Nat → Int32} {bam : Nat → Int64} {bwt : Nat → Int64} {bsh : Nat → Int64} {brm : Nat → Int64} {bsz : Int32} {cab : Nat → Int64} {cbl : Nat → Int64} {tod : Int32} {imp : Int64} {dis : Int64} {owe : Int64} {itr : Int64} {x1 : Int32} {x2 : Int32} {x3 : Int32} {x4 : Int32} {o : Int32 × (Nat → Int32) × (Nat → Int32) × (Nat → Int32) × (Nat → Int32)} (hf : f_X5_addByProduct hs osz ogd oup odn x1 x2 x3 x4 = some o) : gMi l yX5_addByProduct wsX5_addByProduct rm_X5_addByProduct D (gT cI cJ cZ) (cW a cI cJ cZ vl hs isz igd iup idn osz ogd oup odn dep rsz lgd llf ldb ldy lsz lti pgd plf pun psz bgd bam bwt bsh brm bsz cab cbl tod imp dis owe itr) (cW a cI cJ cZ vl hs isz igd iup idn o.2.1 o.2.2.1 o.2.2.2.1 o.2.2.2.2 dep rsz lgd llf ldb ldy lsz lti pgd plf pun psz bgd bam bwt bsh brm bsz cab cbl tod imp dis owe itr) sz [.ref (a 2), .int x1, .int x2, .int x3, .int x4] o.1 := by
  refine g_of (cc := cX5_addByProduct) (maxL := 5) (ret := (some .boolean)) (by decide) rfl (Nat.le_of_ble_eq_true rfl) ?_
  intro p e s m below meth c A ls hAe C hl E
  rw [← hAe]
  obtain ⟨hx, hb, hr, hml, hown, hts, hlocks, hN, hA⟩ := id C
  have hl : lv_has ls 5 [(0, .ref (a 2)), (1, .int x1), (2, .int x2), (3, .int x3), (4, .int x4)] := hl
  have E : vE s A D (gT cI cJ cZ) (cW a cI cJ cZ vl hs isz igd iup idn osz ogd oup odn dep rsz lgd llf ldb ldy lsz lti pgd plf pun psz bgd bam bwt bsh brm bsz cab cbl tod imp dis owe itr) s.heap [] := E
  rw [f_X5_addByProduct] at hf
  refine lv_aload_n hx hb dX5_addByProduct_0 rfl (lv_at hl 0 rfl) ?_
  refine g_get C E 2 0 (fun _ h => List.mem_cons_of_mem _ (List.mem_append_left _ (List.mem_append_right _ h))) rfl rfl (by decide) (List.mem_of_getElem? (i := 1) rfl) rfl rfl dX5_addByProduct_1 ?_
  refine lv_iload_n hx hb dX5_addByProduct_4 rfl (lv_at hl 1 rfl) ?_
  obtain ⟨h1, hf⟩ := ck_some hf
  refine g_zald C E 3 rfl h1 dX5_addByProduct_5 ?_
  refine lv_if_eq (tgt := 28) hx hb dX5_addByProduct_6 (by decide) (fun c2 => ?_) (fun c2 => ?_)
  · rw [if_pos c2] at hf
    refine lv_iconst (v := 0) hx hb dX5_addByProduct_28 (by decide) ?_
    obtain rfl := Option.some.inj hf
    exact g_zret (r := 0) C E rfl dX5_addByProduct_29
  · rw [if_neg c2] at hf
    refine lv_aload_n hx hb dX5_addByProduct_9 rfl (lv_at hl 0 rfl) ?_
    refine g_get C E 2 2 (fun _ h => List.mem_cons_of_mem _ (List.mem_append_left _ (List.mem_append_right _ h))) rfl rfl (by decide) (List.mem_of_getElem? (i := 2) rfl) rfl rfl dX5_addByProduct_10 ?_
    refine lv_iload_n hx hb dX5_addByProduct_13 rfl (lv_at hl 1 rfl) ?_
    refine lv_iload_n hx hb dX5_addByProduct_14 rfl (lv_at hl 2 rfl) ?_
    refine lv_iload_n hx hb dX5_addByProduct_15 rfl (lv_at hl 3 rfl) ?_
    refine lv_iload hx hb dX5_addByProduct_16 (lv_at hl 4 rfl) ?_
    obtain ⟨o3, e4, hf⟩ := bd_some hf
    refine g_calli (w' := (cW a cI cJ cZ vl hs isz igd iup idn o3.2.1 o3.2.2.1 o3.2.2.2.1 o3.2.2.2.2 dep rsz lgd llf ldb ldy lsz lti pgd plf pun psz bgd bam bwt bsh brm bsz cab cbl tod imp dis owe itr)) C E (g_runV (As := [.int x1, .int x2, .int x3, .int x4]) (rest := []) C E (c_X3_add_o e4) (cwV 4 hts gX5_addByProduct_X3_add rfl rfl rfl ⟨rfl, hd_X3_add_o⟩ ⟨Nat.le_of_ble_eq_true rfl, Nat.le_of_ble_eq_true rfl⟩) (q0 := 9) (ci := 3) rfl rfl rfl rfl hl.1 rfl (Nat.le_of_ble_eq_true rfl) dX5_addByProduct_18 ⟨Nat.le_of_ble_eq_true rfl, Nat.le_of_ble_eq_true rfl⟩) (fun H locs E => ?_)
    refine lv_if_eq (tgt := 28) hx hb dX5_addByProduct_21 (by decide) (fun c5 => ?_) (fun c5 => ?_)
    · rw [if_pos c5] at hf
      refine lv_iconst (v := 0) hx hb dX5_addByProduct_28 (by decide) ?_
      obtain rfl := Option.some.inj hf
      exact g_zret (r := 0) C E rfl dX5_addByProduct_29
    · rw [if_neg c5] at hf
      refine lv_iconst (v := 1) hx hb dX5_addByProduct_24 (by decide) ?_
      refine lv_goto (tgt := 29) hx hb dX5_addByProduct_25 (by decide) ?_
      obtain rfl := Option.some.inj hf
      exact g_zret (r := 1) C E rfl dX5_addByProduct_29
end
section
abbrev rm_X2_free : Room := { frames := 0, cells := 0, slots := 0, locals := 0 }
theorem hd_X2_free : yX2_free.cls ≠ "java/lang/invoke/MethodHandle" ∧ yX2_free.cls ≠ "java/lang/invoke/VarHandle" ∧ (parseMethodDescriptor yX2_free.desc).map (fun d => d.parameters.length) = some 0 := by decide +kernel
def f_X2_free (lsz : Int32)  : Option (Int32) :=
  some (((200 : Int32) - lsz))
set_option maxHeartbeats 4000000 in
set_option maxRecDepth 100000 in
theorem c_X2_free {l : Launch} {D : va_G} {cI cJ cZ : ClassId} {a : Nat → Nat} {sz : Nat} {vl : Nat → Int32} {hs : Nat → Int32} {isz : Nat → Int32} {igd : Nat → Int32} {iup : Nat → Int32} {idn : Nat → Int32} {osz : Nat → Int32} {ogd : Nat → Int32} {oup : Nat → Int32} {odn : Nat → Int32} {dep : Nat → Int32} {rsz : Int32} {lgd : Nat → Int32} {llf : Nat → Int64} {ldb : Nat → Int64} {ldy : Nat → Int32} {lsz : Int32} {lti : Int64} {pgd : Nat → Int32} {plf : Nat → Int64} {pun : Nat → Int32} {psz : Int32} {bgd : Nat → Int32} {bam : Nat → Int64} {bwt : Nat → Int64} {bsh : Nat → Int64} {brm : Nat → Int64} {bsz : Int32} {cab : Nat → Int64} {cbl : Nat → Int64} {tod : Int32} {imp : Int64} {dis : Int64} {owe : Int64} {itr : Int64} {o : Int32} (hf : f_X2_free lsz = some o) : gMi l yX2_free wsX2_free rm_X2_free D (gT cI cJ cZ) (cW a cI cJ cZ vl hs isz igd iup idn osz ogd oup odn dep rsz lgd llf ldb ldy lsz lti pgd plf pun psz bgd bam bwt bsh brm bsz cab cbl tod imp dis owe itr) (cW a cI cJ cZ vl hs isz igd iup idn osz ogd oup odn dep rsz lgd llf ldb ldy lsz lti pgd plf pun psz bgd bam bwt bsh brm bsz cab cbl tod imp dis owe itr) sz [.ref (a 15)] o := by
  refine g_of (cc := cX2_free) (maxL := 1) (ret := (some .int)) (by decide) rfl (Nat.le_of_ble_eq_true rfl) ?_
  intro p e s m below meth c A ls hAe C hl E
  rw [← hAe]
  obtain ⟨hx, hb, hr, hml, hown, hts, hlocks, hN, hA⟩ := id C
  have hl : lv_has ls 1 [(0, .ref (a 15))] := hl
  have E : vE s A D (gT cI cJ cZ) (cW a cI cJ cZ vl hs isz igd iup idn osz ogd oup odn dep rsz lgd llf ldb ldy lsz lti pgd plf pun psz bgd bam bwt bsh brm bsz cab cbl tod imp dis owe itr) s.heap [] := E
  rw [f_X2_free] at hf
  refine lv_sipush (v := 200) hx hb dX2_free_0 (by decide) ?_
  refine lv_aload_n hx hb dX2_free_3 rfl (lv_at hl 0 rfl) ?_
  refine g_get C E 15 4 (fun _ h => List.mem_cons_of_mem _ (List.mem_append_right _ h)) rfl rfl (by decide) (List.mem_of_getElem? (i := 1) rfl) rfl rfl dX2_free_4 ?_
  refine lv_isub hx hb dX2_free_7 ?_
  obtain rfl := Option.some.inj hf
  exact g_iret C E dX2_free_8
abbrev rm_X2_add : Room := { frames := 0, cells := 0, slots := 0, locals := 0 }
theorem hd_X2_add : yX2_add.cls ≠ "java/lang/invoke/MethodHandle" ∧ yX2_add.cls ≠ "java/lang/invoke/VarHandle" ∧ (parseMethodDescriptor yX2_add.desc).map (fun d => d.parameters.length) = some 4 := by decide +kernel
def f_X2_add (lgd : Nat → Int32) (llf : Nat → Int64) (ldb : Nat → Int64) (ldy : Nat → Int32) (lsz : Int32) (x1 : Int32) (x2 : Int64) (x4 : Int64) (x6 : Int32) : Option (Int32 × (Nat → Int32) × (Nat → Int64) × (Nat → Int64) × (Nat → Int32) × (Int32)) :=
  if lsz < (200 : Int32) then
    ck lsz 200 <|
    ck lsz 200 <|
    ck lsz 200 <|
    ck lsz 200 <|
    some (((lsz + (1 : Int32)) - (1 : Int32)), (upd lgd lsz.toNatClampNeg x1), (vp_updL llf lsz.toNatClampNeg x2), (vp_updL ldb lsz.toNatClampNeg x4), (upd ldy lsz.toNatClampNeg x6), (lsz + (1 : Int32)))
  else
    some ((-1 : Int32), lgd, llf, ldb, ldy, lsz)
set_option maxHeartbeats 4000000 in
set_option maxRecDepth 100000 in
theorem c_X2_add {l : Launch} {D : va_G} {cI cJ cZ : ClassId} {a : Nat → Nat} {sz : Nat} {vl : Nat → Int32} {hs : Nat → Int32} {isz : Nat → Int32} {igd : Nat → Int32} {iup : Nat → Int32} {idn : Nat → Int32} {osz : Nat → Int32} {ogd : Nat → Int32} {oup : Nat → Int32} {odn : Nat → Int32} {dep : Nat → Int32} {rsz : Int32} {lgd : Nat → Int32} {llf : Nat → Int64} {ldb : Nat → Int64} {ldy : Nat → Int32} {lsz : Int32} {lti : Int64} {pgd : Nat → Int32} {plf : Nat → Int64} {pun : Nat → Int32} {psz : Int32} {bgd : Nat → Int32} {bam : Nat → Int64} {bwt : Nat → Int64} {bsh : Nat → Int64} {brm : Nat → Int64} {bsz : Int32} {cab : Nat → Int64} {cbl : Nat → Int64} {tod : Int32} {imp : Int64} {dis : Int64} {owe : Int64} {itr : Int64} {x1 : Int32} {x2 : Int64} {x4 : Int64} {x6 : Int32} {o : Int32 × (Nat → Int32) × (Nat → Int64) × (Nat → Int64) × (Nat → Int32) × (Int32)} (hf : f_X2_add lgd llf ldb ldy lsz x1 x2 x4 x6 = some o) : gMi l yX2_add wsX2_add rm_X2_add D (gT cI cJ cZ) (cW a cI cJ cZ vl hs isz igd iup idn osz ogd oup odn dep rsz lgd llf ldb ldy lsz lti pgd plf pun psz bgd bam bwt bsh brm bsz cab cbl tod imp dis owe itr) (cW a cI cJ cZ vl hs isz igd iup idn osz ogd oup odn dep rsz o.2.1 o.2.2.1 o.2.2.2.1 o.2.2.2.2.1 o.2.2.2.2.2 lti pgd plf pun psz bgd bam bwt bsh brm bsz cab cbl tod imp dis owe itr) sz [.ref (a 15), .int x1, .long x2, .long x4, .int x6] o.1 := by
  refine g_of (cc := cX2_add) (maxL := 7) (ret := (some .int)) (by decide) rfl (Nat.le_of_ble_eq_true rfl) ?_
  intro p e s m below meth c A ls hAe C hl E
  rw [← hAe]
  obtain ⟨hx, hb, hr, hml, hown, hts, hlocks, hN, hA⟩ := id C
  have hl : lv_has ls 7 [(0, .ref (a 15)), (1, .int x1), (2, .long x2), (4, .long x4), (6, .int x6)] := hl
  have E : vE s A D (gT cI cJ cZ) (cW a cI cJ cZ vl hs isz igd iup idn osz ogd oup odn dep rsz lgd llf ldb ldy lsz lti pgd plf pun psz bgd bam bwt bsh brm bsz cab cbl tod imp dis owe itr) s.heap [] := E
  rw [f_X2_add] at hf
  refine lv_aload_n hx hb dX2_add_0 rfl (lv_at hl 0 rfl) ?_
  refine g_get C E 15 4 (fun _ h => List.mem_cons_of_mem _ (List.mem_append_right _ h)) rfl rfl (by decide) (List.mem_of_getElem? (i := 1) rfl) rfl rfl dX2_add_1 ?_
  refine lv_sipush (v := 200) hx hb dX2_add_4 (by decide) ?_
  refine lv_icmp_lt (tgt := 12) hx hb dX2_add_7 (by decide) (fun c1 => ?_) (fun c1 => ?_)
  · rw [if_pos c1] at hf
    refine lv_aload_n hx hb dX2_add_12 rfl (lv_at hl 0 rfl) ?_
    refine g_get C E 15 0 (fun _ h => List.mem_cons_of_mem _ (List.mem_append_right _ h)) rfl rfl (by decide) (List.mem_of_getElem? (i := 2) rfl) rfl rfl dX2_add_13 ?_
    refine lv_aload_n hx hb dX2_add_16 rfl (lv_at hl 0 rfl) ?_
    refine g_get C E 15 4 (fun _ h => List.mem_cons_of_mem _ (List.mem_append_right _ h)) rfl rfl (by decide) (List.mem_of_getElem? (i := 1) rfl) rfl rfl dX2_add_17 ?_
    refine lv_iload_n hx hb dX2_add_20 rfl (lv_at hl 1 rfl) ?_
    obtain ⟨h2, hf⟩ := ck_some hf
    refine g_iast (w' := (cW a cI cJ cZ vl hs isz igd iup idn osz ogd oup odn dep rsz (upd lgd lsz.toNatClampNeg x1) llf ldb ldy lsz lti pgd plf pun psz bgd bam bwt bsh brm bsz cab cbl tod imp dis owe itr)) C E 16 rfl h2 dX2_add_21 rfl (fun H locs E => ?_)
    refine lv_aload_n hx hb dX2_add_22 rfl (lv_at hl 0 rfl) ?_
    refine g_get C E 15 1 (fun _ h => List.mem_cons_of_mem _ (List.mem_append_right _ h)) rfl rfl (by decide) (List.mem_of_getElem? (i := 3) rfl) rfl rfl dX2_add_23 ?_
    refine lv_aload_n hx hb dX2_add_26 rfl (lv_at hl 0 rfl) ?_
    refine g_get C E 15 4 (fun _ h => List.mem_cons_of_mem _ (List.mem_append_right _ h)) rfl rfl (by decide) (List.mem_of_getElem? (i := 1) rfl) rfl rfl dX2_add_27 ?_
    refine lv_lload_n hx hb dX2_add_30 rfl (lv_at hl 2 rfl) ?_
    obtain ⟨h3, hf⟩ := ck_some hf
    refine g_last (w' := (cW a cI cJ cZ vl hs isz igd iup idn osz ogd oup odn dep rsz (upd lgd lsz.toNatClampNeg x1) (vp_updL llf lsz.toNatClampNeg x2) ldb ldy lsz lti pgd plf pun psz bgd bam bwt bsh brm bsz cab cbl tod imp dis owe itr)) C E 17 rfl h3 dX2_add_31 rfl (fun H locs E => ?_)
    refine lv_aload_n hx hb dX2_add_32 rfl (lv_at hl 0 rfl) ?_
    refine g_get C E 15 2 (fun _ h => List.mem_cons_of_mem _ (List.mem_append_right _ h)) rfl rfl (by decide) (List.mem_of_getElem? (i := 4) rfl) rfl rfl dX2_add_33 ?_
    refine lv_aload_n hx hb dX2_add_36 rfl (lv_at hl 0 rfl) ?_
    refine g_get C E 15 4 (fun _ h => List.mem_cons_of_mem _ (List.mem_append_right _ h)) rfl rfl (by decide) (List.mem_of_getElem? (i := 1) rfl) rfl rfl dX2_add_37 ?_
    refine lv_lload hx hb dX2_add_40 (lv_at hl 3 rfl) ?_
    obtain ⟨h4, hf⟩ := ck_some hf
    refine g_last (w' := (cW a cI cJ cZ vl hs isz igd iup idn osz ogd oup odn dep rsz (upd lgd lsz.toNatClampNeg x1) (vp_updL llf lsz.toNatClampNeg x2) (vp_updL ldb lsz.toNatClampNeg x4) ldy lsz lti pgd plf pun psz bgd bam bwt bsh brm bsz cab cbl tod imp dis owe itr)) C E 18 rfl h4 dX2_add_42 rfl (fun H locs E => ?_)
    refine lv_aload_n hx hb dX2_add_43 rfl (lv_at hl 0 rfl) ?_
    refine g_get C E 15 3 (fun _ h => List.mem_cons_of_mem _ (List.mem_append_right _ h)) rfl rfl (by decide) (List.mem_of_getElem? (i := 5) rfl) rfl rfl dX2_add_44 ?_
    refine lv_aload_n hx hb dX2_add_47 rfl (lv_at hl 0 rfl) ?_
    refine g_get C E 15 4 (fun _ h => List.mem_cons_of_mem _ (List.mem_append_right _ h)) rfl rfl (by decide) (List.mem_of_getElem? (i := 1) rfl) rfl rfl dX2_add_48 ?_
    refine lv_iload hx hb dX2_add_51 (lv_at hl 4 rfl) ?_
    obtain ⟨h5, hf⟩ := ck_some hf
    refine g_iast (w' := (cW a cI cJ cZ vl hs isz igd iup idn osz ogd oup odn dep rsz (upd lgd lsz.toNatClampNeg x1) (vp_updL llf lsz.toNatClampNeg x2) (vp_updL ldb lsz.toNatClampNeg x4) (upd ldy lsz.toNatClampNeg x6) lsz lti pgd plf pun psz bgd bam bwt bsh brm bsz cab cbl tod imp dis owe itr)) C E 19 rfl h5 dX2_add_53 rfl (fun H locs E => ?_)
    refine lv_aload_n hx hb dX2_add_54 rfl (lv_at hl 0 rfl) ?_
    refine lv_dup hx hb dX2_add_55 rfl ?_
    refine g_get C E 15 4 (fun _ h => List.mem_cons_of_mem _ (List.mem_append_right _ h)) rfl rfl (by decide) (List.mem_of_getElem? (i := 1) rfl) rfl rfl dX2_add_56 ?_
    refine lv_iconst (v := 1) hx hb dX2_add_59 (by decide) ?_
    refine lv_iadd hx hb dX2_add_60 ?_
    refine g_put (w' := (cW a cI cJ cZ vl hs isz igd iup idn osz ogd oup odn dep rsz (upd lgd lsz.toNatClampNeg x1) (vp_updL llf lsz.toNatClampNeg x2) (vp_updL ldb lsz.toNatClampNeg x4) (upd ldy lsz.toNatClampNeg x6) (lsz + (1 : Int32)) lti pgd plf pun psz bgd bam bwt bsh brm bsz cab cbl tod imp dis owe itr)) C E 15 4 tyX2 tyX2_ok nmX2 (fun _ h => List.mem_cons_of_mem _ (List.mem_append_right _ h)) rfl rfl (by decide) (List.mem_of_getElem? (i := 1) rfl) rfl rfl rfl rfl rfl (Nat.le_of_ble_eq_true rfl) dX2_add_61 rfl (fun H locs E => ?_)
    refine lv_aload_n hx hb dX2_add_64 rfl (lv_at hl 0 rfl) ?_
    refine g_get C E 15 4 (fun _ h => List.mem_cons_of_mem _ (List.mem_append_right _ h)) rfl rfl (by decide) (List.mem_of_getElem? (i := 1) rfl) rfl rfl dX2_add_65 ?_
    refine lv_iconst (v := 1) hx hb dX2_add_68 (by decide) ?_
    refine lv_isub hx hb dX2_add_69 ?_
    obtain rfl := Option.some.inj hf
    exact g_iret C E dX2_add_70
  · rw [if_neg c1] at hf
    refine lv_iconst (v := -1) hx hb dX2_add_10 (by decide) ?_
    obtain rfl := Option.some.inj hf
    exact g_iret C E dX2_add_11
abbrev rm_X2_stockOf : Room := { frames := 0, cells := 0, slots := 0, locals := 0 }
theorem hd_X2_stockOf : yX2_stockOf.cls ≠ "java/lang/invoke/MethodHandle" ∧ yX2_stockOf.cls ≠ "java/lang/invoke/VarHandle" ∧ (parseMethodDescriptor yX2_stockOf.desc).map (fun d => d.parameters.length) = some 1 := by decide +kernel
def f_X2_stockOf_L5 (lgd : Nat → Int32) (llf : Nat → Int64) (lsz : Int32) (x1 : Int32) : Nat → Int64 → Int32 → Option (Int64)
  | 0, _, _ => none
  | n + 1, x2, x4 =>
  if lsz ≤ x4 then
    some (x2)
  else
    ck x4 200 <|
    if (lgd x4.toNatClampNeg) = x1 then
      ck x4 200 <|
      f_X2_stockOf_L5 lgd llf lsz x1 n (x2 + (llf x4.toNatClampNeg)) (x4 + 1)
    else
      f_X2_stockOf_L5 lgd llf lsz x1 n (x2 + (0 : Int64)) (x4 + 1)
set_option maxHeartbeats 4000000 in
set_option maxRecDepth 100000 in
theorem w_X2_stockOf_L5 {p : Program} {l : Launch} {e : Env} {s : State} {m : MethodId} {args : Array Value} {below : List Frame} {meth : Method} {c : Code} {A : Nat → Prop} {D : va_G} {cI cJ cZ : ClassId} {a : Nat → Nat} {vl : Nat → Int32} {hs : Nat → Int32} {isz : Nat → Int32} {igd : Nat → Int32} {iup : Nat → Int32} {idn : Nat → Int32} {osz : Nat → Int32} {ogd : Nat → Int32} {oup : Nat → Int32} {odn : Nat → Int32} {dep : Nat → Int32} {rsz : Int32} {lgd : Nat → Int32} {llf : Nat → Int64} {ldb : Nat → Int64} {ldy : Nat → Int32} {lsz : Int32} {lti : Int64} {pgd : Nat → Int32} {plf : Nat → Int64} {pun : Nat → Int32} {psz : Int32} {bgd : Nat → Int32} {bam : Nat → Int64} {bwt : Nat → Int64} {bsh : Nat → Int64} {brm : Nat → Int64} {bsz : Int32} {cab : Nat → Int64} {cbl : Nat → Int64} {tod : Int32} {imp : Int64} {dis : Int64} {owe : Int64} {itr : Int64} (C : gC p s m args meth c cX2_stockOf 5 (some .long) wsX2_stockOf RX2 A) {x1 : Int32} {o : Int64} :
    ∀ (n : Nat) (x2 : Int64) (x4 : Int32) (H : Heap) (locs : List Loc) (ls : Array Slot), vE s A D (gT cI cJ cZ) (cW a cI cJ cZ vl hs isz igd iup idn osz ogd oup odn dep rsz lgd llf ldb ldy lsz lti pgd plf pun psz bgd bam bwt bsh brm bsz cab cbl tod imp dis owe itr) H locs → lv_has ls 5 [(0, .ref (a 15)), (1, .int x1), (2, .long x2), (4, .int x4)] → f_X2_stockOf_L5 lgd llf lsz x1 n x2 x4 = some o → W p l e rm_X2_stockOf s m args below meth c H locs 0 0 (MQ below (gQl D (gT cI cJ cZ) A (cW a cI cJ cZ vl hs isz igd iup idn osz ogd oup odn dep rsz lgd llf ldb ldy lsz lti pgd plf pun psz bgd bam bwt bsh brm bsz cab cbl tod imp dis owe itr) o) args s 0 0 A) (F0 m 5 ls []) := by
  obtain ⟨hx, hb, hr, hml, hown, hts, hlocks, hN, hA⟩ := id C
  intro n
  induction n with
  | zero =>
    intro x2 x4 H locs ls E hl hf
    rw [f_X2_stockOf_L5] at hf
    cases hf
  | succ n ih =>
    intro x2 x4 H locs ls E hl hf
    rw [f_X2_stockOf_L5] at hf
    refine lv_iload hx hb dX2_stockOf_5 (lv_at hl 3 rfl) ?_
    refine lv_aload_n hx hb dX2_stockOf_7 rfl (lv_at hl 0 rfl) ?_
    refine g_get C E 15 4 (fun _ h => List.mem_cons_of_mem _ (List.mem_append_right _ h)) rfl rfl (by decide) (List.mem_of_getElem? (i := 1) rfl) rfl rfl dX2_stockOf_8 ?_
    refine lv_icmp_ge (tgt := 45) hx hb dX2_stockOf_11 (by decide) (fun c1 => ?_) (fun c1 => ?_)
    · rw [if_pos c1] at hf
      refine lv_lload_n hx hb dX2_stockOf_45 rfl (lv_at hl 2 rfl) ?_
      obtain rfl := Option.some.inj hf
      exact g_lret C E dX2_stockOf_46
    · rw [if_neg c1] at hf
      refine lv_lload_n hx hb dX2_stockOf_14 rfl (lv_at hl 2 rfl) ?_
      refine lv_aload_n hx hb dX2_stockOf_15 rfl (lv_at hl 0 rfl) ?_
      refine g_get C E 15 0 (fun _ h => List.mem_cons_of_mem _ (List.mem_append_right _ h)) rfl rfl (by decide) (List.mem_of_getElem? (i := 2) rfl) rfl rfl dX2_stockOf_16 ?_
      refine lv_iload hx hb dX2_stockOf_19 (lv_at hl 3 rfl) ?_
      obtain ⟨h2, hf⟩ := ck_some hf
      refine g_iald C E 16 rfl h2 dX2_stockOf_21 ?_
      refine lv_iload_n hx hb dX2_stockOf_22 rfl (lv_at hl 1 rfl) ?_
      refine lv_icmp_ne (tgt := 36) hx hb dX2_stockOf_23 (by decide) (fun c3 => ?_) (fun c3 => ?_)
      · rw [if_neg c3] at hf
        refine lv_lconst (v := 0) hx hb dX2_stockOf_36 (by decide) ?_
        refine lv_ladd hx hb dX2_stockOf_37 ?_
        refine lv_lstore_n (lv' := [(2, .long (x2 + (0 : Int64))), (0, .ref (a 15)), (1, .int x1), (4, .int x4)]) hx hb dX2_stockOf_38 rfl hl (by decide) rfl (fun ls hl => ?_)
        refine lv_iinc (v := (x4 + 1)) (lv' := [(4, .int (x4 + 1)), (2, .long (x2 + (0 : Int64))), (0, .ref (a 15)), (1, .int x1)]) hx hb dX2_stockOf_39 hl (k := 3) rfl rfl (by decide) rfl (fun ls hl => ?_)
        refine lv_goto (tgt := 5) hx hb dX2_stockOf_42 (by decide) ?_
        exact ih (x2 + (0 : Int64)) (x4 + 1) _ _ _ E (lv_sub hl [2, 3, 1, 0] rfl) hf
      · rw [if_pos c3] at hf
        refine lv_aload_n hx hb dX2_stockOf_26 rfl (lv_at hl 0 rfl) ?_
        refine g_get C E 15 1 (fun _ h => List.mem_cons_of_mem _ (List.mem_append_right _ h)) rfl rfl (by decide) (List.mem_of_getElem? (i := 3) rfl) rfl rfl dX2_stockOf_27 ?_
        refine lv_iload hx hb dX2_stockOf_30 (lv_at hl 3 rfl) ?_
        obtain ⟨h4, hf⟩ := ck_some hf
        refine g_lald C E 17 rfl h4 dX2_stockOf_32 ?_
        refine lv_goto (tgt := 37) hx hb dX2_stockOf_33 (by decide) ?_
        refine lv_ladd hx hb dX2_stockOf_37 ?_
        refine lv_lstore_n (lv' := [(2, .long (x2 + (llf x4.toNatClampNeg))), (0, .ref (a 15)), (1, .int x1), (4, .int x4)]) hx hb dX2_stockOf_38 rfl hl (by decide) rfl (fun ls hl => ?_)
        refine lv_iinc (v := (x4 + 1)) (lv' := [(4, .int (x4 + 1)), (2, .long (x2 + (llf x4.toNatClampNeg))), (0, .ref (a 15)), (1, .int x1)]) hx hb dX2_stockOf_39 hl (k := 3) rfl rfl (by decide) rfl (fun ls hl => ?_)
        refine lv_goto (tgt := 5) hx hb dX2_stockOf_42 (by decide) ?_
        exact ih (x2 + (llf x4.toNatClampNeg)) (x4 + 1) _ _ _ E (lv_sub hl [2, 3, 1, 0] rfl) hf
def f_X2_stockOf (lgd : Nat → Int32) (llf : Nat → Int64) (lsz : Int32) (x1 : Int32) : Option (Int64) :=
  f_X2_stockOf_L5 lgd llf lsz x1 FU (0 : Int64) (0 : Int32)
set_option maxHeartbeats 4000000 in
set_option maxRecDepth 100000 in
theorem c_X2_stockOf {l : Launch} {D : va_G} {cI cJ cZ : ClassId} {a : Nat → Nat} {sz : Nat} {vl : Nat → Int32} {hs : Nat → Int32} {isz : Nat → Int32} {igd : Nat → Int32} {iup : Nat → Int32} {idn : Nat → Int32} {osz : Nat → Int32} {ogd : Nat → Int32} {oup : Nat → Int32} {odn : Nat → Int32} {dep : Nat → Int32} {rsz : Int32} {lgd : Nat → Int32} {llf : Nat → Int64} {ldb : Nat → Int64} {ldy : Nat → Int32} {lsz : Int32} {lti : Int64} {pgd : Nat → Int32} {plf : Nat → Int64} {pun : Nat → Int32} {psz : Int32} {bgd : Nat → Int32} {bam : Nat → Int64} {bwt : Nat → Int64} {bsh : Nat → Int64} {brm : Nat → Int64} {bsz : Int32} {cab : Nat → Int64} {cbl : Nat → Int64} {tod : Int32} {imp : Int64} {dis : Int64} {owe : Int64} {itr : Int64} {x1 : Int32} {o : Int64} (hf : f_X2_stockOf lgd llf lsz x1 = some o) : gMl l yX2_stockOf wsX2_stockOf rm_X2_stockOf D (gT cI cJ cZ) (cW a cI cJ cZ vl hs isz igd iup idn osz ogd oup odn dep rsz lgd llf ldb ldy lsz lti pgd plf pun psz bgd bam bwt bsh brm bsz cab cbl tod imp dis owe itr) (cW a cI cJ cZ vl hs isz igd iup idn osz ogd oup odn dep rsz lgd llf ldb ldy lsz lti pgd plf pun psz bgd bam bwt bsh brm bsz cab cbl tod imp dis owe itr) sz [.ref (a 15), .int x1] o := by
  refine g_of (cc := cX2_stockOf) (maxL := 5) (ret := (some .long)) (by decide) rfl (Nat.le_of_ble_eq_true rfl) ?_
  intro p e s m below meth c A ls hAe C hl E
  rw [← hAe]
  obtain ⟨hx, hb, hr, hml, hown, hts, hlocks, hN, hA⟩ := id C
  have hl : lv_has ls 5 [(0, .ref (a 15)), (1, .int x1)] := hl
  have E : vE s A D (gT cI cJ cZ) (cW a cI cJ cZ vl hs isz igd iup idn osz ogd oup odn dep rsz lgd llf ldb ldy lsz lti pgd plf pun psz bgd bam bwt bsh brm bsz cab cbl tod imp dis owe itr) s.heap [] := E
  rw [f_X2_stockOf] at hf
  refine lv_lconst (v := 0) hx hb dX2_stockOf_0 (by decide) ?_
  refine lv_lstore_n (lv' := [(2, .long (0 : Int64)), (0, .ref (a 15)), (1, .int x1)]) hx hb dX2_stockOf_1 rfl hl (by decide) rfl (fun ls hl => ?_)
  refine lv_iconst (v := 0) hx hb dX2_stockOf_2 (by decide) ?_
  refine lv_istore (lv' := [(4, .int (0 : Int32)), (2, .long (0 : Int64)), (0, .ref (a 15)), (1, .int x1)]) hx hb dX2_stockOf_3 hl (by decide) rfl (fun ls hl => ?_)
  exact w_X2_stockOf_L5 C  FU (0 : Int64) (0 : Int32) _ _ _ E (lv_sub hl [2, 3, 1, 0] rfl) hf
abbrev rm_X2_debtOf : Room := { frames := 0, cells := 0, slots := 0, locals := 0 }
theorem hd_X2_debtOf : yX2_debtOf.cls ≠ "java/lang/invoke/MethodHandle" ∧ yX2_debtOf.cls ≠ "java/lang/invoke/VarHandle" ∧ (parseMethodDescriptor yX2_debtOf.desc).map (fun d => d.parameters.length) = some 1 := by decide +kernel
def f_X2_debtOf_L5 (lgd : Nat → Int32) (ldb : Nat → Int64) (lsz : Int32) (x1 : Int32) : Nat → Int64 → Int32 → Option (Int64)
  | 0, _, _ => none
  | n + 1, x2, x4 =>
  if lsz ≤ x4 then
    some (x2)
  else
    ck x4 200 <|
    if (lgd x4.toNatClampNeg) = x1 then
      ck x4 200 <|
      f_X2_debtOf_L5 lgd ldb lsz x1 n (x2 + (ldb x4.toNatClampNeg)) (x4 + 1)
    else
      f_X2_debtOf_L5 lgd ldb lsz x1 n (x2 + (0 : Int64)) (x4 + 1)
set_option maxHeartbeats 4000000 in
set_option maxRecDepth 100000 in
theorem w_X2_debtOf_L5 {p : Program} {l : Launch} {e : Env} {s : State} {m : MethodId} {args : Array Value} {below : List Frame} {meth : Method} {c : Code} {A : Nat → Prop} {D : va_G} {cI cJ cZ : ClassId} {a : Nat → Nat} {vl : Nat → Int32} {hs : Nat → Int32} {isz : Nat → Int32} {igd : Nat → Int32} {iup : Nat → Int32} {idn : Nat → Int32} {osz : Nat → Int32} {ogd : Nat → Int32} {oup : Nat → Int32} {odn : Nat → Int32} {dep : Nat → Int32} {rsz : Int32} {lgd : Nat → Int32} {llf : Nat → Int64} {ldb : Nat → Int64} {ldy : Nat → Int32} {lsz : Int32} {lti : Int64} {pgd : Nat → Int32} {plf : Nat → Int64} {pun : Nat → Int32} {psz : Int32} {bgd : Nat → Int32} {bam : Nat → Int64} {bwt : Nat → Int64} {bsh : Nat → Int64} {brm : Nat → Int64} {bsz : Int32} {cab : Nat → Int64} {cbl : Nat → Int64} {tod : Int32} {imp : Int64} {dis : Int64} {owe : Int64} {itr : Int64} (C : gC p s m args meth c cX2_debtOf 5 (some .long) wsX2_debtOf RX2 A) {x1 : Int32} {o : Int64} :
    ∀ (n : Nat) (x2 : Int64) (x4 : Int32) (H : Heap) (locs : List Loc) (ls : Array Slot), vE s A D (gT cI cJ cZ) (cW a cI cJ cZ vl hs isz igd iup idn osz ogd oup odn dep rsz lgd llf ldb ldy lsz lti pgd plf pun psz bgd bam bwt bsh brm bsz cab cbl tod imp dis owe itr) H locs → lv_has ls 5 [(0, .ref (a 15)), (1, .int x1), (2, .long x2), (4, .int x4)] → f_X2_debtOf_L5 lgd ldb lsz x1 n x2 x4 = some o → W p l e rm_X2_debtOf s m args below meth c H locs 0 0 (MQ below (gQl D (gT cI cJ cZ) A (cW a cI cJ cZ vl hs isz igd iup idn osz ogd oup odn dep rsz lgd llf ldb ldy lsz lti pgd plf pun psz bgd bam bwt bsh brm bsz cab cbl tod imp dis owe itr) o) args s 0 0 A) (F0 m 5 ls []) := by
  obtain ⟨hx, hb, hr, hml, hown, hts, hlocks, hN, hA⟩ := id C
  intro n
  induction n with
  | zero =>
    intro x2 x4 H locs ls E hl hf
    rw [f_X2_debtOf_L5] at hf
    cases hf
  | succ n ih =>
    intro x2 x4 H locs ls E hl hf
    rw [f_X2_debtOf_L5] at hf
    refine lv_iload hx hb dX2_debtOf_5 (lv_at hl 3 rfl) ?_
    refine lv_aload_n hx hb dX2_debtOf_7 rfl (lv_at hl 0 rfl) ?_
    refine g_get C E 15 4 (fun _ h => List.mem_cons_of_mem _ (List.mem_append_right _ h)) rfl rfl (by decide) (List.mem_of_getElem? (i := 1) rfl) rfl rfl dX2_debtOf_8 ?_
    refine lv_icmp_ge (tgt := 45) hx hb dX2_debtOf_11 (by decide) (fun c1 => ?_) (fun c1 => ?_)
    · rw [if_pos c1] at hf
      refine lv_lload_n hx hb dX2_debtOf_45 rfl (lv_at hl 2 rfl) ?_
      obtain rfl := Option.some.inj hf
      exact g_lret C E dX2_debtOf_46
    · rw [if_neg c1] at hf
      refine lv_lload_n hx hb dX2_debtOf_14 rfl (lv_at hl 2 rfl) ?_
      refine lv_aload_n hx hb dX2_debtOf_15 rfl (lv_at hl 0 rfl) ?_
      refine g_get C E 15 0 (fun _ h => List.mem_cons_of_mem _ (List.mem_append_right _ h)) rfl rfl (by decide) (List.mem_of_getElem? (i := 2) rfl) rfl rfl dX2_debtOf_16 ?_
      refine lv_iload hx hb dX2_debtOf_19 (lv_at hl 3 rfl) ?_
      obtain ⟨h2, hf⟩ := ck_some hf
      refine g_iald C E 16 rfl h2 dX2_debtOf_21 ?_
      refine lv_iload_n hx hb dX2_debtOf_22 rfl (lv_at hl 1 rfl) ?_
      refine lv_icmp_ne (tgt := 36) hx hb dX2_debtOf_23 (by decide) (fun c3 => ?_) (fun c3 => ?_)
      · rw [if_neg c3] at hf
        refine lv_lconst (v := 0) hx hb dX2_debtOf_36 (by decide) ?_
        refine lv_ladd hx hb dX2_debtOf_37 ?_
        refine lv_lstore_n (lv' := [(2, .long (x2 + (0 : Int64))), (0, .ref (a 15)), (1, .int x1), (4, .int x4)]) hx hb dX2_debtOf_38 rfl hl (by decide) rfl (fun ls hl => ?_)
        refine lv_iinc (v := (x4 + 1)) (lv' := [(4, .int (x4 + 1)), (2, .long (x2 + (0 : Int64))), (0, .ref (a 15)), (1, .int x1)]) hx hb dX2_debtOf_39 hl (k := 3) rfl rfl (by decide) rfl (fun ls hl => ?_)
        refine lv_goto (tgt := 5) hx hb dX2_debtOf_42 (by decide) ?_
        exact ih (x2 + (0 : Int64)) (x4 + 1) _ _ _ E (lv_sub hl [2, 3, 1, 0] rfl) hf
      · rw [if_pos c3] at hf
        refine lv_aload_n hx hb dX2_debtOf_26 rfl (lv_at hl 0 rfl) ?_
        refine g_get C E 15 2 (fun _ h => List.mem_cons_of_mem _ (List.mem_append_right _ h)) rfl rfl (by decide) (List.mem_of_getElem? (i := 3) rfl) rfl rfl dX2_debtOf_27 ?_
        refine lv_iload hx hb dX2_debtOf_30 (lv_at hl 3 rfl) ?_
        obtain ⟨h4, hf⟩ := ck_some hf
        refine g_lald C E 18 rfl h4 dX2_debtOf_32 ?_
        refine lv_goto (tgt := 37) hx hb dX2_debtOf_33 (by decide) ?_
        refine lv_ladd hx hb dX2_debtOf_37 ?_
        refine lv_lstore_n (lv' := [(2, .long (x2 + (ldb x4.toNatClampNeg))), (0, .ref (a 15)), (1, .int x1), (4, .int x4)]) hx hb dX2_debtOf_38 rfl hl (by decide) rfl (fun ls hl => ?_)
        refine lv_iinc (v := (x4 + 1)) (lv' := [(4, .int (x4 + 1)), (2, .long (x2 + (ldb x4.toNatClampNeg))), (0, .ref (a 15)), (1, .int x1)]) hx hb dX2_debtOf_39 hl (k := 3) rfl rfl (by decide) rfl (fun ls hl => ?_)
        refine lv_goto (tgt := 5) hx hb dX2_debtOf_42 (by decide) ?_
        exact ih (x2 + (ldb x4.toNatClampNeg)) (x4 + 1) _ _ _ E (lv_sub hl [2, 3, 1, 0] rfl) hf
def f_X2_debtOf (lgd : Nat → Int32) (ldb : Nat → Int64) (lsz : Int32) (x1 : Int32) : Option (Int64) :=
  f_X2_debtOf_L5 lgd ldb lsz x1 FU (0 : Int64) (0 : Int32)
set_option maxHeartbeats 4000000 in
set_option maxRecDepth 100000 in
theorem c_X2_debtOf {l : Launch} {D : va_G} {cI cJ cZ : ClassId} {a : Nat → Nat} {sz : Nat} {vl : Nat → Int32} {hs : Nat → Int32} {isz : Nat → Int32} {igd : Nat → Int32} {iup : Nat → Int32} {idn : Nat → Int32} {osz : Nat → Int32} {ogd : Nat → Int32} {oup : Nat → Int32} {odn : Nat → Int32} {dep : Nat → Int32} {rsz : Int32} {lgd : Nat → Int32} {llf : Nat → Int64} {ldb : Nat → Int64} {ldy : Nat → Int32} {lsz : Int32} {lti : Int64} {pgd : Nat → Int32} {plf : Nat → Int64} {pun : Nat → Int32} {psz : Int32} {bgd : Nat → Int32} {bam : Nat → Int64} {bwt : Nat → Int64} {bsh : Nat → Int64} {brm : Nat → Int64} {bsz : Int32} {cab : Nat → Int64} {cbl : Nat → Int64} {tod : Int32} {imp : Int64} {dis : Int64} {owe : Int64} {itr : Int64} {x1 : Int32} {o : Int64} (hf : f_X2_debtOf lgd ldb lsz x1 = some o) : gMl l yX2_debtOf wsX2_debtOf rm_X2_debtOf D (gT cI cJ cZ) (cW a cI cJ cZ vl hs isz igd iup idn osz ogd oup odn dep rsz lgd llf ldb ldy lsz lti pgd plf pun psz bgd bam bwt bsh brm bsz cab cbl tod imp dis owe itr) (cW a cI cJ cZ vl hs isz igd iup idn osz ogd oup odn dep rsz lgd llf ldb ldy lsz lti pgd plf pun psz bgd bam bwt bsh brm bsz cab cbl tod imp dis owe itr) sz [.ref (a 15), .int x1] o := by
  refine g_of (cc := cX2_debtOf) (maxL := 5) (ret := (some .long)) (by decide) rfl (Nat.le_of_ble_eq_true rfl) ?_
  intro p e s m below meth c A ls hAe C hl E
  rw [← hAe]
  obtain ⟨hx, hb, hr, hml, hown, hts, hlocks, hN, hA⟩ := id C
  have hl : lv_has ls 5 [(0, .ref (a 15)), (1, .int x1)] := hl
  have E : vE s A D (gT cI cJ cZ) (cW a cI cJ cZ vl hs isz igd iup idn osz ogd oup odn dep rsz lgd llf ldb ldy lsz lti pgd plf pun psz bgd bam bwt bsh brm bsz cab cbl tod imp dis owe itr) s.heap [] := E
  rw [f_X2_debtOf] at hf
  refine lv_lconst (v := 0) hx hb dX2_debtOf_0 (by decide) ?_
  refine lv_lstore_n (lv' := [(2, .long (0 : Int64)), (0, .ref (a 15)), (1, .int x1)]) hx hb dX2_debtOf_1 rfl hl (by decide) rfl (fun ls hl => ?_)
  refine lv_iconst (v := 0) hx hb dX2_debtOf_2 (by decide) ?_
  refine lv_istore (lv' := [(4, .int (0 : Int32)), (2, .long (0 : Int64)), (0, .ref (a 15)), (1, .int x1)]) hx hb dX2_debtOf_3 hl (by decide) rfl (fun ls hl => ?_)
  exact w_X2_debtOf_L5 C  FU (0 : Int64) (0 : Int32) _ _ _ E (lv_sub hl [2, 3, 1, 0] rfl) hf
abbrev rm_X2_openOf : Room := { frames := 0, cells := 0, slots := 0, locals := 0 }
theorem hd_X2_openOf : yX2_openOf.cls ≠ "java/lang/invoke/MethodHandle" ∧ yX2_openOf.cls ≠ "java/lang/invoke/VarHandle" ∧ (parseMethodDescriptor yX2_openOf.desc).map (fun d => d.parameters.length) = some 1 := by decide +kernel
def f_X2_openOf_L4 (lgd : Nat → Int32) (llf : Nat → Int64) (lsz : Int32) (x1 : Int32) : Nat → Int32 → Int32 → Option (Int32)
  | 0, _, _ => none
  | n + 1, x2, x3 =>
  if lsz ≤ x3 then
    some (x2)
  else
    ck x3 200 <|
    if (lgd x3.toNatClampNeg) = x1 then
      ck x3 200 <|
      if (lg_cmp (llf x3.toNatClampNeg) (0 : Int64)) ≤ 0 then
        f_X2_openOf_L4 lgd llf lsz x1 n (x2 + (0 : Int32)) (x3 + 1)
      else
        f_X2_openOf_L4 lgd llf lsz x1 n (x2 + (1 : Int32)) (x3 + 1)
    else
      f_X2_openOf_L4 lgd llf lsz x1 n (x2 + (0 : Int32)) (x3 + 1)
set_option maxHeartbeats 4000000 in
set_option maxRecDepth 100000 in
theorem w_X2_openOf_L4 {p : Program} {l : Launch} {e : Env} {s : State} {m : MethodId} {args : Array Value} {below : List Frame} {meth : Method} {c : Code} {A : Nat → Prop} {D : va_G} {cI cJ cZ : ClassId} {a : Nat → Nat} {vl : Nat → Int32} {hs : Nat → Int32} {isz : Nat → Int32} {igd : Nat → Int32} {iup : Nat → Int32} {idn : Nat → Int32} {osz : Nat → Int32} {ogd : Nat → Int32} {oup : Nat → Int32} {odn : Nat → Int32} {dep : Nat → Int32} {rsz : Int32} {lgd : Nat → Int32} {llf : Nat → Int64} {ldb : Nat → Int64} {ldy : Nat → Int32} {lsz : Int32} {lti : Int64} {pgd : Nat → Int32} {plf : Nat → Int64} {pun : Nat → Int32} {psz : Int32} {bgd : Nat → Int32} {bam : Nat → Int64} {bwt : Nat → Int64} {bsh : Nat → Int64} {brm : Nat → Int64} {bsz : Int32} {cab : Nat → Int64} {cbl : Nat → Int64} {tod : Int32} {imp : Int64} {dis : Int64} {owe : Int64} {itr : Int64} (C : gC p s m args meth c cX2_openOf 4 (some .int) wsX2_openOf RX2 A) {x1 : Int32} {o : Int32} :
    ∀ (n : Nat) (x2 : Int32) (x3 : Int32) (H : Heap) (locs : List Loc) (ls : Array Slot), vE s A D (gT cI cJ cZ) (cW a cI cJ cZ vl hs isz igd iup idn osz ogd oup odn dep rsz lgd llf ldb ldy lsz lti pgd plf pun psz bgd bam bwt bsh brm bsz cab cbl tod imp dis owe itr) H locs → lv_has ls 4 [(0, .ref (a 15)), (1, .int x1), (2, .int x2), (3, .int x3)] → f_X2_openOf_L4 lgd llf lsz x1 n x2 x3 = some o → W p l e rm_X2_openOf s m args below meth c H locs 0 0 (MQ below (gQi D (gT cI cJ cZ) A (cW a cI cJ cZ vl hs isz igd iup idn osz ogd oup odn dep rsz lgd llf ldb ldy lsz lti pgd plf pun psz bgd bam bwt bsh brm bsz cab cbl tod imp dis owe itr) o) args s 0 0 A) (F0 m 4 ls []) := by
  obtain ⟨hx, hb, hr, hml, hown, hts, hlocks, hN, hA⟩ := id C
  intro n
  induction n with
  | zero =>
    intro x2 x3 H locs ls E hl hf
    rw [f_X2_openOf_L4] at hf
    cases hf
  | succ n ih =>
    intro x2 x3 H locs ls E hl hf
    rw [f_X2_openOf_L4] at hf
    refine lv_iload_n hx hb dX2_openOf_4 rfl (lv_at hl 3 rfl) ?_
    refine lv_aload_n hx hb dX2_openOf_5 rfl (lv_at hl 0 rfl) ?_
    refine g_get C E 15 4 (fun _ h => List.mem_cons_of_mem _ (List.mem_append_right _ h)) rfl rfl (by decide) (List.mem_of_getElem? (i := 1) rfl) rfl rfl dX2_openOf_6 ?_
    refine lv_icmp_ge (tgt := 47) hx hb dX2_openOf_9 (by decide) (fun c1 => ?_) (fun c1 => ?_)
    · rw [if_pos c1] at hf
      refine lv_iload_n hx hb dX2_openOf_47 rfl (lv_at hl 2 rfl) ?_
      obtain rfl := Option.some.inj hf
      exact g_iret C E dX2_openOf_48
    · rw [if_neg c1] at hf
      refine lv_iload_n hx hb dX2_openOf_12 rfl (lv_at hl 2 rfl) ?_
      refine lv_aload_n hx hb dX2_openOf_13 rfl (lv_at hl 0 rfl) ?_
      refine g_get C E 15 0 (fun _ h => List.mem_cons_of_mem _ (List.mem_append_right _ h)) rfl rfl (by decide) (List.mem_of_getElem? (i := 2) rfl) rfl rfl dX2_openOf_14 ?_
      refine lv_iload_n hx hb dX2_openOf_17 rfl (lv_at hl 3 rfl) ?_
      obtain ⟨h2, hf⟩ := ck_some hf
      refine g_iald C E 16 rfl h2 dX2_openOf_18 ?_
      refine lv_iload_n hx hb dX2_openOf_19 rfl (lv_at hl 1 rfl) ?_
      refine lv_icmp_ne (tgt := 38) hx hb dX2_openOf_20 (by decide) (fun c3 => ?_) (fun c3 => ?_)
      · rw [if_neg c3] at hf
        refine lv_iconst (v := 0) hx hb dX2_openOf_38 (by decide) ?_
        refine lv_iadd hx hb dX2_openOf_39 ?_
        refine lv_istore_n (lv' := [(2, .int (x2 + (0 : Int32))), (0, .ref (a 15)), (1, .int x1), (3, .int x3)]) hx hb dX2_openOf_40 rfl hl (by decide) rfl (fun ls hl => ?_)
        refine lv_iinc (v := (x3 + 1)) (lv' := [(3, .int (x3 + 1)), (2, .int (x2 + (0 : Int32))), (0, .ref (a 15)), (1, .int x1)]) hx hb dX2_openOf_41 hl (k := 3) rfl rfl (by decide) rfl (fun ls hl => ?_)
        refine lv_goto (tgt := 4) hx hb dX2_openOf_44 (by decide) ?_
        exact ih (x2 + (0 : Int32)) (x3 + 1) _ _ _ E (lv_sub hl [2, 3, 1, 0] rfl) hf
      · rw [if_pos c3] at hf
        refine lv_aload_n hx hb dX2_openOf_23 rfl (lv_at hl 0 rfl) ?_
        refine g_get C E 15 1 (fun _ h => List.mem_cons_of_mem _ (List.mem_append_right _ h)) rfl rfl (by decide) (List.mem_of_getElem? (i := 3) rfl) rfl rfl dX2_openOf_24 ?_
        refine lv_iload_n hx hb dX2_openOf_27 rfl (lv_at hl 3 rfl) ?_
        obtain ⟨h4, hf⟩ := ck_some hf
        refine g_lald C E 17 rfl h4 dX2_openOf_28 ?_
        refine lv_lconst (v := 0) hx hb dX2_openOf_29 (by decide) ?_
        refine W.lcmp hx hb dX2_openOf_30 ?_
        refine lv_if_le (tgt := 38) hx hb dX2_openOf_31 (by decide) (fun c5 => ?_) (fun c5 => ?_)
        · rw [if_pos c5] at hf
          refine lv_iconst (v := 0) hx hb dX2_openOf_38 (by decide) ?_
          refine lv_iadd hx hb dX2_openOf_39 ?_
          refine lv_istore_n (lv' := [(2, .int (x2 + (0 : Int32))), (0, .ref (a 15)), (1, .int x1), (3, .int x3)]) hx hb dX2_openOf_40 rfl hl (by decide) rfl (fun ls hl => ?_)
          refine lv_iinc (v := (x3 + 1)) (lv' := [(3, .int (x3 + 1)), (2, .int (x2 + (0 : Int32))), (0, .ref (a 15)), (1, .int x1)]) hx hb dX2_openOf_41 hl (k := 3) rfl rfl (by decide) rfl (fun ls hl => ?_)
          refine lv_goto (tgt := 4) hx hb dX2_openOf_44 (by decide) ?_
          exact ih (x2 + (0 : Int32)) (x3 + 1) _ _ _ E (lv_sub hl [2, 3, 1, 0] rfl) hf
        · rw [if_neg c5] at hf
          refine lv_iconst (v := 1) hx hb dX2_openOf_34 (by decide) ?_
          refine lv_goto (tgt := 39) hx hb dX2_openOf_35 (by decide) ?_
          refine lv_iadd hx hb dX2_openOf_39 ?_
          refine lv_istore_n (lv' := [(2, .int (x2 + (1 : Int32))), (0, .ref (a 15)), (1, .int x1), (3, .int x3)]) hx hb dX2_openOf_40 rfl hl (by decide) rfl (fun ls hl => ?_)
          refine lv_iinc (v := (x3 + 1)) (lv' := [(3, .int (x3 + 1)), (2, .int (x2 + (1 : Int32))), (0, .ref (a 15)), (1, .int x1)]) hx hb dX2_openOf_41 hl (k := 3) rfl rfl (by decide) rfl (fun ls hl => ?_)
          refine lv_goto (tgt := 4) hx hb dX2_openOf_44 (by decide) ?_
          exact ih (x2 + (1 : Int32)) (x3 + 1) _ _ _ E (lv_sub hl [2, 3, 1, 0] rfl) hf
def f_X2_openOf (lgd : Nat → Int32) (llf : Nat → Int64) (lsz : Int32) (x1 : Int32) : Option (Int32) :=
  f_X2_openOf_L4 lgd llf lsz x1 FU (0 : Int32) (0 : Int32)
set_option maxHeartbeats 4000000 in
set_option maxRecDepth 100000 in
theorem c_X2_openOf {l : Launch} {D : va_G} {cI cJ cZ : ClassId} {a : Nat → Nat} {sz : Nat} {vl : Nat → Int32} {hs : Nat → Int32} {isz : Nat → Int32} {igd : Nat → Int32} {iup : Nat → Int32} {idn : Nat → Int32} {osz : Nat → Int32} {ogd : Nat → Int32} {oup : Nat → Int32} {odn : Nat → Int32} {dep : Nat → Int32} {rsz : Int32} {lgd : Nat → Int32} {llf : Nat → Int64} {ldb : Nat → Int64} {ldy : Nat → Int32} {lsz : Int32} {lti : Int64} {pgd : Nat → Int32} {plf : Nat → Int64} {pun : Nat → Int32} {psz : Int32} {bgd : Nat → Int32} {bam : Nat → Int64} {bwt : Nat → Int64} {bsh : Nat → Int64} {brm : Nat → Int64} {bsz : Int32} {cab : Nat → Int64} {cbl : Nat → Int64} {tod : Int32} {imp : Int64} {dis : Int64} {owe : Int64} {itr : Int64} {x1 : Int32} {o : Int32} (hf : f_X2_openOf lgd llf lsz x1 = some o) : gMi l yX2_openOf wsX2_openOf rm_X2_openOf D (gT cI cJ cZ) (cW a cI cJ cZ vl hs isz igd iup idn osz ogd oup odn dep rsz lgd llf ldb ldy lsz lti pgd plf pun psz bgd bam bwt bsh brm bsz cab cbl tod imp dis owe itr) (cW a cI cJ cZ vl hs isz igd iup idn osz ogd oup odn dep rsz lgd llf ldb ldy lsz lti pgd plf pun psz bgd bam bwt bsh brm bsz cab cbl tod imp dis owe itr) sz [.ref (a 15), .int x1] o := by
  refine g_of (cc := cX2_openOf) (maxL := 4) (ret := (some .int)) (by decide) rfl (Nat.le_of_ble_eq_true rfl) ?_
  intro p e s m below meth c A ls hAe C hl E
  rw [← hAe]
  obtain ⟨hx, hb, hr, hml, hown, hts, hlocks, hN, hA⟩ := id C
  have hl : lv_has ls 4 [(0, .ref (a 15)), (1, .int x1)] := hl
  have E : vE s A D (gT cI cJ cZ) (cW a cI cJ cZ vl hs isz igd iup idn osz ogd oup odn dep rsz lgd llf ldb ldy lsz lti pgd plf pun psz bgd bam bwt bsh brm bsz cab cbl tod imp dis owe itr) s.heap [] := E
  rw [f_X2_openOf] at hf
  refine lv_iconst (v := 0) hx hb dX2_openOf_0 (by decide) ?_
  refine lv_istore_n (lv' := [(2, .int (0 : Int32)), (0, .ref (a 15)), (1, .int x1)]) hx hb dX2_openOf_1 rfl hl (by decide) rfl (fun ls hl => ?_)
  refine lv_iconst (v := 0) hx hb dX2_openOf_2 (by decide) ?_
  refine lv_istore_n (lv' := [(3, .int (0 : Int32)), (2, .int (0 : Int32)), (0, .ref (a 15)), (1, .int x1)]) hx hb dX2_openOf_3 rfl hl (by decide) rfl (fun ls hl => ?_)
  exact w_X2_openOf_L4 C  FU (0 : Int32) (0 : Int32) _ _ _ E (lv_sub hl [2, 3, 1, 0] rfl) hf
abbrev rm_X2_wholeDebt : Room := { frames := 0, cells := 0, slots := 0, locals := 0 }
theorem hd_X2_wholeDebt : yX2_wholeDebt.cls ≠ "java/lang/invoke/MethodHandle" ∧ yX2_wholeDebt.cls ≠ "java/lang/invoke/VarHandle" ∧ (parseMethodDescriptor yX2_wholeDebt.desc).map (fun d => d.parameters.length) = some 0 := by decide +kernel
def f_X2_wholeDebt_L4 (ldb : Nat → Int64) (lsz : Int32) : Nat → Int64 → Int32 → Option (Int64)
  | 0, _, _ => none
  | n + 1, x1, x3 =>
  if lsz ≤ x3 then
    some (x1)
  else
    ck x3 200 <|
    f_X2_wholeDebt_L4 ldb lsz n (x1 + (ldb x3.toNatClampNeg)) (x3 + 1)
set_option maxHeartbeats 4000000 in
set_option maxRecDepth 100000 in
theorem w_X2_wholeDebt_L4 {p : Program} {l : Launch} {e : Env} {s : State} {m : MethodId} {args : Array Value} {below : List Frame} {meth : Method} {c : Code} {A : Nat → Prop} {D : va_G} {cI cJ cZ : ClassId} {a : Nat → Nat} {vl : Nat → Int32} {hs : Nat → Int32} {isz : Nat → Int32} {igd : Nat → Int32} {iup : Nat → Int32} {idn : Nat → Int32} {osz : Nat → Int32} {ogd : Nat → Int32} {oup : Nat → Int32} {odn : Nat → Int32} {dep : Nat → Int32} {rsz : Int32} {lgd : Nat → Int32} {llf : Nat → Int64} {ldb : Nat → Int64} {ldy : Nat → Int32} {lsz : Int32} {lti : Int64} {pgd : Nat → Int32} {plf : Nat → Int64} {pun : Nat → Int32} {psz : Int32} {bgd : Nat → Int32} {bam : Nat → Int64} {bwt : Nat → Int64} {bsh : Nat → Int64} {brm : Nat → Int64} {bsz : Int32} {cab : Nat → Int64} {cbl : Nat → Int64} {tod : Int32} {imp : Int64} {dis : Int64} {owe : Int64} {itr : Int64} (C : gC p s m args meth c cX2_wholeDebt 4 (some .long) wsX2_wholeDebt RX2 A) {o : Int64} :
    ∀ (n : Nat) (x1 : Int64) (x3 : Int32) (H : Heap) (locs : List Loc) (ls : Array Slot), vE s A D (gT cI cJ cZ) (cW a cI cJ cZ vl hs isz igd iup idn osz ogd oup odn dep rsz lgd llf ldb ldy lsz lti pgd plf pun psz bgd bam bwt bsh brm bsz cab cbl tod imp dis owe itr) H locs → lv_has ls 4 [(0, .ref (a 15)), (1, .long x1), (3, .int x3)] → f_X2_wholeDebt_L4 ldb lsz n x1 x3 = some o → W p l e rm_X2_wholeDebt s m args below meth c H locs 0 0 (MQ below (gQl D (gT cI cJ cZ) A (cW a cI cJ cZ vl hs isz igd iup idn osz ogd oup odn dep rsz lgd llf ldb ldy lsz lti pgd plf pun psz bgd bam bwt bsh brm bsz cab cbl tod imp dis owe itr) o) args s 0 0 A) (F0 m 4 ls []) := by
  obtain ⟨hx, hb, hr, hml, hown, hts, hlocks, hN, hA⟩ := id C
  intro n
  induction n with
  | zero =>
    intro x1 x3 H locs ls E hl hf
    rw [f_X2_wholeDebt_L4] at hf
    cases hf
  | succ n ih =>
    intro x1 x3 H locs ls E hl hf
    rw [f_X2_wholeDebt_L4] at hf
    refine lv_iload_n hx hb dX2_wholeDebt_4 rfl (lv_at hl 2 rfl) ?_
    refine lv_aload_n hx hb dX2_wholeDebt_5 rfl (lv_at hl 0 rfl) ?_
    refine g_get C E 15 4 (fun _ h => List.mem_cons_of_mem _ (List.mem_append_right _ h)) rfl rfl (by decide) (List.mem_of_getElem? (i := 1) rfl) rfl rfl dX2_wholeDebt_6 ?_
    refine lv_icmp_ge (tgt := 27) hx hb dX2_wholeDebt_9 (by decide) (fun c1 => ?_) (fun c1 => ?_)
    · rw [if_pos c1] at hf
      refine lv_lload_n hx hb dX2_wholeDebt_27 rfl (lv_at hl 1 rfl) ?_
      obtain rfl := Option.some.inj hf
      exact g_lret C E dX2_wholeDebt_28
    · rw [if_neg c1] at hf
      refine lv_lload_n hx hb dX2_wholeDebt_12 rfl (lv_at hl 1 rfl) ?_
      refine lv_aload_n hx hb dX2_wholeDebt_13 rfl (lv_at hl 0 rfl) ?_
      refine g_get C E 15 2 (fun _ h => List.mem_cons_of_mem _ (List.mem_append_right _ h)) rfl rfl (by decide) (List.mem_of_getElem? (i := 2) rfl) rfl rfl dX2_wholeDebt_14 ?_
      refine lv_iload_n hx hb dX2_wholeDebt_17 rfl (lv_at hl 2 rfl) ?_
      obtain ⟨h2, hf⟩ := ck_some hf
      refine g_lald C E 18 rfl h2 dX2_wholeDebt_18 ?_
      refine lv_ladd hx hb dX2_wholeDebt_19 ?_
      refine lv_lstore_n (lv' := [(1, .long (x1 + (ldb x3.toNatClampNeg))), (0, .ref (a 15)), (3, .int x3)]) hx hb dX2_wholeDebt_20 rfl hl (by decide) rfl (fun ls hl => ?_)
      refine lv_iinc (v := (x3 + 1)) (lv' := [(3, .int (x3 + 1)), (1, .long (x1 + (ldb x3.toNatClampNeg))), (0, .ref (a 15))]) hx hb dX2_wholeDebt_21 hl (k := 2) rfl rfl (by decide) rfl (fun ls hl => ?_)
      refine lv_goto (tgt := 4) hx hb dX2_wholeDebt_24 (by decide) ?_
      exact ih (x1 + (ldb x3.toNatClampNeg)) (x3 + 1) _ _ _ E (lv_sub hl [2, 1, 0] rfl) hf
def f_X2_wholeDebt (ldb : Nat → Int64) (lsz : Int32)  : Option (Int64) :=
  f_X2_wholeDebt_L4 ldb lsz FU (0 : Int64) (0 : Int32)
set_option maxHeartbeats 4000000 in
set_option maxRecDepth 100000 in
theorem c_X2_wholeDebt {l : Launch} {D : va_G} {cI cJ cZ : ClassId} {a : Nat → Nat} {sz : Nat} {vl : Nat → Int32} {hs : Nat → Int32} {isz : Nat → Int32} {igd : Nat → Int32} {iup : Nat → Int32} {idn : Nat → Int32} {osz : Nat → Int32} {ogd : Nat → Int32} {oup : Nat → Int32} {odn : Nat → Int32} {dep : Nat → Int32} {rsz : Int32} {lgd : Nat → Int32} {llf : Nat → Int64} {ldb : Nat → Int64} {ldy : Nat → Int32} {lsz : Int32} {lti : Int64} {pgd : Nat → Int32} {plf : Nat → Int64} {pun : Nat → Int32} {psz : Int32} {bgd : Nat → Int32} {bam : Nat → Int64} {bwt : Nat → Int64} {bsh : Nat → Int64} {brm : Nat → Int64} {bsz : Int32} {cab : Nat → Int64} {cbl : Nat → Int64} {tod : Int32} {imp : Int64} {dis : Int64} {owe : Int64} {itr : Int64} {o : Int64} (hf : f_X2_wholeDebt ldb lsz = some o) : gMl l yX2_wholeDebt wsX2_wholeDebt rm_X2_wholeDebt D (gT cI cJ cZ) (cW a cI cJ cZ vl hs isz igd iup idn osz ogd oup odn dep rsz lgd llf ldb ldy lsz lti pgd plf pun psz bgd bam bwt bsh brm bsz cab cbl tod imp dis owe itr) (cW a cI cJ cZ vl hs isz igd iup idn osz ogd oup odn dep rsz lgd llf ldb ldy lsz lti pgd plf pun psz bgd bam bwt bsh brm bsz cab cbl tod imp dis owe itr) sz [.ref (a 15)] o := by
  refine g_of (cc := cX2_wholeDebt) (maxL := 4) (ret := (some .long)) (by decide) rfl (Nat.le_of_ble_eq_true rfl) ?_
  intro p e s m below meth c A ls hAe C hl E
  rw [← hAe]
  obtain ⟨hx, hb, hr, hml, hown, hts, hlocks, hN, hA⟩ := id C
  have hl : lv_has ls 4 [(0, .ref (a 15))] := hl
  have E : vE s A D (gT cI cJ cZ) (cW a cI cJ cZ vl hs isz igd iup idn osz ogd oup odn dep rsz lgd llf ldb ldy lsz lti pgd plf pun psz bgd bam bwt bsh brm bsz cab cbl tod imp dis owe itr) s.heap [] := E
  rw [f_X2_wholeDebt] at hf
  refine lv_lconst (v := 0) hx hb dX2_wholeDebt_0 (by decide) ?_
  refine lv_lstore_n (lv' := [(1, .long (0 : Int64)), (0, .ref (a 15))]) hx hb dX2_wholeDebt_1 rfl hl (by decide) rfl (fun ls hl => ?_)
  refine lv_iconst (v := 0) hx hb dX2_wholeDebt_2 (by decide) ?_
  refine lv_istore_n (lv' := [(3, .int (0 : Int32)), (1, .long (0 : Int64)), (0, .ref (a 15))]) hx hb dX2_wholeDebt_3 rfl hl (by decide) rfl (fun ls hl => ?_)
  exact w_X2_wholeDebt_L4 C  FU (0 : Int64) (0 : Int32) _ _ _ E (lv_sub hl [2, 1, 0] rfl) hf
abbrev rm_X2_takeFrom : Room := { frames := 1, cells := 0, slots := 0, locals := 23 }
theorem hd_X2_takeFrom : yX2_takeFrom.cls ≠ "java/lang/invoke/MethodHandle" ∧ yX2_takeFrom.cls ≠ "java/lang/invoke/VarHandle" ∧ (parseMethodDescriptor yX2_takeFrom.desc).map (fun d => d.parameters.length) = some 2 := by decide +kernel
def f_X2_takeFrom (llf : Nat → Int64) (ldb : Nat → Int64) (x1 : Int32) (x2 : Int64) : Option (Int64 × (Nat → Int64) × (Nat → Int64)) :=
  ck x1 200 <|
  if (lg_cmp x2 (llf x1.toNatClampNeg)) = 0 then
    ck x1 200 <|
    ck x1 200 <|
    ck x1 200 <|
    ck x1 200 <|
    ck x1 200 <|
    some ((ldb x1.toNatClampNeg), (vp_updL llf x1.toNatClampNeg ((llf x1.toNatClampNeg) - x2)), (vp_updL ldb x1.toNatClampNeg ((ldb x1.toNatClampNeg) - (ldb x1.toNatClampNeg))))
  else
    ck x1 200 <|
    ck x1 200 <|
    (f_X6_floorOf ((ldb x1.toNatClampNeg) * x2) (llf x1.toNatClampNeg)).bind fun o5 =>
    ck x1 200 <|
    ck x1 200 <|
    ck x1 200 <|
    ck x1 200 <|
    some (o5, (vp_updL llf x1.toNatClampNeg ((llf x1.toNatClampNeg) - x2)), (vp_updL ldb x1.toNatClampNeg ((ldb x1.toNatClampNeg) - o5)))
set_option maxHeartbeats 4000000 in
set_option maxRecDepth 100000 in
theorem c_X2_takeFrom {l : Launch} {D : va_G} {cI cJ cZ : ClassId} {a : Nat → Nat} {sz : Nat} {vl : Nat → Int32} {hs : Nat → Int32} {isz : Nat → Int32} {igd : Nat → Int32} {iup : Nat → Int32} {idn : Nat → Int32} {osz : Nat → Int32} {ogd : Nat → Int32} {oup : Nat → Int32} {odn : Nat → Int32} {dep : Nat → Int32} {rsz : Int32} {lgd : Nat → Int32} {llf : Nat → Int64} {ldb : Nat → Int64} {ldy : Nat → Int32} {lsz : Int32} {lti : Int64} {pgd : Nat → Int32} {plf : Nat → Int64} {pun : Nat → Int32} {psz : Int32} {bgd : Nat → Int32} {bam : Nat → Int64} {bwt : Nat → Int64} {bsh : Nat → Int64} {brm : Nat → Int64} {bsz : Int32} {cab : Nat → Int64} {cbl : Nat → Int64} {tod : Int32} {imp : Int64} {dis : Int64} {owe : Int64} {itr : Int64} {x1 : Int32} {x2 : Int64} {o : Int64 × (Nat → Int64) × (Nat → Int64)} (hf : f_X2_takeFrom llf ldb x1 x2 = some o) : gMl l yX2_takeFrom wsX2_takeFrom rm_X2_takeFrom D (gT cI cJ cZ) (cW a cI cJ cZ vl hs isz igd iup idn osz ogd oup odn dep rsz lgd llf ldb ldy lsz lti pgd plf pun psz bgd bam bwt bsh brm bsz cab cbl tod imp dis owe itr) (cW a cI cJ cZ vl hs isz igd iup idn osz ogd oup odn dep rsz lgd o.2.1 o.2.2 ldy lsz lti pgd plf pun psz bgd bam bwt bsh brm bsz cab cbl tod imp dis owe itr) sz [.ref (a 15), .int x1, .long x2] o.1 := by
  refine g_of (cc := cX2_takeFrom) (maxL := 6) (ret := (some .long)) (by decide) rfl (Nat.le_of_ble_eq_true rfl) ?_
  intro p e s m below meth c A ls hAe C hl E
  rw [← hAe]
  obtain ⟨hx, hb, hr, hml, hown, hts, hlocks, hN, hA⟩ := id C
  have hl : lv_has ls 6 [(0, .ref (a 15)), (1, .int x1), (2, .long x2)] := hl
  have E : vE s A D (gT cI cJ cZ) (cW a cI cJ cZ vl hs isz igd iup idn osz ogd oup odn dep rsz lgd llf ldb ldy lsz lti pgd plf pun psz bgd bam bwt bsh brm bsz cab cbl tod imp dis owe itr) s.heap [] := E
  rw [f_X2_takeFrom] at hf
  refine lv_lload_n hx hb dX2_takeFrom_0 rfl (lv_at hl 2 rfl) ?_
  refine lv_aload_n hx hb dX2_takeFrom_1 rfl (lv_at hl 0 rfl) ?_
  refine g_get C E 15 1 (fun _ h => List.mem_cons_of_mem _ (List.mem_append_right _ h)) rfl rfl (by decide) (List.mem_of_getElem? (i := 1) rfl) rfl rfl dX2_takeFrom_2 ?_
  refine lv_iload_n hx hb dX2_takeFrom_5 rfl (lv_at hl 1 rfl) ?_
  obtain ⟨h1, hf⟩ := ck_some hf
  refine g_lald C E 17 rfl h1 dX2_takeFrom_6 ?_
  refine W.lcmp hx hb dX2_takeFrom_7 ?_
  refine lv_if_ne (tgt := 20) hx hb dX2_takeFrom_8 (by decide) (fun c2 => ?_) (fun c2 => ?_)
  · rw [if_neg c2] at hf
    refine lv_aload_n hx hb dX2_takeFrom_20 rfl (lv_at hl 0 rfl) ?_
    refine g_get C E 15 2 (fun _ h => List.mem_cons_of_mem _ (List.mem_append_right _ h)) rfl rfl (by decide) (List.mem_of_getElem? (i := 2) rfl) rfl rfl dX2_takeFrom_21 ?_
    refine lv_iload_n hx hb dX2_takeFrom_24 rfl (lv_at hl 1 rfl) ?_
    obtain ⟨h3, hf⟩ := ck_some hf
    refine g_lald C E 18 rfl h3 dX2_takeFrom_25 ?_
    refine lv_lload_n hx hb dX2_takeFrom_26 rfl (lv_at hl 2 rfl) ?_
    refine lv_lmul hx hb dX2_takeFrom_27 ?_
    refine lv_aload_n hx hb dX2_takeFrom_28 rfl (lv_at hl 0 rfl) ?_
    refine g_get C E 15 1 (fun _ h => List.mem_cons_of_mem _ (List.mem_append_right _ h)) rfl rfl (by decide) (List.mem_of_getElem? (i := 1) rfl) rfl rfl dX2_takeFrom_29 ?_
    refine lv_iload_n hx hb dX2_takeFrom_32 rfl (lv_at hl 1 rfl) ?_
    obtain ⟨h4, hf⟩ := ck_some hf
    refine g_lald C E 17 rfl h4 dX2_takeFrom_33 ?_
    obtain ⟨o5, e6, hf⟩ := bd_some hf
    refine g_calll (w' := (cW a cI cJ cZ vl hs isz igd iup idn osz ogd oup odn dep rsz lgd llf ldb ldy lsz lti pgd plf pun psz bgd bam bwt bsh brm bsz cab cbl tod imp dis owe itr)) C E (g_runSN (As := [.long ((ldb x1.toNatClampNeg) * x2), .long (llf x1.toNatClampNeg)]) (rest := []) C E (c_X6_floorOf e6) ⟨va_cnB 2 hts gX2_takeFrom_X6_floorOf_n49 rfl rfl rfl (hN.1 _ (List.mem_of_getElem? (i := 8) rfl)) (hts (.initialized RX6) (List.mem_of_getElem? (i := 4) rfl)) hd_X6_floorOf ⟨Nat.le_of_ble_eq_true rfl, Nat.le_of_ble_eq_true rfl⟩, hts (.static yX6_floorOf) (List.mem_of_getElem? (i := 3) rfl), trivial⟩ rfl hl.1 rfl (Nat.le_of_ble_eq_true rfl) dX2_takeFrom_34 ⟨Nat.le_of_ble_eq_true rfl, Nat.le_of_ble_eq_true rfl⟩) (fun H locs E => ?_)
    refine lv_lstore (lv' := [(4, .long o5), (0, .ref (a 15)), (1, .int x1), (2, .long x2)]) hx hb dX2_takeFrom_37 hl (by decide) rfl (fun ls hl => ?_)
    refine lv_aload_n hx hb dX2_takeFrom_39 rfl (lv_at hl 1 rfl) ?_
    refine g_get C E 15 1 (fun _ h => List.mem_cons_of_mem _ (List.mem_append_right _ h)) rfl rfl (by decide) (List.mem_of_getElem? (i := 1) rfl) rfl rfl dX2_takeFrom_40 ?_
    refine lv_iload_n hx hb dX2_takeFrom_43 rfl (lv_at hl 2 rfl) ?_
    refine lv_dup2_11 hx hb dX2_takeFrom_44 rfl rfl ?_
    obtain ⟨h7, hf⟩ := ck_some hf
    refine g_lald C E 17 rfl h7 dX2_takeFrom_45 ?_
    refine lv_lload_n hx hb dX2_takeFrom_46 rfl (lv_at hl 3 rfl) ?_
    refine lv_lsub hx hb dX2_takeFrom_47 ?_
    obtain ⟨h8, hf⟩ := ck_some hf
    refine g_last (w' := (cW a cI cJ cZ vl hs isz igd iup idn osz ogd oup odn dep rsz lgd (vp_updL llf x1.toNatClampNeg ((llf x1.toNatClampNeg) - x2)) ldb ldy lsz lti pgd plf pun psz bgd bam bwt bsh brm bsz cab cbl tod imp dis owe itr)) C E 17 rfl h8 dX2_takeFrom_48 rfl (fun H locs E => ?_)
    refine lv_aload_n hx hb dX2_takeFrom_49 rfl (lv_at hl 1 rfl) ?_
    refine g_get C E 15 2 (fun _ h => List.mem_cons_of_mem _ (List.mem_append_right _ h)) rfl rfl (by decide) (List.mem_of_getElem? (i := 2) rfl) rfl rfl dX2_takeFrom_50 ?_
    refine lv_iload_n hx hb dX2_takeFrom_53 rfl (lv_at hl 2 rfl) ?_
    refine lv_dup2_11 hx hb dX2_takeFrom_54 rfl rfl ?_
    obtain ⟨h9, hf⟩ := ck_some hf
    refine g_lald C E 18 rfl h9 dX2_takeFrom_55 ?_
    refine lv_lload hx hb dX2_takeFrom_56 (lv_at hl 0 rfl) ?_
    refine lv_lsub hx hb dX2_takeFrom_58 ?_
    obtain ⟨h10, hf⟩ := ck_some hf
    refine g_last (w' := (cW a cI cJ cZ vl hs isz igd iup idn osz ogd oup odn dep rsz lgd (vp_updL llf x1.toNatClampNeg ((llf x1.toNatClampNeg) - x2)) (vp_updL ldb x1.toNatClampNeg ((ldb x1.toNatClampNeg) - o5)) ldy lsz lti pgd plf pun psz bgd bam bwt bsh brm bsz cab cbl tod imp dis owe itr)) C E 18 rfl h10 dX2_takeFrom_59 rfl (fun H locs E => ?_)
    refine lv_lload hx hb dX2_takeFrom_60 (lv_at hl 0 rfl) ?_
    obtain rfl := Option.some.inj hf
    exact g_lret C E dX2_takeFrom_62
  · rw [if_pos c2] at hf
    refine lv_aload_n hx hb dX2_takeFrom_11 rfl (lv_at hl 0 rfl) ?_
    refine g_get C E 15 2 (fun _ h => List.mem_cons_of_mem _ (List.mem_append_right _ h)) rfl rfl (by decide) (List.mem_of_getElem? (i := 2) rfl) rfl rfl dX2_takeFrom_12 ?_
    refine lv_iload_n hx hb dX2_takeFrom_15 rfl (lv_at hl 1 rfl) ?_
    obtain ⟨h11, hf⟩ := ck_some hf
    refine g_lald C E 18 rfl h11 dX2_takeFrom_16 ?_
    refine lv_goto (tgt := 37) hx hb dX2_takeFrom_17 (by decide) ?_
    refine lv_lstore (lv' := [(4, .long (ldb x1.toNatClampNeg)), (0, .ref (a 15)), (1, .int x1), (2, .long x2)]) hx hb dX2_takeFrom_37 hl (by decide) rfl (fun ls hl => ?_)
    refine lv_aload_n hx hb dX2_takeFrom_39 rfl (lv_at hl 1 rfl) ?_
    refine g_get C E 15 1 (fun _ h => List.mem_cons_of_mem _ (List.mem_append_right _ h)) rfl rfl (by decide) (List.mem_of_getElem? (i := 1) rfl) rfl rfl dX2_takeFrom_40 ?_
    refine lv_iload_n hx hb dX2_takeFrom_43 rfl (lv_at hl 2 rfl) ?_
    refine lv_dup2_11 hx hb dX2_takeFrom_44 rfl rfl ?_
    obtain ⟨h12, hf⟩ := ck_some hf
    refine g_lald C E 17 rfl h12 dX2_takeFrom_45 ?_
    refine lv_lload_n hx hb dX2_takeFrom_46 rfl (lv_at hl 3 rfl) ?_
    refine lv_lsub hx hb dX2_takeFrom_47 ?_
    obtain ⟨h13, hf⟩ := ck_some hf
    refine g_last (w' := (cW a cI cJ cZ vl hs isz igd iup idn osz ogd oup odn dep rsz lgd (vp_updL llf x1.toNatClampNeg ((llf x1.toNatClampNeg) - x2)) ldb ldy lsz lti pgd plf pun psz bgd bam bwt bsh brm bsz cab cbl tod imp dis owe itr)) C E 17 rfl h13 dX2_takeFrom_48 rfl (fun H locs E => ?_)
    refine lv_aload_n hx hb dX2_takeFrom_49 rfl (lv_at hl 1 rfl) ?_
    refine g_get C E 15 2 (fun _ h => List.mem_cons_of_mem _ (List.mem_append_right _ h)) rfl rfl (by decide) (List.mem_of_getElem? (i := 2) rfl) rfl rfl dX2_takeFrom_50 ?_
    refine lv_iload_n hx hb dX2_takeFrom_53 rfl (lv_at hl 2 rfl) ?_
    refine lv_dup2_11 hx hb dX2_takeFrom_54 rfl rfl ?_
    obtain ⟨h14, hf⟩ := ck_some hf
    refine g_lald C E 18 rfl h14 dX2_takeFrom_55 ?_
    refine lv_lload hx hb dX2_takeFrom_56 (lv_at hl 0 rfl) ?_
    refine lv_lsub hx hb dX2_takeFrom_58 ?_
    obtain ⟨h15, hf⟩ := ck_some hf
    refine g_last (w' := (cW a cI cJ cZ vl hs isz igd iup idn osz ogd oup odn dep rsz lgd (vp_updL llf x1.toNatClampNeg ((llf x1.toNatClampNeg) - x2)) (vp_updL ldb x1.toNatClampNeg ((ldb x1.toNatClampNeg) - (ldb x1.toNatClampNeg))) ldy lsz lti pgd plf pun psz bgd bam bwt bsh brm bsz cab cbl tod imp dis owe itr)) C E 18 rfl h15 dX2_takeFrom_59 rfl (fun H locs E => ?_)
    refine lv_lload hx hb dX2_takeFrom_60 (lv_at hl 0 rfl) ?_
    obtain rfl := Option.some.inj hf
    exact g_lret C E dX2_takeFrom_62
abbrev rm_X2_months : Room := { frames := 2, cells := 0, slots := 0, locals := 46 }
theorem hd_X2_months : yX2_months.cls ≠ "java/lang/invoke/MethodHandle" ∧ yX2_months.cls ≠ "java/lang/invoke/VarHandle" ∧ (parseMethodDescriptor yX2_months.desc).map (fun d => d.parameters.length) = some 2 := by decide +kernel
def f_X2_months (ldy : Nat → Int32) (x1 : Int32) (x2 : Int32) : Option (Int64) :=
  ck x1 200 <|
  (f_X6_ceilOf ((x2 - (ldy x1.toNatClampNeg)).toInt64) (30 : Int64)).bind fun o2 =>
  some (o2)
set_option maxHeartbeats 4000000 in
set_option maxRecDepth 100000 in
theorem c_X2_months {l : Launch} {D : va_G} {cI cJ cZ : ClassId} {a : Nat → Nat} {sz : Nat} {vl : Nat → Int32} {hs : Nat → Int32} {isz : Nat → Int32} {igd : Nat → Int32} {iup : Nat → Int32} {idn : Nat → Int32} {osz : Nat → Int32} {ogd : Nat → Int32} {oup : Nat → Int32} {odn : Nat → Int32} {dep : Nat → Int32} {rsz : Int32} {lgd : Nat → Int32} {llf : Nat → Int64} {ldb : Nat → Int64} {ldy : Nat → Int32} {lsz : Int32} {lti : Int64} {pgd : Nat → Int32} {plf : Nat → Int64} {pun : Nat → Int32} {psz : Int32} {bgd : Nat → Int32} {bam : Nat → Int64} {bwt : Nat → Int64} {bsh : Nat → Int64} {brm : Nat → Int64} {bsz : Int32} {cab : Nat → Int64} {cbl : Nat → Int64} {tod : Int32} {imp : Int64} {dis : Int64} {owe : Int64} {itr : Int64} {x1 : Int32} {x2 : Int32} {o : Int64} (hf : f_X2_months ldy x1 x2 = some o) : gMl l yX2_months wsX2_months rm_X2_months D (gT cI cJ cZ) (cW a cI cJ cZ vl hs isz igd iup idn osz ogd oup odn dep rsz lgd llf ldb ldy lsz lti pgd plf pun psz bgd bam bwt bsh brm bsz cab cbl tod imp dis owe itr) (cW a cI cJ cZ vl hs isz igd iup idn osz ogd oup odn dep rsz lgd llf ldb ldy lsz lti pgd plf pun psz bgd bam bwt bsh brm bsz cab cbl tod imp dis owe itr) sz [.ref (a 15), .int x1, .int x2] o := by
  refine g_of (cc := cX2_months) (maxL := 3) (ret := (some .long)) (by decide) rfl (Nat.le_of_ble_eq_true rfl) ?_
  intro p e s m below meth c A ls hAe C hl E
  rw [← hAe]
  obtain ⟨hx, hb, hr, hml, hown, hts, hlocks, hN, hA⟩ := id C
  have hl : lv_has ls 3 [(0, .ref (a 15)), (1, .int x1), (2, .int x2)] := hl
  have E : vE s A D (gT cI cJ cZ) (cW a cI cJ cZ vl hs isz igd iup idn osz ogd oup odn dep rsz lgd llf ldb ldy lsz lti pgd plf pun psz bgd bam bwt bsh brm bsz cab cbl tod imp dis owe itr) s.heap [] := E
  rw [f_X2_months] at hf
  refine lv_iload_n hx hb dX2_months_0 rfl (lv_at hl 2 rfl) ?_
  refine lv_aload_n hx hb dX2_months_1 rfl (lv_at hl 0 rfl) ?_
  refine g_get C E 15 3 (fun _ h => List.mem_cons_of_mem _ (List.mem_append_right _ h)) rfl rfl (by decide) (List.mem_of_getElem? (i := 1) rfl) rfl rfl dX2_months_2 ?_
  refine lv_iload_n hx hb dX2_months_5 rfl (lv_at hl 1 rfl) ?_
  obtain ⟨h1, hf⟩ := ck_some hf
  refine g_iald C E 19 rfl h1 dX2_months_6 ?_
  refine lv_isub hx hb dX2_months_7 ?_
  refine lv_i2l hx hb dX2_months_8 rfl ?_
  refine lv_ldc2 (v := 30) hx hb hown (hts (.constantLong RX2 52 (30)) (List.mem_of_getElem? (i := 2) rfl)) dX2_months_9 ?_
  obtain ⟨o2, e3, hf⟩ := bd_some hf
  refine g_calll (w' := (cW a cI cJ cZ vl hs isz igd iup idn osz ogd oup odn dep rsz lgd llf ldb ldy lsz lti pgd plf pun psz bgd bam bwt bsh brm bsz cab cbl tod imp dis owe itr)) C E (g_runSN (As := [.long ((x2 - (ldy x1.toNatClampNeg)).toInt64), .long (30 : Int64)]) (rest := []) C E (c_X6_ceilOf e3) ⟨va_cnB 2 hts gX2_months_X6_ceilOf_n54 rfl rfl rfl (hN.1 _ (List.mem_of_getElem? (i := 9) rfl)) (hts (.initialized RX6) (List.mem_of_getElem? (i := 4) rfl)) hd_X6_ceilOf ⟨Nat.le_of_ble_eq_true rfl, Nat.le_of_ble_eq_true rfl⟩, hts (.static yX6_ceilOf) (List.mem_of_getElem? (i := 3) rfl), trivial⟩ rfl hl.1 rfl (Nat.le_of_ble_eq_true rfl) dX2_months_12 ⟨Nat.le_of_ble_eq_true rfl, Nat.le_of_ble_eq_true rfl⟩) (fun H locs E => ?_)
  obtain rfl := Option.some.inj hf
  exact g_lret C E dX2_months_15
abbrev rm_X2_take : Room := { frames := 3, cells := 0, slots := 0, locals := 68 }
theorem hd_X2_take : yX2_take.cls ≠ "java/lang/invoke/MethodHandle" ∧ yX2_take.cls ≠ "java/lang/invoke/VarHandle" ∧ (parseMethodDescriptor yX2_take.desc).map (fun d => d.parameters.length) = some 3 := by decide +kernel
def f_X2_take_L14 (lgd : Nat → Int32) (ldy : Nat → Int32) (lsz : Int32) (x1 : Int32) (x4 : Int32) : Nat → (Nat → Int64) → (Nat → Int64) → (Int64) → Int64 → Int64 → Int32 → Option (Int64 × (Nat → Int64) × (Nat → Int64) × (Int64))
  | 0, _, _, _, _, _, _ => none
  | n + 1, llf, ldb, lti, x5, x7, x9 =>
  if lsz ≤ x9 then
    some (x7, llf, ldb, lti)
  else
    if (lg_cmp x5 (0 : Int64)) ≤ 0 then
      some (x7, llf, ldb, lti)
    else
      ck x9 200 <|
      if (lgd x9.toNatClampNeg) = x1 then
        ck x9 200 <|
        if (lg_cmp (llf x9.toNatClampNeg) (0 : Int64)) ≤ 0 then
          f_X2_take_L14 lgd ldy lsz x1 x4 n llf ldb lti x5 x7 (x9 + 1)
        else
          ck x9 200 <|
          (f_X2_takeFrom llf ldb x9 (if (llf x9.toNatClampNeg) < x5 then (llf x9.toNatClampNeg) else x5)).bind fun o8 =>
          (f_X2_months ldy x9 x4).bind fun o10 =>
          f_X2_take_L14 lgd ldy lsz x1 x4 n o8.2.1 o8.2.2 (lti + ((o8.1 * o10) / (100 : Int64))) (x5 - (if (llf x9.toNatClampNeg) < x5 then (llf x9.toNatClampNeg) else x5)) (x7 + o8.1) (x9 + 1)
      else
        f_X2_take_L14 lgd ldy lsz x1 x4 n llf ldb lti x5 x7 (x9 + 1)
set_option maxHeartbeats 4000000 in
set_option maxRecDepth 100000 in
theorem w_X2_take_L14 {p : Program} {l : Launch} {e : Env} {s : State} {m : MethodId} {args : Array Value} {below : List Frame} {meth : Method} {c : Code} {A : Nat → Prop} {D : va_G} {cI cJ cZ : ClassId} {a : Nat → Nat} {vl : Nat → Int32} {hs : Nat → Int32} {isz : Nat → Int32} {igd : Nat → Int32} {iup : Nat → Int32} {idn : Nat → Int32} {osz : Nat → Int32} {ogd : Nat → Int32} {oup : Nat → Int32} {odn : Nat → Int32} {dep : Nat → Int32} {rsz : Int32} {lgd : Nat → Int32} {ldy : Nat → Int32} {lsz : Int32} {pgd : Nat → Int32} {plf : Nat → Int64} {pun : Nat → Int32} {psz : Int32} {bgd : Nat → Int32} {bam : Nat → Int64} {bwt : Nat → Int64} {bsh : Nat → Int64} {brm : Nat → Int64} {bsz : Int32} {cab : Nat → Int64} {cbl : Nat → Int64} {tod : Int32} {imp : Int64} {dis : Int64} {owe : Int64} {itr : Int64} (C : gC p s m args meth c cX2_take 14 (some .long) wsX2_take RX2 A) {x1 : Int32} {x4 : Int32} {o : Int64 × (Nat → Int64) × (Nat → Int64) × (Int64)} :
    ∀ (n : Nat) (llf : Nat → Int64) (ldb : Nat → Int64) (lti : Int64) (x5 : Int64) (x7 : Int64) (x9 : Int32) (H : Heap) (locs : List Loc) (ls : Array Slot), vE s A D (gT cI cJ cZ) (cW a cI cJ cZ vl hs isz igd iup idn osz ogd oup odn dep rsz lgd llf ldb ldy lsz lti pgd plf pun psz bgd bam bwt bsh brm bsz cab cbl tod imp dis owe itr) H locs → lv_has ls 14 [(0, .ref (a 15)), (1, .int x1), (4, .int x4), (5, .long x5), (7, .long x7), (9, .int x9)] → f_X2_take_L14 lgd ldy lsz x1 x4 n llf ldb lti x5 x7 x9 = some o → W p l e rm_X2_take s m args below meth c H locs 0 0 (MQ below (gQl D (gT cI cJ cZ) A (cW a cI cJ cZ vl hs isz igd iup idn osz ogd oup odn dep rsz lgd o.2.1 o.2.2.1 ldy lsz o.2.2.2 pgd plf pun psz bgd bam bwt bsh brm bsz cab cbl tod imp dis owe itr) o.1) args s 0 0 A) (F0 m 14 ls []) := by
  obtain ⟨hx, hb, hr, hml, hown, hts, hlocks, hN, hA⟩ := id C
  intro n
  induction n with
  | zero =>
    intro llf ldb lti x5 x7 x9 H locs ls E hl hf
    rw [f_X2_take_L14] at hf
    cases hf
  | succ n ih =>
    intro llf ldb lti x5 x7 x9 H locs ls E hl hf
    rw [f_X2_take_L14] at hf
    refine lv_iload hx hb dX2_take_14 (lv_at hl 5 rfl) ?_
    refine lv_aload_n hx hb dX2_take_16 rfl (lv_at hl 0 rfl) ?_
    refine g_get C E 15 4 (fun _ h => List.mem_cons_of_mem _ (List.mem_append_right _ h)) rfl rfl (by decide) (List.mem_of_getElem? (i := 2) rfl) rfl rfl dX2_take_17 ?_
    refine lv_icmp_ge (tgt := 121) hx hb dX2_take_20 (by decide) (fun c1 => ?_) (fun c1 => ?_)
    · rw [if_pos c1] at hf
      refine lv_lload hx hb dX2_take_121 (lv_at hl 4 rfl) ?_
      obtain rfl := Option.some.inj hf
      exact g_lret C E dX2_take_123
    · rw [if_neg c1] at hf
      refine lv_lload hx hb dX2_take_23 (lv_at hl 3 rfl) ?_
      refine lv_lconst (v := 0) hx hb dX2_take_25 (by decide) ?_
      refine W.lcmp hx hb dX2_take_26 ?_
      refine lv_if_le (tgt := 121) hx hb dX2_take_27 (by decide) (fun c2 => ?_) (fun c2 => ?_)
      · rw [if_pos c2] at hf
        refine lv_lload hx hb dX2_take_121 (lv_at hl 4 rfl) ?_
        obtain rfl := Option.some.inj hf
        exact g_lret C E dX2_take_123
      · rw [if_neg c2] at hf
        refine lv_aload_n hx hb dX2_take_30 rfl (lv_at hl 0 rfl) ?_
        refine g_get C E 15 0 (fun _ h => List.mem_cons_of_mem _ (List.mem_append_right _ h)) rfl rfl (by decide) (List.mem_of_getElem? (i := 3) rfl) rfl rfl dX2_take_31 ?_
        refine lv_iload hx hb dX2_take_34 (lv_at hl 5 rfl) ?_
        obtain ⟨h3, hf⟩ := ck_some hf
        refine g_iald C E 16 rfl h3 dX2_take_36 ?_
        refine lv_iload_n hx hb dX2_take_37 rfl (lv_at hl 1 rfl) ?_
        refine lv_icmp_ne (tgt := 115) hx hb dX2_take_38 (by decide) (fun c4 => ?_) (fun c4 => ?_)
        · rw [if_neg c4] at hf
          refine lv_iinc (v := (x9 + 1)) (lv' := [(9, .int (x9 + 1)), (0, .ref (a 15)), (1, .int x1), (4, .int x4), (5, .long x5), (7, .long x7)]) hx hb dX2_take_115 hl (k := 5) rfl rfl (by decide) rfl (fun ls hl => ?_)
          refine lv_goto (tgt := 14) hx hb dX2_take_118 (by decide) ?_
          exact ih llf ldb lti x5 x7 (x9 + 1) _ _ _ E (lv_sub hl [1, 2, 3, 4, 5, 0] rfl) hf
        · rw [if_pos c4] at hf
          refine lv_aload_n hx hb dX2_take_41 rfl (lv_at hl 0 rfl) ?_
          refine g_get C E 15 1 (fun _ h => List.mem_cons_of_mem _ (List.mem_append_right _ h)) rfl rfl (by decide) (List.mem_of_getElem? (i := 4) rfl) rfl rfl dX2_take_42 ?_
          refine lv_iload hx hb dX2_take_45 (lv_at hl 5 rfl) ?_
          obtain ⟨h5, hf⟩ := ck_some hf
          refine g_lald C E 17 rfl h5 dX2_take_47 ?_
          refine lv_lconst (v := 0) hx hb dX2_take_48 (by decide) ?_
          refine W.lcmp hx hb dX2_take_49 ?_
          refine lv_if_le (tgt := 115) hx hb dX2_take_50 (by decide) (fun c6 => ?_) (fun c6 => ?_)
          · rw [if_pos c6] at hf
            refine lv_iinc (v := (x9 + 1)) (lv' := [(9, .int (x9 + 1)), (0, .ref (a 15)), (1, .int x1), (4, .int x4), (5, .long x5), (7, .long x7)]) hx hb dX2_take_115 hl (k := 5) rfl rfl (by decide) rfl (fun ls hl => ?_)
            refine lv_goto (tgt := 14) hx hb dX2_take_118 (by decide) ?_
            exact ih llf ldb lti x5 x7 (x9 + 1) _ _ _ E (lv_sub hl [1, 2, 3, 4, 5, 0] rfl) hf
          · rw [if_neg c6] at hf
            refine lv_lload hx hb dX2_take_53 (lv_at hl 3 rfl) ?_
            refine lv_aload_n hx hb dX2_take_55 rfl (lv_at hl 0 rfl) ?_
            refine g_get C E 15 1 (fun _ h => List.mem_cons_of_mem _ (List.mem_append_right _ h)) rfl rfl (by decide) (List.mem_of_getElem? (i := 4) rfl) rfl rfl dX2_take_56 ?_
            refine lv_iload hx hb dX2_take_59 (lv_at hl 5 rfl) ?_
            obtain ⟨h7, hf⟩ := ck_some hf
            refine g_lald C E 17 rfl h7 dX2_take_61 ?_
            refine va_mmin_long hx hb (hml.trans hl.1.symm) hown (hts (.methodLink RX2 33 Lib.MathLoose.min_long.x) (List.mem_of_getElem? (i := 5) rfl)) (hts (.static Lib.MathLoose.min_long.x) (List.mem_of_getElem? (i := 6) rfl)) (hts (.initialized "java/lang/Math") (List.mem_of_getElem? (i := 7) rfl)) (hts (.code Lib.MathLoose.min_long.x Lib.MathLoose.min_long.code 4 (some .long)) (List.mem_of_getElem? (i := 8) rfl)) (Nat.le_of_ble_eq_true rfl) (Nat.le_of_ble_eq_true rfl) (Nat.le_of_ble_eq_true rfl) (Nat.le_of_ble_eq_true rfl) dX2_take_62 ?_
            refine lv_lstore (lv' := [(10, .long (if (llf x9.toNatClampNeg) < x5 then (llf x9.toNatClampNeg) else x5)), (0, .ref (a 15)), (1, .int x1), (4, .int x4), (5, .long x5), (7, .long x7), (9, .int x9)]) hx hb dX2_take_65 hl (by decide) rfl (fun ls hl => ?_)
            refine lv_aload_n hx hb dX2_take_67 rfl (lv_at hl 1 rfl) ?_
            refine lv_iload hx hb dX2_take_68 (lv_at hl 6 rfl) ?_
            refine lv_lload hx hb dX2_take_70 (lv_at hl 0 rfl) ?_
            obtain ⟨o8, e9, hf⟩ := bd_some hf
            refine g_calll (w' := (cW a cI cJ cZ vl hs isz igd iup idn osz ogd oup odn dep rsz lgd o8.2.1 o8.2.2 ldy lsz lti pgd plf pun psz bgd bam bwt bsh brm bsz cab cbl tod imp dis owe itr)) C E (g_runV (As := [.int x9, .long (if (llf x9.toNatClampNeg) < x5 then (llf x9.toNatClampNeg) else x5)]) (rest := []) C E (c_X2_takeFrom e9) (cwV 2 hts gX2_take_X2_takeFrom rfl rfl rfl ⟨rfl, hd_X2_takeFrom⟩ ⟨Nat.le_of_ble_eq_true rfl, Nat.le_of_ble_eq_true rfl⟩) (q0 := 15) (ci := 2) rfl rfl rfl rfl hl.1 rfl (Nat.le_of_ble_eq_true rfl) dX2_take_72 ⟨Nat.le_of_ble_eq_true rfl, Nat.le_of_ble_eq_true rfl⟩) (fun H locs E => ?_)
            refine lv_lstore (lv' := [(12, .long o8.1), (10, .long (if (llf x9.toNatClampNeg) < x5 then (llf x9.toNatClampNeg) else x5)), (0, .ref (a 15)), (1, .int x1), (4, .int x4), (5, .long x5), (7, .long x7), (9, .int x9)]) hx hb dX2_take_75 hl (by decide) rfl (fun ls hl => ?_)
            refine lv_aload_n hx hb dX2_take_77 rfl (lv_at hl 2 rfl) ?_
            refine lv_dup hx hb dX2_take_78 rfl ?_
            refine g_get C E 15 5 (fun _ h => List.mem_cons_of_mem _ (List.mem_append_right _ h)) rfl rfl (by decide) (List.mem_of_getElem? (i := 1) rfl) rfl rfl dX2_take_79 ?_
            refine lv_lload hx hb dX2_take_82 (lv_at hl 0 rfl) ?_
            refine lv_aload_n hx hb dX2_take_84 rfl (lv_at hl 2 rfl) ?_
            refine lv_iload hx hb dX2_take_85 (lv_at hl 7 rfl) ?_
            refine lv_iload hx hb dX2_take_87 (lv_at hl 4 rfl) ?_
            obtain ⟨o10, e11, hf⟩ := bd_some hf
            refine g_calll (w' := (cW a cI cJ cZ vl hs isz igd iup idn osz ogd oup odn dep rsz lgd o8.2.1 o8.2.2 ldy lsz lti pgd plf pun psz bgd bam bwt bsh brm bsz cab cbl tod imp dis owe itr)) C E (g_runV (As := [.int x9, .int x4]) (rest := [.long o8.1, .long lti, .ref (a 15)]) C E (c_X2_months e11) (cwV 2 hts gX2_take_X2_months rfl rfl rfl ⟨rfl, hd_X2_months⟩ ⟨Nat.le_of_ble_eq_true rfl, Nat.le_of_ble_eq_true rfl⟩) (q0 := 15) (ci := 2) rfl rfl rfl rfl hl.1 rfl (Nat.le_of_ble_eq_true rfl) dX2_take_89 ⟨Nat.le_of_ble_eq_true rfl, Nat.le_of_ble_eq_true rfl⟩) (fun H locs E => ?_)
            refine lv_lmul hx hb dX2_take_92 ?_
            refine lv_ldc2 (v := 100) hx hb hown (hts (.constantLong RX2 47 (100)) (List.mem_of_getElem? (i := 9) rfl)) dX2_take_93 ?_
            refine lv_ldiv hx hb dX2_take_96 (by decide) ?_
            refine lv_ladd hx hb dX2_take_97 ?_
            refine g_put (w' := (cW a cI cJ cZ vl hs isz igd iup idn osz ogd oup odn dep rsz lgd o8.2.1 o8.2.2 ldy lsz (lti + ((o8.1 * o10) / (100 : Int64))) pgd plf pun psz bgd bam bwt bsh brm bsz cab cbl tod imp dis owe itr)) C E 15 5 tyX2 tyX2_ok nmX2 (fun _ h => List.mem_cons_of_mem _ (List.mem_append_right _ h)) rfl rfl (by decide) (List.mem_of_getElem? (i := 1) rfl) rfl rfl rfl rfl rfl (Nat.le_of_ble_eq_true rfl) dX2_take_98 rfl (fun H locs E => ?_)
            refine lv_lload hx hb dX2_take_101 (lv_at hl 6 rfl) ?_
            refine lv_lload hx hb dX2_take_103 (lv_at hl 0 rfl) ?_
            refine lv_ladd hx hb dX2_take_105 ?_
            refine lv_lstore (lv' := [(7, .long (x7 + o8.1)), (12, .long o8.1), (10, .long (if (llf x9.toNatClampNeg) < x5 then (llf x9.toNatClampNeg) else x5)), (0, .ref (a 15)), (1, .int x1), (4, .int x4), (5, .long x5), (9, .int x9)]) hx hb dX2_take_106 hl (by decide) rfl (fun ls hl => ?_)
            refine lv_lload hx hb dX2_take_108 (lv_at hl 6 rfl) ?_
            refine lv_lload hx hb dX2_take_110 (lv_at hl 2 rfl) ?_
            refine lv_lsub hx hb dX2_take_112 ?_
            refine lv_lstore (lv' := [(5, .long (x5 - (if (llf x9.toNatClampNeg) < x5 then (llf x9.toNatClampNeg) else x5))), (7, .long (x7 + o8.1)), (12, .long o8.1), (10, .long (if (llf x9.toNatClampNeg) < x5 then (llf x9.toNatClampNeg) else x5)), (0, .ref (a 15)), (1, .int x1), (4, .int x4), (9, .int x9)]) hx hb dX2_take_113 hl (by decide) rfl (fun ls hl => ?_)
            refine lv_iinc (v := (x9 + 1)) (lv' := [(9, .int (x9 + 1)), (5, .long (x5 - (if (llf x9.toNatClampNeg) < x5 then (llf x9.toNatClampNeg) else x5))), (7, .long (x7 + o8.1)), (12, .long o8.1), (10, .long (if (llf x9.toNatClampNeg) < x5 then (llf x9.toNatClampNeg) else x5)), (0, .ref (a 15)), (1, .int x1), (4, .int x4)]) hx hb dX2_take_115 hl (k := 7) rfl rfl (by decide) rfl (fun ls hl => ?_)
            refine lv_goto (tgt := 14) hx hb dX2_take_118 (by decide) ?_
            exact ih o8.2.1 o8.2.2 (lti + ((o8.1 * o10) / (100 : Int64))) (x5 - (if (llf x9.toNatClampNeg) < x5 then (llf x9.toNatClampNeg) else x5)) (x7 + o8.1) (x9 + 1) _ _ _ E (lv_sub hl [5, 6, 7, 1, 2, 0] rfl) hf
def f_X2_take (lgd : Nat → Int32) (llf : Nat → Int64) (ldb : Nat → Int64) (ldy : Nat → Int32) (lsz : Int32) (lti : Int64) (x1 : Int32) (x2 : Int64) (x4 : Int32) : Option (Int64 × (Nat → Int64) × (Nat → Int64) × (Int64)) :=
  f_X2_take_L14 lgd ldy lsz x1 x4 FU llf ldb (0 : Int64) x2 (0 : Int64) (0 : Int32)
set_option maxHeartbeats 4000000 in
set_option maxRecDepth 100000 in
theorem c_X2_take {l : Launch} {D : va_G} {cI cJ cZ : ClassId} {a : Nat → Nat} {sz : Nat} {vl : Nat → Int32} {hs : Nat → Int32} {isz : Nat → Int32} {igd : Nat → Int32} {iup : Nat → Int32} {idn : Nat → Int32} {osz : Nat → Int32} {ogd : Nat → Int32} {oup : Nat → Int32} {odn : Nat → Int32} {dep : Nat → Int32} {rsz : Int32} {lgd : Nat → Int32} {llf : Nat → Int64} {ldb : Nat → Int64} {ldy : Nat → Int32} {lsz : Int32} {lti : Int64} {pgd : Nat → Int32} {plf : Nat → Int64} {pun : Nat → Int32} {psz : Int32} {bgd : Nat → Int32} {bam : Nat → Int64} {bwt : Nat → Int64} {bsh : Nat → Int64} {brm : Nat → Int64} {bsz : Int32} {cab : Nat → Int64} {cbl : Nat → Int64} {tod : Int32} {imp : Int64} {dis : Int64} {owe : Int64} {itr : Int64} {x1 : Int32} {x2 : Int64} {x4 : Int32} {o : Int64 × (Nat → Int64) × (Nat → Int64) × (Int64)} (hf : f_X2_take lgd llf ldb ldy lsz lti x1 x2 x4 = some o) : gMl l yX2_take wsX2_take rm_X2_take D (gT cI cJ cZ) (cW a cI cJ cZ vl hs isz igd iup idn osz ogd oup odn dep rsz lgd llf ldb ldy lsz lti pgd plf pun psz bgd bam bwt bsh brm bsz cab cbl tod imp dis owe itr) (cW a cI cJ cZ vl hs isz igd iup idn osz ogd oup odn dep rsz lgd o.2.1 o.2.2.1 ldy lsz o.2.2.2 pgd plf pun psz bgd bam bwt bsh brm bsz cab cbl tod imp dis owe itr) sz [.ref (a 15), .int x1, .long x2, .int x4] o.1 := by
  refine g_of (cc := cX2_take) (maxL := 14) (ret := (some .long)) (by decide) rfl (Nat.le_of_ble_eq_true rfl) ?_
  intro p e s m below meth c A ls hAe C hl E
  rw [← hAe]
  obtain ⟨hx, hb, hr, hml, hown, hts, hlocks, hN, hA⟩ := id C
  have hl : lv_has ls 14 [(0, .ref (a 15)), (1, .int x1), (2, .long x2), (4, .int x4)] := hl
  have E : vE s A D (gT cI cJ cZ) (cW a cI cJ cZ vl hs isz igd iup idn osz ogd oup odn dep rsz lgd llf ldb ldy lsz lti pgd plf pun psz bgd bam bwt bsh brm bsz cab cbl tod imp dis owe itr) s.heap [] := E
  rw [f_X2_take] at hf
  refine lv_lload_n hx hb dX2_take_0 rfl (lv_at hl 2 rfl) ?_
  refine lv_lstore (lv' := [(5, .long x2), (0, .ref (a 15)), (1, .int x1), (2, .long x2), (4, .int x4)]) hx hb dX2_take_1 hl (by decide) rfl (fun ls hl => ?_)
  refine lv_lconst (v := 0) hx hb dX2_take_3 (by decide) ?_
  refine lv_lstore (lv' := [(7, .long (0 : Int64)), (5, .long x2), (0, .ref (a 15)), (1, .int x1), (2, .long x2), (4, .int x4)]) hx hb dX2_take_4 hl (by decide) rfl (fun ls hl => ?_)
  refine lv_aload_n hx hb dX2_take_6 rfl (lv_at hl 2 rfl) ?_
  refine lv_lconst (v := 0) hx hb dX2_take_7 (by decide) ?_
  refine g_put (w' := (cW a cI cJ cZ vl hs isz igd iup idn osz ogd oup odn dep rsz lgd llf ldb ldy lsz (0 : Int64) pgd plf pun psz bgd bam bwt bsh brm bsz cab cbl tod imp dis owe itr)) C E 15 5 tyX2 tyX2_ok nmX2 (fun _ h => List.mem_cons_of_mem _ (List.mem_append_right _ h)) rfl rfl (by decide) (List.mem_of_getElem? (i := 1) rfl) rfl rfl rfl rfl rfl (Nat.le_of_ble_eq_true rfl) dX2_take_8 rfl (fun H locs E => ?_)
  refine lv_iconst (v := 0) hx hb dX2_take_11 (by decide) ?_
  refine lv_istore (lv' := [(9, .int (0 : Int32)), (7, .long (0 : Int64)), (5, .long x2), (0, .ref (a 15)), (1, .int x1), (2, .long x2), (4, .int x4)]) hx hb dX2_take_12 hl (by decide) rfl (fun ls hl => ?_)
  exact w_X2_take_L14 C  FU llf ldb (0 : Int64) x2 (0 : Int64) (0 : Int32) _ _ _ E (lv_sub hl [3, 4, 6, 2, 1, 0] rfl) hf
end
section
abbrev rm_X4_add : Room := { frames := 0, cells := 0, slots := 0, locals := 0 }
theorem hd_X4_add : yX4_add.cls ≠ "java/lang/invoke/MethodHandle" ∧ yX4_add.cls ≠ "java/lang/invoke/VarHandle" ∧ (parseMethodDescriptor yX4_add.desc).map (fun d => d.parameters.length) = some 3 := by decide +kernel
def f_X4_add (pgd : Nat → Int32) (plf : Nat → Int64) (pun : Nat → Int32) (psz : Int32) (x1 : Int32) (x2 : Int32) (x3 : Int32) : Option ((Nat → Int32) × (Nat → Int64) × (Nat → Int32) × (Int32)) :=
  if (40 : Int32) ≤ psz then
    some (pgd, plf, pun, psz)
  else
    ck psz 40 <|
    ck psz 40 <|
    ck psz 40 <|
    some ((upd pgd psz.toNatClampNeg x1), (vp_updL plf psz.toNatClampNeg x2.toInt64), (upd pun psz.toNatClampNeg x3), (psz + (1 : Int32)))
set_option maxHeartbeats 4000000 in
set_option maxRecDepth 100000 in
theorem c_X4_add {l : Launch} {D : va_G} {cI cJ cZ : ClassId} {a : Nat → Nat} {sz : Nat} {vl : Nat → Int32} {hs : Nat → Int32} {isz : Nat → Int32} {igd : Nat → Int32} {iup : Nat → Int32} {idn : Nat → Int32} {osz : Nat → Int32} {ogd : Nat → Int32} {oup : Nat → Int32} {odn : Nat → Int32} {dep : Nat → Int32} {rsz : Int32} {lgd : Nat → Int32} {llf : Nat → Int64} {ldb : Nat → Int64} {ldy : Nat → Int32} {lsz : Int32} {lti : Int64} {pgd : Nat → Int32} {plf : Nat → Int64} {pun : Nat → Int32} {psz : Int32} {bgd : Nat → Int32} {bam : Nat → Int64} {bwt : Nat → Int64} {bsh : Nat → Int64} {brm : Nat → Int64} {bsz : Int32} {cab : Nat → Int64} {cbl : Nat → Int64} {tod : Int32} {imp : Int64} {dis : Int64} {owe : Int64} {itr : Int64} {x1 : Int32} {x2 : Int32} {x3 : Int32} {o : (Nat → Int32) × (Nat → Int64) × (Nat → Int32) × (Int32)} (hf : f_X4_add pgd plf pun psz x1 x2 x3 = some o) : gMv l yX4_add wsX4_add rm_X4_add D (gT cI cJ cZ) (cW a cI cJ cZ vl hs isz igd iup idn osz ogd oup odn dep rsz lgd llf ldb ldy lsz lti pgd plf pun psz bgd bam bwt bsh brm bsz cab cbl tod imp dis owe itr) (cW a cI cJ cZ vl hs isz igd iup idn osz ogd oup odn dep rsz lgd llf ldb ldy lsz lti o.1 o.2.1 o.2.2.1 o.2.2.2 bgd bam bwt bsh brm bsz cab cbl tod imp dis owe itr) sz [.ref (a 20), .int x1, .int x2, .int x3] := by
  refine g_of (cc := cX4_add) (maxL := 4) (ret := none) (by decide) rfl (Nat.le_of_ble_eq_true rfl) ?_
  intro p e s m below meth c A ls hAe C hl E
  rw [← hAe]
  obtain ⟨hx, hb, hr, hml, hown, hts, hlocks, hN, hA⟩ := id C
  have hl : lv_has ls 4 [(0, .ref (a 20)), (1, .int x1), (2, .int x2), (3, .int x3)] := hl
  have E : vE s A D (gT cI cJ cZ) (cW a cI cJ cZ vl hs isz igd iup idn osz ogd oup odn dep rsz lgd llf ldb ldy lsz lti pgd plf pun psz bgd bam bwt bsh brm bsz cab cbl tod imp dis owe itr) s.heap [] := E
  rw [f_X4_add] at hf
  refine lv_aload_n hx hb dX4_add_0 rfl (lv_at hl 0 rfl) ?_
  refine g_get C E 20 3 (fun _ h => List.mem_cons_of_mem _ (List.mem_append_right _ h)) rfl rfl (by decide) (List.mem_of_getElem? (i := 1) rfl) rfl rfl dX4_add_1 ?_
  refine lv_bipush (v := 40) hx hb dX4_add_4 (by decide) ?_
  refine lv_icmp_ge (tgt := 50) hx hb dX4_add_6 (by decide) (fun c1 => ?_) (fun c1 => ?_)
  · rw [if_pos c1] at hf
    obtain rfl := Option.some.inj hf
    exact g_vret C E dX4_add_50
  · rw [if_neg c1] at hf
    refine lv_aload_n hx hb dX4_add_9 rfl (lv_at hl 0 rfl) ?_
    refine g_get C E 20 0 (fun _ h => List.mem_cons_of_mem _ (List.mem_append_right _ h)) rfl rfl (by decide) (List.mem_of_getElem? (i := 2) rfl) rfl rfl dX4_add_10 ?_
    refine lv_aload_n hx hb dX4_add_13 rfl (lv_at hl 0 rfl) ?_
    refine g_get C E 20 3 (fun _ h => List.mem_cons_of_mem _ (List.mem_append_right _ h)) rfl rfl (by decide) (List.mem_of_getElem? (i := 1) rfl) rfl rfl dX4_add_14 ?_
    refine lv_iload_n hx hb dX4_add_17 rfl (lv_at hl 1 rfl) ?_
    obtain ⟨h2, hf⟩ := ck_some hf
    refine g_iast (w' := (cW a cI cJ cZ vl hs isz igd iup idn osz ogd oup odn dep rsz lgd llf ldb ldy lsz lti (upd pgd psz.toNatClampNeg x1) plf pun psz bgd bam bwt bsh brm bsz cab cbl tod imp dis owe itr)) C E 21 rfl h2 dX4_add_18 rfl (fun H locs E => ?_)
    refine lv_aload_n hx hb dX4_add_19 rfl (lv_at hl 0 rfl) ?_
    refine g_get C E 20 1 (fun _ h => List.mem_cons_of_mem _ (List.mem_append_right _ h)) rfl rfl (by decide) (List.mem_of_getElem? (i := 3) rfl) rfl rfl dX4_add_20 ?_
    refine lv_aload_n hx hb dX4_add_23 rfl (lv_at hl 0 rfl) ?_
    refine g_get C E 20 3 (fun _ h => List.mem_cons_of_mem _ (List.mem_append_right _ h)) rfl rfl (by decide) (List.mem_of_getElem? (i := 1) rfl) rfl rfl dX4_add_24 ?_
    refine lv_iload_n hx hb dX4_add_27 rfl (lv_at hl 2 rfl) ?_
    refine lv_i2l hx hb dX4_add_28 rfl ?_
    obtain ⟨h3, hf⟩ := ck_some hf
    refine g_last (w' := (cW a cI cJ cZ vl hs isz igd iup idn osz ogd oup odn dep rsz lgd llf ldb ldy lsz lti (upd pgd psz.toNatClampNeg x1) (vp_updL plf psz.toNatClampNeg x2.toInt64) pun psz bgd bam bwt bsh brm bsz cab cbl tod imp dis owe itr)) C E 22 rfl h3 dX4_add_29 rfl (fun H locs E => ?_)
    refine lv_aload_n hx hb dX4_add_30 rfl (lv_at hl 0 rfl) ?_
    refine g_get C E 20 2 (fun _ h => List.mem_cons_of_mem _ (List.mem_append_right _ h)) rfl rfl (by decide) (List.mem_of_getElem? (i := 4) rfl) rfl rfl dX4_add_31 ?_
    refine lv_aload_n hx hb dX4_add_34 rfl (lv_at hl 0 rfl) ?_
    refine g_get C E 20 3 (fun _ h => List.mem_cons_of_mem _ (List.mem_append_right _ h)) rfl rfl (by decide) (List.mem_of_getElem? (i := 1) rfl) rfl rfl dX4_add_35 ?_
    refine lv_iload_n hx hb dX4_add_38 rfl (lv_at hl 3 rfl) ?_
    obtain ⟨h4, hf⟩ := ck_some hf
    refine g_iast (w' := (cW a cI cJ cZ vl hs isz igd iup idn osz ogd oup odn dep rsz lgd llf ldb ldy lsz lti (upd pgd psz.toNatClampNeg x1) (vp_updL plf psz.toNatClampNeg x2.toInt64) (upd pun psz.toNatClampNeg x3) psz bgd bam bwt bsh brm bsz cab cbl tod imp dis owe itr)) C E 23 rfl h4 dX4_add_39 rfl (fun H locs E => ?_)
    refine lv_aload_n hx hb dX4_add_40 rfl (lv_at hl 0 rfl) ?_
    refine lv_dup hx hb dX4_add_41 rfl ?_
    refine g_get C E 20 3 (fun _ h => List.mem_cons_of_mem _ (List.mem_append_right _ h)) rfl rfl (by decide) (List.mem_of_getElem? (i := 1) rfl) rfl rfl dX4_add_42 ?_
    refine lv_iconst (v := 1) hx hb dX4_add_45 (by decide) ?_
    refine lv_iadd hx hb dX4_add_46 ?_
    refine g_put (w' := (cW a cI cJ cZ vl hs isz igd iup idn osz ogd oup odn dep rsz lgd llf ldb ldy lsz lti (upd pgd psz.toNatClampNeg x1) (vp_updL plf psz.toNatClampNeg x2.toInt64) (upd pun psz.toNatClampNeg x3) (psz + (1 : Int32)) bgd bam bwt bsh brm bsz cab cbl tod imp dis owe itr)) C E 20 3 tyX4 tyX4_ok nmX4 (fun _ h => List.mem_cons_of_mem _ (List.mem_append_right _ h)) rfl rfl (by decide) (List.mem_of_getElem? (i := 1) rfl) rfl rfl rfl rfl rfl (Nat.le_of_ble_eq_true rfl) dX4_add_47 rfl (fun H locs E => ?_)
    obtain rfl := Option.some.inj hf
    exact g_vret C E dX4_add_50
abbrev rm_X4_isOpen : Room := { frames := 0, cells := 0, slots := 0, locals := 0 }
theorem hd_X4_isOpen : yX4_isOpen.cls ≠ "java/lang/invoke/MethodHandle" ∧ yX4_isOpen.cls ≠ "java/lang/invoke/VarHandle" ∧ (parseMethodDescriptor yX4_isOpen.desc).map (fun d => d.parameters.length) = some 3 := by decide +kernel
def f_X4_isOpen (pgd : Nat → Int32) (plf : Nat → Int64) (pun : Nat → Int32) (x1 : Int32) (x2 : Int32) (x3 : Int32) : Option (Int32) :=
  ck x1 40 <|
  if (pgd x1.toNatClampNeg) = x2 then
    ck x1 40 <|
    if (lg_cmp (plf x1.toNatClampNeg) (0 : Int64)) ≤ 0 then
      some ((0 : Int32))
    else
      ck x1 40 <|
      if (pun x1.toNatClampNeg) < x3 then
        some ((0 : Int32))
      else
        some ((1 : Int32))
  else
    some ((0 : Int32))
set_option maxHeartbeats 4000000 in
set_option maxRecDepth 100000 in
theorem c_X4_isOpen {l : Launch} {D : va_G} {cI cJ cZ : ClassId} {a : Nat → Nat} {sz : Nat} {vl : Nat → Int32} {hs : Nat → Int32} {isz : Nat → Int32} {igd : Nat → Int32} {iup : Nat → Int32} {idn : Nat → Int32} {osz : Nat → Int32} {ogd : Nat → Int32} {oup : Nat → Int32} {odn : Nat → Int32} {dep : Nat → Int32} {rsz : Int32} {lgd : Nat → Int32} {llf : Nat → Int64} {ldb : Nat → Int64} {ldy : Nat → Int32} {lsz : Int32} {lti : Int64} {pgd : Nat → Int32} {plf : Nat → Int64} {pun : Nat → Int32} {psz : Int32} {bgd : Nat → Int32} {bam : Nat → Int64} {bwt : Nat → Int64} {bsh : Nat → Int64} {brm : Nat → Int64} {bsz : Int32} {cab : Nat → Int64} {cbl : Nat → Int64} {tod : Int32} {imp : Int64} {dis : Int64} {owe : Int64} {itr : Int64} {x1 : Int32} {x2 : Int32} {x3 : Int32} {o : Int32} (hf : f_X4_isOpen pgd plf pun x1 x2 x3 = some o) : gMi l yX4_isOpen wsX4_isOpen rm_X4_isOpen D (gT cI cJ cZ) (cW a cI cJ cZ vl hs isz igd iup idn osz ogd oup odn dep rsz lgd llf ldb ldy lsz lti pgd plf pun psz bgd bam bwt bsh brm bsz cab cbl tod imp dis owe itr) (cW a cI cJ cZ vl hs isz igd iup idn osz ogd oup odn dep rsz lgd llf ldb ldy lsz lti pgd plf pun psz bgd bam bwt bsh brm bsz cab cbl tod imp dis owe itr) sz [.ref (a 20), .int x1, .int x2, .int x3] o := by
  refine g_of (cc := cX4_isOpen) (maxL := 4) (ret := (some .boolean)) (by decide) rfl (Nat.le_of_ble_eq_true rfl) ?_
  intro p e s m below meth c A ls hAe C hl E
  rw [← hAe]
  obtain ⟨hx, hb, hr, hml, hown, hts, hlocks, hN, hA⟩ := id C
  have hl : lv_has ls 4 [(0, .ref (a 20)), (1, .int x1), (2, .int x2), (3, .int x3)] := hl
  have E : vE s A D (gT cI cJ cZ) (cW a cI cJ cZ vl hs isz igd iup idn osz ogd oup odn dep rsz lgd llf ldb ldy lsz lti pgd plf pun psz bgd bam bwt bsh brm bsz cab cbl tod imp dis owe itr) s.heap [] := E
  rw [f_X4_isOpen] at hf
  refine lv_aload_n hx hb dX4_isOpen_0 rfl (lv_at hl 0 rfl) ?_
  refine g_get C E 20 0 (fun _ h => List.mem_cons_of_mem _ (List.mem_append_right _ h)) rfl rfl (by decide) (List.mem_of_getElem? (i := 1) rfl) rfl rfl dX4_isOpen_1 ?_
  refine lv_iload_n hx hb dX4_isOpen_4 rfl (lv_at hl 1 rfl) ?_
  obtain ⟨h1, hf⟩ := ck_some hf
  refine g_iald C E 21 rfl h1 dX4_isOpen_5 ?_
  refine lv_iload_n hx hb dX4_isOpen_6 rfl (lv_at hl 2 rfl) ?_
  refine lv_icmp_ne (tgt := 35) hx hb dX4_isOpen_7 (by decide) (fun c2 => ?_) (fun c2 => ?_)
  · rw [if_neg c2] at hf
    refine lv_iconst (v := 0) hx hb dX4_isOpen_35 (by decide) ?_
    obtain rfl := Option.some.inj hf
    exact g_zret (r := 0) C E rfl dX4_isOpen_36
  · rw [if_pos c2] at hf
    refine lv_aload_n hx hb dX4_isOpen_10 rfl (lv_at hl 0 rfl) ?_
    refine g_get C E 20 1 (fun _ h => List.mem_cons_of_mem _ (List.mem_append_right _ h)) rfl rfl (by decide) (List.mem_of_getElem? (i := 2) rfl) rfl rfl dX4_isOpen_11 ?_
    refine lv_iload_n hx hb dX4_isOpen_14 rfl (lv_at hl 1 rfl) ?_
    obtain ⟨h3, hf⟩ := ck_some hf
    refine g_lald C E 22 rfl h3 dX4_isOpen_15 ?_
    refine lv_lconst (v := 0) hx hb dX4_isOpen_16 (by decide) ?_
    refine W.lcmp hx hb dX4_isOpen_17 ?_
    refine lv_if_le (tgt := 35) hx hb dX4_isOpen_18 (by decide) (fun c4 => ?_) (fun c4 => ?_)
    · rw [if_pos c4] at hf
      refine lv_iconst (v := 0) hx hb dX4_isOpen_35 (by decide) ?_
      obtain rfl := Option.some.inj hf
      exact g_zret (r := 0) C E rfl dX4_isOpen_36
    · rw [if_neg c4] at hf
      refine lv_aload_n hx hb dX4_isOpen_21 rfl (lv_at hl 0 rfl) ?_
      refine g_get C E 20 2 (fun _ h => List.mem_cons_of_mem _ (List.mem_append_right _ h)) rfl rfl (by decide) (List.mem_of_getElem? (i := 3) rfl) rfl rfl dX4_isOpen_22 ?_
      refine lv_iload_n hx hb dX4_isOpen_25 rfl (lv_at hl 1 rfl) ?_
      obtain ⟨h5, hf⟩ := ck_some hf
      refine g_iald C E 23 rfl h5 dX4_isOpen_26 ?_
      refine lv_iload_n hx hb dX4_isOpen_27 rfl (lv_at hl 3 rfl) ?_
      refine lv_icmp_lt (tgt := 35) hx hb dX4_isOpen_28 (by decide) (fun c6 => ?_) (fun c6 => ?_)
      · rw [if_pos c6] at hf
        refine lv_iconst (v := 0) hx hb dX4_isOpen_35 (by decide) ?_
        obtain rfl := Option.some.inj hf
        exact g_zret (r := 0) C E rfl dX4_isOpen_36
      · rw [if_neg c6] at hf
        refine lv_iconst (v := 1) hx hb dX4_isOpen_31 (by decide) ?_
        refine lv_goto (tgt := 36) hx hb dX4_isOpen_32 (by decide) ?_
        obtain rfl := Option.some.inj hf
        exact g_zret (r := 1) C E rfl dX4_isOpen_36
abbrev rm_X4_openOf : Room := { frames := 1, cells := 0, slots := 0, locals := 23 }
theorem hd_X4_openOf : yX4_openOf.cls ≠ "java/lang/invoke/MethodHandle" ∧ yX4_openOf.cls ≠ "java/lang/invoke/VarHandle" ∧ (parseMethodDescriptor yX4_openOf.desc).map (fun d => d.parameters.length) = some 2 := by decide +kernel
def f_X4_openOf_L5 (pgd : Nat → Int32) (plf : Nat → Int64) (pun : Nat → Int32) (psz : Int32) (x1 : Int32) (x2 : Int32) : Nat → Int64 → Int32 → Option (Int64)
  | 0, _, _ => none
  | n + 1, x3, x5 =>
  if psz ≤ x5 then
    some (x3)
  else
    (f_X4_isOpen pgd plf pun x5 x1 x2).bind fun o2 =>
    if o2 = 0 then
      f_X4_openOf_L5 pgd plf pun psz x1 x2 n (x3 + (0 : Int64)) (x5 + 1)
    else
      ck x5 40 <|
      f_X4_openOf_L5 pgd plf pun psz x1 x2 n (x3 + (plf x5.toNatClampNeg)) (x5 + 1)
set_option maxHeartbeats 4000000 in
set_option maxRecDepth 100000 in
theorem w_X4_openOf_L5 {p : Program} {l : Launch} {e : Env} {s : State} {m : MethodId} {args : Array Value} {below : List Frame} {meth : Method} {c : Code} {A : Nat → Prop} {D : va_G} {cI cJ cZ : ClassId} {a : Nat → Nat} {vl : Nat → Int32} {hs : Nat → Int32} {isz : Nat → Int32} {igd : Nat → Int32} {iup : Nat → Int32} {idn : Nat → Int32} {osz : Nat → Int32} {ogd : Nat → Int32} {oup : Nat → Int32} {odn : Nat → Int32} {dep : Nat → Int32} {rsz : Int32} {lgd : Nat → Int32} {llf : Nat → Int64} {ldb : Nat → Int64} {ldy : Nat → Int32} {lsz : Int32} {lti : Int64} {pgd : Nat → Int32} {plf : Nat → Int64} {pun : Nat → Int32} {psz : Int32} {bgd : Nat → Int32} {bam : Nat → Int64} {bwt : Nat → Int64} {bsh : Nat → Int64} {brm : Nat → Int64} {bsz : Int32} {cab : Nat → Int64} {cbl : Nat → Int64} {tod : Int32} {imp : Int64} {dis : Int64} {owe : Int64} {itr : Int64} (C : gC p s m args meth c cX4_openOf 6 (some .long) wsX4_openOf RX4 A) {x1 : Int32} {x2 : Int32} {o : Int64} :
    ∀ (n : Nat) (x3 : Int64) (x5 : Int32) (H : Heap) (locs : List Loc) (ls : Array Slot), vE s A D (gT cI cJ cZ) (cW a cI cJ cZ vl hs isz igd iup idn osz ogd oup odn dep rsz lgd llf ldb ldy lsz lti pgd plf pun psz bgd bam bwt bsh brm bsz cab cbl tod imp dis owe itr) H locs → lv_has ls 6 [(0, .ref (a 20)), (1, .int x1), (2, .int x2), (3, .long x3), (5, .int x5)] → f_X4_openOf_L5 pgd plf pun psz x1 x2 n x3 x5 = some o → W p l e rm_X4_openOf s m args below meth c H locs 0 0 (MQ below (gQl D (gT cI cJ cZ) A (cW a cI cJ cZ vl hs isz igd iup idn osz ogd oup odn dep rsz lgd llf ldb ldy lsz lti pgd plf pun psz bgd bam bwt bsh brm bsz cab cbl tod imp dis owe itr) o) args s 0 0 A) (F0 m 5 ls []) := by
  obtain ⟨hx, hb, hr, hml, hown, hts, hlocks, hN, hA⟩ := id C
  intro n
  induction n with
  | zero =>
    intro x3 x5 H locs ls E hl hf
    rw [f_X4_openOf_L5] at hf
    cases hf
  | succ n ih =>
    intro x3 x5 H locs ls E hl hf
    rw [f_X4_openOf_L5] at hf
    refine lv_iload hx hb dX4_openOf_5 (lv_at hl 4 rfl) ?_
    refine lv_aload_n hx hb dX4_openOf_7 rfl (lv_at hl 0 rfl) ?_
    refine g_get C E 20 3 (fun _ h => List.mem_cons_of_mem _ (List.mem_append_right _ h)) rfl rfl (by decide) (List.mem_of_getElem? (i := 1) rfl) rfl rfl dX4_openOf_8 ?_
    refine lv_icmp_ge (tgt := 45) hx hb dX4_openOf_11 (by decide) (fun c1 => ?_) (fun c1 => ?_)
    · rw [if_pos c1] at hf
      refine lv_lload_n hx hb dX4_openOf_45 rfl (lv_at hl 3 rfl) ?_
      obtain rfl := Option.some.inj hf
      exact g_lret C E dX4_openOf_46
    · rw [if_neg c1] at hf
      refine lv_lload_n hx hb dX4_openOf_14 rfl (lv_at hl 3 rfl) ?_
      refine lv_aload_n hx hb dX4_openOf_15 rfl (lv_at hl 0 rfl) ?_
      refine lv_iload hx hb dX4_openOf_16 (lv_at hl 4 rfl) ?_
      refine lv_iload_n hx hb dX4_openOf_18 rfl (lv_at hl 1 rfl) ?_
      refine lv_iload_n hx hb dX4_openOf_19 rfl (lv_at hl 2 rfl) ?_
      obtain ⟨o2, e3, hf⟩ := bd_some hf
      refine g_calli (w' := (cW a cI cJ cZ vl hs isz igd iup idn osz ogd oup odn dep rsz lgd llf ldb ldy lsz lti pgd plf pun psz bgd bam bwt bsh brm bsz cab cbl tod imp dis owe itr)) C E (g_runV (As := [.int x5, .int x1, .int x2]) (rest := [.long x3]) C E (c_X4_isOpen e3) (cwV 3 hts gX4_openOf_X4_isOpen rfl rfl rfl ⟨rfl, hd_X4_isOpen⟩ ⟨Nat.le_of_ble_eq_true rfl, Nat.le_of_ble_eq_true rfl⟩) (q0 := 20) (ci := 4) rfl rfl rfl rfl hl.1 rfl (Nat.le_of_ble_eq_true rfl) dX4_openOf_20 ⟨Nat.le_of_ble_eq_true rfl, Nat.le_of_ble_eq_true rfl⟩) (fun H locs E => ?_)
      refine lv_if_eq (tgt := 36) hx hb dX4_openOf_23 (by decide) (fun c4 => ?_) (fun c4 => ?_)
      · rw [if_pos c4] at hf
        refine lv_lconst (v := 0) hx hb dX4_openOf_36 (by decide) ?_
        refine lv_ladd hx hb dX4_openOf_37 ?_
        refine lv_lstore_n (lv' := [(3, .long (x3 + (0 : Int64))), (0, .ref (a 20)), (1, .int x1), (2, .int x2), (5, .int x5)]) hx hb dX4_openOf_38 rfl hl (by decide) rfl (fun ls hl => ?_)
        refine lv_iinc (v := (x5 + 1)) (lv' := [(5, .int (x5 + 1)), (3, .long (x3 + (0 : Int64))), (0, .ref (a 20)), (1, .int x1), (2, .int x2)]) hx hb dX4_openOf_39 hl (k := 4) rfl rfl (by decide) rfl (fun ls hl => ?_)
        refine lv_goto (tgt := 5) hx hb dX4_openOf_42 (by decide) ?_
        exact ih (x3 + (0 : Int64)) (x5 + 1) _ _ _ E (lv_sub hl [2, 3, 4, 1, 0] rfl) hf
      · rw [if_neg c4] at hf
        refine lv_aload_n hx hb dX4_openOf_26 rfl (lv_at hl 0 rfl) ?_
        refine g_get C E 20 1 (fun _ h => List.mem_cons_of_mem _ (List.mem_append_right _ h)) rfl rfl (by decide) (List.mem_of_getElem? (i := 2) rfl) rfl rfl dX4_openOf_27 ?_
        refine lv_iload hx hb dX4_openOf_30 (lv_at hl 4 rfl) ?_
        obtain ⟨h5, hf⟩ := ck_some hf
        refine g_lald C E 22 rfl h5 dX4_openOf_32 ?_
        refine lv_goto (tgt := 37) hx hb dX4_openOf_33 (by decide) ?_
        refine lv_ladd hx hb dX4_openOf_37 ?_
        refine lv_lstore_n (lv' := [(3, .long (x3 + (plf x5.toNatClampNeg))), (0, .ref (a 20)), (1, .int x1), (2, .int x2), (5, .int x5)]) hx hb dX4_openOf_38 rfl hl (by decide) rfl (fun ls hl => ?_)
        refine lv_iinc (v := (x5 + 1)) (lv' := [(5, .int (x5 + 1)), (3, .long (x3 + (plf x5.toNatClampNeg))), (0, .ref (a 20)), (1, .int x1), (2, .int x2)]) hx hb dX4_openOf_39 hl (k := 4) rfl rfl (by decide) rfl (fun ls hl => ?_)
        refine lv_goto (tgt := 5) hx hb dX4_openOf_42 (by decide) ?_
        exact ih (x3 + (plf x5.toNatClampNeg)) (x5 + 1) _ _ _ E (lv_sub hl [2, 3, 4, 1, 0] rfl) hf
def f_X4_openOf (pgd : Nat → Int32) (plf : Nat → Int64) (pun : Nat → Int32) (psz : Int32) (x1 : Int32) (x2 : Int32) : Option (Int64) :=
  f_X4_openOf_L5 pgd plf pun psz x1 x2 FU (0 : Int64) (0 : Int32)
set_option maxHeartbeats 4000000 in
set_option maxRecDepth 100000 in
theorem c_X4_openOf {l : Launch} {D : va_G} {cI cJ cZ : ClassId} {a : Nat → Nat} {sz : Nat} {vl : Nat → Int32} {hs : Nat → Int32} {isz : Nat → Int32} {igd : Nat → Int32} {iup : Nat → Int32} {idn : Nat → Int32} {osz : Nat → Int32} {ogd : Nat → Int32} {oup : Nat → Int32} {odn : Nat → Int32} {dep : Nat → Int32} {rsz : Int32} {lgd : Nat → Int32} {llf : Nat → Int64} {ldb : Nat → Int64} {ldy : Nat → Int32} {lsz : Int32} {lti : Int64} {pgd : Nat → Int32} {plf : Nat → Int64} {pun : Nat → Int32} {psz : Int32} {bgd : Nat → Int32} {bam : Nat → Int64} {bwt : Nat → Int64} {bsh : Nat → Int64} {brm : Nat → Int64} {bsz : Int32} {cab : Nat → Int64} {cbl : Nat → Int64} {tod : Int32} {imp : Int64} {dis : Int64} {owe : Int64} {itr : Int64} {x1 : Int32} {x2 : Int32} {o : Int64} (hf : f_X4_openOf pgd plf pun psz x1 x2 = some o) : gMl l yX4_openOf wsX4_openOf rm_X4_openOf D (gT cI cJ cZ) (cW a cI cJ cZ vl hs isz igd iup idn osz ogd oup odn dep rsz lgd llf ldb ldy lsz lti pgd plf pun psz bgd bam bwt bsh brm bsz cab cbl tod imp dis owe itr) (cW a cI cJ cZ vl hs isz igd iup idn osz ogd oup odn dep rsz lgd llf ldb ldy lsz lti pgd plf pun psz bgd bam bwt bsh brm bsz cab cbl tod imp dis owe itr) sz [.ref (a 20), .int x1, .int x2] o := by
  refine g_of (cc := cX4_openOf) (maxL := 6) (ret := (some .long)) (by decide) rfl (Nat.le_of_ble_eq_true rfl) ?_
  intro p e s m below meth c A ls hAe C hl E
  rw [← hAe]
  obtain ⟨hx, hb, hr, hml, hown, hts, hlocks, hN, hA⟩ := id C
  have hl : lv_has ls 6 [(0, .ref (a 20)), (1, .int x1), (2, .int x2)] := hl
  have E : vE s A D (gT cI cJ cZ) (cW a cI cJ cZ vl hs isz igd iup idn osz ogd oup odn dep rsz lgd llf ldb ldy lsz lti pgd plf pun psz bgd bam bwt bsh brm bsz cab cbl tod imp dis owe itr) s.heap [] := E
  rw [f_X4_openOf] at hf
  refine lv_lconst (v := 0) hx hb dX4_openOf_0 (by decide) ?_
  refine lv_lstore_n (lv' := [(3, .long (0 : Int64)), (0, .ref (a 20)), (1, .int x1), (2, .int x2)]) hx hb dX4_openOf_1 rfl hl (by decide) rfl (fun ls hl => ?_)
  refine lv_iconst (v := 0) hx hb dX4_openOf_2 (by decide) ?_
  refine lv_istore (lv' := [(5, .int (0 : Int32)), (3, .long (0 : Int64)), (0, .ref (a 20)), (1, .int x1), (2, .int x2)]) hx hb dX4_openOf_3 hl (by decide) rfl (fun ls hl => ?_)
  exact w_X4_openOf_L5 C  FU (0 : Int64) (0 : Int32) _ _ _ E (lv_sub hl [2, 3, 4, 1, 0] rfl) hf
abbrev rm_X4_meet : Room := { frames := 2, cells := 0, slots := 0, locals := 48 }
theorem hd_X4_meet : yX4_meet.cls ≠ "java/lang/invoke/MethodHandle" ∧ yX4_meet.cls ≠ "java/lang/invoke/VarHandle" ∧ (parseMethodDescriptor yX4_meet.desc).map (fun d => d.parameters.length) = some 3 := by decide +kernel
def f_X4_meet_L23 (lgd : Nat → Int32) (pgd : Nat → Int32) (pun : Nat → Int32) (psz : Int32) (x2 : Int32) (x3 : Int32) : Nat → (Nat → Int64) → (Nat → Int64) → (Nat → Int64) → Int64 → Int32 → Option (Int64 × (Nat → Int64) × (Nat → Int64) × (Nat → Int64))
  | 0, _, _, _, _, _ => none
  | n + 1, llf, ldb, plf, x4, x6 =>
  if psz ≤ x6 then
    some (x4, llf, ldb, plf)
  else
    ck x2 200 <|
    if (lg_cmp (llf x2.toNatClampNeg) (0 : Int64)) ≤ 0 then
      some (x4, llf, ldb, plf)
    else
      ck x2 200 <|
      (f_X4_isOpen pgd plf pun x6 (lgd x2.toNatClampNeg) x3).bind fun o5 =>
      if o5 = 0 then
        f_X4_meet_L23 lgd pgd pun psz x2 x3 n llf ldb plf x4 (x6 + 1)
      else
        ck x6 40 <|
        ck x2 200 <|
        (f_X2_takeFrom llf ldb x2 (if (llf x2.toNatClampNeg) < (plf x6.toNatClampNeg) then (llf x2.toNatClampNeg) else (plf x6.toNatClampNeg))).bind fun o10 =>
        ck x6 40 <|
        ck x6 40 <|
        f_X4_meet_L23 lgd pgd pun psz x2 x3 n o10.2.1 o10.2.2 (vp_updL plf x6.toNatClampNeg ((plf x6.toNatClampNeg) - (if (llf x2.toNatClampNeg) < (plf x6.toNatClampNeg) then (llf x2.toNatClampNeg) else (plf x6.toNatClampNeg)))) (x4 + o10.1) (x6 + 1)
set_option maxHeartbeats 4000000 in
set_option maxRecDepth 100000 in
theorem w_X4_meet_L23 {p : Program} {l : Launch} {e : Env} {s : State} {m : MethodId} {args : Array Value} {below : List Frame} {meth : Method} {c : Code} {A : Nat → Prop} {D : va_G} {cI cJ cZ : ClassId} {a : Nat → Nat} {vl : Nat → Int32} {hs : Nat → Int32} {isz : Nat → Int32} {igd : Nat → Int32} {iup : Nat → Int32} {idn : Nat → Int32} {osz : Nat → Int32} {ogd : Nat → Int32} {oup : Nat → Int32} {odn : Nat → Int32} {dep : Nat → Int32} {rsz : Int32} {lgd : Nat → Int32} {ldy : Nat → Int32} {lsz : Int32} {lti : Int64} {pgd : Nat → Int32} {pun : Nat → Int32} {psz : Int32} {bgd : Nat → Int32} {bam : Nat → Int64} {bwt : Nat → Int64} {bsh : Nat → Int64} {brm : Nat → Int64} {bsz : Int32} {cab : Nat → Int64} {cbl : Nat → Int64} {tod : Int32} {imp : Int64} {dis : Int64} {owe : Int64} {itr : Int64} (C : gC p s m args meth c cX4_meet 9 (some .long) wsX4_meet RX4 A) {x2 : Int32} {x3 : Int32} {o : Int64 × (Nat → Int64) × (Nat → Int64) × (Nat → Int64)} :
    ∀ (n : Nat) (llf : Nat → Int64) (ldb : Nat → Int64) (plf : Nat → Int64) (x4 : Int64) (x6 : Int32) (H : Heap) (locs : List Loc) (ls : Array Slot), vE s A D (gT cI cJ cZ) (cW a cI cJ cZ vl hs isz igd iup idn osz ogd oup odn dep rsz lgd llf ldb ldy lsz lti pgd plf pun psz bgd bam bwt bsh brm bsz cab cbl tod imp dis owe itr) H locs → lv_has ls 9 [(0, .ref (a 20)), (1, .ref (a 15)), (2, .int x2), (3, .int x3), (4, .long x4), (6, .int x6)] → f_X4_meet_L23 lgd pgd pun psz x2 x3 n llf ldb plf x4 x6 = some o → W p l e rm_X4_meet s m args below meth c H locs 0 0 (MQ below (gQl D (gT cI cJ cZ) A (cW a cI cJ cZ vl hs isz igd iup idn osz ogd oup odn dep rsz lgd o.2.1 o.2.2.1 ldy lsz lti pgd o.2.2.2 pun psz bgd bam bwt bsh brm bsz cab cbl tod imp dis owe itr) o.1) args s 0 0 A) (F0 m 23 ls []) := by
  obtain ⟨hx, hb, hr, hml, hown, hts, hlocks, hN, hA⟩ := id C
  intro n
  induction n with
  | zero =>
    intro llf ldb plf x4 x6 H locs ls E hl hf
    rw [f_X4_meet_L23] at hf
    cases hf
  | succ n ih =>
    intro llf ldb plf x4 x6 H locs ls E hl hf
    rw [f_X4_meet_L23] at hf
    refine lv_iload hx hb dX4_meet_23 (lv_at hl 5 rfl) ?_
    refine lv_aload_n hx hb dX4_meet_25 rfl (lv_at hl 0 rfl) ?_
    refine g_get C E 20 3 (fun _ h => List.mem_cons_of_mem _ (List.mem_append_right _ h)) rfl rfl (by decide) (List.mem_of_getElem? (i := 2) rfl) rfl rfl dX4_meet_26 ?_
    refine lv_icmp_ge (tgt := 107) hx hb dX4_meet_29 (by decide) (fun c1 => ?_) (fun c1 => ?_)
    · rw [if_pos c1] at hf
      refine lv_lload hx hb dX4_meet_107 (lv_at hl 4 rfl) ?_
      obtain rfl := Option.some.inj hf
      exact g_lret C E dX4_meet_109
    · rw [if_neg c1] at hf
      refine lv_aload_n hx hb dX4_meet_32 rfl (lv_at hl 1 rfl) ?_
      refine g_get C E 15 1 (fun _ h => List.mem_cons_of_mem _ (List.mem_append_left _ (List.mem_append_right _ h))) rfl rfl (by decide) (List.mem_of_getElem? (i := 3) rfl) rfl rfl dX4_meet_33 ?_
      refine lv_iload_n hx hb dX4_meet_36 rfl (lv_at hl 2 rfl) ?_
      obtain ⟨h2, hf⟩ := ck_some hf
      refine g_lald C E 17 rfl h2 dX4_meet_37 ?_
      refine lv_lconst (v := 0) hx hb dX4_meet_38 (by decide) ?_
      refine W.lcmp hx hb dX4_meet_39 ?_
      refine lv_if_le (tgt := 107) hx hb dX4_meet_40 (by decide) (fun c3 => ?_) (fun c3 => ?_)
      · rw [if_pos c3] at hf
        refine lv_lload hx hb dX4_meet_107 (lv_at hl 4 rfl) ?_
        obtain rfl := Option.some.inj hf
        exact g_lret C E dX4_meet_109
      · rw [if_neg c3] at hf
        refine lv_aload_n hx hb dX4_meet_43 rfl (lv_at hl 0 rfl) ?_
        refine lv_iload hx hb dX4_meet_44 (lv_at hl 5 rfl) ?_
        refine lv_aload_n hx hb dX4_meet_46 rfl (lv_at hl 1 rfl) ?_
        refine g_get C E 15 0 (fun _ h => List.mem_cons_of_mem _ (List.mem_append_left _ (List.mem_append_right _ h))) rfl rfl (by decide) (List.mem_of_getElem? (i := 4) rfl) rfl rfl dX4_meet_47 ?_
        refine lv_iload_n hx hb dX4_meet_50 rfl (lv_at hl 2 rfl) ?_
        obtain ⟨h4, hf⟩ := ck_some hf
        refine g_iald C E 16 rfl h4 dX4_meet_51 ?_
        refine lv_iload_n hx hb dX4_meet_52 rfl (lv_at hl 3 rfl) ?_
        obtain ⟨o5, e6, hf⟩ := bd_some hf
        refine g_calli (w' := (cW a cI cJ cZ vl hs isz igd iup idn osz ogd oup odn dep rsz lgd llf ldb ldy lsz lti pgd plf pun psz bgd bam bwt bsh brm bsz cab cbl tod imp dis owe itr)) C E (g_runV (As := [.int x6, .int (lgd x2.toNatClampNeg), .int x3]) (rest := []) C E (c_X4_isOpen e6) (cwV 3 hts gX4_meet_X4_isOpen rfl rfl rfl ⟨rfl, hd_X4_isOpen⟩ ⟨Nat.le_of_ble_eq_true rfl, Nat.le_of_ble_eq_true rfl⟩) (q0 := 20) (ci := 4) rfl rfl rfl rfl hl.1 rfl (Nat.le_of_ble_eq_true rfl) dX4_meet_53 ⟨Nat.le_of_ble_eq_true rfl, Nat.le_of_ble_eq_true rfl⟩) (fun H locs E => ?_)
        refine lv_if_eq (tgt := 101) hx hb dX4_meet_56 (by decide) (fun c7 => ?_) (fun c7 => ?_)
        · rw [if_pos c7] at hf
          refine lv_iinc (v := (x6 + 1)) (lv' := [(6, .int (x6 + 1)), (0, .ref (a 20)), (1, .ref (a 15)), (2, .int x2), (3, .int x3), (4, .long x4)]) hx hb dX4_meet_101 hl (k := 5) rfl rfl (by decide) rfl (fun ls hl => ?_)
          refine lv_goto (tgt := 23) hx hb dX4_meet_104 (by decide) ?_
          exact ih llf ldb plf x4 (x6 + 1) _ _ _ E (lv_sub hl [1, 2, 3, 4, 5, 0] rfl) hf
        · rw [if_neg c7] at hf
          refine lv_aload_n hx hb dX4_meet_59 rfl (lv_at hl 0 rfl) ?_
          refine g_get C E 20 1 (fun _ h => List.mem_cons_of_mem _ (List.mem_append_right _ h)) rfl rfl (by decide) (List.mem_of_getElem? (i := 5) rfl) rfl rfl dX4_meet_60 ?_
          refine lv_iload hx hb dX4_meet_63 (lv_at hl 5 rfl) ?_
          obtain ⟨h8, hf⟩ := ck_some hf
          refine g_lald C E 22 rfl h8 dX4_meet_65 ?_
          refine lv_aload_n hx hb dX4_meet_66 rfl (lv_at hl 1 rfl) ?_
          refine g_get C E 15 1 (fun _ h => List.mem_cons_of_mem _ (List.mem_append_left _ (List.mem_append_right _ h))) rfl rfl (by decide) (List.mem_of_getElem? (i := 3) rfl) rfl rfl dX4_meet_67 ?_
          refine lv_iload_n hx hb dX4_meet_70 rfl (lv_at hl 2 rfl) ?_
          obtain ⟨h9, hf⟩ := ck_some hf
          refine g_lald C E 17 rfl h9 dX4_meet_71 ?_
          refine va_mmin_long hx hb (hml.trans hl.1.symm) hown (hts (.methodLink RX4 38 Lib.MathLoose.min_long.x) (List.mem_of_getElem? (i := 6) rfl)) (hts (.static Lib.MathLoose.min_long.x) (List.mem_of_getElem? (i := 7) rfl)) (hts (.initialized "java/lang/Math") (List.mem_of_getElem? (i := 8) rfl)) (hts (.code Lib.MathLoose.min_long.x Lib.MathLoose.min_long.code 4 (some .long)) (List.mem_of_getElem? (i := 9) rfl)) (Nat.le_of_ble_eq_true rfl) (Nat.le_of_ble_eq_true rfl) (Nat.le_of_ble_eq_true rfl) (Nat.le_of_ble_eq_true rfl) dX4_meet_72 ?_
          refine lv_lstore (lv' := [(7, .long (if (llf x2.toNatClampNeg) < (plf x6.toNatClampNeg) then (llf x2.toNatClampNeg) else (plf x6.toNatClampNeg))), (0, .ref (a 20)), (1, .ref (a 15)), (2, .int x2), (3, .int x3), (4, .long x4), (6, .int x6)]) hx hb dX4_meet_75 hl (by decide) rfl (fun ls hl => ?_)
          refine lv_lload hx hb dX4_meet_77 (lv_at hl 5 rfl) ?_
          refine lv_aload_n hx hb dX4_meet_79 rfl (lv_at hl 2 rfl) ?_
          refine lv_iload_n hx hb dX4_meet_80 rfl (lv_at hl 3 rfl) ?_
          refine lv_lload hx hb dX4_meet_81 (lv_at hl 0 rfl) ?_
          obtain ⟨o10, e11, hf⟩ := bd_some hf
          refine g_calll (w' := (cW a cI cJ cZ vl hs isz igd iup idn osz ogd oup odn dep rsz lgd o10.2.1 o10.2.2 ldy lsz lti pgd plf pun psz bgd bam bwt bsh brm bsz cab cbl tod imp dis owe itr)) C E (g_runV (As := [.int x2, .long (if (llf x2.toNatClampNeg) < (plf x6.toNatClampNeg) then (llf x2.toNatClampNeg) else (plf x6.toNatClampNeg))]) (rest := [.long x4]) C E (c_X2_takeFrom e11) (cwV 2 hts gX4_meet_X2_takeFrom rfl rfl rfl ⟨rfl, hd_X2_takeFrom⟩ ⟨Nat.le_of_ble_eq_true rfl, Nat.le_of_ble_eq_true rfl⟩) (q0 := 15) (ci := 2) rfl rfl rfl rfl hl.1 rfl (Nat.le_of_ble_eq_true rfl) dX4_meet_83 ⟨Nat.le_of_ble_eq_true rfl, Nat.le_of_ble_eq_true rfl⟩) (fun H locs E => ?_)
          refine lv_ladd hx hb dX4_meet_86 ?_
          refine lv_lstore (lv' := [(4, .long (x4 + o10.1)), (7, .long (if (llf x2.toNatClampNeg) < (plf x6.toNatClampNeg) then (llf x2.toNatClampNeg) else (plf x6.toNatClampNeg))), (0, .ref (a 20)), (1, .ref (a 15)), (2, .int x2), (3, .int x3), (6, .int x6)]) hx hb dX4_meet_87 hl (by decide) rfl (fun ls hl => ?_)
          refine lv_aload_n hx hb dX4_meet_89 rfl (lv_at hl 2 rfl) ?_
          refine g_get C E 20 1 (fun _ h => List.mem_cons_of_mem _ (List.mem_append_right _ h)) rfl rfl (by decide) (List.mem_of_getElem? (i := 5) rfl) rfl rfl dX4_meet_90 ?_
          refine lv_iload hx hb dX4_meet_93 (lv_at hl 6 rfl) ?_
          refine lv_dup2_11 hx hb dX4_meet_95 rfl rfl ?_
          obtain ⟨h12, hf⟩ := ck_some hf
          refine g_lald C E 22 rfl h12 dX4_meet_96 ?_
          refine lv_lload hx hb dX4_meet_97 (lv_at hl 1 rfl) ?_
          refine lv_lsub hx hb dX4_meet_99 ?_
          obtain ⟨h13, hf⟩ := ck_some hf
          refine g_last (w' := (cW a cI cJ cZ vl hs isz igd iup idn osz ogd oup odn dep rsz lgd o10.2.1 o10.2.2 ldy lsz lti pgd (vp_updL plf x6.toNatClampNeg ((plf x6.toNatClampNeg) - (if (llf x2.toNatClampNeg) < (plf x6.toNatClampNeg) then (llf x2.toNatClampNeg) else (plf x6.toNatClampNeg)))) pun psz bgd bam bwt bsh brm bsz cab cbl tod imp dis owe itr)) C E 22 rfl h13 dX4_meet_100 rfl (fun H locs E => ?_)
          refine lv_iinc (v := (x6 + 1)) (lv' := [(6, .int (x6 + 1)), (4, .long (x4 + o10.1)), (7, .long (if (llf x2.toNatClampNeg) < (plf x6.toNatClampNeg) then (llf x2.toNatClampNeg) else (plf x6.toNatClampNeg))), (0, .ref (a 20)), (1, .ref (a 15)), (2, .int x2), (3, .int x3)]) hx hb dX4_meet_101 hl (k := 6) rfl rfl (by decide) rfl (fun ls hl => ?_)
          refine lv_goto (tgt := 23) hx hb dX4_meet_104 (by decide) ?_
          exact ih o10.2.1 o10.2.2 (vp_updL plf x6.toNatClampNeg ((plf x6.toNatClampNeg) - (if (llf x2.toNatClampNeg) < (plf x6.toNatClampNeg) then (llf x2.toNatClampNeg) else (plf x6.toNatClampNeg)))) (x4 + o10.1) (x6 + 1) _ _ _ E (lv_sub hl [3, 4, 5, 6, 1, 0] rfl) hf
def f_X4_meet (lgd : Nat → Int32) (llf : Nat → Int64) (ldb : Nat → Int64) (lsz : Int32) (pgd : Nat → Int32) (plf : Nat → Int64) (pun : Nat → Int32) (psz : Int32) (x2 : Int32) (x3 : Int32) : Option (Int64 × (Nat → Int64) × (Nat → Int64) × (Nat → Int64)) :=
  (f_X6_isWithin x2 (0 : Int32) (lsz - (1 : Int32))).bind fun o1 =>
  if o1 = 0 then
    some ((0 : Int64), llf, ldb, plf)
  else
    f_X4_meet_L23 lgd pgd pun psz x2 x3 FU llf ldb plf (0 : Int64) (0 : Int32)
set_option maxHeartbeats 4000000 in
set_option maxRecDepth 100000 in
theorem c_X4_meet {l : Launch} {D : va_G} {cI cJ cZ : ClassId} {a : Nat → Nat} {sz : Nat} {vl : Nat → Int32} {hs : Nat → Int32} {isz : Nat → Int32} {igd : Nat → Int32} {iup : Nat → Int32} {idn : Nat → Int32} {osz : Nat → Int32} {ogd : Nat → Int32} {oup : Nat → Int32} {odn : Nat → Int32} {dep : Nat → Int32} {rsz : Int32} {lgd : Nat → Int32} {llf : Nat → Int64} {ldb : Nat → Int64} {ldy : Nat → Int32} {lsz : Int32} {lti : Int64} {pgd : Nat → Int32} {plf : Nat → Int64} {pun : Nat → Int32} {psz : Int32} {bgd : Nat → Int32} {bam : Nat → Int64} {bwt : Nat → Int64} {bsh : Nat → Int64} {brm : Nat → Int64} {bsz : Int32} {cab : Nat → Int64} {cbl : Nat → Int64} {tod : Int32} {imp : Int64} {dis : Int64} {owe : Int64} {itr : Int64} {x2 : Int32} {x3 : Int32} {o : Int64 × (Nat → Int64) × (Nat → Int64) × (Nat → Int64)} (hf : f_X4_meet lgd llf ldb lsz pgd plf pun psz x2 x3 = some o) : gMl l yX4_meet wsX4_meet rm_X4_meet D (gT cI cJ cZ) (cW a cI cJ cZ vl hs isz igd iup idn osz ogd oup odn dep rsz lgd llf ldb ldy lsz lti pgd plf pun psz bgd bam bwt bsh brm bsz cab cbl tod imp dis owe itr) (cW a cI cJ cZ vl hs isz igd iup idn osz ogd oup odn dep rsz lgd o.2.1 o.2.2.1 ldy lsz lti pgd o.2.2.2 pun psz bgd bam bwt bsh brm bsz cab cbl tod imp dis owe itr) sz [.ref (a 20), .ref (a 15), .int x2, .int x3] o.1 := by
  refine g_of (cc := cX4_meet) (maxL := 9) (ret := (some .long)) (by decide) rfl (Nat.le_of_ble_eq_true rfl) ?_
  intro p e s m below meth c A ls hAe C hl E
  rw [← hAe]
  obtain ⟨hx, hb, hr, hml, hown, hts, hlocks, hN, hA⟩ := id C
  have hl : lv_has ls 9 [(0, .ref (a 20)), (1, .ref (a 15)), (2, .int x2), (3, .int x3)] := hl
  have E : vE s A D (gT cI cJ cZ) (cW a cI cJ cZ vl hs isz igd iup idn osz ogd oup odn dep rsz lgd llf ldb ldy lsz lti pgd plf pun psz bgd bam bwt bsh brm bsz cab cbl tod imp dis owe itr) s.heap [] := E
  rw [f_X4_meet] at hf
  refine lv_lconst (v := 0) hx hb dX4_meet_0 (by decide) ?_
  refine lv_lstore (lv' := [(4, .long (0 : Int64)), (0, .ref (a 20)), (1, .ref (a 15)), (2, .int x2), (3, .int x3)]) hx hb dX4_meet_1 hl (by decide) rfl (fun ls hl => ?_)
  refine lv_iload_n hx hb dX4_meet_3 rfl (lv_at hl 3 rfl) ?_
  refine lv_iconst (v := 0) hx hb dX4_meet_4 (by decide) ?_
  refine lv_aload_n hx hb dX4_meet_5 rfl (lv_at hl 2 rfl) ?_
  refine g_get C E 15 4 (fun _ h => List.mem_cons_of_mem _ (List.mem_append_left _ (List.mem_append_right _ h))) rfl rfl (by decide) (List.mem_of_getElem? (i := 1) rfl) rfl rfl dX4_meet_6 ?_
  refine lv_iconst (v := 1) hx hb dX4_meet_9 (by decide) ?_
  refine lv_isub hx hb dX4_meet_10 ?_
  obtain ⟨o1, e2, hf⟩ := bd_some hf
  refine g_calli (w' := (cW a cI cJ cZ vl hs isz igd iup idn osz ogd oup odn dep rsz lgd llf ldb ldy lsz lti pgd plf pun psz bgd bam bwt bsh brm bsz cab cbl tod imp dis owe itr)) C E (g_runSN (As := [.int x2, .int (0 : Int32), .int (lsz - (1 : Int32))]) (rest := []) C E (c_X6_isWithin e2) ⟨va_cnB 3 hts gX4_meet_X6_isWithin_n33 rfl rfl rfl (hN.1 _ (List.mem_of_getElem? (i := 12) rfl)) (hts (.initialized RX6) (List.mem_of_getElem? (i := 11) rfl)) hd_X6_isWithin ⟨Nat.le_of_ble_eq_true rfl, Nat.le_of_ble_eq_true rfl⟩, hts (.static yX6_isWithin) (List.mem_of_getElem? (i := 10) rfl), trivial⟩ rfl hl.1 rfl (Nat.le_of_ble_eq_true rfl) dX4_meet_11 ⟨Nat.le_of_ble_eq_true rfl, Nat.le_of_ble_eq_true rfl⟩) (fun H locs E => ?_)
  refine lv_if_ne (tgt := 20) hx hb dX4_meet_14 (by decide) (fun c3 => ?_) (fun c3 => ?_)
  · rw [if_neg c3] at hf
    refine lv_iconst (v := 0) hx hb dX4_meet_20 (by decide) ?_
    refine lv_istore (lv' := [(6, .int (0 : Int32)), (4, .long (0 : Int64)), (0, .ref (a 20)), (1, .ref (a 15)), (2, .int x2), (3, .int x3)]) hx hb dX4_meet_21 hl (by decide) rfl (fun ls hl => ?_)
    exact w_X4_meet_L23 C  FU llf ldb plf (0 : Int64) (0 : Int32) _ _ _ E (lv_sub hl [2, 3, 4, 5, 1, 0] rfl) hf
  · rw [if_pos c3] at hf
    refine lv_lload hx hb dX4_meet_17 (lv_at hl 0 rfl) ?_
    obtain rfl := Option.some.inj hf
    exact g_lret C E dX4_meet_19
end
section
abbrev rm_X0_plan : Room := { frames := 2, cells := 0, slots := 0, locals := 47 }
theorem hd_X0_plan : yX0_plan.cls ≠ "java/lang/invoke/MethodHandle" ∧ yX0_plan.cls ≠ "java/lang/invoke/VarHandle" ∧ (parseMethodDescriptor yX0_plan.desc).map (fun d => d.parameters.length) = some 3 := by decide +kernel
def f_X0_plan_L23 (osz : Nat → Int32) (ogd : Nat → Int32) (oup : Nat → Int32) (odn : Nat → Int32) (x2 : Int32) (x3 : Int32) : Nat → (Nat → Int32) → (Nat → Int64) → (Int32) → Int32 → Option ((Nat → Int32) × (Nat → Int64) × (Int32))
  | 0, _, _, _, _ => none
  | n + 1, bgd, bam, bsz, x4 =>
  ck x2 12 <|
  if (osz x2.toNatClampNeg) ≤ x4 then
    some (bgd, bam, bsz)
  else
    if (2 : Int32) < bsz then
      some (bgd, bam, bsz)
    else
      (f_X3_goodAt_o ogd x2 x4).bind fun o4 =>
      ck bsz 3 <|
      (f_X3_roundedDown_o oup odn x2 x4 x3).bind fun o7 =>
      ck bsz 3 <|
      f_X0_plan_L23 osz ogd oup odn x2 x3 n (upd bgd bsz.toNatClampNeg o4) (vp_updL bam bsz.toNatClampNeg o7) (bsz + (1 : Int32)) (x4 + 1)
set_option maxHeartbeats 4000000 in
set_option maxRecDepth 100000 in
theorem w_X0_plan_L23 {p : Program} {l : Launch} {e : Env} {s : State} {m : MethodId} {args : Array Value} {below : List Frame} {meth : Method} {c : Code} {A : Nat → Prop} {D : va_G} {cI cJ cZ : ClassId} {a : Nat → Nat} {vl : Nat → Int32} {hs : Nat → Int32} {isz : Nat → Int32} {igd : Nat → Int32} {iup : Nat → Int32} {idn : Nat → Int32} {osz : Nat → Int32} {ogd : Nat → Int32} {oup : Nat → Int32} {odn : Nat → Int32} {dep : Nat → Int32} {rsz : Int32} {lgd : Nat → Int32} {llf : Nat → Int64} {ldb : Nat → Int64} {ldy : Nat → Int32} {lsz : Int32} {lti : Int64} {pgd : Nat → Int32} {plf : Nat → Int64} {pun : Nat → Int32} {psz : Int32} {bwt : Nat → Int64} {bsh : Nat → Int64} {brm : Nat → Int64} {cab : Nat → Int64} {cbl : Nat → Int64} {tod : Int32} {imp : Int64} {dis : Int64} {owe : Int64} {itr : Int64} (C : gC p s m args meth c cX0_plan 5 none wsX0_plan RX0 A) {x2 : Int32} {x3 : Int32} {o : (Nat → Int32) × (Nat → Int64) × (Int32)} :
    ∀ (n : Nat) (bgd : Nat → Int32) (bam : Nat → Int64) (bsz : Int32) (x4 : Int32) (H : Heap) (locs : List Loc) (ls : Array Slot), vE s A D (gT cI cJ cZ) (cW a cI cJ cZ vl hs isz igd iup idn osz ogd oup odn dep rsz lgd llf ldb ldy lsz lti pgd plf pun psz bgd bam bwt bsh brm bsz cab cbl tod imp dis owe itr) H locs → lv_has ls 5 [(0, .ref (a 24)), (1, .ref (a 9)), (2, .int x2), (3, .int x3), (4, .int x4)] → f_X0_plan_L23 osz ogd oup odn x2 x3 n bgd bam bsz x4 = some o → W p l e rm_X0_plan s m args below meth c H locs 0 0 (MQ below (gQv D (gT cI cJ cZ) A (cW a cI cJ cZ vl hs isz igd iup idn osz ogd oup odn dep rsz lgd llf ldb ldy lsz lti pgd plf pun psz o.1 o.2.1 bwt bsh brm o.2.2 cab cbl tod imp dis owe itr)) args s 0 0 A) (F0 m 23 ls []) := by
  obtain ⟨hx, hb, hr, hml, hown, hts, hlocks, hN, hA⟩ := id C
  intro n
  induction n with
  | zero =>
    intro bgd bam bsz x4 H locs ls E hl hf
    rw [f_X0_plan_L23] at hf
    cases hf
  | succ n ih =>
    intro bgd bam bsz x4 H locs ls E hl hf
    rw [f_X0_plan_L23] at hf
    refine lv_iload hx hb dX0_plan_23 (lv_at hl 4 rfl) ?_
    refine lv_aload_n hx hb dX0_plan_25 rfl (lv_at hl 1 rfl) ?_
    refine g_get C E 9 1 (fun _ h => List.mem_cons_of_mem _ (List.mem_append_right _ h)) rfl rfl (by decide) (List.mem_of_getElem? (i := 4) rfl) rfl rfl dX0_plan_26 ?_
    refine lv_iload_n hx hb dX0_plan_29 rfl (lv_at hl 2 rfl) ?_
    obtain ⟨h1, hf⟩ := ck_some hf
    refine g_iald C E 10 rfl h1 dX0_plan_30 ?_
    refine lv_icmp_ge (tgt := 91) hx hb dX0_plan_31 (by decide) (fun c2 => ?_) (fun c2 => ?_)
    · rw [if_pos c2] at hf
      obtain rfl := Option.some.inj hf
      exact g_vret C E dX0_plan_91
    · rw [if_neg c2] at hf
      refine lv_aload_n hx hb dX0_plan_34 rfl (lv_at hl 0 rfl) ?_
      refine g_get C E 24 5 (fun _ h => List.mem_cons_of_mem _ (List.mem_append_left _ (List.mem_append_right _ h))) rfl rfl (by decide) (List.mem_of_getElem? (i := 3) rfl) rfl rfl dX0_plan_35 ?_
      refine lv_iconst (v := 2) hx hb dX0_plan_38 (by decide) ?_
      refine lv_icmp_gt (tgt := 91) hx hb dX0_plan_39 (by decide) (fun c3 => ?_) (fun c3 => ?_)
      · rw [if_pos c3] at hf
        obtain rfl := Option.some.inj hf
        exact g_vret C E dX0_plan_91
      · rw [if_neg c3] at hf
        refine lv_aload_n hx hb dX0_plan_42 rfl (lv_at hl 0 rfl) ?_
        refine g_get C E 24 0 (fun _ h => List.mem_cons_of_mem _ (List.mem_append_left _ (List.mem_append_right _ h))) rfl rfl (by decide) (List.mem_of_getElem? (i := 1) rfl) rfl rfl dX0_plan_43 ?_
        refine lv_aload_n hx hb dX0_plan_46 rfl (lv_at hl 0 rfl) ?_
        refine g_get C E 24 5 (fun _ h => List.mem_cons_of_mem _ (List.mem_append_left _ (List.mem_append_right _ h))) rfl rfl (by decide) (List.mem_of_getElem? (i := 3) rfl) rfl rfl dX0_plan_47 ?_
        refine lv_aload_n hx hb dX0_plan_50 rfl (lv_at hl 1 rfl) ?_
        refine lv_iload_n hx hb dX0_plan_51 rfl (lv_at hl 2 rfl) ?_
        refine lv_iload hx hb dX0_plan_52 (lv_at hl 4 rfl) ?_
        obtain ⟨o4, e5, hf⟩ := bd_some hf
        refine g_calli (w' := (cW a cI cJ cZ vl hs isz igd iup idn osz ogd oup odn dep rsz lgd llf ldb ldy lsz lti pgd plf pun psz bgd bam bwt bsh brm bsz cab cbl tod imp dis owe itr)) C E (g_runV (As := [.int x2, .int x4]) (rest := [.int bsz, .ref (a 25)]) C E (c_X3_goodAt_o e5) (cwV 2 hts gX0_plan_X3_goodAt rfl rfl rfl ⟨rfl, hd_X3_goodAt_o⟩ ⟨Nat.le_of_ble_eq_true rfl, Nat.le_of_ble_eq_true rfl⟩) (q0 := 9) (ci := 3) rfl rfl rfl rfl hl.1 rfl (Nat.le_of_ble_eq_true rfl) dX0_plan_54 ⟨Nat.le_of_ble_eq_true rfl, Nat.le_of_ble_eq_true rfl⟩) (fun H locs E => ?_)
        obtain ⟨h6, hf⟩ := ck_some hf
        refine g_iast (w' := (cW a cI cJ cZ vl hs isz igd iup idn osz ogd oup odn dep rsz lgd llf ldb ldy lsz lti pgd plf pun psz (upd bgd bsz.toNatClampNeg o4) bam bwt bsh brm bsz cab cbl tod imp dis owe itr)) C E 25 rfl h6 dX0_plan_57 rfl (fun H locs E => ?_)
        refine lv_aload_n hx hb dX0_plan_58 rfl (lv_at hl 0 rfl) ?_
        refine g_get C E 24 1 (fun _ h => List.mem_cons_of_mem _ (List.mem_append_left _ (List.mem_append_right _ h))) rfl rfl (by decide) (List.mem_of_getElem? (i := 2) rfl) rfl rfl dX0_plan_59 ?_
        refine lv_aload_n hx hb dX0_plan_62 rfl (lv_at hl 0 rfl) ?_
        refine g_get C E 24 5 (fun _ h => List.mem_cons_of_mem _ (List.mem_append_left _ (List.mem_append_right _ h))) rfl rfl (by decide) (List.mem_of_getElem? (i := 3) rfl) rfl rfl dX0_plan_63 ?_
        refine lv_aload_n hx hb dX0_plan_66 rfl (lv_at hl 1 rfl) ?_
        refine lv_iload_n hx hb dX0_plan_67 rfl (lv_at hl 2 rfl) ?_
        refine lv_iload hx hb dX0_plan_68 (lv_at hl 4 rfl) ?_
        refine lv_iload_n hx hb dX0_plan_70 rfl (lv_at hl 3 rfl) ?_
        obtain ⟨o7, e8, hf⟩ := bd_some hf
        refine g_calll (w' := (cW a cI cJ cZ vl hs isz igd iup idn osz ogd oup odn dep rsz lgd llf ldb ldy lsz lti pgd plf pun psz (upd bgd bsz.toNatClampNeg o4) bam bwt bsh brm bsz cab cbl tod imp dis owe itr)) C E (g_runV (As := [.int x2, .int x4, .int x3]) (rest := [.int bsz, .ref (a 26)]) C E (c_X3_roundedDown_o e8) (cwV 3 hts gX0_plan_X3_roundedDown rfl rfl rfl ⟨rfl, hd_X3_roundedDown_o⟩ ⟨Nat.le_of_ble_eq_true rfl, Nat.le_of_ble_eq_true rfl⟩) (q0 := 9) (ci := 3) rfl rfl rfl rfl hl.1 rfl (Nat.le_of_ble_eq_true rfl) dX0_plan_71 ⟨Nat.le_of_ble_eq_true rfl, Nat.le_of_ble_eq_true rfl⟩) (fun H locs E => ?_)
        obtain ⟨h9, hf⟩ := ck_some hf
        refine g_last (w' := (cW a cI cJ cZ vl hs isz igd iup idn osz ogd oup odn dep rsz lgd llf ldb ldy lsz lti pgd plf pun psz (upd bgd bsz.toNatClampNeg o4) (vp_updL bam bsz.toNatClampNeg o7) bwt bsh brm bsz cab cbl tod imp dis owe itr)) C E 26 rfl h9 dX0_plan_74 rfl (fun H locs E => ?_)
        refine lv_aload_n hx hb dX0_plan_75 rfl (lv_at hl 0 rfl) ?_
        refine lv_dup hx hb dX0_plan_76 rfl ?_
        refine g_get C E 24 5 (fun _ h => List.mem_cons_of_mem _ (List.mem_append_left _ (List.mem_append_right _ h))) rfl rfl (by decide) (List.mem_of_getElem? (i := 3) rfl) rfl rfl dX0_plan_77 ?_
        refine lv_iconst (v := 1) hx hb dX0_plan_80 (by decide) ?_
        refine lv_iadd hx hb dX0_plan_81 ?_
        refine g_put (w' := (cW a cI cJ cZ vl hs isz igd iup idn osz ogd oup odn dep rsz lgd llf ldb ldy lsz lti pgd plf pun psz (upd bgd bsz.toNatClampNeg o4) (vp_updL bam bsz.toNatClampNeg o7) bwt bsh brm (bsz + (1 : Int32)) cab cbl tod imp dis owe itr)) C E 24 5 tyX0 tyX0_ok nmX0 (fun _ h => List.mem_cons_of_mem _ (List.mem_append_left _ (List.mem_append_right _ h))) rfl rfl (by decide) (List.mem_of_getElem? (i := 3) rfl) rfl rfl rfl rfl rfl (Nat.le_of_ble_eq_true rfl) dX0_plan_82 rfl (fun H locs E => ?_)
        refine lv_iinc (v := (x4 + 1)) (lv' := [(4, .int (x4 + 1)), (0, .ref (a 24)), (1, .ref (a 9)), (2, .int x2), (3, .int x3)]) hx hb dX0_plan_85 hl (k := 4) rfl rfl (by decide) rfl (fun ls hl => ?_)
        refine lv_goto (tgt := 23) hx hb dX0_plan_88 (by decide) ?_
        exact ih (upd bgd bsz.toNatClampNeg o4) (vp_updL bam bsz.toNatClampNeg o7) (bsz + (1 : Int32)) (x4 + 1) _ _ _ E (lv_sub hl [1, 2, 3, 4, 0] rfl) hf
def f_X0_plan (osz : Nat → Int32) (ogd : Nat → Int32) (oup : Nat → Int32) (odn : Nat → Int32) (bgd : Nat → Int32) (bam : Nat → Int64) (bsz : Int32) (x2 : Int32) (x3 : Int32) : Option ((Nat → Int32) × (Nat → Int64) × (Int32)) :=
  ck (0 : Int32) 3 <|
  ck (0 : Int32) 3 <|
  f_X0_plan_L23 osz ogd oup odn x2 x3 FU (upd bgd (0 : Int32).toNatClampNeg x2) (vp_updL bam (0 : Int32).toNatClampNeg x3.toInt64) (1 : Int32) (0 : Int32)
set_option maxHeartbeats 4000000 in
set_option maxRecDepth 100000 in
theorem c_X0_plan {l : Launch} {D : va_G} {cI cJ cZ : ClassId} {a : Nat → Nat} {sz : Nat} {vl : Nat → Int32} {hs : Nat → Int32} {isz : Nat → Int32} {igd : Nat → Int32} {iup : Nat → Int32} {idn : Nat → Int32} {osz : Nat → Int32} {ogd : Nat → Int32} {oup : Nat → Int32} {odn : Nat → Int32} {dep : Nat → Int32} {rsz : Int32} {lgd : Nat → Int32} {llf : Nat → Int64} {ldb : Nat → Int64} {ldy : Nat → Int32} {lsz : Int32} {lti : Int64} {pgd : Nat → Int32} {plf : Nat → Int64} {pun : Nat → Int32} {psz : Int32} {bgd : Nat → Int32} {bam : Nat → Int64} {bwt : Nat → Int64} {bsh : Nat → Int64} {brm : Nat → Int64} {bsz : Int32} {cab : Nat → Int64} {cbl : Nat → Int64} {tod : Int32} {imp : Int64} {dis : Int64} {owe : Int64} {itr : Int64} {x2 : Int32} {x3 : Int32} {o : (Nat → Int32) × (Nat → Int64) × (Int32)} (hf : f_X0_plan osz ogd oup odn bgd bam bsz x2 x3 = some o) : gMv l yX0_plan wsX0_plan rm_X0_plan D (gT cI cJ cZ) (cW a cI cJ cZ vl hs isz igd iup idn osz ogd oup odn dep rsz lgd llf ldb ldy lsz lti pgd plf pun psz bgd bam bwt bsh brm bsz cab cbl tod imp dis owe itr) (cW a cI cJ cZ vl hs isz igd iup idn osz ogd oup odn dep rsz lgd llf ldb ldy lsz lti pgd plf pun psz o.1 o.2.1 bwt bsh brm o.2.2 cab cbl tod imp dis owe itr) sz [.ref (a 24), .ref (a 9), .int x2, .int x3] := by
  refine g_of (cc := cX0_plan) (maxL := 5) (ret := none) (by decide) rfl (Nat.le_of_ble_eq_true rfl) ?_
  intro p e s m below meth c A ls hAe C hl E
  rw [← hAe]
  obtain ⟨hx, hb, hr, hml, hown, hts, hlocks, hN, hA⟩ := id C
  have hl : lv_has ls 5 [(0, .ref (a 24)), (1, .ref (a 9)), (2, .int x2), (3, .int x3)] := hl
  have E : vE s A D (gT cI cJ cZ) (cW a cI cJ cZ vl hs isz igd iup idn osz ogd oup odn dep rsz lgd llf ldb ldy lsz lti pgd plf pun psz bgd bam bwt bsh brm bsz cab cbl tod imp dis owe itr) s.heap [] := E
  rw [f_X0_plan] at hf
  refine lv_aload_n hx hb dX0_plan_0 rfl (lv_at hl 0 rfl) ?_
  refine g_get C E 24 0 (fun _ h => List.mem_cons_of_mem _ (List.mem_append_left _ (List.mem_append_right _ h))) rfl rfl (by decide) (List.mem_of_getElem? (i := 1) rfl) rfl rfl dX0_plan_1 ?_
  refine lv_iconst (v := 0) hx hb dX0_plan_4 (by decide) ?_
  refine lv_iload_n hx hb dX0_plan_5 rfl (lv_at hl 2 rfl) ?_
  obtain ⟨h1, hf⟩ := ck_some hf
  refine g_iast (w' := (cW a cI cJ cZ vl hs isz igd iup idn osz ogd oup odn dep rsz lgd llf ldb ldy lsz lti pgd plf pun psz (upd bgd (0 : Int32).toNatClampNeg x2) bam bwt bsh brm bsz cab cbl tod imp dis owe itr)) C E 25 rfl h1 dX0_plan_6 rfl (fun H locs E => ?_)
  refine lv_aload_n hx hb dX0_plan_7 rfl (lv_at hl 0 rfl) ?_
  refine g_get C E 24 1 (fun _ h => List.mem_cons_of_mem _ (List.mem_append_left _ (List.mem_append_right _ h))) rfl rfl (by decide) (List.mem_of_getElem? (i := 2) rfl) rfl rfl dX0_plan_8 ?_
  refine lv_iconst (v := 0) hx hb dX0_plan_11 (by decide) ?_
  refine lv_iload_n hx hb dX0_plan_12 rfl (lv_at hl 3 rfl) ?_
  refine lv_i2l hx hb dX0_plan_13 rfl ?_
  obtain ⟨h2, hf⟩ := ck_some hf
  refine g_last (w' := (cW a cI cJ cZ vl hs isz igd iup idn osz ogd oup odn dep rsz lgd llf ldb ldy lsz lti pgd plf pun psz (upd bgd (0 : Int32).toNatClampNeg x2) (vp_updL bam (0 : Int32).toNatClampNeg x3.toInt64) bwt bsh brm bsz cab cbl tod imp dis owe itr)) C E 26 rfl h2 dX0_plan_14 rfl (fun H locs E => ?_)
  refine lv_aload_n hx hb dX0_plan_15 rfl (lv_at hl 0 rfl) ?_
  refine lv_iconst (v := 1) hx hb dX0_plan_16 (by decide) ?_
  refine g_put (w' := (cW a cI cJ cZ vl hs isz igd iup idn osz ogd oup odn dep rsz lgd llf ldb ldy lsz lti pgd plf pun psz (upd bgd (0 : Int32).toNatClampNeg x2) (vp_updL bam (0 : Int32).toNatClampNeg x3.toInt64) bwt bsh brm (1 : Int32) cab cbl tod imp dis owe itr)) C E 24 5 tyX0 tyX0_ok nmX0 (fun _ h => List.mem_cons_of_mem _ (List.mem_append_left _ (List.mem_append_right _ h))) rfl rfl (by decide) (List.mem_of_getElem? (i := 3) rfl) rfl rfl rfl rfl rfl (Nat.le_of_ble_eq_true rfl) dX0_plan_17 rfl (fun H locs E => ?_)
  refine lv_iconst (v := 0) hx hb dX0_plan_20 (by decide) ?_
  refine lv_istore (lv' := [(4, .int (0 : Int32)), (0, .ref (a 24)), (1, .ref (a 9)), (2, .int x2), (3, .int x3)]) hx hb dX0_plan_21 hl (by decide) rfl (fun ls hl => ?_)
  exact w_X0_plan_L23 C  FU (upd bgd (0 : Int32).toNatClampNeg x2) (vp_updL bam (0 : Int32).toNatClampNeg x3.toInt64) (1 : Int32) (0 : Int32) _ _ _ E (lv_sub hl [1, 2, 3, 4, 0] rfl) hf
abbrev rm_X0_lotsToAdd : Room := { frames := 0, cells := 0, slots := 0, locals := 0 }
theorem hd_X0_lotsToAdd : yX0_lotsToAdd.cls ≠ "java/lang/invoke/MethodHandle" ∧ yX0_lotsToAdd.cls ≠ "java/lang/invoke/VarHandle" ∧ (parseMethodDescriptor yX0_lotsToAdd.desc).map (fun d => d.parameters.length) = some 0 := by decide +kernel
def f_X0_lotsToAdd_L4 (bam : Nat → Int64) (bsz : Int32) : Nat → Int32 → Int32 → Option (Int32)
  | 0, _, _ => none
  | n + 1, x1, x2 =>
  if bsz ≤ x2 then
    some (x1)
  else
    ck x2 3 <|
    if (lg_cmp (bam x2.toNatClampNeg) (0 : Int64)) ≤ 0 then
      f_X0_lotsToAdd_L4 bam bsz n (x1 + (0 : Int32)) (x2 + 1)
    else
      f_X0_lotsToAdd_L4 bam bsz n (x1 + (1 : Int32)) (x2 + 1)
set_option maxHeartbeats 4000000 in
set_option maxRecDepth 100000 in
theorem w_X0_lotsToAdd_L4 {p : Program} {l : Launch} {e : Env} {s : State} {m : MethodId} {args : Array Value} {below : List Frame} {meth : Method} {c : Code} {A : Nat → Prop} {D : va_G} {cI cJ cZ : ClassId} {a : Nat → Nat} {vl : Nat → Int32} {hs : Nat → Int32} {isz : Nat → Int32} {igd : Nat → Int32} {iup : Nat → Int32} {idn : Nat → Int32} {osz : Nat → Int32} {ogd : Nat → Int32} {oup : Nat → Int32} {odn : Nat → Int32} {dep : Nat → Int32} {rsz : Int32} {lgd : Nat → Int32} {llf : Nat → Int64} {ldb : Nat → Int64} {ldy : Nat → Int32} {lsz : Int32} {lti : Int64} {pgd : Nat → Int32} {plf : Nat → Int64} {pun : Nat → Int32} {psz : Int32} {bgd : Nat → Int32} {bam : Nat → Int64} {bwt : Nat → Int64} {bsh : Nat → Int64} {brm : Nat → Int64} {bsz : Int32} {cab : Nat → Int64} {cbl : Nat → Int64} {tod : Int32} {imp : Int64} {dis : Int64} {owe : Int64} {itr : Int64} (C : gC p s m args meth c cX0_lotsToAdd 3 (some .int) wsX0_lotsToAdd RX0 A) {o : Int32} :
    ∀ (n : Nat) (x1 : Int32) (x2 : Int32) (H : Heap) (locs : List Loc) (ls : Array Slot), vE s A D (gT cI cJ cZ) (cW a cI cJ cZ vl hs isz igd iup idn osz ogd oup odn dep rsz lgd llf ldb ldy lsz lti pgd plf pun psz bgd bam bwt bsh brm bsz cab cbl tod imp dis owe itr) H locs → lv_has ls 3 [(0, .ref (a 24)), (1, .int x1), (2, .int x2)] → f_X0_lotsToAdd_L4 bam bsz n x1 x2 = some o → W p l e rm_X0_lotsToAdd s m args below meth c H locs 0 0 (MQ below (gQi D (gT cI cJ cZ) A (cW a cI cJ cZ vl hs isz igd iup idn osz ogd oup odn dep rsz lgd llf ldb ldy lsz lti pgd plf pun psz bgd bam bwt bsh brm bsz cab cbl tod imp dis owe itr) o) args s 0 0 A) (F0 m 4 ls []) := by
  obtain ⟨hx, hb, hr, hml, hown, hts, hlocks, hN, hA⟩ := id C
  intro n
  induction n with
  | zero =>
    intro x1 x2 H locs ls E hl hf
    rw [f_X0_lotsToAdd_L4] at hf
    cases hf
  | succ n ih =>
    intro x1 x2 H locs ls E hl hf
    rw [f_X0_lotsToAdd_L4] at hf
    refine lv_iload_n hx hb dX0_lotsToAdd_4 rfl (lv_at hl 2 rfl) ?_
    refine lv_aload_n hx hb dX0_lotsToAdd_5 rfl (lv_at hl 0 rfl) ?_
    refine g_get C E 24 5 (fun _ h => List.mem_cons_of_mem _ (List.mem_append_right _ h)) rfl rfl (by decide) (List.mem_of_getElem? (i := 1) rfl) rfl rfl dX0_lotsToAdd_6 ?_
    refine lv_icmp_ge (tgt := 37) hx hb dX0_lotsToAdd_9 (by decide) (fun c1 => ?_) (fun c1 => ?_)
    · rw [if_pos c1] at hf
      refine lv_iload_n hx hb dX0_lotsToAdd_37 rfl (lv_at hl 1 rfl) ?_
      obtain rfl := Option.some.inj hf
      exact g_iret C E dX0_lotsToAdd_38
    · rw [if_neg c1] at hf
      refine lv_iload_n hx hb dX0_lotsToAdd_12 rfl (lv_at hl 1 rfl) ?_
      refine lv_aload_n hx hb dX0_lotsToAdd_13 rfl (lv_at hl 0 rfl) ?_
      refine g_get C E 24 1 (fun _ h => List.mem_cons_of_mem _ (List.mem_append_right _ h)) rfl rfl (by decide) (List.mem_of_getElem? (i := 2) rfl) rfl rfl dX0_lotsToAdd_14 ?_
      refine lv_iload_n hx hb dX0_lotsToAdd_17 rfl (lv_at hl 2 rfl) ?_
      obtain ⟨h2, hf⟩ := ck_some hf
      refine g_lald C E 26 rfl h2 dX0_lotsToAdd_18 ?_
      refine lv_lconst (v := 0) hx hb dX0_lotsToAdd_19 (by decide) ?_
      refine W.lcmp hx hb dX0_lotsToAdd_20 ?_
      refine lv_if_le (tgt := 28) hx hb dX0_lotsToAdd_21 (by decide) (fun c3 => ?_) (fun c3 => ?_)
      · rw [if_pos c3] at hf
        refine lv_iconst (v := 0) hx hb dX0_lotsToAdd_28 (by decide) ?_
        refine lv_iadd hx hb dX0_lotsToAdd_29 ?_
        refine lv_istore_n (lv' := [(1, .int (x1 + (0 : Int32))), (0, .ref (a 24)), (2, .int x2)]) hx hb dX0_lotsToAdd_30 rfl hl (by decide) rfl (fun ls hl => ?_)
        refine lv_iinc (v := (x2 + 1)) (lv' := [(2, .int (x2 + 1)), (1, .int (x1 + (0 : Int32))), (0, .ref (a 24))]) hx hb dX0_lotsToAdd_31 hl (k := 2) rfl rfl (by decide) rfl (fun ls hl => ?_)
        refine lv_goto (tgt := 4) hx hb dX0_lotsToAdd_34 (by decide) ?_
        exact ih (x1 + (0 : Int32)) (x2 + 1) _ _ _ E (lv_sub hl [2, 1, 0] rfl) hf
      · rw [if_neg c3] at hf
        refine lv_iconst (v := 1) hx hb dX0_lotsToAdd_24 (by decide) ?_
        refine lv_goto (tgt := 29) hx hb dX0_lotsToAdd_25 (by decide) ?_
        refine lv_iadd hx hb dX0_lotsToAdd_29 ?_
        refine lv_istore_n (lv' := [(1, .int (x1 + (1 : Int32))), (0, .ref (a 24)), (2, .int x2)]) hx hb dX0_lotsToAdd_30 rfl hl (by decide) rfl (fun ls hl => ?_)
        refine lv_iinc (v := (x2 + 1)) (lv' := [(2, .int (x2 + 1)), (1, .int (x1 + (1 : Int32))), (0, .ref (a 24))]) hx hb dX0_lotsToAdd_31 hl (k := 2) rfl rfl (by decide) rfl (fun ls hl => ?_)
        refine lv_goto (tgt := 4) hx hb dX0_lotsToAdd_34 (by decide) ?_
        exact ih (x1 + (1 : Int32)) (x2 + 1) _ _ _ E (lv_sub hl [2, 1, 0] rfl) hf
def f_X0_lotsToAdd (bam : Nat → Int64) (bsz : Int32)  : Option (Int32) :=
  f_X0_lotsToAdd_L4 bam bsz FU (0 : Int32) (0 : Int32)
set_option maxHeartbeats 4000000 in
set_option maxRecDepth 100000 in
theorem c_X0_lotsToAdd {l : Launch} {D : va_G} {cI cJ cZ : ClassId} {a : Nat → Nat} {sz : Nat} {vl : Nat → Int32} {hs : Nat → Int32} {isz : Nat → Int32} {igd : Nat → Int32} {iup : Nat → Int32} {idn : Nat → Int32} {osz : Nat → Int32} {ogd : Nat → Int32} {oup : Nat → Int32} {odn : Nat → Int32} {dep : Nat → Int32} {rsz : Int32} {lgd : Nat → Int32} {llf : Nat → Int64} {ldb : Nat → Int64} {ldy : Nat → Int32} {lsz : Int32} {lti : Int64} {pgd : Nat → Int32} {plf : Nat → Int64} {pun : Nat → Int32} {psz : Int32} {bgd : Nat → Int32} {bam : Nat → Int64} {bwt : Nat → Int64} {bsh : Nat → Int64} {brm : Nat → Int64} {bsz : Int32} {cab : Nat → Int64} {cbl : Nat → Int64} {tod : Int32} {imp : Int64} {dis : Int64} {owe : Int64} {itr : Int64} {o : Int32} (hf : f_X0_lotsToAdd bam bsz = some o) : gMi l yX0_lotsToAdd wsX0_lotsToAdd rm_X0_lotsToAdd D (gT cI cJ cZ) (cW a cI cJ cZ vl hs isz igd iup idn osz ogd oup odn dep rsz lgd llf ldb ldy lsz lti pgd plf pun psz bgd bam bwt bsh brm bsz cab cbl tod imp dis owe itr) (cW a cI cJ cZ vl hs isz igd iup idn osz ogd oup odn dep rsz lgd llf ldb ldy lsz lti pgd plf pun psz bgd bam bwt bsh brm bsz cab cbl tod imp dis owe itr) sz [.ref (a 24)] o := by
  refine g_of (cc := cX0_lotsToAdd) (maxL := 3) (ret := (some .int)) (by decide) rfl (Nat.le_of_ble_eq_true rfl) ?_
  intro p e s m below meth c A ls hAe C hl E
  rw [← hAe]
  obtain ⟨hx, hb, hr, hml, hown, hts, hlocks, hN, hA⟩ := id C
  have hl : lv_has ls 3 [(0, .ref (a 24))] := hl
  have E : vE s A D (gT cI cJ cZ) (cW a cI cJ cZ vl hs isz igd iup idn osz ogd oup odn dep rsz lgd llf ldb ldy lsz lti pgd plf pun psz bgd bam bwt bsh brm bsz cab cbl tod imp dis owe itr) s.heap [] := E
  rw [f_X0_lotsToAdd] at hf
  refine lv_iconst (v := 0) hx hb dX0_lotsToAdd_0 (by decide) ?_
  refine lv_istore_n (lv' := [(1, .int (0 : Int32)), (0, .ref (a 24))]) hx hb dX0_lotsToAdd_1 rfl hl (by decide) rfl (fun ls hl => ?_)
  refine lv_iconst (v := 0) hx hb dX0_lotsToAdd_2 (by decide) ?_
  refine lv_istore_n (lv' := [(2, .int (0 : Int32)), (1, .int (0 : Int32)), (0, .ref (a 24))]) hx hb dX0_lotsToAdd_3 rfl hl (by decide) rfl (fun ls hl => ?_)
  exact w_X0_lotsToAdd_L4 C  FU (0 : Int32) (0 : Int32) _ _ _ E (lv_sub hl [2, 1, 0] rfl) hf
abbrev rm_X0_weigh : Room := { frames := 0, cells := 0, slots := 0, locals := 0 }
theorem hd_X0_weigh : yX0_weigh.cls ≠ "java/lang/invoke/MethodHandle" ∧ yX0_weigh.cls ≠ "java/lang/invoke/VarHandle" ∧ (parseMethodDescriptor yX0_weigh.desc).map (fun d => d.parameters.length) = some 2 := by decide +kernel
def f_X0_weigh_L2 (vl : Nat → Int32) (bgd : Nat → Int32) (bam : Nat → Int64) (bsz : Int32) (x2 : Int32) : Nat → (Nat → Int64) → Int32 → Option ((Nat → Int64))
  | 0, _, _ => none
  | n + 1, bwt, x3 =>
  if bsz ≤ x3 then
    some (bwt)
  else
    if x2 = 0 then
      ck x3 3 <|
      ck x3 3 <|
      f_X0_weigh_L2 vl bgd bam bsz x2 n (vp_updL bwt x3.toNatClampNeg (bam x3.toNatClampNeg)) (x3 + 1)
    else
      ck x3 3 <|
      ck x3 3 <|
      ck (bgd x3.toNatClampNeg) 12 <|
      ck x3 3 <|
      f_X0_weigh_L2 vl bgd bam bsz x2 n (vp_updL bwt x3.toNatClampNeg ((bam x3.toNatClampNeg) * (vl (bgd x3.toNatClampNeg).toNatClampNeg).toInt64)) (x3 + 1)
set_option maxHeartbeats 4000000 in
set_option maxRecDepth 100000 in
theorem w_X0_weigh_L2 {p : Program} {l : Launch} {e : Env} {s : State} {m : MethodId} {args : Array Value} {below : List Frame} {meth : Method} {c : Code} {A : Nat → Prop} {D : va_G} {cI cJ cZ : ClassId} {a : Nat → Nat} {vl : Nat → Int32} {hs : Nat → Int32} {isz : Nat → Int32} {igd : Nat → Int32} {iup : Nat → Int32} {idn : Nat → Int32} {osz : Nat → Int32} {ogd : Nat → Int32} {oup : Nat → Int32} {odn : Nat → Int32} {dep : Nat → Int32} {rsz : Int32} {lgd : Nat → Int32} {llf : Nat → Int64} {ldb : Nat → Int64} {ldy : Nat → Int32} {lsz : Int32} {lti : Int64} {pgd : Nat → Int32} {plf : Nat → Int64} {pun : Nat → Int32} {psz : Int32} {bgd : Nat → Int32} {bam : Nat → Int64} {bsh : Nat → Int64} {brm : Nat → Int64} {bsz : Int32} {cab : Nat → Int64} {cbl : Nat → Int64} {tod : Int32} {imp : Int64} {dis : Int64} {owe : Int64} {itr : Int64} (C : gC p s m args meth c cX0_weigh 4 none wsX0_weigh RX0 A) {x2 : Int32} {o : (Nat → Int64)} :
    ∀ (n : Nat) (bwt : Nat → Int64) (x3 : Int32) (H : Heap) (locs : List Loc) (ls : Array Slot), vE s A D (gT cI cJ cZ) (cW a cI cJ cZ vl hs isz igd iup idn osz ogd oup odn dep rsz lgd llf ldb ldy lsz lti pgd plf pun psz bgd bam bwt bsh brm bsz cab cbl tod imp dis owe itr) H locs → lv_has ls 4 [(0, .ref (a 24)), (1, .ref (a 1)), (2, .int x2), (3, .int x3)] → f_X0_weigh_L2 vl bgd bam bsz x2 n bwt x3 = some o → W p l e rm_X0_weigh s m args below meth c H locs 0 0 (MQ below (gQv D (gT cI cJ cZ) A (cW a cI cJ cZ vl hs isz igd iup idn osz ogd oup odn dep rsz lgd llf ldb ldy lsz lti pgd plf pun psz bgd bam o bsh brm bsz cab cbl tod imp dis owe itr)) args s 0 0 A) (F0 m 2 ls []) := by
  obtain ⟨hx, hb, hr, hml, hown, hts, hlocks, hN, hA⟩ := id C
  intro n
  induction n with
  | zero =>
    intro bwt x3 H locs ls E hl hf
    rw [f_X0_weigh_L2] at hf
    cases hf
  | succ n ih =>
    intro bwt x3 H locs ls E hl hf
    rw [f_X0_weigh_L2] at hf
    refine lv_iload_n hx hb dX0_weigh_2 rfl (lv_at hl 3 rfl) ?_
    refine lv_aload_n hx hb dX0_weigh_3 rfl (lv_at hl 0 rfl) ?_
    refine g_get C E 24 5 (fun _ h => List.mem_cons_of_mem _ (List.mem_append_right _ h)) rfl rfl (by decide) (List.mem_of_getElem? (i := 1) rfl) rfl rfl dX0_weigh_4 ?_
    refine lv_icmp_ge (tgt := 51) hx hb dX0_weigh_7 (by decide) (fun c1 => ?_) (fun c1 => ?_)
    · rw [if_pos c1] at hf
      obtain rfl := Option.some.inj hf
      exact g_vret C E dX0_weigh_51
    · rw [if_neg c1] at hf
      refine lv_aload_n hx hb dX0_weigh_10 rfl (lv_at hl 0 rfl) ?_
      refine g_get C E 24 2 (fun _ h => List.mem_cons_of_mem _ (List.mem_append_right _ h)) rfl rfl (by decide) (List.mem_of_getElem? (i := 2) rfl) rfl rfl dX0_weigh_11 ?_
      refine lv_iload_n hx hb dX0_weigh_14 rfl (lv_at hl 3 rfl) ?_
      refine lv_iload_n hx hb dX0_weigh_15 rfl (lv_at hl 2 rfl) ?_
      refine lv_if_eq (tgt := 38) hx hb dX0_weigh_16 (by decide) (fun c2 => ?_) (fun c2 => ?_)
      · rw [if_pos c2] at hf
        refine lv_aload_n hx hb dX0_weigh_38 rfl (lv_at hl 0 rfl) ?_
        refine g_get C E 24 1 (fun _ h => List.mem_cons_of_mem _ (List.mem_append_right _ h)) rfl rfl (by decide) (List.mem_of_getElem? (i := 3) rfl) rfl rfl dX0_weigh_39 ?_
        refine lv_iload_n hx hb dX0_weigh_42 rfl (lv_at hl 3 rfl) ?_
        obtain ⟨h3, hf⟩ := ck_some hf
        refine g_lald C E 26 rfl h3 dX0_weigh_43 ?_
        obtain ⟨h4, hf⟩ := ck_some hf
        refine g_last (w' := (cW a cI cJ cZ vl hs isz igd iup idn osz ogd oup odn dep rsz lgd llf ldb ldy lsz lti pgd plf pun psz bgd bam (vp_updL bwt x3.toNatClampNeg (bam x3.toNatClampNeg)) bsh brm bsz cab cbl tod imp dis owe itr)) C E 27 rfl h4 dX0_weigh_44 rfl (fun H locs E => ?_)
        refine lv_iinc (v := (x3 + 1)) (lv' := [(3, .int (x3 + 1)), (0, .ref (a 24)), (1, .ref (a 1)), (2, .int x2)]) hx hb dX0_weigh_45 hl (k := 3) rfl rfl (by decide) rfl (fun ls hl => ?_)
        refine lv_goto (tgt := 2) hx hb dX0_weigh_48 (by decide) ?_
        exact ih (vp_updL bwt x3.toNatClampNeg (bam x3.toNatClampNeg)) (x3 + 1) _ _ _ E (lv_sub hl [1, 2, 3, 0] rfl) hf
      · rw [if_neg c2] at hf
        refine lv_aload_n hx hb dX0_weigh_19 rfl (lv_at hl 0 rfl) ?_
        refine g_get C E 24 1 (fun _ h => List.mem_cons_of_mem _ (List.mem_append_right _ h)) rfl rfl (by decide) (List.mem_of_getElem? (i := 3) rfl) rfl rfl dX0_weigh_20 ?_
        refine lv_iload_n hx hb dX0_weigh_23 rfl (lv_at hl 3 rfl) ?_
        obtain ⟨h5, hf⟩ := ck_some hf
        refine g_lald C E 26 rfl h5 dX0_weigh_24 ?_
        refine lv_aload_n hx hb dX0_weigh_25 rfl (lv_at hl 1 rfl) ?_
        refine lv_aload_n hx hb dX0_weigh_26 rfl (lv_at hl 0 rfl) ?_
        refine g_get C E 24 0 (fun _ h => List.mem_cons_of_mem _ (List.mem_append_right _ h)) rfl rfl (by decide) (List.mem_of_getElem? (i := 4) rfl) rfl rfl dX0_weigh_27 ?_
        refine lv_iload_n hx hb dX0_weigh_30 rfl (lv_at hl 3 rfl) ?_
        obtain ⟨h6, hf⟩ := ck_some hf
        refine g_iald C E 25 rfl h6 dX0_weigh_31 ?_
        obtain ⟨h7, hf⟩ := ck_some hf
        refine g_iald C E 1 rfl h7 dX0_weigh_32 ?_
        refine lv_i2l hx hb dX0_weigh_33 rfl ?_
        refine lv_lmul hx hb dX0_weigh_34 ?_
        refine lv_goto (tgt := 44) hx hb dX0_weigh_35 (by decide) ?_
        obtain ⟨h8, hf⟩ := ck_some hf
        refine g_last (w' := (cW a cI cJ cZ vl hs isz igd iup idn osz ogd oup odn dep rsz lgd llf ldb ldy lsz lti pgd plf pun psz bgd bam (vp_updL bwt x3.toNatClampNeg ((bam x3.toNatClampNeg) * (vl (bgd x3.toNatClampNeg).toNatClampNeg).toInt64)) bsh brm bsz cab cbl tod imp dis owe itr)) C E 27 rfl h8 dX0_weigh_44 rfl (fun H locs E => ?_)
        refine lv_iinc (v := (x3 + 1)) (lv' := [(3, .int (x3 + 1)), (0, .ref (a 24)), (1, .ref (a 1)), (2, .int x2)]) hx hb dX0_weigh_45 hl (k := 3) rfl rfl (by decide) rfl (fun ls hl => ?_)
        refine lv_goto (tgt := 2) hx hb dX0_weigh_48 (by decide) ?_
        exact ih (vp_updL bwt x3.toNatClampNeg ((bam x3.toNatClampNeg) * (vl (bgd x3.toNatClampNeg).toNatClampNeg).toInt64)) (x3 + 1) _ _ _ E (lv_sub hl [1, 2, 3, 0] rfl) hf
def f_X0_weigh (vl : Nat → Int32) (bgd : Nat → Int32) (bam : Nat → Int64) (bwt : Nat → Int64) (bsz : Int32) (x2 : Int32) : Option ((Nat → Int64)) :=
  f_X0_weigh_L2 vl bgd bam bsz x2 FU bwt (0 : Int32)
set_option maxHeartbeats 4000000 in
set_option maxRecDepth 100000 in
theorem c_X0_weigh {l : Launch} {D : va_G} {cI cJ cZ : ClassId} {a : Nat → Nat} {sz : Nat} {vl : Nat → Int32} {hs : Nat → Int32} {isz : Nat → Int32} {igd : Nat → Int32} {iup : Nat → Int32} {idn : Nat → Int32} {osz : Nat → Int32} {ogd : Nat → Int32} {oup : Nat → Int32} {odn : Nat → Int32} {dep : Nat → Int32} {rsz : Int32} {lgd : Nat → Int32} {llf : Nat → Int64} {ldb : Nat → Int64} {ldy : Nat → Int32} {lsz : Int32} {lti : Int64} {pgd : Nat → Int32} {plf : Nat → Int64} {pun : Nat → Int32} {psz : Int32} {bgd : Nat → Int32} {bam : Nat → Int64} {bwt : Nat → Int64} {bsh : Nat → Int64} {brm : Nat → Int64} {bsz : Int32} {cab : Nat → Int64} {cbl : Nat → Int64} {tod : Int32} {imp : Int64} {dis : Int64} {owe : Int64} {itr : Int64} {x2 : Int32} {o : (Nat → Int64)} (hf : f_X0_weigh vl bgd bam bwt bsz x2 = some o) : gMv l yX0_weigh wsX0_weigh rm_X0_weigh D (gT cI cJ cZ) (cW a cI cJ cZ vl hs isz igd iup idn osz ogd oup odn dep rsz lgd llf ldb ldy lsz lti pgd plf pun psz bgd bam bwt bsh brm bsz cab cbl tod imp dis owe itr) (cW a cI cJ cZ vl hs isz igd iup idn osz ogd oup odn dep rsz lgd llf ldb ldy lsz lti pgd plf pun psz bgd bam o bsh brm bsz cab cbl tod imp dis owe itr) sz [.ref (a 24), .ref (a 1), .int x2] := by
  refine g_of (cc := cX0_weigh) (maxL := 4) (ret := none) (by decide) rfl (Nat.le_of_ble_eq_true rfl) ?_
  intro p e s m below meth c A ls hAe C hl E
  rw [← hAe]
  obtain ⟨hx, hb, hr, hml, hown, hts, hlocks, hN, hA⟩ := id C
  have hl : lv_has ls 4 [(0, .ref (a 24)), (1, .ref (a 1)), (2, .int x2)] := hl
  have E : vE s A D (gT cI cJ cZ) (cW a cI cJ cZ vl hs isz igd iup idn osz ogd oup odn dep rsz lgd llf ldb ldy lsz lti pgd plf pun psz bgd bam bwt bsh brm bsz cab cbl tod imp dis owe itr) s.heap [] := E
  rw [f_X0_weigh] at hf
  refine lv_iconst (v := 0) hx hb dX0_weigh_0 (by decide) ?_
  refine lv_istore_n (lv' := [(3, .int (0 : Int32)), (0, .ref (a 24)), (1, .ref (a 1)), (2, .int x2)]) hx hb dX0_weigh_1 rfl hl (by decide) rfl (fun ls hl => ?_)
  exact w_X0_weigh_L2 C  FU bwt (0 : Int32) _ _ _ E (lv_sub hl [1, 2, 3, 0] rfl) hf
abbrev rm_X0_greatestRemainder : Room := { frames := 0, cells := 0, slots := 0, locals := 0 }
theorem hd_X0_greatestRemainder : yX0_greatestRemainder.cls ≠ "java/lang/invoke/MethodHandle" ∧ yX0_greatestRemainder.cls ≠ "java/lang/invoke/VarHandle" ∧ (parseMethodDescriptor yX0_greatestRemainder.desc).map (fun d => d.parameters.length) = some 0 := by decide +kernel
def f_X0_greatestRemainder_L4 (brm : Nat → Int64) (bsz : Int32) : Nat → Int32 → Int32 → Option (Int32)
  | 0, _, _ => none
  | n + 1, x1, x2 =>
  if bsz ≤ x2 then
    some (x1)
  else
    ck x2 3 <|
    ck x1 3 <|
    if (lg_cmp (brm x2.toNatClampNeg) (brm x1.toNatClampNeg)) ≤ 0 then
      f_X0_greatestRemainder_L4 brm bsz n x1 (x2 + 1)
    else
      f_X0_greatestRemainder_L4 brm bsz n x2 (x2 + 1)
set_option maxHeartbeats 4000000 in
set_option maxRecDepth 100000 in
theorem w_X0_greatestRemainder_L4 {p : Program} {l : Launch} {e : Env} {s : State} {m : MethodId} {args : Array Value} {below : List Frame} {meth : Method} {c : Code} {A : Nat → Prop} {D : va_G} {cI cJ cZ : ClassId} {a : Nat → Nat} {vl : Nat → Int32} {hs : Nat → Int32} {isz : Nat → Int32} {igd : Nat → Int32} {iup : Nat → Int32} {idn : Nat → Int32} {osz : Nat → Int32} {ogd : Nat → Int32} {oup : Nat → Int32} {odn : Nat → Int32} {dep : Nat → Int32} {rsz : Int32} {lgd : Nat → Int32} {llf : Nat → Int64} {ldb : Nat → Int64} {ldy : Nat → Int32} {lsz : Int32} {lti : Int64} {pgd : Nat → Int32} {plf : Nat → Int64} {pun : Nat → Int32} {psz : Int32} {bgd : Nat → Int32} {bam : Nat → Int64} {bwt : Nat → Int64} {bsh : Nat → Int64} {brm : Nat → Int64} {bsz : Int32} {cab : Nat → Int64} {cbl : Nat → Int64} {tod : Int32} {imp : Int64} {dis : Int64} {owe : Int64} {itr : Int64} (C : gC p s m args meth c cX0_greatestRemainder 3 (some .int) wsX0_greatestRemainder RX0 A) {o : Int32} :
    ∀ (n : Nat) (x1 : Int32) (x2 : Int32) (H : Heap) (locs : List Loc) (ls : Array Slot), vE s A D (gT cI cJ cZ) (cW a cI cJ cZ vl hs isz igd iup idn osz ogd oup odn dep rsz lgd llf ldb ldy lsz lti pgd plf pun psz bgd bam bwt bsh brm bsz cab cbl tod imp dis owe itr) H locs → lv_has ls 3 [(0, .ref (a 24)), (1, .int x1), (2, .int x2)] → f_X0_greatestRemainder_L4 brm bsz n x1 x2 = some o → W p l e rm_X0_greatestRemainder s m args below meth c H locs 0 0 (MQ below (gQi D (gT cI cJ cZ) A (cW a cI cJ cZ vl hs isz igd iup idn osz ogd oup odn dep rsz lgd llf ldb ldy lsz lti pgd plf pun psz bgd bam bwt bsh brm bsz cab cbl tod imp dis owe itr) o) args s 0 0 A) (F0 m 4 ls []) := by
  obtain ⟨hx, hb, hr, hml, hown, hts, hlocks, hN, hA⟩ := id C
  intro n
  induction n with
  | zero =>
    intro x1 x2 H locs ls E hl hf
    rw [f_X0_greatestRemainder_L4] at hf
    cases hf
  | succ n ih =>
    intro x1 x2 H locs ls E hl hf
    rw [f_X0_greatestRemainder_L4] at hf
    refine lv_iload_n hx hb dX0_greatestRemainder_4 rfl (lv_at hl 2 rfl) ?_
    refine lv_aload_n hx hb dX0_greatestRemainder_5 rfl (lv_at hl 0 rfl) ?_
    refine g_get C E 24 5 (fun _ h => List.mem_cons_of_mem _ (List.mem_append_right _ h)) rfl rfl (by decide) (List.mem_of_getElem? (i := 1) rfl) rfl rfl dX0_greatestRemainder_6 ?_
    refine lv_icmp_ge (tgt := 36) hx hb dX0_greatestRemainder_9 (by decide) (fun c1 => ?_) (fun c1 => ?_)
    · rw [if_pos c1] at hf
      refine lv_iload_n hx hb dX0_greatestRemainder_36 rfl (lv_at hl 1 rfl) ?_
      obtain rfl := Option.some.inj hf
      exact g_iret C E dX0_greatestRemainder_37
    · rw [if_neg c1] at hf
      refine lv_aload_n hx hb dX0_greatestRemainder_12 rfl (lv_at hl 0 rfl) ?_
      refine g_get C E 24 4 (fun _ h => List.mem_cons_of_mem _ (List.mem_append_right _ h)) rfl rfl (by decide) (List.mem_of_getElem? (i := 2) rfl) rfl rfl dX0_greatestRemainder_13 ?_
      refine lv_iload_n hx hb dX0_greatestRemainder_16 rfl (lv_at hl 2 rfl) ?_
      obtain ⟨h2, hf⟩ := ck_some hf
      refine g_lald C E 29 rfl h2 dX0_greatestRemainder_17 ?_
      refine lv_aload_n hx hb dX0_greatestRemainder_18 rfl (lv_at hl 0 rfl) ?_
      refine g_get C E 24 4 (fun _ h => List.mem_cons_of_mem _ (List.mem_append_right _ h)) rfl rfl (by decide) (List.mem_of_getElem? (i := 2) rfl) rfl rfl dX0_greatestRemainder_19 ?_
      refine lv_iload_n hx hb dX0_greatestRemainder_22 rfl (lv_at hl 1 rfl) ?_
      obtain ⟨h3, hf⟩ := ck_some hf
      refine g_lald C E 29 rfl h3 dX0_greatestRemainder_23 ?_
      refine W.lcmp hx hb dX0_greatestRemainder_24 ?_
      refine lv_if_le (tgt := 30) hx hb dX0_greatestRemainder_25 (by decide) (fun c4 => ?_) (fun c4 => ?_)
      · rw [if_pos c4] at hf
        refine lv_iinc (v := (x2 + 1)) (lv' := [(2, .int (x2 + 1)), (0, .ref (a 24)), (1, .int x1)]) hx hb dX0_greatestRemainder_30 hl (k := 2) rfl rfl (by decide) rfl (fun ls hl => ?_)
        refine lv_goto (tgt := 4) hx hb dX0_greatestRemainder_33 (by decide) ?_
        exact ih x1 (x2 + 1) _ _ _ E (lv_sub hl [1, 2, 0] rfl) hf
      · rw [if_neg c4] at hf
        refine lv_iload_n hx hb dX0_greatestRemainder_28 rfl (lv_at hl 2 rfl) ?_
        refine lv_istore_n (lv' := [(1, .int x2), (0, .ref (a 24)), (2, .int x2)]) hx hb dX0_greatestRemainder_29 rfl hl (by decide) rfl (fun ls hl => ?_)
        refine lv_iinc (v := (x2 + 1)) (lv' := [(2, .int (x2 + 1)), (1, .int x2), (0, .ref (a 24))]) hx hb dX0_greatestRemainder_30 hl (k := 2) rfl rfl (by decide) rfl (fun ls hl => ?_)
        refine lv_goto (tgt := 4) hx hb dX0_greatestRemainder_33 (by decide) ?_
        exact ih x2 (x2 + 1) _ _ _ E (lv_sub hl [2, 1, 0] rfl) hf
def f_X0_greatestRemainder (brm : Nat → Int64) (bsz : Int32)  : Option (Int32) :=
  f_X0_greatestRemainder_L4 brm bsz FU (0 : Int32) (1 : Int32)
set_option maxHeartbeats 4000000 in
set_option maxRecDepth 100000 in
theorem c_X0_greatestRemainder {l : Launch} {D : va_G} {cI cJ cZ : ClassId} {a : Nat → Nat} {sz : Nat} {vl : Nat → Int32} {hs : Nat → Int32} {isz : Nat → Int32} {igd : Nat → Int32} {iup : Nat → Int32} {idn : Nat → Int32} {osz : Nat → Int32} {ogd : Nat → Int32} {oup : Nat → Int32} {odn : Nat → Int32} {dep : Nat → Int32} {rsz : Int32} {lgd : Nat → Int32} {llf : Nat → Int64} {ldb : Nat → Int64} {ldy : Nat → Int32} {lsz : Int32} {lti : Int64} {pgd : Nat → Int32} {plf : Nat → Int64} {pun : Nat → Int32} {psz : Int32} {bgd : Nat → Int32} {bam : Nat → Int64} {bwt : Nat → Int64} {bsh : Nat → Int64} {brm : Nat → Int64} {bsz : Int32} {cab : Nat → Int64} {cbl : Nat → Int64} {tod : Int32} {imp : Int64} {dis : Int64} {owe : Int64} {itr : Int64} {o : Int32} (hf : f_X0_greatestRemainder brm bsz = some o) : gMi l yX0_greatestRemainder wsX0_greatestRemainder rm_X0_greatestRemainder D (gT cI cJ cZ) (cW a cI cJ cZ vl hs isz igd iup idn osz ogd oup odn dep rsz lgd llf ldb ldy lsz lti pgd plf pun psz bgd bam bwt bsh brm bsz cab cbl tod imp dis owe itr) (cW a cI cJ cZ vl hs isz igd iup idn osz ogd oup odn dep rsz lgd llf ldb ldy lsz lti pgd plf pun psz bgd bam bwt bsh brm bsz cab cbl tod imp dis owe itr) sz [.ref (a 24)] o := by
  refine g_of (cc := cX0_greatestRemainder) (maxL := 3) (ret := (some .int)) (by decide) rfl (Nat.le_of_ble_eq_true rfl) ?_
  intro p e s m below meth c A ls hAe C hl E
  rw [← hAe]
  obtain ⟨hx, hb, hr, hml, hown, hts, hlocks, hN, hA⟩ := id C
  have hl : lv_has ls 3 [(0, .ref (a 24))] := hl
  have E : vE s A D (gT cI cJ cZ) (cW a cI cJ cZ vl hs isz igd iup idn osz ogd oup odn dep rsz lgd llf ldb ldy lsz lti pgd plf pun psz bgd bam bwt bsh brm bsz cab cbl tod imp dis owe itr) s.heap [] := E
  rw [f_X0_greatestRemainder] at hf
  refine lv_iconst (v := 0) hx hb dX0_greatestRemainder_0 (by decide) ?_
  refine lv_istore_n (lv' := [(1, .int (0 : Int32)), (0, .ref (a 24))]) hx hb dX0_greatestRemainder_1 rfl hl (by decide) rfl (fun ls hl => ?_)
  refine lv_iconst (v := 1) hx hb dX0_greatestRemainder_2 (by decide) ?_
  refine lv_istore_n (lv' := [(2, .int (1 : Int32)), (1, .int (0 : Int32)), (0, .ref (a 24))]) hx hb dX0_greatestRemainder_3 rfl hl (by decide) rfl (fun ls hl => ?_)
  exact w_X0_greatestRemainder_L4 C  FU (0 : Int32) (1 : Int32) _ _ _ E (lv_sub hl [2, 1, 0] rfl) hf
abbrev rm_X0_spread : Room := { frames := 1, cells := 0, slots := 0, locals := 22 }
theorem hd_X0_spread : yX0_spread.cls ≠ "java/lang/invoke/MethodHandle" ∧ yX0_spread.cls ≠ "java/lang/invoke/VarHandle" ∧ (parseMethodDescriptor yX0_spread.desc).map (fun d => d.parameters.length) = some 1 := by decide +kernel
def f_X0_spread_L2 (bsz : Int32) (x1 : Int64) : Nat → (Nat → Int64) → (Nat → Int64) → Int32 → Option ((Nat → Int64) × (Nat → Int64))
  | 0, _, _, _ => none
  | n + 1, bsh, brm, x3 =>
  if bsz ≤ x3 then
    some (bsh, brm)
  else
    if 0 ≤ (lg_cmp x3.toInt64 x1) then
      some (bsh, brm)
    else
      (f_X0_greatestRemainder brm bsz).bind fun o3 =>
      ck o3 3 <|
      ck o3 3 <|
      ck o3 3 <|
      f_X0_spread_L2 bsz x1 n (vp_updL bsh o3.toNatClampNeg ((bsh o3.toNatClampNeg) + (1 : Int64))) (vp_updL brm o3.toNatClampNeg (-1 : Int64)) (x3 + 1)
set_option maxHeartbeats 4000000 in
set_option maxRecDepth 100000 in
theorem w_X0_spread_L2 {p : Program} {l : Launch} {e : Env} {s : State} {m : MethodId} {args : Array Value} {below : List Frame} {meth : Method} {c : Code} {A : Nat → Prop} {D : va_G} {cI cJ cZ : ClassId} {a : Nat → Nat} {vl : Nat → Int32} {hs : Nat → Int32} {isz : Nat → Int32} {igd : Nat → Int32} {iup : Nat → Int32} {idn : Nat → Int32} {osz : Nat → Int32} {ogd : Nat → Int32} {oup : Nat → Int32} {odn : Nat → Int32} {dep : Nat → Int32} {rsz : Int32} {lgd : Nat → Int32} {llf : Nat → Int64} {ldb : Nat → Int64} {ldy : Nat → Int32} {lsz : Int32} {lti : Int64} {pgd : Nat → Int32} {plf : Nat → Int64} {pun : Nat → Int32} {psz : Int32} {bgd : Nat → Int32} {bam : Nat → Int64} {bwt : Nat → Int64} {bsz : Int32} {cab : Nat → Int64} {cbl : Nat → Int64} {tod : Int32} {imp : Int64} {dis : Int64} {owe : Int64} {itr : Int64} (C : gC p s m args meth c cX0_spread 5 none wsX0_spread RX0 A) {x1 : Int64} {o : (Nat → Int64) × (Nat → Int64)} :
    ∀ (n : Nat) (bsh : Nat → Int64) (brm : Nat → Int64) (x3 : Int32) (H : Heap) (locs : List Loc) (ls : Array Slot), vE s A D (gT cI cJ cZ) (cW a cI cJ cZ vl hs isz igd iup idn osz ogd oup odn dep rsz lgd llf ldb ldy lsz lti pgd plf pun psz bgd bam bwt bsh brm bsz cab cbl tod imp dis owe itr) H locs → lv_has ls 5 [(0, .ref (a 24)), (1, .long x1), (3, .int x3)] → f_X0_spread_L2 bsz x1 n bsh brm x3 = some o → W p l e rm_X0_spread s m args below meth c H locs 0 0 (MQ below (gQv D (gT cI cJ cZ) A (cW a cI cJ cZ vl hs isz igd iup idn osz ogd oup odn dep rsz lgd llf ldb ldy lsz lti pgd plf pun psz bgd bam bwt o.1 o.2 bsz cab cbl tod imp dis owe itr)) args s 0 0 A) (F0 m 2 ls []) := by
  obtain ⟨hx, hb, hr, hml, hown, hts, hlocks, hN, hA⟩ := id C
  intro n
  induction n with
  | zero =>
    intro bsh brm x3 H locs ls E hl hf
    rw [f_X0_spread_L2] at hf
    cases hf
  | succ n ih =>
    intro bsh brm x3 H locs ls E hl hf
    rw [f_X0_spread_L2] at hf
    refine lv_iload_n hx hb dX0_spread_2 rfl (lv_at hl 2 rfl) ?_
    refine lv_aload_n hx hb dX0_spread_3 rfl (lv_at hl 0 rfl) ?_
    refine g_get C E 24 5 (fun _ h => List.mem_cons_of_mem _ (List.mem_append_right _ h)) rfl rfl (by decide) (List.mem_of_getElem? (i := 1) rfl) rfl rfl dX0_spread_4 ?_
    refine lv_icmp_ge (tgt := 50) hx hb dX0_spread_7 (by decide) (fun c1 => ?_) (fun c1 => ?_)
    · rw [if_pos c1] at hf
      obtain rfl := Option.some.inj hf
      exact g_vret C E dX0_spread_50
    · rw [if_neg c1] at hf
      refine lv_iload_n hx hb dX0_spread_10 rfl (lv_at hl 2 rfl) ?_
      refine lv_i2l hx hb dX0_spread_11 rfl ?_
      refine lv_lload_n hx hb dX0_spread_12 rfl (lv_at hl 1 rfl) ?_
      refine W.lcmp hx hb dX0_spread_13 ?_
      refine lv_if_ge (tgt := 50) hx hb dX0_spread_14 (by decide) (fun c2 => ?_) (fun c2 => ?_)
      · rw [if_pos c2] at hf
        obtain rfl := Option.some.inj hf
        exact g_vret C E dX0_spread_50
      · rw [if_neg c2] at hf
        refine lv_aload_n hx hb dX0_spread_17 rfl (lv_at hl 0 rfl) ?_
        obtain ⟨o3, e4, hf⟩ := bd_some hf
        refine g_calli (w' := (cW a cI cJ cZ vl hs isz igd iup idn osz ogd oup odn dep rsz lgd llf ldb ldy lsz lti pgd plf pun psz bgd bam bwt bsh brm bsz cab cbl tod imp dis owe itr)) C E (g_runV (As := []) (rest := []) C E (c_X0_greatestRemainder e4) (cwV 0 hts gX0_spread_X0_greatestRemainder rfl rfl rfl ⟨rfl, hd_X0_greatestRemainder⟩ ⟨Nat.le_of_ble_eq_true rfl, Nat.le_of_ble_eq_true rfl⟩) (q0 := 24) (ci := 0) rfl rfl rfl rfl hl.1 rfl (Nat.le_of_ble_eq_true rfl) dX0_spread_18 ⟨Nat.le_of_ble_eq_true rfl, Nat.le_of_ble_eq_true rfl⟩) (fun H locs E => ?_)
        refine lv_istore (lv' := [(4, .int o3), (0, .ref (a 24)), (1, .long x1), (3, .int x3)]) hx hb dX0_spread_21 hl (by decide) rfl (fun ls hl => ?_)
        refine lv_aload_n hx hb dX0_spread_23 rfl (lv_at hl 1 rfl) ?_
        refine g_get C E 24 3 (fun _ h => List.mem_cons_of_mem _ (List.mem_append_right _ h)) rfl rfl (by decide) (List.mem_of_getElem? (i := 2) rfl) rfl rfl dX0_spread_24 ?_
        refine lv_iload hx hb dX0_spread_27 (lv_at hl 0 rfl) ?_
        refine lv_dup2_11 hx hb dX0_spread_29 rfl rfl ?_
        obtain ⟨h5, hf⟩ := ck_some hf
        refine g_lald C E 28 rfl h5 dX0_spread_30 ?_
        refine lv_lconst (v := 1) hx hb dX0_spread_31 (by decide) ?_
        refine lv_ladd hx hb dX0_spread_32 ?_
        obtain ⟨h6, hf⟩ := ck_some hf
        refine g_last (w' := (cW a cI cJ cZ vl hs isz igd iup idn osz ogd oup odn dep rsz lgd llf ldb ldy lsz lti pgd plf pun psz bgd bam bwt (vp_updL bsh o3.toNatClampNeg ((bsh o3.toNatClampNeg) + (1 : Int64))) brm bsz cab cbl tod imp dis owe itr)) C E 28 rfl h6 dX0_spread_33 rfl (fun H locs E => ?_)
        refine lv_aload_n hx hb dX0_spread_34 rfl (lv_at hl 1 rfl) ?_
        refine g_get C E 24 4 (fun _ h => List.mem_cons_of_mem _ (List.mem_append_right _ h)) rfl rfl (by decide) (List.mem_of_getElem? (i := 3) rfl) rfl rfl dX0_spread_35 ?_
        refine lv_iload hx hb dX0_spread_38 (lv_at hl 0 rfl) ?_
        refine lv_ldc2 (v := -1) hx hb hown (hts (.constantLong RX0 57 (-1)) (List.mem_of_getElem? (i := 4) rfl)) dX0_spread_40 ?_
        obtain ⟨h7, hf⟩ := ck_some hf
        refine g_last (w' := (cW a cI cJ cZ vl hs isz igd iup idn osz ogd oup odn dep rsz lgd llf ldb ldy lsz lti pgd plf pun psz bgd bam bwt (vp_updL bsh o3.toNatClampNeg ((bsh o3.toNatClampNeg) + (1 : Int64))) (vp_updL brm o3.toNatClampNeg (-1 : Int64)) bsz cab cbl tod imp dis owe itr)) C E 29 rfl h7 dX0_spread_43 rfl (fun H locs E => ?_)
        refine lv_iinc (v := (x3 + 1)) (lv' := [(3, .int (x3 + 1)), (4, .int o3), (0, .ref (a 24)), (1, .long x1)]) hx hb dX0_spread_44 hl (k := 3) rfl rfl (by decide) rfl (fun ls hl => ?_)
        refine lv_goto (tgt := 2) hx hb dX0_spread_47 (by decide) ?_
        exact ih (vp_updL bsh o3.toNatClampNeg ((bsh o3.toNatClampNeg) + (1 : Int64))) (vp_updL brm o3.toNatClampNeg (-1 : Int64)) (x3 + 1) _ _ _ E (lv_sub hl [2, 3, 0] rfl) hf
def f_X0_spread (bsh : Nat → Int64) (brm : Nat → Int64) (bsz : Int32) (x1 : Int64) : Option ((Nat → Int64) × (Nat → Int64)) :=
  f_X0_spread_L2 bsz x1 FU bsh brm (0 : Int32)
set_option maxHeartbeats 4000000 in
set_option maxRecDepth 100000 in
theorem c_X0_spread {l : Launch} {D : va_G} {cI cJ cZ : ClassId} {a : Nat → Nat} {sz : Nat} {vl : Nat → Int32} {hs : Nat → Int32} {isz : Nat → Int32} {igd : Nat → Int32} {iup : Nat → Int32} {idn : Nat → Int32} {osz : Nat → Int32} {ogd : Nat → Int32} {oup : Nat → Int32} {odn : Nat → Int32} {dep : Nat → Int32} {rsz : Int32} {lgd : Nat → Int32} {llf : Nat → Int64} {ldb : Nat → Int64} {ldy : Nat → Int32} {lsz : Int32} {lti : Int64} {pgd : Nat → Int32} {plf : Nat → Int64} {pun : Nat → Int32} {psz : Int32} {bgd : Nat → Int32} {bam : Nat → Int64} {bwt : Nat → Int64} {bsh : Nat → Int64} {brm : Nat → Int64} {bsz : Int32} {cab : Nat → Int64} {cbl : Nat → Int64} {tod : Int32} {imp : Int64} {dis : Int64} {owe : Int64} {itr : Int64} {x1 : Int64} {o : (Nat → Int64) × (Nat → Int64)} (hf : f_X0_spread bsh brm bsz x1 = some o) : gMv l yX0_spread wsX0_spread rm_X0_spread D (gT cI cJ cZ) (cW a cI cJ cZ vl hs isz igd iup idn osz ogd oup odn dep rsz lgd llf ldb ldy lsz lti pgd plf pun psz bgd bam bwt bsh brm bsz cab cbl tod imp dis owe itr) (cW a cI cJ cZ vl hs isz igd iup idn osz ogd oup odn dep rsz lgd llf ldb ldy lsz lti pgd plf pun psz bgd bam bwt o.1 o.2 bsz cab cbl tod imp dis owe itr) sz [.ref (a 24), .long x1] := by
  refine g_of (cc := cX0_spread) (maxL := 5) (ret := none) (by decide) rfl (Nat.le_of_ble_eq_true rfl) ?_
  intro p e s m below meth c A ls hAe C hl E
  rw [← hAe]
  obtain ⟨hx, hb, hr, hml, hown, hts, hlocks, hN, hA⟩ := id C
  have hl : lv_has ls 5 [(0, .ref (a 24)), (1, .long x1)] := hl
  have E : vE s A D (gT cI cJ cZ) (cW a cI cJ cZ vl hs isz igd iup idn osz ogd oup odn dep rsz lgd llf ldb ldy lsz lti pgd plf pun psz bgd bam bwt bsh brm bsz cab cbl tod imp dis owe itr) s.heap [] := E
  rw [f_X0_spread] at hf
  refine lv_iconst (v := 0) hx hb dX0_spread_0 (by decide) ?_
  refine lv_istore_n (lv' := [(3, .int (0 : Int32)), (0, .ref (a 24)), (1, .long x1)]) hx hb dX0_spread_1 rfl hl (by decide) rfl (fun ls hl => ?_)
  exact w_X0_spread_L2 C  FU bsh brm (0 : Int32) _ _ _ E (lv_sub hl [1, 2, 0] rfl) hf
abbrev rm_X0_apportion : Room := { frames := 2, cells := 0, slots := 0, locals := 46 }
theorem hd_X0_apportion : yX0_apportion.cls ≠ "java/lang/invoke/MethodHandle" ∧ yX0_apportion.cls ≠ "java/lang/invoke/VarHandle" ∧ (parseMethodDescriptor yX0_apportion.desc).map (fun d => d.parameters.length) = some 1 := by decide +kernel
def f_X0_apportion_L36 (bwt : Nat → Int64) (bsz : Int32) (x1 : Int64) (x3 : Int64) : Nat → (Nat → Int64) → (Nat → Int64) → Int64 → Int32 → Option ((Nat → Int64) × (Nat → Int64))
  | 0, _, _, _, _ => none
  | n + 1, bsh, brm, x5, x7 =>
  if bsz ≤ x7 then
    if (lg_cmp x3 (0 : Int64)) = 0 then
      ck (0 : Int32) 3 <|
      some ((vp_updL bsh (0 : Int32).toNatClampNeg x5), brm)
    else
      (f_X0_spread bsh brm bsz x5).bind fun o3 =>
      some (o3.1, o3.2)
  else
    ck x7 3 <|
    (f_X6_floorOf (x1 * (bwt x7.toNatClampNeg)) x3).bind fun o7 =>
    ck x7 3 <|
    ck x7 3 <|
    ck x7 3 <|
    ck x7 3 <|
    ck x7 3 <|
    f_X0_apportion_L36 bwt bsz x1 x3 n (vp_updL bsh x7.toNatClampNeg o7) (vp_updL brm x7.toNatClampNeg ((x1 * (bwt x7.toNatClampNeg)) - (((vp_updL bsh x7.toNatClampNeg o7) x7.toNatClampNeg) * x3))) (x5 - ((vp_updL bsh x7.toNatClampNeg o7) x7.toNatClampNeg)) (x7 + 1)
set_option maxHeartbeats 4000000 in
set_option maxRecDepth 100000 in
theorem w_X0_apportion_L36 {p : Program} {l : Launch} {e : Env} {s : State} {m : MethodId} {args : Array Value} {below : List Frame} {meth : Method} {c : Code} {A : Nat → Prop} {D : va_G} {cI cJ cZ : ClassId} {a : Nat → Nat} {vl : Nat → Int32} {hs : Nat → Int32} {isz : Nat → Int32} {igd : Nat → Int32} {iup : Nat → Int32} {idn : Nat → Int32} {osz : Nat → Int32} {ogd : Nat → Int32} {oup : Nat → Int32} {odn : Nat → Int32} {dep : Nat → Int32} {rsz : Int32} {lgd : Nat → Int32} {llf : Nat → Int64} {ldb : Nat → Int64} {ldy : Nat → Int32} {lsz : Int32} {lti : Int64} {pgd : Nat → Int32} {plf : Nat → Int64} {pun : Nat → Int32} {psz : Int32} {bgd : Nat → Int32} {bam : Nat → Int64} {bwt : Nat → Int64} {bsz : Int32} {cab : Nat → Int64} {cbl : Nat → Int64} {tod : Int32} {imp : Int64} {dis : Int64} {owe : Int64} {itr : Int64} (C : gC p s m args meth c cX0_apportion 8 none wsX0_apportion RX0 A) {x1 : Int64} {x3 : Int64} {o : (Nat → Int64) × (Nat → Int64)} :
    ∀ (n : Nat) (bsh : Nat → Int64) (brm : Nat → Int64) (x5 : Int64) (x7 : Int32) (H : Heap) (locs : List Loc) (ls : Array Slot), vE s A D (gT cI cJ cZ) (cW a cI cJ cZ vl hs isz igd iup idn osz ogd oup odn dep rsz lgd llf ldb ldy lsz lti pgd plf pun psz bgd bam bwt bsh brm bsz cab cbl tod imp dis owe itr) H locs → lv_has ls 8 [(0, .ref (a 24)), (1, .long x1), (3, .long x3), (5, .long x5), (7, .int x7)] → f_X0_apportion_L36 bwt bsz x1 x3 n bsh brm x5 x7 = some o → W p l e rm_X0_apportion s m args below meth c H locs 0 0 (MQ below (gQv D (gT cI cJ cZ) A (cW a cI cJ cZ vl hs isz igd iup idn osz ogd oup odn dep rsz lgd llf ldb ldy lsz lti pgd plf pun psz bgd bam bwt o.1 o.2 bsz cab cbl tod imp dis owe itr)) args s 0 0 A) (F0 m 36 ls []) := by
  obtain ⟨hx, hb, hr, hml, hown, hts, hlocks, hN, hA⟩ := id C
  intro n
  induction n with
  | zero =>
    intro bsh brm x5 x7 H locs ls E hl hf
    rw [f_X0_apportion_L36] at hf
    cases hf
  | succ n ih =>
    intro bsh brm x5 x7 H locs ls E hl hf
    rw [f_X0_apportion_L36] at hf
    refine lv_iload hx hb dX0_apportion_36 (lv_at hl 4 rfl) ?_
    refine lv_aload_n hx hb dX0_apportion_38 rfl (lv_at hl 0 rfl) ?_
    refine g_get C E 24 5 (fun _ h => List.mem_cons_of_mem _ (List.mem_append_right _ h)) rfl rfl (by decide) (List.mem_of_getElem? (i := 1) rfl) rfl rfl dX0_apportion_39 ?_
    refine lv_icmp_ge (tgt := 109) hx hb dX0_apportion_42 (by decide) (fun c1 => ?_) (fun c1 => ?_)
    · rw [if_pos c1] at hf
      refine lv_lload_n hx hb dX0_apportion_109 rfl (lv_at hl 2 rfl) ?_
      refine lv_lconst (v := 0) hx hb dX0_apportion_110 (by decide) ?_
      refine W.lcmp hx hb dX0_apportion_111 ?_
      refine lv_if_ne (tgt := 126) hx hb dX0_apportion_112 (by decide) (fun c2 => ?_) (fun c2 => ?_)
      · rw [if_neg c2] at hf
        refine lv_aload_n hx hb dX0_apportion_126 rfl (lv_at hl 0 rfl) ?_
        refine lv_lload hx hb dX0_apportion_127 (lv_at hl 3 rfl) ?_
        obtain ⟨o3, e4, hf⟩ := bd_some hf
        refine g_callv (w' := (cW a cI cJ cZ vl hs isz igd iup idn osz ogd oup odn dep rsz lgd llf ldb ldy lsz lti pgd plf pun psz bgd bam bwt o3.1 o3.2 bsz cab cbl tod imp dis owe itr)) C E (g_runV (As := [.long x5]) (rest := []) C E (c_X0_spread e4) (cwV 1 hts gX0_apportion_X0_spread rfl rfl rfl ⟨rfl, hd_X0_spread⟩ ⟨Nat.le_of_ble_eq_true rfl, Nat.le_of_ble_eq_true rfl⟩) (q0 := 24) (ci := 0) rfl rfl rfl rfl hl.1 rfl (Nat.le_of_ble_eq_true rfl) dX0_apportion_129 ⟨Nat.le_of_ble_eq_true rfl, Nat.le_of_ble_eq_true rfl⟩) (fun H locs E => ?_)
        obtain rfl := Option.some.inj hf
        exact g_vret C E dX0_apportion_132
      · rw [if_pos c2] at hf
        refine lv_aload_n hx hb dX0_apportion_115 rfl (lv_at hl 0 rfl) ?_
        refine g_get C E 24 3 (fun _ h => List.mem_cons_of_mem _ (List.mem_append_right _ h)) rfl rfl (by decide) (List.mem_of_getElem? (i := 3) rfl) rfl rfl dX0_apportion_116 ?_
        refine lv_iconst (v := 0) hx hb dX0_apportion_119 (by decide) ?_
        refine lv_lload hx hb dX0_apportion_120 (lv_at hl 3 rfl) ?_
        obtain ⟨h5, hf⟩ := ck_some hf
        refine g_last (w' := (cW a cI cJ cZ vl hs isz igd iup idn osz ogd oup odn dep rsz lgd llf ldb ldy lsz lti pgd plf pun psz bgd bam bwt (vp_updL bsh (0 : Int32).toNatClampNeg x5) brm bsz cab cbl tod imp dis owe itr)) C E 28 rfl h5 dX0_apportion_122 rfl (fun H locs E => ?_)
        refine lv_goto (tgt := 132) hx hb dX0_apportion_123 (by decide) ?_
        obtain rfl := Option.some.inj hf
        exact g_vret C E dX0_apportion_132
    · rw [if_neg c1] at hf
      refine lv_aload_n hx hb dX0_apportion_45 rfl (lv_at hl 0 rfl) ?_
      refine g_get C E 24 3 (fun _ h => List.mem_cons_of_mem _ (List.mem_append_right _ h)) rfl rfl (by decide) (List.mem_of_getElem? (i := 3) rfl) rfl rfl dX0_apportion_46 ?_
      refine lv_iload hx hb dX0_apportion_49 (lv_at hl 4 rfl) ?_
      refine lv_lload_n hx hb dX0_apportion_51 rfl (lv_at hl 1 rfl) ?_
      refine lv_aload_n hx hb dX0_apportion_52 rfl (lv_at hl 0 rfl) ?_
      refine g_get C E 24 2 (fun _ h => List.mem_cons_of_mem _ (List.mem_append_right _ h)) rfl rfl (by decide) (List.mem_of_getElem? (i := 2) rfl) rfl rfl dX0_apportion_53 ?_
      refine lv_iload hx hb dX0_apportion_56 (lv_at hl 4 rfl) ?_
      obtain ⟨h6, hf⟩ := ck_some hf
      refine g_lald C E 27 rfl h6 dX0_apportion_58 ?_
      refine lv_lmul hx hb dX0_apportion_59 ?_
      refine lv_lload_n hx hb dX0_apportion_60 rfl (lv_at hl 2 rfl) ?_
      obtain ⟨o7, e8, hf⟩ := bd_some hf
      refine g_calll (w' := (cW a cI cJ cZ vl hs isz igd iup idn osz ogd oup odn dep rsz lgd llf ldb ldy lsz lti pgd plf pun psz bgd bam bwt bsh brm bsz cab cbl tod imp dis owe itr)) C E (g_runSN (As := [.long (x1 * (bwt x7.toNatClampNeg)), .long x3]) (rest := [.int x7, .ref (a 28)]) C E (c_X6_floorOf e8) ⟨va_cnB 2 hts gX0_apportion_X6_floorOf_n45 rfl rfl rfl (hN.1 _ (List.mem_of_getElem? (i := 5) rfl)) (hts (.initialized RX6) (List.mem_of_getElem? (i := 6) rfl)) hd_X6_floorOf ⟨Nat.le_of_ble_eq_true rfl, Nat.le_of_ble_eq_true rfl⟩, hts (.static yX6_floorOf) (List.mem_of_getElem? (i := 5) rfl), trivial⟩ rfl hl.1 rfl (Nat.le_of_ble_eq_true rfl) dX0_apportion_61 ⟨Nat.le_of_ble_eq_true rfl, Nat.le_of_ble_eq_true rfl⟩) (fun H locs E => ?_)
      obtain ⟨h9, hf⟩ := ck_some hf
      refine g_last (w' := (cW a cI cJ cZ vl hs isz igd iup idn osz ogd oup odn dep rsz lgd llf ldb ldy lsz lti pgd plf pun psz bgd bam bwt (vp_updL bsh x7.toNatClampNeg o7) brm bsz cab cbl tod imp dis owe itr)) C E 28 rfl h9 dX0_apportion_64 rfl (fun H locs E => ?_)
      refine lv_aload_n hx hb dX0_apportion_65 rfl (lv_at hl 0 rfl) ?_
      refine g_get C E 24 4 (fun _ h => List.mem_cons_of_mem _ (List.mem_append_right _ h)) rfl rfl (by decide) (List.mem_of_getElem? (i := 4) rfl) rfl rfl dX0_apportion_66 ?_
      refine lv_iload hx hb dX0_apportion_69 (lv_at hl 4 rfl) ?_
      refine lv_lload_n hx hb dX0_apportion_71 rfl (lv_at hl 1 rfl) ?_
      refine lv_aload_n hx hb dX0_apportion_72 rfl (lv_at hl 0 rfl) ?_
      refine g_get C E 24 2 (fun _ h => List.mem_cons_of_mem _ (List.mem_append_right _ h)) rfl rfl (by decide) (List.mem_of_getElem? (i := 2) rfl) rfl rfl dX0_apportion_73 ?_
      refine lv_iload hx hb dX0_apportion_76 (lv_at hl 4 rfl) ?_
      obtain ⟨h10, hf⟩ := ck_some hf
      refine g_lald C E 27 rfl h10 dX0_apportion_78 ?_
      refine lv_lmul hx hb dX0_apportion_79 ?_
      refine lv_aload_n hx hb dX0_apportion_80 rfl (lv_at hl 0 rfl) ?_
      refine g_get C E 24 3 (fun _ h => List.mem_cons_of_mem _ (List.mem_append_right _ h)) rfl rfl (by decide) (List.mem_of_getElem? (i := 3) rfl) rfl rfl dX0_apportion_81 ?_
      refine lv_iload hx hb dX0_apportion_84 (lv_at hl 4 rfl) ?_
      obtain ⟨h11, hf⟩ := ck_some hf
      refine g_lald C E 28 rfl h11 dX0_apportion_86 ?_
      refine lv_lload_n hx hb dX0_apportion_87 rfl (lv_at hl 2 rfl) ?_
      refine lv_lmul hx hb dX0_apportion_88 ?_
      refine lv_lsub hx hb dX0_apportion_89 ?_
      obtain ⟨h12, hf⟩ := ck_some hf
      refine g_last (w' := (cW a cI cJ cZ vl hs isz igd iup idn osz ogd oup odn dep rsz lgd llf ldb ldy lsz lti pgd plf pun psz bgd bam bwt (vp_updL bsh x7.toNatClampNeg o7) (vp_updL brm x7.toNatClampNeg ((x1 * (bwt x7.toNatClampNeg)) - (((vp_updL bsh x7.toNatClampNeg o7) x7.toNatClampNeg) * x3))) bsz cab cbl tod imp dis owe itr)) C E 29 rfl h12 dX0_apportion_90 rfl (fun H locs E => ?_)
      refine lv_lload hx hb dX0_apportion_91 (lv_at hl 3 rfl) ?_
      refine lv_aload_n hx hb dX0_apportion_93 rfl (lv_at hl 0 rfl) ?_
      refine g_get C E 24 3 (fun _ h => List.mem_cons_of_mem _ (List.mem_append_right _ h)) rfl rfl (by decide) (List.mem_of_getElem? (i := 3) rfl) rfl rfl dX0_apportion_94 ?_
      refine lv_iload hx hb dX0_apportion_97 (lv_at hl 4 rfl) ?_
      obtain ⟨h13, hf⟩ := ck_some hf
      refine g_lald C E 28 rfl h13 dX0_apportion_99 ?_
      refine lv_lsub hx hb dX0_apportion_100 ?_
      refine lv_lstore (lv' := [(5, .long (x5 - ((vp_updL bsh x7.toNatClampNeg o7) x7.toNatClampNeg))), (0, .ref (a 24)), (1, .long x1), (3, .long x3), (7, .int x7)]) hx hb dX0_apportion_101 hl (by decide) rfl (fun ls hl => ?_)
      refine lv_iinc (v := (x7 + 1)) (lv' := [(7, .int (x7 + 1)), (5, .long (x5 - ((vp_updL bsh x7.toNatClampNeg o7) x7.toNatClampNeg))), (0, .ref (a 24)), (1, .long x1), (3, .long x3)]) hx hb dX0_apportion_103 hl (k := 4) rfl rfl (by decide) rfl (fun ls hl => ?_)
      refine lv_goto (tgt := 36) hx hb dX0_apportion_106 (by decide) ?_
      exact ih (vp_updL bsh x7.toNatClampNeg o7) (vp_updL brm x7.toNatClampNeg ((x1 * (bwt x7.toNatClampNeg)) - (((vp_updL bsh x7.toNatClampNeg o7) x7.toNatClampNeg) * x3))) (x5 - ((vp_updL bsh x7.toNatClampNeg o7) x7.toNatClampNeg)) (x7 + 1) _ _ _ E (lv_sub hl [2, 3, 4, 1, 0] rfl) hf
def f_X0_apportion_L5 (bwt : Nat → Int64) (bsh : Nat → Int64) (brm : Nat → Int64) (bsz : Int32) (x1 : Int64) : Nat → Int64 → Int32 → Option ((Nat → Int64) × (Nat → Int64))
  | 0, _, _ => none
  | n + 1, x3, x5 =>
  if bsz ≤ x5 then
    f_X0_apportion_L36 bwt bsz x1 x3 FU bsh brm x1 (0 : Int32)
  else
    ck x5 3 <|
    f_X0_apportion_L5 bwt bsh brm bsz x1 n (x3 + (bwt x5.toNatClampNeg)) (x5 + 1)
set_option maxHeartbeats 4000000 in
set_option maxRecDepth 100000 in
theorem w_X0_apportion_L5 {p : Program} {l : Launch} {e : Env} {s : State} {m : MethodId} {args : Array Value} {below : List Frame} {meth : Method} {c : Code} {A : Nat → Prop} {D : va_G} {cI cJ cZ : ClassId} {a : Nat → Nat} {vl : Nat → Int32} {hs : Nat → Int32} {isz : Nat → Int32} {igd : Nat → Int32} {iup : Nat → Int32} {idn : Nat → Int32} {osz : Nat → Int32} {ogd : Nat → Int32} {oup : Nat → Int32} {odn : Nat → Int32} {dep : Nat → Int32} {rsz : Int32} {lgd : Nat → Int32} {llf : Nat → Int64} {ldb : Nat → Int64} {ldy : Nat → Int32} {lsz : Int32} {lti : Int64} {pgd : Nat → Int32} {plf : Nat → Int64} {pun : Nat → Int32} {psz : Int32} {bgd : Nat → Int32} {bam : Nat → Int64} {bwt : Nat → Int64} {bsh : Nat → Int64} {brm : Nat → Int64} {bsz : Int32} {cab : Nat → Int64} {cbl : Nat → Int64} {tod : Int32} {imp : Int64} {dis : Int64} {owe : Int64} {itr : Int64} (C : gC p s m args meth c cX0_apportion 8 none wsX0_apportion RX0 A) {x1 : Int64} {o : (Nat → Int64) × (Nat → Int64)} :
    ∀ (n : Nat) (x3 : Int64) (x5 : Int32) (H : Heap) (locs : List Loc) (ls : Array Slot), vE s A D (gT cI cJ cZ) (cW a cI cJ cZ vl hs isz igd iup idn osz ogd oup odn dep rsz lgd llf ldb ldy lsz lti pgd plf pun psz bgd bam bwt bsh brm bsz cab cbl tod imp dis owe itr) H locs → lv_has ls 8 [(0, .ref (a 24)), (1, .long x1), (3, .long x3), (5, .int x5)] → f_X0_apportion_L5 bwt bsh brm bsz x1 n x3 x5 = some o → W p l e rm_X0_apportion s m args below meth c H locs 0 0 (MQ below (gQv D (gT cI cJ cZ) A (cW a cI cJ cZ vl hs isz igd iup idn osz ogd oup odn dep rsz lgd llf ldb ldy lsz lti pgd plf pun psz bgd bam bwt o.1 o.2 bsz cab cbl tod imp dis owe itr)) args s 0 0 A) (F0 m 5 ls []) := by
  obtain ⟨hx, hb, hr, hml, hown, hts, hlocks, hN, hA⟩ := id C
  intro n
  induction n with
  | zero =>
    intro x3 x5 H locs ls E hl hf
    rw [f_X0_apportion_L5] at hf
    cases hf
  | succ n ih =>
    intro x3 x5 H locs ls E hl hf
    rw [f_X0_apportion_L5] at hf
    refine lv_iload hx hb dX0_apportion_5 (lv_at hl 3 rfl) ?_
    refine lv_aload_n hx hb dX0_apportion_7 rfl (lv_at hl 0 rfl) ?_
    refine g_get C E 24 5 (fun _ h => List.mem_cons_of_mem _ (List.mem_append_right _ h)) rfl rfl (by decide) (List.mem_of_getElem? (i := 1) rfl) rfl rfl dX0_apportion_8 ?_
    refine lv_icmp_ge (tgt := 30) hx hb dX0_apportion_11 (by decide) (fun c1 => ?_) (fun c1 => ?_)
    · rw [if_pos c1] at hf
      refine lv_lload_n hx hb dX0_apportion_30 rfl (lv_at hl 1 rfl) ?_
      refine lv_lstore (lv' := [(5, .long x1), (0, .ref (a 24)), (1, .long x1), (3, .long x3)]) hx hb dX0_apportion_31 hl (by decide) rfl (fun ls hl => ?_)
      refine lv_iconst (v := 0) hx hb dX0_apportion_33 (by decide) ?_
      refine lv_istore (lv' := [(7, .int (0 : Int32)), (5, .long x1), (0, .ref (a 24)), (1, .long x1), (3, .long x3)]) hx hb dX0_apportion_34 hl (by decide) rfl (fun ls hl => ?_)
      exact w_X0_apportion_L36 C  FU bsh brm x1 (0 : Int32) _ _ _ E (lv_sub hl [2, 3, 4, 1, 0] rfl) hf
    · rw [if_neg c1] at hf
      refine lv_lload_n hx hb dX0_apportion_14 rfl (lv_at hl 2 rfl) ?_
      refine lv_aload_n hx hb dX0_apportion_15 rfl (lv_at hl 0 rfl) ?_
      refine g_get C E 24 2 (fun _ h => List.mem_cons_of_mem _ (List.mem_append_right _ h)) rfl rfl (by decide) (List.mem_of_getElem? (i := 2) rfl) rfl rfl dX0_apportion_16 ?_
      refine lv_iload hx hb dX0_apportion_19 (lv_at hl 3 rfl) ?_
      obtain ⟨h2, hf⟩ := ck_some hf
      refine g_lald C E 27 rfl h2 dX0_apportion_21 ?_
      refine lv_ladd hx hb dX0_apportion_22 ?_
      refine lv_lstore_n (lv' := [(3, .long (x3 + (bwt x5.toNatClampNeg))), (0, .ref (a 24)), (1, .long x1), (5, .int x5)]) hx hb dX0_apportion_23 rfl hl (by decide) rfl (fun ls hl => ?_)
      refine lv_iinc (v := (x5 + 1)) (lv' := [(5, .int (x5 + 1)), (3, .long (x3 + (bwt x5.toNatClampNeg))), (0, .ref (a 24)), (1, .long x1)]) hx hb dX0_apportion_24 hl (k := 3) rfl rfl (by decide) rfl (fun ls hl => ?_)
      refine lv_goto (tgt := 5) hx hb dX0_apportion_27 (by decide) ?_
      exact ih (x3 + (bwt x5.toNatClampNeg)) (x5 + 1) _ _ _ E (lv_sub hl [2, 3, 1, 0] rfl) hf
def f_X0_apportion (bwt : Nat → Int64) (bsh : Nat → Int64) (brm : Nat → Int64) (bsz : Int32) (x1 : Int64) : Option ((Nat → Int64) × (Nat → Int64)) :=
  f_X0_apportion_L5 bwt bsh brm bsz x1 FU (0 : Int64) (0 : Int32)
set_option maxHeartbeats 4000000 in
set_option maxRecDepth 100000 in
theorem c_X0_apportion {l : Launch} {D : va_G} {cI cJ cZ : ClassId} {a : Nat → Nat} {sz : Nat} {vl : Nat → Int32} {hs : Nat → Int32} {isz : Nat → Int32} {igd : Nat → Int32} {iup : Nat → Int32} {idn : Nat → Int32} {osz : Nat → Int32} {ogd : Nat → Int32} {oup : Nat → Int32} {odn : Nat → Int32} {dep : Nat → Int32} {rsz : Int32} {lgd : Nat → Int32} {llf : Nat → Int64} {ldb : Nat → Int64} {ldy : Nat → Int32} {lsz : Int32} {lti : Int64} {pgd : Nat → Int32} {plf : Nat → Int64} {pun : Nat → Int32} {psz : Int32} {bgd : Nat → Int32} {bam : Nat → Int64} {bwt : Nat → Int64} {bsh : Nat → Int64} {brm : Nat → Int64} {bsz : Int32} {cab : Nat → Int64} {cbl : Nat → Int64} {tod : Int32} {imp : Int64} {dis : Int64} {owe : Int64} {itr : Int64} {x1 : Int64} {o : (Nat → Int64) × (Nat → Int64)} (hf : f_X0_apportion bwt bsh brm bsz x1 = some o) : gMv l yX0_apportion wsX0_apportion rm_X0_apportion D (gT cI cJ cZ) (cW a cI cJ cZ vl hs isz igd iup idn osz ogd oup odn dep rsz lgd llf ldb ldy lsz lti pgd plf pun psz bgd bam bwt bsh brm bsz cab cbl tod imp dis owe itr) (cW a cI cJ cZ vl hs isz igd iup idn osz ogd oup odn dep rsz lgd llf ldb ldy lsz lti pgd plf pun psz bgd bam bwt o.1 o.2 bsz cab cbl tod imp dis owe itr) sz [.ref (a 24), .long x1] := by
  refine g_of (cc := cX0_apportion) (maxL := 8) (ret := none) (by decide) rfl (Nat.le_of_ble_eq_true rfl) ?_
  intro p e s m below meth c A ls hAe C hl E
  rw [← hAe]
  obtain ⟨hx, hb, hr, hml, hown, hts, hlocks, hN, hA⟩ := id C
  have hl : lv_has ls 8 [(0, .ref (a 24)), (1, .long x1)] := hl
  have E : vE s A D (gT cI cJ cZ) (cW a cI cJ cZ vl hs isz igd iup idn osz ogd oup odn dep rsz lgd llf ldb ldy lsz lti pgd plf pun psz bgd bam bwt bsh brm bsz cab cbl tod imp dis owe itr) s.heap [] := E
  rw [f_X0_apportion] at hf
  refine lv_lconst (v := 0) hx hb dX0_apportion_0 (by decide) ?_
  refine lv_lstore_n (lv' := [(3, .long (0 : Int64)), (0, .ref (a 24)), (1, .long x1)]) hx hb dX0_apportion_1 rfl hl (by decide) rfl (fun ls hl => ?_)
  refine lv_iconst (v := 0) hx hb dX0_apportion_2 (by decide) ?_
  refine lv_istore (lv' := [(5, .int (0 : Int32)), (3, .long (0 : Int64)), (0, .ref (a 24)), (1, .long x1)]) hx hb dX0_apportion_3 hl (by decide) rfl (fun ls hl => ?_)
  exact w_X0_apportion_L5 C  FU (0 : Int64) (0 : Int32) _ _ _ E (lv_sub hl [2, 3, 1, 0] rfl) hf
abbrev rm_X0_store : Room := { frames := 1, cells := 0, slots := 0, locals := 26 }
theorem hd_X0_store : yX0_store.cls ≠ "java/lang/invoke/MethodHandle" ∧ yX0_store.cls ≠ "java/lang/invoke/VarHandle" ∧ (parseMethodDescriptor yX0_store.desc).map (fun d => d.parameters.length) = some 2 := by decide +kernel
def f_X0_store_L2 (bgd : Nat → Int32) (bam : Nat → Int64) (bsh : Nat → Int64) (bsz : Int32) (x2 : Int32) : Nat → (Nat → Int32) → (Nat → Int64) → (Nat → Int64) → (Nat → Int32) → (Int32) → Int32 → Option ((Nat → Int32) × (Nat → Int64) × (Nat → Int64) × (Nat → Int32) × (Int32))
  | 0, _, _, _, _, _, _ => none
  | n + 1, lgd, llf, ldb, ldy, lsz, x3 =>
  if bsz ≤ x3 then
    some (lgd, llf, ldb, ldy, lsz)
  else
    ck x3 3 <|
    if (lg_cmp (bam x3.toNatClampNeg) (0 : Int64)) ≤ 0 then
      f_X0_store_L2 bgd bam bsh bsz x2 n lgd llf ldb ldy lsz (x3 + 1)
    else
      ck x3 3 <|
      ck x3 3 <|
      ck x3 3 <|
      (f_X2_add lgd llf ldb ldy lsz (bgd x3.toNatClampNeg) (bam x3.toNatClampNeg) (bsh x3.toNatClampNeg) x2).bind fun o7 =>
      f_X0_store_L2 bgd bam bsh bsz x2 n o7.2.1 o7.2.2.1 o7.2.2.2.1 o7.2.2.2.2.1 o7.2.2.2.2.2 (x3 + 1)
set_option maxHeartbeats 4000000 in
set_option maxRecDepth 100000 in
theorem w_X0_store_L2 {p : Program} {l : Launch} {e : Env} {s : State} {m : MethodId} {args : Array Value} {below : List Frame} {meth : Method} {c : Code} {A : Nat → Prop} {D : va_G} {cI cJ cZ : ClassId} {a : Nat → Nat} {vl : Nat → Int32} {hs : Nat → Int32} {isz : Nat → Int32} {igd : Nat → Int32} {iup : Nat → Int32} {idn : Nat → Int32} {osz : Nat → Int32} {ogd : Nat → Int32} {oup : Nat → Int32} {odn : Nat → Int32} {dep : Nat → Int32} {rsz : Int32} {lti : Int64} {pgd : Nat → Int32} {plf : Nat → Int64} {pun : Nat → Int32} {psz : Int32} {bgd : Nat → Int32} {bam : Nat → Int64} {bwt : Nat → Int64} {bsh : Nat → Int64} {brm : Nat → Int64} {bsz : Int32} {cab : Nat → Int64} {cbl : Nat → Int64} {tod : Int32} {imp : Int64} {dis : Int64} {owe : Int64} {itr : Int64} (C : gC p s m args meth c cX0_store 4 none wsX0_store RX0 A) {x2 : Int32} {o : (Nat → Int32) × (Nat → Int64) × (Nat → Int64) × (Nat → Int32) × (Int32)} :
    ∀ (n : Nat) (lgd : Nat → Int32) (llf : Nat → Int64) (ldb : Nat → Int64) (ldy : Nat → Int32) (lsz : Int32) (x3 : Int32) (H : Heap) (locs : List Loc) (ls : Array Slot), vE s A D (gT cI cJ cZ) (cW a cI cJ cZ vl hs isz igd iup idn osz ogd oup odn dep rsz lgd llf ldb ldy lsz lti pgd plf pun psz bgd bam bwt bsh brm bsz cab cbl tod imp dis owe itr) H locs → lv_has ls 4 [(0, .ref (a 24)), (1, .ref (a 15)), (2, .int x2), (3, .int x3)] → f_X0_store_L2 bgd bam bsh bsz x2 n lgd llf ldb ldy lsz x3 = some o → W p l e rm_X0_store s m args below meth c H locs 0 0 (MQ below (gQv D (gT cI cJ cZ) A (cW a cI cJ cZ vl hs isz igd iup idn osz ogd oup odn dep rsz o.1 o.2.1 o.2.2.1 o.2.2.2.1 o.2.2.2.2 lti pgd plf pun psz bgd bam bwt bsh brm bsz cab cbl tod imp dis owe itr)) args s 0 0 A) (F0 m 2 ls []) := by
  obtain ⟨hx, hb, hr, hml, hown, hts, hlocks, hN, hA⟩ := id C
  intro n
  induction n with
  | zero =>
    intro lgd llf ldb ldy lsz x3 H locs ls E hl hf
    rw [f_X0_store_L2] at hf
    cases hf
  | succ n ih =>
    intro lgd llf ldb ldy lsz x3 H locs ls E hl hf
    rw [f_X0_store_L2] at hf
    refine lv_iload_n hx hb dX0_store_2 rfl (lv_at hl 3 rfl) ?_
    refine lv_aload_n hx hb dX0_store_3 rfl (lv_at hl 0 rfl) ?_
    refine g_get C E 24 5 (fun _ h => List.mem_cons_of_mem _ (List.mem_append_left _ (List.mem_append_right _ h))) rfl rfl (by decide) (List.mem_of_getElem? (i := 1) rfl) rfl rfl dX0_store_4 ?_
    refine lv_icmp_ge (tgt := 51) hx hb dX0_store_7 (by decide) (fun c1 => ?_) (fun c1 => ?_)
    · rw [if_pos c1] at hf
      obtain rfl := Option.some.inj hf
      exact g_vret C E dX0_store_51
    · rw [if_neg c1] at hf
      refine lv_aload_n hx hb dX0_store_10 rfl (lv_at hl 0 rfl) ?_
      refine g_get C E 24 1 (fun _ h => List.mem_cons_of_mem _ (List.mem_append_left _ (List.mem_append_right _ h))) rfl rfl (by decide) (List.mem_of_getElem? (i := 2) rfl) rfl rfl dX0_store_11 ?_
      refine lv_iload_n hx hb dX0_store_14 rfl (lv_at hl 3 rfl) ?_
      obtain ⟨h2, hf⟩ := ck_some hf
      refine g_lald C E 26 rfl h2 dX0_store_15 ?_
      refine lv_lconst (v := 0) hx hb dX0_store_16 (by decide) ?_
      refine W.lcmp hx hb dX0_store_17 ?_
      refine lv_if_le (tgt := 45) hx hb dX0_store_18 (by decide) (fun c3 => ?_) (fun c3 => ?_)
      · rw [if_pos c3] at hf
        refine lv_iinc (v := (x3 + 1)) (lv' := [(3, .int (x3 + 1)), (0, .ref (a 24)), (1, .ref (a 15)), (2, .int x2)]) hx hb dX0_store_45 hl (k := 3) rfl rfl (by decide) rfl (fun ls hl => ?_)
        refine lv_goto (tgt := 2) hx hb dX0_store_48 (by decide) ?_
        exact ih lgd llf ldb ldy lsz (x3 + 1) _ _ _ E (lv_sub hl [1, 2, 3, 0] rfl) hf
      · rw [if_neg c3] at hf
        refine lv_aload_n hx hb dX0_store_21 rfl (lv_at hl 1 rfl) ?_
        refine lv_aload_n hx hb dX0_store_22 rfl (lv_at hl 0 rfl) ?_
        refine g_get C E 24 0 (fun _ h => List.mem_cons_of_mem _ (List.mem_append_left _ (List.mem_append_right _ h))) rfl rfl (by decide) (List.mem_of_getElem? (i := 3) rfl) rfl rfl dX0_store_23 ?_
        refine lv_iload_n hx hb dX0_store_26 rfl (lv_at hl 3 rfl) ?_
        obtain ⟨h4, hf⟩ := ck_some hf
        refine g_iald C E 25 rfl h4 dX0_store_27 ?_
        refine lv_aload_n hx hb dX0_store_28 rfl (lv_at hl 0 rfl) ?_
        refine g_get C E 24 1 (fun _ h => List.mem_cons_of_mem _ (List.mem_append_left _ (List.mem_append_right _ h))) rfl rfl (by decide) (List.mem_of_getElem? (i := 2) rfl) rfl rfl dX0_store_29 ?_
        refine lv_iload_n hx hb dX0_store_32 rfl (lv_at hl 3 rfl) ?_
        obtain ⟨h5, hf⟩ := ck_some hf
        refine g_lald C E 26 rfl h5 dX0_store_33 ?_
        refine lv_aload_n hx hb dX0_store_34 rfl (lv_at hl 0 rfl) ?_
        refine g_get C E 24 3 (fun _ h => List.mem_cons_of_mem _ (List.mem_append_left _ (List.mem_append_right _ h))) rfl rfl (by decide) (List.mem_of_getElem? (i := 4) rfl) rfl rfl dX0_store_35 ?_
        refine lv_iload_n hx hb dX0_store_38 rfl (lv_at hl 3 rfl) ?_
        obtain ⟨h6, hf⟩ := ck_some hf
        refine g_lald C E 28 rfl h6 dX0_store_39 ?_
        refine lv_iload_n hx hb dX0_store_40 rfl (lv_at hl 2 rfl) ?_
        obtain ⟨o7, e8, hf⟩ := bd_some hf
        refine g_calli (w' := (cW a cI cJ cZ vl hs isz igd iup idn osz ogd oup odn dep rsz o7.2.1 o7.2.2.1 o7.2.2.2.1 o7.2.2.2.2.1 o7.2.2.2.2.2 lti pgd plf pun psz bgd bam bwt bsh brm bsz cab cbl tod imp dis owe itr)) C E (g_runV (As := [.int (bgd x3.toNatClampNeg), .long (bam x3.toNatClampNeg), .long (bsh x3.toNatClampNeg), .int x2]) (rest := []) C E (c_X2_add e8) (cwV 4 hts gX0_store_X2_add rfl rfl rfl ⟨rfl, hd_X2_add⟩ ⟨Nat.le_of_ble_eq_true rfl, Nat.le_of_ble_eq_true rfl⟩) (q0 := 15) (ci := 2) rfl rfl rfl rfl hl.1 rfl (Nat.le_of_ble_eq_true rfl) dX0_store_41 ⟨Nat.le_of_ble_eq_true rfl, Nat.le_of_ble_eq_true rfl⟩) (fun H locs E => ?_)
        refine lv_pop hx hb dX0_store_44 rfl ?_
        refine lv_iinc (v := (x3 + 1)) (lv' := [(3, .int (x3 + 1)), (0, .ref (a 24)), (1, .ref (a 15)), (2, .int x2)]) hx hb dX0_store_45 hl (k := 3) rfl rfl (by decide) rfl (fun ls hl => ?_)
        refine lv_goto (tgt := 2) hx hb dX0_store_48 (by decide) ?_
        exact ih o7.2.1 o7.2.2.1 o7.2.2.2.1 o7.2.2.2.2.1 o7.2.2.2.2.2 (x3 + 1) _ _ _ E (lv_sub hl [1, 2, 3, 0] rfl) hf
def f_X0_store (lgd : Nat → Int32) (llf : Nat → Int64) (ldb : Nat → Int64) (ldy : Nat → Int32) (lsz : Int32) (bgd : Nat → Int32) (bam : Nat → Int64) (bsh : Nat → Int64) (bsz : Int32) (x2 : Int32) : Option ((Nat → Int32) × (Nat → Int64) × (Nat → Int64) × (Nat → Int32) × (Int32)) :=
  f_X0_store_L2 bgd bam bsh bsz x2 FU lgd llf ldb ldy lsz (0 : Int32)
set_option maxHeartbeats 4000000 in
set_option maxRecDepth 100000 in
theorem c_X0_store {l : Launch} {D : va_G} {cI cJ cZ : ClassId} {a : Nat → Nat} {sz : Nat} {vl : Nat → Int32} {hs : Nat → Int32} {isz : Nat → Int32} {igd : Nat → Int32} {iup : Nat → Int32} {idn : Nat → Int32} {osz : Nat → Int32} {ogd : Nat → Int32} {oup : Nat → Int32} {odn : Nat → Int32} {dep : Nat → Int32} {rsz : Int32} {lgd : Nat → Int32} {llf : Nat → Int64} {ldb : Nat → Int64} {ldy : Nat → Int32} {lsz : Int32} {lti : Int64} {pgd : Nat → Int32} {plf : Nat → Int64} {pun : Nat → Int32} {psz : Int32} {bgd : Nat → Int32} {bam : Nat → Int64} {bwt : Nat → Int64} {bsh : Nat → Int64} {brm : Nat → Int64} {bsz : Int32} {cab : Nat → Int64} {cbl : Nat → Int64} {tod : Int32} {imp : Int64} {dis : Int64} {owe : Int64} {itr : Int64} {x2 : Int32} {o : (Nat → Int32) × (Nat → Int64) × (Nat → Int64) × (Nat → Int32) × (Int32)} (hf : f_X0_store lgd llf ldb ldy lsz bgd bam bsh bsz x2 = some o) : gMv l yX0_store wsX0_store rm_X0_store D (gT cI cJ cZ) (cW a cI cJ cZ vl hs isz igd iup idn osz ogd oup odn dep rsz lgd llf ldb ldy lsz lti pgd plf pun psz bgd bam bwt bsh brm bsz cab cbl tod imp dis owe itr) (cW a cI cJ cZ vl hs isz igd iup idn osz ogd oup odn dep rsz o.1 o.2.1 o.2.2.1 o.2.2.2.1 o.2.2.2.2 lti pgd plf pun psz bgd bam bwt bsh brm bsz cab cbl tod imp dis owe itr) sz [.ref (a 24), .ref (a 15), .int x2] := by
  refine g_of (cc := cX0_store) (maxL := 4) (ret := none) (by decide) rfl (Nat.le_of_ble_eq_true rfl) ?_
  intro p e s m below meth c A ls hAe C hl E
  rw [← hAe]
  obtain ⟨hx, hb, hr, hml, hown, hts, hlocks, hN, hA⟩ := id C
  have hl : lv_has ls 4 [(0, .ref (a 24)), (1, .ref (a 15)), (2, .int x2)] := hl
  have E : vE s A D (gT cI cJ cZ) (cW a cI cJ cZ vl hs isz igd iup idn osz ogd oup odn dep rsz lgd llf ldb ldy lsz lti pgd plf pun psz bgd bam bwt bsh brm bsz cab cbl tod imp dis owe itr) s.heap [] := E
  rw [f_X0_store] at hf
  refine lv_iconst (v := 0) hx hb dX0_store_0 (by decide) ?_
  refine lv_istore_n (lv' := [(3, .int (0 : Int32)), (0, .ref (a 24)), (1, .ref (a 15)), (2, .int x2)]) hx hb dX0_store_1 rfl hl (by decide) rfl (fun ls hl => ?_)
  exact w_X0_store_L2 C  FU lgd llf ldb ldy lsz (0 : Int32) _ _ _ E (lv_sub hl [1, 2, 3, 0] rfl) hf
end
section
abbrev rm_X1_addFraction : Room := { frames := 2, cells := 0, slots := 0, locals := 53 }
theorem hd_X1_addFraction : yX1_addFraction.cls ≠ "java/lang/invoke/MethodHandle" ∧ yX1_addFraction.cls ≠ "java/lang/invoke/VarHandle" ∧ (parseMethodDescriptor yX1_addFraction.desc).map (fun d => d.parameters.length) = some 3 := by decide +kernel
def f_X1_addFraction (cab : Nat → Int64) (cbl : Nat → Int64) (x1 : Int32) (x2 : Int64) (x4 : Int64) : Option ((Nat → Int64) × (Nat → Int64)) :=
  (f_X6_greatestDivisor x2 x4).bind fun o1 =>
  (f_X6_floorOf x2 o1).bind fun o3 =>
  (f_X6_floorOf x4 o1).bind fun o5 =>
  ck x1 12 <|
  ck x1 12 <|
  (f_X6_greatestDivisor (cbl x1.toNatClampNeg) o5).bind fun o9 =>
  (f_X6_floorOf (cbl x1.toNatClampNeg) o9).bind fun o11 =>
  ck x1 12 <|
  ck x1 12 <|
  (f_X6_floorOf (o11 * o5) (cbl x1.toNatClampNeg)).bind fun o15 =>
  (f_X6_floorOf (o11 * o5) o5).bind fun o17 =>
  (f_X6_greatestDivisor (((cab x1.toNatClampNeg) * o15) + (o3 * o17)) (o11 * o5)).bind fun o19 =>
  (f_X6_floorOf (((cab x1.toNatClampNeg) * o15) + (o3 * o17)) o19).bind fun o21 =>
  ck x1 12 <|
  (f_X6_floorOf (o11 * o5) o19).bind fun o24 =>
  ck x1 12 <|
  some ((vp_updL cab x1.toNatClampNeg o21), (vp_updL cbl x1.toNatClampNeg o24))
set_option maxHeartbeats 4000000 in
set_option maxRecDepth 100000 in
theorem c_X1_addFraction {l : Launch} {D : va_G} {cI cJ cZ : ClassId} {a : Nat → Nat} {sz : Nat} {vl : Nat → Int32} {hs : Nat → Int32} {isz : Nat → Int32} {igd : Nat → Int32} {iup : Nat → Int32} {idn : Nat → Int32} {osz : Nat → Int32} {ogd : Nat → Int32} {oup : Nat → Int32} {odn : Nat → Int32} {dep : Nat → Int32} {rsz : Int32} {lgd : Nat → Int32} {llf : Nat → Int64} {ldb : Nat → Int64} {ldy : Nat → Int32} {lsz : Int32} {lti : Int64} {pgd : Nat → Int32} {plf : Nat → Int64} {pun : Nat → Int32} {psz : Int32} {bgd : Nat → Int32} {bam : Nat → Int64} {bwt : Nat → Int64} {bsh : Nat → Int64} {brm : Nat → Int64} {bsz : Int32} {cab : Nat → Int64} {cbl : Nat → Int64} {tod : Int32} {imp : Int64} {dis : Int64} {owe : Int64} {itr : Int64} {x1 : Int32} {x2 : Int64} {x4 : Int64} {o : (Nat → Int64) × (Nat → Int64)} (hf : f_X1_addFraction cab cbl x1 x2 x4 = some o) : gMv l yX1_addFraction wsX1_addFraction rm_X1_addFraction D (gT cI cJ cZ) (cW a cI cJ cZ vl hs isz igd iup idn osz ogd oup odn dep rsz lgd llf ldb ldy lsz lti pgd plf pun psz bgd bam bwt bsh brm bsz cab cbl tod imp dis owe itr) (cW a cI cJ cZ vl hs isz igd iup idn osz ogd oup odn dep rsz lgd llf ldb ldy lsz lti pgd plf pun psz bgd bam bwt bsh brm bsz o.1 o.2 tod imp dis owe itr) sz [.ref (a 30), .int x1, .long x2, .long x4] := by
  refine g_of (cc := cX1_addFraction) (maxL := 18) (ret := none) (by decide) rfl (Nat.le_of_ble_eq_true rfl) ?_
  intro p e s m below meth c A ls hAe C hl E
  rw [← hAe]
  obtain ⟨hx, hb, hr, hml, hown, hts, hlocks, hN, hA⟩ := id C
  have hl : lv_has ls 18 [(0, .ref (a 30)), (1, .int x1), (2, .long x2), (4, .long x4)] := hl
  have E : vE s A D (gT cI cJ cZ) (cW a cI cJ cZ vl hs isz igd iup idn osz ogd oup odn dep rsz lgd llf ldb ldy lsz lti pgd plf pun psz bgd bam bwt bsh brm bsz cab cbl tod imp dis owe itr) s.heap [] := E
  rw [f_X1_addFraction] at hf
  refine lv_lload_n hx hb dX1_addFraction_0 rfl (lv_at hl 2 rfl) ?_
  refine lv_lload hx hb dX1_addFraction_1 (lv_at hl 3 rfl) ?_
  obtain ⟨o1, e2, hf⟩ := bd_some hf
  refine g_calll (w' := (cW a cI cJ cZ vl hs isz igd iup idn osz ogd oup odn dep rsz lgd llf ldb ldy lsz lti pgd plf pun psz bgd bam bwt bsh brm bsz cab cbl tod imp dis owe itr)) C E (g_runSN (As := [.long x2, .long x4]) (rest := []) C E (c_X6_greatestDivisor e2) ⟨va_cnB 2 hts gX1_addFraction_X6_greatestDivisor_n54 rfl rfl rfl (hN.1 _ (List.mem_of_getElem? (i := 6) rfl)) (hts (.initialized RX6) (List.mem_of_getElem? (i := 4) rfl)) hd_X6_greatestDivisor ⟨Nat.le_of_ble_eq_true rfl, Nat.le_of_ble_eq_true rfl⟩, hts (.static yX6_greatestDivisor) (List.mem_of_getElem? (i := 3) rfl), trivial⟩ rfl hl.1 rfl (Nat.le_of_ble_eq_true rfl) dX1_addFraction_3 ⟨Nat.le_of_ble_eq_true rfl, Nat.le_of_ble_eq_true rfl⟩) (fun H locs E => ?_)
  refine lv_lstore (lv' := [(6, .long o1), (0, .ref (a 30)), (1, .int x1), (2, .long x2), (4, .long x4)]) hx hb dX1_addFraction_6 hl (by decide) rfl (fun ls hl => ?_)
  refine lv_lload_n hx hb dX1_addFraction_8 rfl (lv_at hl 3 rfl) ?_
  refine lv_lload hx hb dX1_addFraction_9 (lv_at hl 0 rfl) ?_
  obtain ⟨o3, e4, hf⟩ := bd_some hf
  refine g_calll (w' := (cW a cI cJ cZ vl hs isz igd iup idn osz ogd oup odn dep rsz lgd llf ldb ldy lsz lti pgd plf pun psz bgd bam bwt bsh brm bsz cab cbl tod imp dis owe itr)) C E (g_runSN (As := [.long x2, .long o1]) (rest := []) C E (c_X6_floorOf e4) ⟨va_cnB 2 hts gX1_addFraction_X6_floorOf_n58 rfl rfl rfl (hN.1 _ (List.mem_of_getElem? (i := 7) rfl)) (hts (.initialized RX6) (List.mem_of_getElem? (i := 4) rfl)) hd_X6_floorOf ⟨Nat.le_of_ble_eq_true rfl, Nat.le_of_ble_eq_true rfl⟩, hts (.static yX6_floorOf) (List.mem_of_getElem? (i := 7) rfl), trivial⟩ rfl hl.1 rfl (Nat.le_of_ble_eq_true rfl) dX1_addFraction_11 ⟨Nat.le_of_ble_eq_true rfl, Nat.le_of_ble_eq_true rfl⟩) (fun H locs E => ?_)
  refine lv_lstore (lv' := [(8, .long o3), (6, .long o1), (0, .ref (a 30)), (1, .int x1), (2, .long x2), (4, .long x4)]) hx hb dX1_addFraction_14 hl (by decide) rfl (fun ls hl => ?_)
  refine lv_lload hx hb dX1_addFraction_16 (lv_at hl 5 rfl) ?_
  refine lv_lload hx hb dX1_addFraction_18 (lv_at hl 1 rfl) ?_
  obtain ⟨o5, e6, hf⟩ := bd_some hf
  refine g_calll (w' := (cW a cI cJ cZ vl hs isz igd iup idn osz ogd oup odn dep rsz lgd llf ldb ldy lsz lti pgd plf pun psz bgd bam bwt bsh brm bsz cab cbl tod imp dis owe itr)) C E (g_runSN (As := [.long x4, .long o1]) (rest := []) C E (c_X6_floorOf e6) ⟨va_cnB 2 hts gX1_addFraction_X6_floorOf_n58 rfl rfl rfl (hN.1 _ (List.mem_of_getElem? (i := 7) rfl)) (hts (.initialized RX6) (List.mem_of_getElem? (i := 4) rfl)) hd_X6_floorOf ⟨Nat.le_of_ble_eq_true rfl, Nat.le_of_ble_eq_true rfl⟩, hts (.static yX6_floorOf) (List.mem_of_getElem? (i := 7) rfl), trivial⟩ rfl hl.1 rfl (Nat.le_of_ble_eq_true rfl) dX1_addFraction_20 ⟨Nat.le_of_ble_eq_true rfl, Nat.le_of_ble_eq_true rfl⟩) (fun H locs E => ?_)
  refine lv_lstore (lv' := [(10, .long o5), (8, .long o3), (6, .long o1), (0, .ref (a 30)), (1, .int x1), (2, .long x2), (4, .long x4)]) hx hb dX1_addFraction_23 hl (by decide) rfl (fun ls hl => ?_)
  refine lv_aload_n hx hb dX1_addFraction_25 rfl (lv_at hl 3 rfl) ?_
  refine g_get C E 30 1 (fun _ h => List.mem_cons_of_mem _ (List.mem_append_right _ h)) rfl rfl (by decide) (List.mem_of_getElem? (i := 1) rfl) rfl rfl dX1_addFraction_26 ?_
  refine lv_iload_n hx hb dX1_addFraction_29 rfl (lv_at hl 4 rfl) ?_
  obtain ⟨h7, hf⟩ := ck_some hf
  refine g_lald C E 32 rfl h7 dX1_addFraction_30 ?_
  refine lv_aload_n hx hb dX1_addFraction_31 rfl (lv_at hl 3 rfl) ?_
  refine g_get C E 30 1 (fun _ h => List.mem_cons_of_mem _ (List.mem_append_right _ h)) rfl rfl (by decide) (List.mem_of_getElem? (i := 1) rfl) rfl rfl dX1_addFraction_32 ?_
  refine lv_iload_n hx hb dX1_addFraction_35 rfl (lv_at hl 4 rfl) ?_
  obtain ⟨h8, hf⟩ := ck_some hf
  refine g_lald C E 32 rfl h8 dX1_addFraction_36 ?_
  refine lv_lload hx hb dX1_addFraction_37 (lv_at hl 0 rfl) ?_
  obtain ⟨o9, e10, hf⟩ := bd_some hf
  refine g_calll (w' := (cW a cI cJ cZ vl hs isz igd iup idn osz ogd oup odn dep rsz lgd llf ldb ldy lsz lti pgd plf pun psz bgd bam bwt bsh brm bsz cab cbl tod imp dis owe itr)) C E (g_runSN (As := [.long (cbl x1.toNatClampNeg), .long o5]) (rest := [.long (cbl x1.toNatClampNeg)]) C E (c_X6_greatestDivisor e10) ⟨va_cnB 2 hts gX1_addFraction_X6_greatestDivisor_n54 rfl rfl rfl (hN.1 _ (List.mem_of_getElem? (i := 6) rfl)) (hts (.initialized RX6) (List.mem_of_getElem? (i := 4) rfl)) hd_X6_greatestDivisor ⟨Nat.le_of_ble_eq_true rfl, Nat.le_of_ble_eq_true rfl⟩, hts (.static yX6_greatestDivisor) (List.mem_of_getElem? (i := 3) rfl), trivial⟩ rfl hl.1 rfl (Nat.le_of_ble_eq_true rfl) dX1_addFraction_39 ⟨Nat.le_of_ble_eq_true rfl, Nat.le_of_ble_eq_true rfl⟩) (fun H locs E => ?_)
  obtain ⟨o11, e12, hf⟩ := bd_some hf
  refine g_calll (w' := (cW a cI cJ cZ vl hs isz igd iup idn osz ogd oup odn dep rsz lgd llf ldb ldy lsz lti pgd plf pun psz bgd bam bwt bsh brm bsz cab cbl tod imp dis owe itr)) C E (g_runSN (As := [.long (cbl x1.toNatClampNeg), .long o9]) (rest := []) C E (c_X6_floorOf e12) ⟨va_cnB 2 hts gX1_addFraction_X6_floorOf_n58 rfl rfl rfl (hN.1 _ (List.mem_of_getElem? (i := 7) rfl)) (hts (.initialized RX6) (List.mem_of_getElem? (i := 4) rfl)) hd_X6_floorOf ⟨Nat.le_of_ble_eq_true rfl, Nat.le_of_ble_eq_true rfl⟩, hts (.static yX6_floorOf) (List.mem_of_getElem? (i := 7) rfl), trivial⟩ rfl hl.1 rfl (Nat.le_of_ble_eq_true rfl) dX1_addFraction_42 ⟨Nat.le_of_ble_eq_true rfl, Nat.le_of_ble_eq_true rfl⟩) (fun H locs E => ?_)
  refine lv_lload hx hb dX1_addFraction_45 (lv_at hl 0 rfl) ?_
  refine lv_lmul hx hb dX1_addFraction_47 ?_
  refine lv_lstore (lv' := [(12, .long (o11 * o5)), (10, .long o5), (8, .long o3), (6, .long o1), (0, .ref (a 30)), (1, .int x1), (2, .long x2), (4, .long x4)]) hx hb dX1_addFraction_48 hl (by decide) rfl (fun ls hl => ?_)
  refine lv_aload_n hx hb dX1_addFraction_50 rfl (lv_at hl 4 rfl) ?_
  refine g_get C E 30 0 (fun _ h => List.mem_cons_of_mem _ (List.mem_append_right _ h)) rfl rfl (by decide) (List.mem_of_getElem? (i := 2) rfl) rfl rfl dX1_addFraction_51 ?_
  refine lv_iload_n hx hb dX1_addFraction_54 rfl (lv_at hl 5 rfl) ?_
  obtain ⟨h13, hf⟩ := ck_some hf
  refine g_lald C E 31 rfl h13 dX1_addFraction_55 ?_
  refine lv_lload hx hb dX1_addFraction_56 (lv_at hl 0 rfl) ?_
  refine lv_aload_n hx hb dX1_addFraction_58 rfl (lv_at hl 4 rfl) ?_
  refine g_get C E 30 1 (fun _ h => List.mem_cons_of_mem _ (List.mem_append_right _ h)) rfl rfl (by decide) (List.mem_of_getElem? (i := 1) rfl) rfl rfl dX1_addFraction_59 ?_
  refine lv_iload_n hx hb dX1_addFraction_62 rfl (lv_at hl 5 rfl) ?_
  obtain ⟨h14, hf⟩ := ck_some hf
  refine g_lald C E 32 rfl h14 dX1_addFraction_63 ?_
  obtain ⟨o15, e16, hf⟩ := bd_some hf
  refine g_calll (w' := (cW a cI cJ cZ vl hs isz igd iup idn osz ogd oup odn dep rsz lgd llf ldb ldy lsz lti pgd plf pun psz bgd bam bwt bsh brm bsz cab cbl tod imp dis owe itr)) C E (g_runSN (As := [.long (o11 * o5), .long (cbl x1.toNatClampNeg)]) (rest := [.long (cab x1.toNatClampNeg)]) C E (c_X6_floorOf e16) ⟨va_cnB 2 hts gX1_addFraction_X6_floorOf_n58 rfl rfl rfl (hN.1 _ (List.mem_of_getElem? (i := 7) rfl)) (hts (.initialized RX6) (List.mem_of_getElem? (i := 4) rfl)) hd_X6_floorOf ⟨Nat.le_of_ble_eq_true rfl, Nat.le_of_ble_eq_true rfl⟩, hts (.static yX6_floorOf) (List.mem_of_getElem? (i := 7) rfl), trivial⟩ rfl hl.1 rfl (Nat.le_of_ble_eq_true rfl) dX1_addFraction_64 ⟨Nat.le_of_ble_eq_true rfl, Nat.le_of_ble_eq_true rfl⟩) (fun H locs E => ?_)
  refine lv_lmul hx hb dX1_addFraction_67 ?_
  refine lv_lload hx hb dX1_addFraction_68 (lv_at hl 2 rfl) ?_
  refine lv_lload hx hb dX1_addFraction_70 (lv_at hl 0 rfl) ?_
  refine lv_lload hx hb dX1_addFraction_72 (lv_at hl 1 rfl) ?_
  obtain ⟨o17, e18, hf⟩ := bd_some hf
  refine g_calll (w' := (cW a cI cJ cZ vl hs isz igd iup idn osz ogd oup odn dep rsz lgd llf ldb ldy lsz lti pgd plf pun psz bgd bam bwt bsh brm bsz cab cbl tod imp dis owe itr)) C E (g_runSN (As := [.long (o11 * o5), .long o5]) (rest := [.long o3, .long ((cab x1.toNatClampNeg) * o15)]) C E (c_X6_floorOf e18) ⟨va_cnB 2 hts gX1_addFraction_X6_floorOf_n58 rfl rfl rfl (hN.1 _ (List.mem_of_getElem? (i := 7) rfl)) (hts (.initialized RX6) (List.mem_of_getElem? (i := 4) rfl)) hd_X6_floorOf ⟨Nat.le_of_ble_eq_true rfl, Nat.le_of_ble_eq_true rfl⟩, hts (.static yX6_floorOf) (List.mem_of_getElem? (i := 7) rfl), trivial⟩ rfl hl.1 rfl (Nat.le_of_ble_eq_true rfl) dX1_addFraction_74 ⟨Nat.le_of_ble_eq_true rfl, Nat.le_of_ble_eq_true rfl⟩) (fun H locs E => ?_)
  refine lv_lmul hx hb dX1_addFraction_77 ?_
  refine lv_ladd hx hb dX1_addFraction_78 ?_
  refine lv_lstore (lv' := [(14, .long (((cab x1.toNatClampNeg) * o15) + (o3 * o17))), (12, .long (o11 * o5)), (10, .long o5), (8, .long o3), (6, .long o1), (0, .ref (a 30)), (1, .int x1), (2, .long x2), (4, .long x4)]) hx hb dX1_addFraction_79 hl (by decide) rfl (fun ls hl => ?_)
  refine lv_lload hx hb dX1_addFraction_81 (lv_at hl 0 rfl) ?_
  refine lv_lload hx hb dX1_addFraction_83 (lv_at hl 1 rfl) ?_
  obtain ⟨o19, e20, hf⟩ := bd_some hf
  refine g_calll (w' := (cW a cI cJ cZ vl hs isz igd iup idn osz ogd oup odn dep rsz lgd llf ldb ldy lsz lti pgd plf pun psz bgd bam bwt bsh brm bsz cab cbl tod imp dis owe itr)) C E (g_runSN (As := [.long (((cab x1.toNatClampNeg) * o15) + (o3 * o17)), .long (o11 * o5)]) (rest := []) C E (c_X6_greatestDivisor e20) ⟨va_cnB 2 hts gX1_addFraction_X6_greatestDivisor_n54 rfl rfl rfl (hN.1 _ (List.mem_of_getElem? (i := 6) rfl)) (hts (.initialized RX6) (List.mem_of_getElem? (i := 4) rfl)) hd_X6_greatestDivisor ⟨Nat.le_of_ble_eq_true rfl, Nat.le_of_ble_eq_true rfl⟩, hts (.static yX6_greatestDivisor) (List.mem_of_getElem? (i := 3) rfl), trivial⟩ rfl hl.1 rfl (Nat.le_of_ble_eq_true rfl) dX1_addFraction_85 ⟨Nat.le_of_ble_eq_true rfl, Nat.le_of_ble_eq_true rfl⟩) (fun H locs E => ?_)
  refine lv_lstore (lv' := [(16, .long o19), (14, .long (((cab x1.toNatClampNeg) * o15) + (o3 * o17))), (12, .long (o11 * o5)), (10, .long o5), (8, .long o3), (6, .long o1), (0, .ref (a 30)), (1, .int x1), (2, .long x2), (4, .long x4)]) hx hb dX1_addFraction_88 hl (by decide) rfl (fun ls hl => ?_)
  refine lv_aload_n hx hb dX1_addFraction_90 rfl (lv_at hl 6 rfl) ?_
  refine g_get C E 30 0 (fun _ h => List.mem_cons_of_mem _ (List.mem_append_right _ h)) rfl rfl (by decide) (List.mem_of_getElem? (i := 2) rfl) rfl rfl dX1_addFraction_91 ?_
  refine lv_iload_n hx hb dX1_addFraction_94 rfl (lv_at hl 7 rfl) ?_
  refine lv_lload hx hb dX1_addFraction_95 (lv_at hl 1 rfl) ?_
  refine lv_lload hx hb dX1_addFraction_97 (lv_at hl 0 rfl) ?_
  obtain ⟨o21, e22, hf⟩ := bd_some hf
  refine g_calll (w' := (cW a cI cJ cZ vl hs isz igd iup idn osz ogd oup odn dep rsz lgd llf ldb ldy lsz lti pgd plf pun psz bgd bam bwt bsh brm bsz cab cbl tod imp dis owe itr)) C E (g_runSN (As := [.long (((cab x1.toNatClampNeg) * o15) + (o3 * o17)), .long o19]) (rest := [.int x1, .ref (a 31)]) C E (c_X6_floorOf e22) ⟨va_cnB 2 hts gX1_addFraction_X6_floorOf_n58 rfl rfl rfl (hN.1 _ (List.mem_of_getElem? (i := 7) rfl)) (hts (.initialized RX6) (List.mem_of_getElem? (i := 4) rfl)) hd_X6_floorOf ⟨Nat.le_of_ble_eq_true rfl, Nat.le_of_ble_eq_true rfl⟩, hts (.static yX6_floorOf) (List.mem_of_getElem? (i := 7) rfl), trivial⟩ rfl hl.1 rfl (Nat.le_of_ble_eq_true rfl) dX1_addFraction_99 ⟨Nat.le_of_ble_eq_true rfl, Nat.le_of_ble_eq_true rfl⟩) (fun H locs E => ?_)
  obtain ⟨h23, hf⟩ := ck_some hf
  refine g_last (w' := (cW a cI cJ cZ vl hs isz igd iup idn osz ogd oup odn dep rsz lgd llf ldb ldy lsz lti pgd plf pun psz bgd bam bwt bsh brm bsz (vp_updL cab x1.toNatClampNeg o21) cbl tod imp dis owe itr)) C E 31 rfl h23 dX1_addFraction_102 rfl (fun H locs E => ?_)
  refine lv_aload_n hx hb dX1_addFraction_103 rfl (lv_at hl 6 rfl) ?_
  refine g_get C E 30 1 (fun _ h => List.mem_cons_of_mem _ (List.mem_append_right _ h)) rfl rfl (by decide) (List.mem_of_getElem? (i := 1) rfl) rfl rfl dX1_addFraction_104 ?_
  refine lv_iload_n hx hb dX1_addFraction_107 rfl (lv_at hl 7 rfl) ?_
  refine lv_lload hx hb dX1_addFraction_108 (lv_at hl 2 rfl) ?_
  refine lv_lload hx hb dX1_addFraction_110 (lv_at hl 0 rfl) ?_
  obtain ⟨o24, e25, hf⟩ := bd_some hf
  refine g_calll (w' := (cW a cI cJ cZ vl hs isz igd iup idn osz ogd oup odn dep rsz lgd llf ldb ldy lsz lti pgd plf pun psz bgd bam bwt bsh brm bsz (vp_updL cab x1.toNatClampNeg o21) cbl tod imp dis owe itr)) C E (g_runSN (As := [.long (o11 * o5), .long o19]) (rest := [.int x1, .ref (a 32)]) C E (c_X6_floorOf e25) ⟨va_cnB 2 hts gX1_addFraction_X6_floorOf_n58 rfl rfl rfl (hN.1 _ (List.mem_of_getElem? (i := 7) rfl)) (hts (.initialized RX6) (List.mem_of_getElem? (i := 4) rfl)) hd_X6_floorOf ⟨Nat.le_of_ble_eq_true rfl, Nat.le_of_ble_eq_true rfl⟩, hts (.static yX6_floorOf) (List.mem_of_getElem? (i := 7) rfl), trivial⟩ rfl hl.1 rfl (Nat.le_of_ble_eq_true rfl) dX1_addFraction_112 ⟨Nat.le_of_ble_eq_true rfl, Nat.le_of_ble_eq_true rfl⟩) (fun H locs E => ?_)
  obtain ⟨h26, hf⟩ := ck_some hf
  refine g_last (w' := (cW a cI cJ cZ vl hs isz igd iup idn osz ogd oup odn dep rsz lgd llf ldb ldy lsz lti pgd plf pun psz bgd bam bwt bsh brm bsz (vp_updL cab x1.toNatClampNeg o21) (vp_updL cbl x1.toNatClampNeg o24) tod imp dis owe itr)) C E 32 rfl h26 dX1_addFraction_115 rfl (fun H locs E => ?_)
  obtain rfl := Option.some.inj hf
  exact g_vret C E dX1_addFraction_116
abbrev rm_X1_gather : Room := { frames := 3, cells := 0, slots := 0, locals := 90 }
theorem hd_X1_gather : yX1_gather.cls ≠ "java/lang/invoke/MethodHandle" ∧ yX1_gather.cls ≠ "java/lang/invoke/VarHandle" ∧ (parseMethodDescriptor yX1_gather.desc).map (fun d => d.parameters.length) = some 2 := by decide +kernel
def f_X1_gather_L2 (isz : Nat → Int32) (igd : Nat → Int32) (iup : Nat → Int32) (idn : Nat → Int32) (x2 : Int32) : Nat → (Nat → Int64) → (Nat → Int64) → Int32 → Option ((Nat → Int64) × (Nat → Int64))
  | 0, _, _, _ => none
  | n + 1, cab, cbl, x3 =>
  ck x2 12 <|
  if (isz x2.toNatClampNeg) ≤ x3 then
    some (cab, cbl)
  else
    (f_X3_place x2 x3).bind fun o3 =>
    ck o3 48 <|
    ck (igd o3.toNatClampNeg) 12 <|
    ck o3 48 <|
    ck (igd o3.toNatClampNeg) 12 <|
    ck o3 48 <|
    (f_X1_addFraction cab cbl x2 ((cab (igd o3.toNatClampNeg).toNatClampNeg) * (iup o3.toNatClampNeg).toInt64) ((cbl (igd o3.toNatClampNeg).toNatClampNeg) * (idn o3.toNatClampNeg).toInt64)).bind fun o10 =>
    f_X1_gather_L2 isz igd iup idn x2 n o10.1 o10.2 (x3 + 1)
set_option maxHeartbeats 4000000 in
set_option maxRecDepth 100000 in
theorem w_X1_gather_L2 {p : Program} {l : Launch} {e : Env} {s : State} {m : MethodId} {args : Array Value} {below : List Frame} {meth : Method} {c : Code} {A : Nat → Prop} {D : va_G} {cI cJ cZ : ClassId} {a : Nat → Nat} {vl : Nat → Int32} {hs : Nat → Int32} {isz : Nat → Int32} {igd : Nat → Int32} {iup : Nat → Int32} {idn : Nat → Int32} {osz : Nat → Int32} {ogd : Nat → Int32} {oup : Nat → Int32} {odn : Nat → Int32} {dep : Nat → Int32} {rsz : Int32} {lgd : Nat → Int32} {llf : Nat → Int64} {ldb : Nat → Int64} {ldy : Nat → Int32} {lsz : Int32} {lti : Int64} {pgd : Nat → Int32} {plf : Nat → Int64} {pun : Nat → Int32} {psz : Int32} {bgd : Nat → Int32} {bam : Nat → Int64} {bwt : Nat → Int64} {bsh : Nat → Int64} {brm : Nat → Int64} {bsz : Int32} {tod : Int32} {imp : Int64} {dis : Int64} {owe : Int64} {itr : Int64} (C : gC p s m args meth c cX1_gather 6 none wsX1_gather RX1 A) {x2 : Int32} {o : (Nat → Int64) × (Nat → Int64)} :
    ∀ (n : Nat) (cab : Nat → Int64) (cbl : Nat → Int64) (x3 : Int32) (H : Heap) (locs : List Loc) (ls : Array Slot), vE s A D (gT cI cJ cZ) (cW a cI cJ cZ vl hs isz igd iup idn osz ogd oup odn dep rsz lgd llf ldb ldy lsz lti pgd plf pun psz bgd bam bwt bsh brm bsz cab cbl tod imp dis owe itr) H locs → lv_has ls 6 [(0, .ref (a 30)), (1, .ref (a 4)), (2, .int x2), (3, .int x3)] → f_X1_gather_L2 isz igd iup idn x2 n cab cbl x3 = some o → W p l e rm_X1_gather s m args below meth c H locs 0 0 (MQ below (gQv D (gT cI cJ cZ) A (cW a cI cJ cZ vl hs isz igd iup idn osz ogd oup odn dep rsz lgd llf ldb ldy lsz lti pgd plf pun psz bgd bam bwt bsh brm bsz o.1 o.2 tod imp dis owe itr)) args s 0 0 A) (F0 m 2 ls []) := by
  obtain ⟨hx, hb, hr, hml, hown, hts, hlocks, hN, hA⟩ := id C
  intro n
  induction n with
  | zero =>
    intro cab cbl x3 H locs ls E hl hf
    rw [f_X1_gather_L2] at hf
    cases hf
  | succ n ih =>
    intro cab cbl x3 H locs ls E hl hf
    rw [f_X1_gather_L2] at hf
    refine lv_iload_n hx hb dX1_gather_2 rfl (lv_at hl 3 rfl) ?_
    refine lv_aload_n hx hb dX1_gather_3 rfl (lv_at hl 1 rfl) ?_
    refine g_get C E 4 1 (fun _ h => List.mem_cons_of_mem _ (List.mem_append_left _ (List.mem_append_right _ h))) rfl rfl (by decide) (List.mem_of_getElem? (i := 1) rfl) rfl rfl dX1_gather_4 ?_
    refine lv_iload_n hx hb dX1_gather_7 rfl (lv_at hl 2 rfl) ?_
    obtain ⟨h1, hf⟩ := ck_some hf
    refine g_iald C E 5 rfl h1 dX1_gather_8 ?_
    refine lv_icmp_ge (tgt := 71) hx hb dX1_gather_9 (by decide) (fun c2 => ?_) (fun c2 => ?_)
    · rw [if_pos c2] at hf
      obtain rfl := Option.some.inj hf
      exact g_vret C E dX1_gather_71
    · rw [if_neg c2] at hf
      refine lv_iload_n hx hb dX1_gather_12 rfl (lv_at hl 2 rfl) ?_
      refine lv_iload_n hx hb dX1_gather_13 rfl (lv_at hl 3 rfl) ?_
      obtain ⟨o3, e4, hf⟩ := bd_some hf
      refine g_calli (w' := (cW a cI cJ cZ vl hs isz igd iup idn osz ogd oup odn dep rsz lgd llf ldb ldy lsz lti pgd plf pun psz bgd bam bwt bsh brm bsz cab cbl tod imp dis owe itr)) C E (g_runS (As := [.int x2, .int x3]) (rest := []) C E (c_X3_place e4) (va_cwS 2 hts gX1_gather_X3_place rfl rfl rfl hd_X3_place ⟨Nat.le_of_ble_eq_true rfl, Nat.le_of_ble_eq_true rfl⟩) rfl hl.1 rfl (Nat.le_of_ble_eq_true rfl) dX1_gather_14 ⟨Nat.le_of_ble_eq_true rfl, Nat.le_of_ble_eq_true rfl⟩) (fun H locs E => ?_)
      refine lv_istore (lv' := [(4, .int o3), (0, .ref (a 30)), (1, .ref (a 4)), (2, .int x2), (3, .int x3)]) hx hb dX1_gather_17 hl (by decide) rfl (fun ls hl => ?_)
      refine lv_aload_n hx hb dX1_gather_19 rfl (lv_at hl 2 rfl) ?_
      refine g_get C E 4 2 (fun _ h => List.mem_cons_of_mem _ (List.mem_append_left _ (List.mem_append_right _ h))) rfl rfl (by decide) (List.mem_of_getElem? (i := 2) rfl) rfl rfl dX1_gather_20 ?_
      refine lv_iload hx hb dX1_gather_23 (lv_at hl 0 rfl) ?_
      obtain ⟨h5, hf⟩ := ck_some hf
      refine g_iald C E 6 rfl h5 dX1_gather_25 ?_
      refine lv_istore (lv' := [(5, .int (igd o3.toNatClampNeg)), (4, .int o3), (0, .ref (a 30)), (1, .ref (a 4)), (2, .int x2), (3, .int x3)]) hx hb dX1_gather_26 hl (by decide) rfl (fun ls hl => ?_)
      refine lv_aload_n hx hb dX1_gather_28 rfl (lv_at hl 2 rfl) ?_
      refine lv_iload_n hx hb dX1_gather_29 rfl (lv_at hl 4 rfl) ?_
      refine lv_aload_n hx hb dX1_gather_30 rfl (lv_at hl 2 rfl) ?_
      refine g_get C E 30 0 (fun _ h => List.mem_cons_of_mem _ (List.mem_append_right _ h)) rfl rfl (by decide) (List.mem_of_getElem? (i := 3) rfl) rfl rfl dX1_gather_31 ?_
      refine lv_iload hx hb dX1_gather_34 (lv_at hl 0 rfl) ?_
      obtain ⟨h6, hf⟩ := ck_some hf
      refine g_lald C E 31 rfl h6 dX1_gather_36 ?_
      refine lv_aload_n hx hb dX1_gather_37 rfl (lv_at hl 3 rfl) ?_
      refine g_get C E 4 3 (fun _ h => List.mem_cons_of_mem _ (List.mem_append_left _ (List.mem_append_right _ h))) rfl rfl (by decide) (List.mem_of_getElem? (i := 4) rfl) rfl rfl dX1_gather_38 ?_
      refine lv_iload hx hb dX1_gather_41 (lv_at hl 1 rfl) ?_
      obtain ⟨h7, hf⟩ := ck_some hf
      refine g_iald C E 7 rfl h7 dX1_gather_43 ?_
      refine lv_i2l hx hb dX1_gather_44 rfl ?_
      refine lv_lmul hx hb dX1_gather_45 ?_
      refine lv_aload_n hx hb dX1_gather_46 rfl (lv_at hl 2 rfl) ?_
      refine g_get C E 30 1 (fun _ h => List.mem_cons_of_mem _ (List.mem_append_right _ h)) rfl rfl (by decide) (List.mem_of_getElem? (i := 5) rfl) rfl rfl dX1_gather_47 ?_
      refine lv_iload hx hb dX1_gather_50 (lv_at hl 0 rfl) ?_
      obtain ⟨h8, hf⟩ := ck_some hf
      refine g_lald C E 32 rfl h8 dX1_gather_52 ?_
      refine lv_aload_n hx hb dX1_gather_53 rfl (lv_at hl 3 rfl) ?_
      refine g_get C E 4 4 (fun _ h => List.mem_cons_of_mem _ (List.mem_append_left _ (List.mem_append_right _ h))) rfl rfl (by decide) (List.mem_of_getElem? (i := 6) rfl) rfl rfl dX1_gather_54 ?_
      refine lv_iload hx hb dX1_gather_57 (lv_at hl 1 rfl) ?_
      obtain ⟨h9, hf⟩ := ck_some hf
      refine g_iald C E 8 rfl h9 dX1_gather_59 ?_
      refine lv_i2l hx hb dX1_gather_60 rfl ?_
      refine lv_lmul hx hb dX1_gather_61 ?_
      obtain ⟨o10, e11, hf⟩ := bd_some hf
      refine g_callv (w' := (cW a cI cJ cZ vl hs isz igd iup idn osz ogd oup odn dep rsz lgd llf ldb ldy lsz lti pgd plf pun psz bgd bam bwt bsh brm bsz o10.1 o10.2 tod imp dis owe itr)) C E (g_runV (As := [.int x2, .long ((cab (igd o3.toNatClampNeg).toNatClampNeg) * (iup o3.toNatClampNeg).toInt64), .long ((cbl (igd o3.toNatClampNeg).toNatClampNeg) * (idn o3.toNatClampNeg).toInt64)]) (rest := []) C E (c_X1_addFraction e11) (cwV 3 hts gX1_gather_X1_addFraction rfl rfl rfl ⟨rfl, hd_X1_addFraction⟩ ⟨Nat.le_of_ble_eq_true rfl, Nat.le_of_ble_eq_true rfl⟩) (q0 := 30) (ci := 1) rfl rfl rfl rfl hl.1 rfl (Nat.le_of_ble_eq_true rfl) dX1_gather_62 ⟨Nat.le_of_ble_eq_true rfl, Nat.le_of_ble_eq_true rfl⟩) (fun H locs E => ?_)
      refine lv_iinc (v := (x3 + 1)) (lv' := [(3, .int (x3 + 1)), (5, .int (igd o3.toNatClampNeg)), (4, .int o3), (0, .ref (a 30)), (1, .ref (a 4)), (2, .int x2)]) hx hb dX1_gather_65 hl (k := 5) rfl rfl (by decide) rfl (fun ls hl => ?_)
      refine lv_goto (tgt := 2) hx hb dX1_gather_68 (by decide) ?_
      exact ih o10.1 o10.2 (x3 + 1) _ _ _ E (lv_sub hl [3, 4, 5, 0] rfl) hf
def f_X1_gather (isz : Nat → Int32) (igd : Nat → Int32) (iup : Nat → Int32) (idn : Nat → Int32) (cab : Nat → Int64) (cbl : Nat → Int64) (x2 : Int32) : Option ((Nat → Int64) × (Nat → Int64)) :=
  f_X1_gather_L2 isz igd iup idn x2 FU cab cbl (0 : Int32)
set_option maxHeartbeats 4000000 in
set_option maxRecDepth 100000 in
theorem c_X1_gather {l : Launch} {D : va_G} {cI cJ cZ : ClassId} {a : Nat → Nat} {sz : Nat} {vl : Nat → Int32} {hs : Nat → Int32} {isz : Nat → Int32} {igd : Nat → Int32} {iup : Nat → Int32} {idn : Nat → Int32} {osz : Nat → Int32} {ogd : Nat → Int32} {oup : Nat → Int32} {odn : Nat → Int32} {dep : Nat → Int32} {rsz : Int32} {lgd : Nat → Int32} {llf : Nat → Int64} {ldb : Nat → Int64} {ldy : Nat → Int32} {lsz : Int32} {lti : Int64} {pgd : Nat → Int32} {plf : Nat → Int64} {pun : Nat → Int32} {psz : Int32} {bgd : Nat → Int32} {bam : Nat → Int64} {bwt : Nat → Int64} {bsh : Nat → Int64} {brm : Nat → Int64} {bsz : Int32} {cab : Nat → Int64} {cbl : Nat → Int64} {tod : Int32} {imp : Int64} {dis : Int64} {owe : Int64} {itr : Int64} {x2 : Int32} {o : (Nat → Int64) × (Nat → Int64)} (hf : f_X1_gather isz igd iup idn cab cbl x2 = some o) : gMv l yX1_gather wsX1_gather rm_X1_gather D (gT cI cJ cZ) (cW a cI cJ cZ vl hs isz igd iup idn osz ogd oup odn dep rsz lgd llf ldb ldy lsz lti pgd plf pun psz bgd bam bwt bsh brm bsz cab cbl tod imp dis owe itr) (cW a cI cJ cZ vl hs isz igd iup idn osz ogd oup odn dep rsz lgd llf ldb ldy lsz lti pgd plf pun psz bgd bam bwt bsh brm bsz o.1 o.2 tod imp dis owe itr) sz [.ref (a 30), .ref (a 4), .int x2] := by
  refine g_of (cc := cX1_gather) (maxL := 6) (ret := none) (by decide) rfl (Nat.le_of_ble_eq_true rfl) ?_
  intro p e s m below meth c A ls hAe C hl E
  rw [← hAe]
  obtain ⟨hx, hb, hr, hml, hown, hts, hlocks, hN, hA⟩ := id C
  have hl : lv_has ls 6 [(0, .ref (a 30)), (1, .ref (a 4)), (2, .int x2)] := hl
  have E : vE s A D (gT cI cJ cZ) (cW a cI cJ cZ vl hs isz igd iup idn osz ogd oup odn dep rsz lgd llf ldb ldy lsz lti pgd plf pun psz bgd bam bwt bsh brm bsz cab cbl tod imp dis owe itr) s.heap [] := E
  rw [f_X1_gather] at hf
  refine lv_iconst (v := 0) hx hb dX1_gather_0 (by decide) ?_
  refine lv_istore_n (lv' := [(3, .int (0 : Int32)), (0, .ref (a 30)), (1, .ref (a 4)), (2, .int x2)]) hx hb dX1_gather_1 rfl hl (by decide) rfl (fun ls hl => ?_)
  exact w_X1_gather_L2 C  FU cab cbl (0 : Int32) _ _ _ E (lv_sub hl [1, 2, 3, 0] rfl) hf
abbrev rm_X1_trace : Room := { frames := 4, cells := 0, slots := 0, locals := 115 }
theorem hd_X1_trace : yX1_trace.cls ≠ "java/lang/invoke/MethodHandle" ∧ yX1_trace.cls ≠ "java/lang/invoke/VarHandle" ∧ (parseMethodDescriptor yX1_trace.desc).map (fun d => d.parameters.length) = some 2 := by decide +kernel
def f_X1_trace_L47 (isz : Nat → Int32) (igd : Nat → Int32) (iup : Nat → Int32) (idn : Nat → Int32) (dep : Nat → Int32) (x2 : Int32) (x3 : Int32) (k39 : (Nat → Int64) → (Nat → Int64) → Int32 → Option ((Nat → Int64) × (Nat → Int64))) : Nat → (Nat → Int64) → (Nat → Int64) → Int32 → Option ((Nat → Int64) × (Nat → Int64))
  | 0, _, _, _ => none
  | n + 1, cab, cbl, x4 =>
  if (12 : Int32) ≤ x4 then
    k39 cab cbl (x3 + 1)
  else
    ck x4 12 <|
    if (dep x4.toNatClampNeg) = x3 then
      if x4 = x2 then
        f_X1_trace_L47 isz igd iup idn dep x2 x3 k39 n cab cbl (x4 + 1)
      else
        (f_X1_gather isz igd iup idn cab cbl x4).bind fun o5 =>
        f_X1_trace_L47 isz igd iup idn dep x2 x3 k39 n o5.1 o5.2 (x4 + 1)
    else
      f_X1_trace_L47 isz igd iup idn dep x2 x3 k39 n cab cbl (x4 + 1)
set_option maxHeartbeats 4000000 in
set_option maxRecDepth 100000 in
theorem w_X1_trace_L47 {p : Program} {l : Launch} {e : Env} {s : State} {m : MethodId} {args : Array Value} {below : List Frame} {meth : Method} {c : Code} {A : Nat → Prop} {D : va_G} {cI cJ cZ : ClassId} {a : Nat → Nat} {vl : Nat → Int32} {hs : Nat → Int32} {isz : Nat → Int32} {igd : Nat → Int32} {iup : Nat → Int32} {idn : Nat → Int32} {osz : Nat → Int32} {ogd : Nat → Int32} {oup : Nat → Int32} {odn : Nat → Int32} {dep : Nat → Int32} {rsz : Int32} {lgd : Nat → Int32} {llf : Nat → Int64} {ldb : Nat → Int64} {ldy : Nat → Int32} {lsz : Int32} {lti : Int64} {pgd : Nat → Int32} {plf : Nat → Int64} {pun : Nat → Int32} {psz : Int32} {bgd : Nat → Int32} {bam : Nat → Int64} {bwt : Nat → Int64} {bsh : Nat → Int64} {brm : Nat → Int64} {bsz : Int32} {tod : Int32} {imp : Int64} {dis : Int64} {owe : Int64} {itr : Int64} (C : gC p s m args meth c cX1_trace 5 none wsX1_trace RX1 A) {x2 : Int32} {x3 : Int32} {o : (Nat → Int64) × (Nat → Int64)} {k39 : (Nat → Int64) → (Nat → Int64) → Int32 → Option ((Nat → Int64) × (Nat → Int64))} (hk39 : ∀ (cab : Nat → Int64) (cbl : Nat → Int64) (x3 : Int32) (H : Heap) (locs : List Loc) (ls : Array Slot), vE s A D (gT cI cJ cZ) (cW a cI cJ cZ vl hs isz igd iup idn osz ogd oup odn dep rsz lgd llf ldb ldy lsz lti pgd plf pun psz bgd bam bwt bsh brm bsz cab cbl tod imp dis owe itr) H locs → lv_has ls 5 [(0, .ref (a 30)), (1, .ref (a 2)), (2, .int x2), (3, .int x3)] → k39 cab cbl x3 = some o → W p l e rm_X1_trace s m args below meth c H locs 0 0 (MQ below (gQv D (gT cI cJ cZ) A (cW a cI cJ cZ vl hs isz igd iup idn osz ogd oup odn dep rsz lgd llf ldb ldy lsz lti pgd plf pun psz bgd bam bwt bsh brm bsz o.1 o.2 tod imp dis owe itr)) args s 0 0 A) (F0 m 39 ls [])) :
    ∀ (n : Nat) (cab : Nat → Int64) (cbl : Nat → Int64) (x4 : Int32) (H : Heap) (locs : List Loc) (ls : Array Slot), vE s A D (gT cI cJ cZ) (cW a cI cJ cZ vl hs isz igd iup idn osz ogd oup odn dep rsz lgd llf ldb ldy lsz lti pgd plf pun psz bgd bam bwt bsh brm bsz cab cbl tod imp dis owe itr) H locs → lv_has ls 5 [(0, .ref (a 30)), (1, .ref (a 2)), (2, .int x2), (3, .int x3), (4, .int x4)] → f_X1_trace_L47 isz igd iup idn dep x2 x3 k39 n cab cbl x4 = some o → W p l e rm_X1_trace s m args below meth c H locs 0 0 (MQ below (gQv D (gT cI cJ cZ) A (cW a cI cJ cZ vl hs isz igd iup idn osz ogd oup odn dep rsz lgd llf ldb ldy lsz lti pgd plf pun psz bgd bam bwt bsh brm bsz o.1 o.2 tod imp dis owe itr)) args s 0 0 A) (F0 m 47 ls []) := by
  obtain ⟨hx, hb, hr, hml, hown, hts, hlocks, hN, hA⟩ := id C
  intro n
  induction n with
  | zero =>
    intro cab cbl x4 H locs ls E hl hf
    rw [f_X1_trace_L47] at hf
    cases hf
  | succ n ih =>
    intro cab cbl x4 H locs ls E hl hf
    rw [f_X1_trace_L47] at hf
    refine lv_iload hx hb dX1_trace_47 (lv_at hl 4 rfl) ?_
    refine lv_bipush (v := 12) hx hb dX1_trace_49 (by decide) ?_
    refine lv_icmp_ge (tgt := 87) hx hb dX1_trace_51 (by decide) (fun c1 => ?_) (fun c1 => ?_)
    · rw [if_pos c1] at hf
      refine lv_iinc (v := (x3 + 1)) (lv' := [(3, .int (x3 + 1)), (0, .ref (a 30)), (1, .ref (a 2)), (2, .int x2), (4, .int x4)]) hx hb dX1_trace_87 hl (k := 3) rfl rfl (by decide) rfl (fun ls hl => ?_)
      refine lv_goto (tgt := 39) hx hb dX1_trace_90 (by decide) ?_
      exact hk39 cab cbl (x3 + 1) _ _ _ E (lv_sub hl [1, 2, 3, 0] rfl) hf
    · rw [if_neg c1] at hf
      refine lv_aload_n hx hb dX1_trace_54 rfl (lv_at hl 1 rfl) ?_
      refine g_get C E 2 3 (fun _ h => List.mem_cons_of_mem _ (List.mem_append_left _ (List.mem_append_right _ h))) rfl rfl (by decide) (List.mem_of_getElem? (i := 3) rfl) rfl rfl dX1_trace_55 ?_
      refine lv_iload hx hb dX1_trace_58 (lv_at hl 4 rfl) ?_
      obtain ⟨h2, hf⟩ := ck_some hf
      refine g_iald C E 14 rfl h2 dX1_trace_60 ?_
      refine lv_iload_n hx hb dX1_trace_61 rfl (lv_at hl 3 rfl) ?_
      refine lv_icmp_ne (tgt := 81) hx hb dX1_trace_62 (by decide) (fun c3 => ?_) (fun c3 => ?_)
      · rw [if_neg c3] at hf
        refine lv_iinc (v := (x4 + 1)) (lv' := [(4, .int (x4 + 1)), (0, .ref (a 30)), (1, .ref (a 2)), (2, .int x2), (3, .int x3)]) hx hb dX1_trace_81 hl (k := 4) rfl rfl (by decide) rfl (fun ls hl => ?_)
        refine lv_goto (tgt := 47) hx hb dX1_trace_84 (by decide) ?_
        exact ih cab cbl (x4 + 1) _ _ _ E (lv_sub hl [1, 2, 3, 4, 0] rfl) hf
      · rw [if_pos c3] at hf
        refine lv_iload hx hb dX1_trace_65 (lv_at hl 4 rfl) ?_
        refine lv_iload_n hx hb dX1_trace_67 rfl (lv_at hl 2 rfl) ?_
        refine lv_icmp_eq (tgt := 81) hx hb dX1_trace_68 (by decide) (fun c4 => ?_) (fun c4 => ?_)
        · rw [if_pos c4] at hf
          refine lv_iinc (v := (x4 + 1)) (lv' := [(4, .int (x4 + 1)), (0, .ref (a 30)), (1, .ref (a 2)), (2, .int x2), (3, .int x3)]) hx hb dX1_trace_81 hl (k := 4) rfl rfl (by decide) rfl (fun ls hl => ?_)
          refine lv_goto (tgt := 47) hx hb dX1_trace_84 (by decide) ?_
          exact ih cab cbl (x4 + 1) _ _ _ E (lv_sub hl [1, 2, 3, 4, 0] rfl) hf
        · rw [if_neg c4] at hf
          refine lv_aload_n hx hb dX1_trace_71 rfl (lv_at hl 0 rfl) ?_
          refine lv_aload_n hx hb dX1_trace_72 rfl (lv_at hl 1 rfl) ?_
          refine g_get C E 2 1 (fun _ h => List.mem_cons_of_mem _ (List.mem_append_left _ (List.mem_append_right _ h))) rfl rfl (by decide) (List.mem_of_getElem? (i := 4) rfl) rfl rfl dX1_trace_73 ?_
          refine lv_iload hx hb dX1_trace_76 (lv_at hl 4 rfl) ?_
          obtain ⟨o5, e6, hf⟩ := bd_some hf
          refine g_callv (w' := (cW a cI cJ cZ vl hs isz igd iup idn osz ogd oup odn dep rsz lgd llf ldb ldy lsz lti pgd plf pun psz bgd bam bwt bsh brm bsz o5.1 o5.2 tod imp dis owe itr)) C E (g_runV (As := [.ref (a 4), .int x4]) (rest := []) C E (c_X1_gather e6) (cwV 2 hts gX1_trace_X1_gather rfl rfl rfl ⟨rfl, hd_X1_gather⟩ ⟨Nat.le_of_ble_eq_true rfl, Nat.le_of_ble_eq_true rfl⟩) (q0 := 30) (ci := 1) rfl rfl rfl rfl hl.1 rfl (Nat.le_of_ble_eq_true rfl) dX1_trace_78 ⟨Nat.le_of_ble_eq_true rfl, Nat.le_of_ble_eq_true rfl⟩) (fun H locs E => ?_)
          refine lv_iinc (v := (x4 + 1)) (lv' := [(4, .int (x4 + 1)), (0, .ref (a 30)), (1, .ref (a 2)), (2, .int x2), (3, .int x3)]) hx hb dX1_trace_81 hl (k := 4) rfl rfl (by decide) rfl (fun ls hl => ?_)
          refine lv_goto (tgt := 47) hx hb dX1_trace_84 (by decide) ?_
          exact ih o5.1 o5.2 (x4 + 1) _ _ _ E (lv_sub hl [1, 2, 3, 4, 0] rfl) hf
def f_X1_trace_L39 (isz : Nat → Int32) (igd : Nat → Int32) (iup : Nat → Int32) (idn : Nat → Int32) (dep : Nat → Int32) (x2 : Int32) : Nat → (Nat → Int64) → (Nat → Int64) → Int32 → Option ((Nat → Int64) × (Nat → Int64))
  | 0, _, _, _ => none
  | n + 1, cab, cbl, x3 =>
  if (3 : Int32) < x3 then
    some (cab, cbl)
  else
    f_X1_trace_L47 isz igd iup idn dep x2 x3 (fun cab cbl x3 => f_X1_trace_L39 isz igd iup idn dep x2 n cab cbl x3) FU cab cbl (0 : Int32)
set_option maxHeartbeats 4000000 in
set_option maxRecDepth 100000 in
theorem w_X1_trace_L39 {p : Program} {l : Launch} {e : Env} {s : State} {m : MethodId} {args : Array Value} {below : List Frame} {meth : Method} {c : Code} {A : Nat → Prop} {D : va_G} {cI cJ cZ : ClassId} {a : Nat → Nat} {vl : Nat → Int32} {hs : Nat → Int32} {isz : Nat → Int32} {igd : Nat → Int32} {iup : Nat → Int32} {idn : Nat → Int32} {osz : Nat → Int32} {ogd : Nat → Int32} {oup : Nat → Int32} {odn : Nat → Int32} {dep : Nat → Int32} {rsz : Int32} {lgd : Nat → Int32} {llf : Nat → Int64} {ldb : Nat → Int64} {ldy : Nat → Int32} {lsz : Int32} {lti : Int64} {pgd : Nat → Int32} {plf : Nat → Int64} {pun : Nat → Int32} {psz : Int32} {bgd : Nat → Int32} {bam : Nat → Int64} {bwt : Nat → Int64} {bsh : Nat → Int64} {brm : Nat → Int64} {bsz : Int32} {tod : Int32} {imp : Int64} {dis : Int64} {owe : Int64} {itr : Int64} (C : gC p s m args meth c cX1_trace 5 none wsX1_trace RX1 A) {x2 : Int32} {o : (Nat → Int64) × (Nat → Int64)} :
    ∀ (n : Nat) (cab : Nat → Int64) (cbl : Nat → Int64) (x3 : Int32) (H : Heap) (locs : List Loc) (ls : Array Slot), vE s A D (gT cI cJ cZ) (cW a cI cJ cZ vl hs isz igd iup idn osz ogd oup odn dep rsz lgd llf ldb ldy lsz lti pgd plf pun psz bgd bam bwt bsh brm bsz cab cbl tod imp dis owe itr) H locs → lv_has ls 5 [(0, .ref (a 30)), (1, .ref (a 2)), (2, .int x2), (3, .int x3)] → f_X1_trace_L39 isz igd iup idn dep x2 n cab cbl x3 = some o → W p l e rm_X1_trace s m args below meth c H locs 0 0 (MQ below (gQv D (gT cI cJ cZ) A (cW a cI cJ cZ vl hs isz igd iup idn osz ogd oup odn dep rsz lgd llf ldb ldy lsz lti pgd plf pun psz bgd bam bwt bsh brm bsz o.1 o.2 tod imp dis owe itr)) args s 0 0 A) (F0 m 39 ls []) := by
  obtain ⟨hx, hb, hr, hml, hown, hts, hlocks, hN, hA⟩ := id C
  intro n
  induction n with
  | zero =>
    intro cab cbl x3 H locs ls E hl hf
    rw [f_X1_trace_L39] at hf
    cases hf
  | succ n ih =>
    intro cab cbl x3 H locs ls E hl hf
    rw [f_X1_trace_L39] at hf
    refine lv_iload_n hx hb dX1_trace_39 rfl (lv_at hl 3 rfl) ?_
    refine lv_iconst (v := 3) hx hb dX1_trace_40 (by decide) ?_
    refine lv_icmp_gt (tgt := 93) hx hb dX1_trace_41 (by decide) (fun c1 => ?_) (fun c1 => ?_)
    · rw [if_pos c1] at hf
      obtain rfl := Option.some.inj hf
      exact g_vret C E dX1_trace_93
    · rw [if_neg c1] at hf
      refine lv_iconst (v := 0) hx hb dX1_trace_44 (by decide) ?_
      refine lv_istore (lv' := [(4, .int (0 : Int32)), (0, .ref (a 30)), (1, .ref (a 2)), (2, .int x2), (3, .int x3)]) hx hb dX1_trace_45 hl (by decide) rfl (fun ls hl => ?_)
      exact w_X1_trace_L47 C ih FU cab cbl (0 : Int32) _ _ _ E (lv_sub hl [1, 2, 3, 4, 0] rfl) hf
def f_X1_trace_L2 (isz : Nat → Int32) (igd : Nat → Int32) (iup : Nat → Int32) (idn : Nat → Int32) (dep : Nat → Int32) (x2 : Int32) : Nat → (Nat → Int64) → (Nat → Int64) → Int32 → Option ((Nat → Int64) × (Nat → Int64))
  | 0, _, _, _ => none
  | n + 1, cab, cbl, x3 =>
  if (12 : Int32) ≤ x3 then
    f_X1_trace_L39 isz igd iup idn dep x2 FU cab cbl (1 : Int32)
  else
    if x3 = x2 then
      ck x3 12 <|
      ck x3 12 <|
      f_X1_trace_L2 isz igd iup idn dep x2 n (vp_updL cab x3.toNatClampNeg (1 : Int64)) (vp_updL cbl x3.toNatClampNeg (1 : Int64)) (x3 + 1)
    else
      ck x3 12 <|
      ck x3 12 <|
      f_X1_trace_L2 isz igd iup idn dep x2 n (vp_updL cab x3.toNatClampNeg (0 : Int64)) (vp_updL cbl x3.toNatClampNeg (1 : Int64)) (x3 + 1)
set_option maxHeartbeats 4000000 in
set_option maxRecDepth 100000 in
theorem w_X1_trace_L2 {p : Program} {l : Launch} {e : Env} {s : State} {m : MethodId} {args : Array Value} {below : List Frame} {meth : Method} {c : Code} {A : Nat → Prop} {D : va_G} {cI cJ cZ : ClassId} {a : Nat → Nat} {vl : Nat → Int32} {hs : Nat → Int32} {isz : Nat → Int32} {igd : Nat → Int32} {iup : Nat → Int32} {idn : Nat → Int32} {osz : Nat → Int32} {ogd : Nat → Int32} {oup : Nat → Int32} {odn : Nat → Int32} {dep : Nat → Int32} {rsz : Int32} {lgd : Nat → Int32} {llf : Nat → Int64} {ldb : Nat → Int64} {ldy : Nat → Int32} {lsz : Int32} {lti : Int64} {pgd : Nat → Int32} {plf : Nat → Int64} {pun : Nat → Int32} {psz : Int32} {bgd : Nat → Int32} {bam : Nat → Int64} {bwt : Nat → Int64} {bsh : Nat → Int64} {brm : Nat → Int64} {bsz : Int32} {tod : Int32} {imp : Int64} {dis : Int64} {owe : Int64} {itr : Int64} (C : gC p s m args meth c cX1_trace 5 none wsX1_trace RX1 A) {x2 : Int32} {o : (Nat → Int64) × (Nat → Int64)} :
    ∀ (n : Nat) (cab : Nat → Int64) (cbl : Nat → Int64) (x3 : Int32) (H : Heap) (locs : List Loc) (ls : Array Slot), vE s A D (gT cI cJ cZ) (cW a cI cJ cZ vl hs isz igd iup idn osz ogd oup odn dep rsz lgd llf ldb ldy lsz lti pgd plf pun psz bgd bam bwt bsh brm bsz cab cbl tod imp dis owe itr) H locs → lv_has ls 5 [(0, .ref (a 30)), (1, .ref (a 2)), (2, .int x2), (3, .int x3)] → f_X1_trace_L2 isz igd iup idn dep x2 n cab cbl x3 = some o → W p l e rm_X1_trace s m args below meth c H locs 0 0 (MQ below (gQv D (gT cI cJ cZ) A (cW a cI cJ cZ vl hs isz igd iup idn osz ogd oup odn dep rsz lgd llf ldb ldy lsz lti pgd plf pun psz bgd bam bwt bsh brm bsz o.1 o.2 tod imp dis owe itr)) args s 0 0 A) (F0 m 2 ls []) := by
  obtain ⟨hx, hb, hr, hml, hown, hts, hlocks, hN, hA⟩ := id C
  intro n
  induction n with
  | zero =>
    intro cab cbl x3 H locs ls E hl hf
    rw [f_X1_trace_L2] at hf
    cases hf
  | succ n ih =>
    intro cab cbl x3 H locs ls E hl hf
    rw [f_X1_trace_L2] at hf
    refine lv_iload_n hx hb dX1_trace_2 rfl (lv_at hl 3 rfl) ?_
    refine lv_bipush (v := 12) hx hb dX1_trace_3 (by decide) ?_
    refine lv_icmp_ge (tgt := 37) hx hb dX1_trace_5 (by decide) (fun c1 => ?_) (fun c1 => ?_)
    · rw [if_pos c1] at hf
      refine lv_iconst (v := 1) hx hb dX1_trace_37 (by decide) ?_
      refine lv_istore_n (lv' := [(3, .int (1 : Int32)), (0, .ref (a 30)), (1, .ref (a 2)), (2, .int x2)]) hx hb dX1_trace_38 rfl hl (by decide) rfl (fun ls hl => ?_)
      exact w_X1_trace_L39 C  FU cab cbl (1 : Int32) _ _ _ E (lv_sub hl [1, 2, 3, 0] rfl) hf
    · rw [if_neg c1] at hf
      refine lv_aload_n hx hb dX1_trace_8 rfl (lv_at hl 0 rfl) ?_
      refine g_get C E 30 0 (fun _ h => List.mem_cons_of_mem _ (List.mem_append_left _ (List.mem_append_left _ (List.mem_append_right _ h)))) rfl rfl (by decide) (List.mem_of_getElem? (i := 1) rfl) rfl rfl dX1_trace_9 ?_
      refine lv_iload_n hx hb dX1_trace_12 rfl (lv_at hl 3 rfl) ?_
      refine lv_iload_n hx hb dX1_trace_13 rfl (lv_at hl 3 rfl) ?_
      refine lv_iload_n hx hb dX1_trace_14 rfl (lv_at hl 2 rfl) ?_
      refine lv_icmp_ne (tgt := 22) hx hb dX1_trace_15 (by decide) (fun c2 => ?_) (fun c2 => ?_)
      · rw [if_neg c2] at hf
        refine lv_lconst (v := 0) hx hb dX1_trace_22 (by decide) ?_
        obtain ⟨h3, hf⟩ := ck_some hf
        refine g_last (w' := (cW a cI cJ cZ vl hs isz igd iup idn osz ogd oup odn dep rsz lgd llf ldb ldy lsz lti pgd plf pun psz bgd bam bwt bsh brm bsz (vp_updL cab x3.toNatClampNeg (0 : Int64)) cbl tod imp dis owe itr)) C E 31 rfl h3 dX1_trace_23 rfl (fun H locs E => ?_)
        refine lv_aload_n hx hb dX1_trace_24 rfl (lv_at hl 0 rfl) ?_
        refine g_get C E 30 1 (fun _ h => List.mem_cons_of_mem _ (List.mem_append_left _ (List.mem_append_left _ (List.mem_append_right _ h)))) rfl rfl (by decide) (List.mem_of_getElem? (i := 2) rfl) rfl rfl dX1_trace_25 ?_
        refine lv_iload_n hx hb dX1_trace_28 rfl (lv_at hl 3 rfl) ?_
        refine lv_lconst (v := 1) hx hb dX1_trace_29 (by decide) ?_
        obtain ⟨h4, hf⟩ := ck_some hf
        refine g_last (w' := (cW a cI cJ cZ vl hs isz igd iup idn osz ogd oup odn dep rsz lgd llf ldb ldy lsz lti pgd plf pun psz bgd bam bwt bsh brm bsz (vp_updL cab x3.toNatClampNeg (0 : Int64)) (vp_updL cbl x3.toNatClampNeg (1 : Int64)) tod imp dis owe itr)) C E 32 rfl h4 dX1_trace_30 rfl (fun H locs E => ?_)
        refine lv_iinc (v := (x3 + 1)) (lv' := [(3, .int (x3 + 1)), (0, .ref (a 30)), (1, .ref (a 2)), (2, .int x2)]) hx hb dX1_trace_31 hl (k := 3) rfl rfl (by decide) rfl (fun ls hl => ?_)
        refine lv_goto (tgt := 2) hx hb dX1_trace_34 (by decide) ?_
        exact ih (vp_updL cab x3.toNatClampNeg (0 : Int64)) (vp_updL cbl x3.toNatClampNeg (1 : Int64)) (x3 + 1) _ _ _ E (lv_sub hl [1, 2, 3, 0] rfl) hf
      · rw [if_pos c2] at hf
        refine lv_lconst (v := 1) hx hb dX1_trace_18 (by decide) ?_
        refine lv_goto (tgt := 23) hx hb dX1_trace_19 (by decide) ?_
        obtain ⟨h5, hf⟩ := ck_some hf
        refine g_last (w' := (cW a cI cJ cZ vl hs isz igd iup idn osz ogd oup odn dep rsz lgd llf ldb ldy lsz lti pgd plf pun psz bgd bam bwt bsh brm bsz (vp_updL cab x3.toNatClampNeg (1 : Int64)) cbl tod imp dis owe itr)) C E 31 rfl h5 dX1_trace_23 rfl (fun H locs E => ?_)
        refine lv_aload_n hx hb dX1_trace_24 rfl (lv_at hl 0 rfl) ?_
        refine g_get C E 30 1 (fun _ h => List.mem_cons_of_mem _ (List.mem_append_left _ (List.mem_append_left _ (List.mem_append_right _ h)))) rfl rfl (by decide) (List.mem_of_getElem? (i := 2) rfl) rfl rfl dX1_trace_25 ?_
        refine lv_iload_n hx hb dX1_trace_28 rfl (lv_at hl 3 rfl) ?_
        refine lv_lconst (v := 1) hx hb dX1_trace_29 (by decide) ?_
        obtain ⟨h6, hf⟩ := ck_some hf
        refine g_last (w' := (cW a cI cJ cZ vl hs isz igd iup idn osz ogd oup odn dep rsz lgd llf ldb ldy lsz lti pgd plf pun psz bgd bam bwt bsh brm bsz (vp_updL cab x3.toNatClampNeg (1 : Int64)) (vp_updL cbl x3.toNatClampNeg (1 : Int64)) tod imp dis owe itr)) C E 32 rfl h6 dX1_trace_30 rfl (fun H locs E => ?_)
        refine lv_iinc (v := (x3 + 1)) (lv' := [(3, .int (x3 + 1)), (0, .ref (a 30)), (1, .ref (a 2)), (2, .int x2)]) hx hb dX1_trace_31 hl (k := 3) rfl rfl (by decide) rfl (fun ls hl => ?_)
        refine lv_goto (tgt := 2) hx hb dX1_trace_34 (by decide) ?_
        exact ih (vp_updL cab x3.toNatClampNeg (1 : Int64)) (vp_updL cbl x3.toNatClampNeg (1 : Int64)) (x3 + 1) _ _ _ E (lv_sub hl [1, 2, 3, 0] rfl) hf
def f_X1_trace (isz : Nat → Int32) (igd : Nat → Int32) (iup : Nat → Int32) (idn : Nat → Int32) (dep : Nat → Int32) (cab : Nat → Int64) (cbl : Nat → Int64) (x2 : Int32) : Option ((Nat → Int64) × (Nat → Int64)) :=
  f_X1_trace_L2 isz igd iup idn dep x2 FU cab cbl (0 : Int32)
set_option maxHeartbeats 4000000 in
set_option maxRecDepth 100000 in
theorem c_X1_trace {l : Launch} {D : va_G} {cI cJ cZ : ClassId} {a : Nat → Nat} {sz : Nat} {vl : Nat → Int32} {hs : Nat → Int32} {isz : Nat → Int32} {igd : Nat → Int32} {iup : Nat → Int32} {idn : Nat → Int32} {osz : Nat → Int32} {ogd : Nat → Int32} {oup : Nat → Int32} {odn : Nat → Int32} {dep : Nat → Int32} {rsz : Int32} {lgd : Nat → Int32} {llf : Nat → Int64} {ldb : Nat → Int64} {ldy : Nat → Int32} {lsz : Int32} {lti : Int64} {pgd : Nat → Int32} {plf : Nat → Int64} {pun : Nat → Int32} {psz : Int32} {bgd : Nat → Int32} {bam : Nat → Int64} {bwt : Nat → Int64} {bsh : Nat → Int64} {brm : Nat → Int64} {bsz : Int32} {cab : Nat → Int64} {cbl : Nat → Int64} {tod : Int32} {imp : Int64} {dis : Int64} {owe : Int64} {itr : Int64} {x2 : Int32} {o : (Nat → Int64) × (Nat → Int64)} (hf : f_X1_trace isz igd iup idn dep cab cbl x2 = some o) : gMv l yX1_trace wsX1_trace rm_X1_trace D (gT cI cJ cZ) (cW a cI cJ cZ vl hs isz igd iup idn osz ogd oup odn dep rsz lgd llf ldb ldy lsz lti pgd plf pun psz bgd bam bwt bsh brm bsz cab cbl tod imp dis owe itr) (cW a cI cJ cZ vl hs isz igd iup idn osz ogd oup odn dep rsz lgd llf ldb ldy lsz lti pgd plf pun psz bgd bam bwt bsh brm bsz o.1 o.2 tod imp dis owe itr) sz [.ref (a 30), .ref (a 2), .int x2] := by
  refine g_of (cc := cX1_trace) (maxL := 5) (ret := none) (by decide) rfl (Nat.le_of_ble_eq_true rfl) ?_
  intro p e s m below meth c A ls hAe C hl E
  rw [← hAe]
  obtain ⟨hx, hb, hr, hml, hown, hts, hlocks, hN, hA⟩ := id C
  have hl : lv_has ls 5 [(0, .ref (a 30)), (1, .ref (a 2)), (2, .int x2)] := hl
  have E : vE s A D (gT cI cJ cZ) (cW a cI cJ cZ vl hs isz igd iup idn osz ogd oup odn dep rsz lgd llf ldb ldy lsz lti pgd plf pun psz bgd bam bwt bsh brm bsz cab cbl tod imp dis owe itr) s.heap [] := E
  rw [f_X1_trace] at hf
  refine lv_iconst (v := 0) hx hb dX1_trace_0 (by decide) ?_
  refine lv_istore_n (lv' := [(3, .int (0 : Int32)), (0, .ref (a 30)), (1, .ref (a 2)), (2, .int x2)]) hx hb dX1_trace_1 rfl hl (by decide) rfl (fun ls hl => ?_)
  exact w_X1_trace_L2 C  FU cab cbl (0 : Int32) _ _ _ E (lv_sub hl [1, 2, 3, 0] rfl) hf
end
section
abbrev rm_X6_value : Room := { frames := 2, cells := 0, slots := 0, locals := 42 }
theorem hd_X6_value : yX6_value.cls ≠ "java/lang/invoke/MethodHandle" ∧ yX6_value.cls ≠ "java/lang/invoke/VarHandle" ∧ (parseMethodDescriptor yX6_value.desc).map (fun d => d.parameters.length) = some 2 := by decide +kernel
def f_X6_value (vl : Nat → Int32) (x1 : Int32) (x2 : Int32) : Option (Int32 × (Nat → Int32)) :=
  (f_X6_isGood x1).bind fun o1 =>
  if o1 = 0 then
    some ((0 : Int32), vl)
  else
    (f_X6_isWithin x2 (0 : Int32) (10000 : Int32)).bind fun o4 =>
    if o4 = 0 then
      some ((0 : Int32), vl)
    else
      ck x1 12 <|
      some ((1 : Int32), (upd vl x1.toNatClampNeg x2))
set_option maxHeartbeats 4000000 in
set_option maxRecDepth 100000 in
theorem c_X6_value {l : Launch} {D : va_G} {cI cJ cZ : ClassId} {a : Nat → Nat} {sz : Nat} {vl : Nat → Int32} {hs : Nat → Int32} {isz : Nat → Int32} {igd : Nat → Int32} {iup : Nat → Int32} {idn : Nat → Int32} {osz : Nat → Int32} {ogd : Nat → Int32} {oup : Nat → Int32} {odn : Nat → Int32} {dep : Nat → Int32} {rsz : Int32} {lgd : Nat → Int32} {llf : Nat → Int64} {ldb : Nat → Int64} {ldy : Nat → Int32} {lsz : Int32} {lti : Int64} {pgd : Nat → Int32} {plf : Nat → Int64} {pun : Nat → Int32} {psz : Int32} {bgd : Nat → Int32} {bam : Nat → Int64} {bwt : Nat → Int64} {bsh : Nat → Int64} {brm : Nat → Int64} {bsz : Int32} {cab : Nat → Int64} {cbl : Nat → Int64} {tod : Int32} {imp : Int64} {dis : Int64} {owe : Int64} {itr : Int64} {x1 : Int32} {x2 : Int32} {o : Int32 × (Nat → Int32)} (hf : f_X6_value vl x1 x2 = some o) : gMi l yX6_value wsX6_value rm_X6_value D (gT cI cJ cZ) (cW a cI cJ cZ vl hs isz igd iup idn osz ogd oup odn dep rsz lgd llf ldb ldy lsz lti pgd plf pun psz bgd bam bwt bsh brm bsz cab cbl tod imp dis owe itr) (cW a cI cJ cZ o.2 hs isz igd iup idn osz ogd oup odn dep rsz lgd llf ldb ldy lsz lti pgd plf pun psz bgd bam bwt bsh brm bsz cab cbl tod imp dis owe itr) sz [.ref (a 0), .int x1, .int x2] o.1 := by
  refine g_of (cc := cX6_value) (maxL := 3) (ret := (some .boolean)) (by decide) rfl (Nat.le_of_ble_eq_true rfl) ?_
  intro p e s m below meth c A ls hAe C hl E
  rw [← hAe]
  obtain ⟨hx, hb, hr, hml, hown, hts, hlocks, hN, hA⟩ := id C
  have hl : lv_has ls 3 [(0, .ref (a 0)), (1, .int x1), (2, .int x2)] := hl
  have E : vE s A D (gT cI cJ cZ) (cW a cI cJ cZ vl hs isz igd iup idn osz ogd oup odn dep rsz lgd llf ldb ldy lsz lti pgd plf pun psz bgd bam bwt bsh brm bsz cab cbl tod imp dis owe itr) s.heap [] := E
  rw [f_X6_value] at hf
  refine lv_iload_n hx hb dX6_value_0 rfl (lv_at hl 1 rfl) ?_
  obtain ⟨o1, e2, hf⟩ := bd_some hf
  refine g_calli (w' := (cW a cI cJ cZ vl hs isz igd iup idn osz ogd oup odn dep rsz lgd llf ldb ldy lsz lti pgd plf pun psz bgd bam bwt bsh brm bsz cab cbl tod imp dis owe itr)) C E (g_runS (As := [.int x1]) (rest := []) C E (c_X6_isGood e2) (va_cwS 1 hts gX6_value_X6_isGood rfl rfl rfl hd_X6_isGood ⟨Nat.le_of_ble_eq_true rfl, Nat.le_of_ble_eq_true rfl⟩) rfl hl.1 rfl (Nat.le_of_ble_eq_true rfl) dX6_value_1 ⟨Nat.le_of_ble_eq_true rfl, Nat.le_of_ble_eq_true rfl⟩) (fun H locs E => ?_)
  refine lv_if_eq (tgt := 18) hx hb dX6_value_4 (by decide) (fun c3 => ?_) (fun c3 => ?_)
  · rw [if_pos c3] at hf
    refine lv_iconst (v := 0) hx hb dX6_value_18 (by decide) ?_
    obtain rfl := Option.some.inj hf
    exact g_zret (r := 0) C E rfl dX6_value_19
  · rw [if_neg c3] at hf
    refine lv_iload_n hx hb dX6_value_7 rfl (lv_at hl 2 rfl) ?_
    refine lv_iconst (v := 0) hx hb dX6_value_8 (by decide) ?_
    refine lv_sipush (v := 10000) hx hb dX6_value_9 (by decide) ?_
    obtain ⟨o4, e5, hf⟩ := bd_some hf
    refine g_calli (w' := (cW a cI cJ cZ vl hs isz igd iup idn osz ogd oup odn dep rsz lgd llf ldb ldy lsz lti pgd plf pun psz bgd bam bwt bsh brm bsz cab cbl tod imp dis owe itr)) C E (g_runS (As := [.int x2, .int (0 : Int32), .int (10000 : Int32)]) (rest := []) C E (c_X6_isWithin e5) (va_cwS 3 hts gX6_value_X6_isWithin rfl rfl rfl hd_X6_isWithin ⟨Nat.le_of_ble_eq_true rfl, Nat.le_of_ble_eq_true rfl⟩) rfl hl.1 rfl (Nat.le_of_ble_eq_true rfl) dX6_value_12 ⟨Nat.le_of_ble_eq_true rfl, Nat.le_of_ble_eq_true rfl⟩) (fun H locs E => ?_)
    refine lv_if_ne (tgt := 20) hx hb dX6_value_15 (by decide) (fun c6 => ?_) (fun c6 => ?_)
    · rw [if_neg c6] at hf
      refine lv_aload_n hx hb dX6_value_20 rfl (lv_at hl 0 rfl) ?_
      refine g_get C E 0 0 (fun _ h => List.mem_cons_of_mem _ (List.mem_append_right _ h)) rfl rfl (by decide) (List.mem_of_getElem? (i := 1) rfl) rfl rfl dX6_value_21 ?_
      refine lv_iload_n hx hb dX6_value_24 rfl (lv_at hl 1 rfl) ?_
      refine lv_iload_n hx hb dX6_value_25 rfl (lv_at hl 2 rfl) ?_
      obtain ⟨h7, hf⟩ := ck_some hf
      refine g_iast (w' := (cW a cI cJ cZ (upd vl x1.toNatClampNeg x2) hs isz igd iup idn osz ogd oup odn dep rsz lgd llf ldb ldy lsz lti pgd plf pun psz bgd bam bwt bsh brm bsz cab cbl tod imp dis owe itr)) C E 1 rfl h7 dX6_value_26 rfl (fun H locs E => ?_)
      refine lv_iconst (v := 1) hx hb dX6_value_27 (by decide) ?_
      obtain rfl := Option.some.inj hf
      exact g_zret (r := 1) C E rfl dX6_value_28
    · rw [if_pos c6] at hf
      refine lv_iconst (v := 0) hx hb dX6_value_18 (by decide) ?_
      obtain rfl := Option.some.inj hf
      exact g_zret (r := 0) C E rfl dX6_value_19
abbrev rm_X6_recipe : Room := { frames := 2, cells := 0, slots := 0, locals := 42 }
theorem hd_X6_recipe : yX6_recipe.cls ≠ "java/lang/invoke/MethodHandle" ∧ yX6_recipe.cls ≠ "java/lang/invoke/VarHandle" ∧ (parseMethodDescriptor yX6_recipe.desc).map (fun d => d.parameters.length) = some 1 := by decide +kernel
def f_X6_recipe (hs : Nat → Int32) (rsz : Int32) (x1 : Int32) : Option (Int32 × (Nat → Int32) × (Int32)) :=
  (f_X6_isGood x1).bind fun o1 =>
  if o1 = 0 then
    some ((0 : Int32), hs, rsz)
  else
    ck x1 12 <|
    if (hs x1.toNatClampNeg) = 0 then
      ck x1 12 <|
      some ((1 : Int32), (upd hs x1.toNatClampNeg (vp_nar .boolean (1 : Int32))), (rsz + (1 : Int32)))
    else
      some ((0 : Int32), hs, rsz)
set_option maxHeartbeats 4000000 in
set_option maxRecDepth 100000 in
theorem c_X6_recipe {l : Launch} {D : va_G} {cI cJ cZ : ClassId} {a : Nat → Nat} {sz : Nat} {vl : Nat → Int32} {hs : Nat → Int32} {isz : Nat → Int32} {igd : Nat → Int32} {iup : Nat → Int32} {idn : Nat → Int32} {osz : Nat → Int32} {ogd : Nat → Int32} {oup : Nat → Int32} {odn : Nat → Int32} {dep : Nat → Int32} {rsz : Int32} {lgd : Nat → Int32} {llf : Nat → Int64} {ldb : Nat → Int64} {ldy : Nat → Int32} {lsz : Int32} {lti : Int64} {pgd : Nat → Int32} {plf : Nat → Int64} {pun : Nat → Int32} {psz : Int32} {bgd : Nat → Int32} {bam : Nat → Int64} {bwt : Nat → Int64} {bsh : Nat → Int64} {brm : Nat → Int64} {bsz : Int32} {cab : Nat → Int64} {cbl : Nat → Int64} {tod : Int32} {imp : Int64} {dis : Int64} {owe : Int64} {itr : Int64} {x1 : Int32} {o : Int32 × (Nat → Int32) × (Int32)} (hf : f_X6_recipe hs rsz x1 = some o) : gMi l yX6_recipe wsX6_recipe rm_X6_recipe D (gT cI cJ cZ) (cW a cI cJ cZ vl hs isz igd iup idn osz ogd oup odn dep rsz lgd llf ldb ldy lsz lti pgd plf pun psz bgd bam bwt bsh brm bsz cab cbl tod imp dis owe itr) (cW a cI cJ cZ vl o.2.1 isz igd iup idn osz ogd oup odn dep o.2.2 lgd llf ldb ldy lsz lti pgd plf pun psz bgd bam bwt bsh brm bsz cab cbl tod imp dis owe itr) sz [.ref (a 0), .int x1] o.1 := by
  refine g_of (cc := cX6_recipe) (maxL := 2) (ret := (some .boolean)) (by decide) rfl (Nat.le_of_ble_eq_true rfl) ?_
  intro p e s m below meth c A ls hAe C hl E
  rw [← hAe]
  obtain ⟨hx, hb, hr, hml, hown, hts, hlocks, hN, hA⟩ := id C
  have hl : lv_has ls 2 [(0, .ref (a 0)), (1, .int x1)] := hl
  have E : vE s A D (gT cI cJ cZ) (cW a cI cJ cZ vl hs isz igd iup idn osz ogd oup odn dep rsz lgd llf ldb ldy lsz lti pgd plf pun psz bgd bam bwt bsh brm bsz cab cbl tod imp dis owe itr) s.heap [] := E
  rw [f_X6_recipe] at hf
  refine lv_iload_n hx hb dX6_recipe_0 rfl (lv_at hl 1 rfl) ?_
  obtain ⟨o1, e2, hf⟩ := bd_some hf
  refine g_calli (w' := (cW a cI cJ cZ vl hs isz igd iup idn osz ogd oup odn dep rsz lgd llf ldb ldy lsz lti pgd plf pun psz bgd bam bwt bsh brm bsz cab cbl tod imp dis owe itr)) C E (g_runS (As := [.int x1]) (rest := []) C E (c_X6_isGood e2) (va_cwS 1 hts gX6_recipe_X6_isGood rfl rfl rfl hd_X6_isGood ⟨Nat.le_of_ble_eq_true rfl, Nat.le_of_ble_eq_true rfl⟩) rfl hl.1 rfl (Nat.le_of_ble_eq_true rfl) dX6_recipe_1 ⟨Nat.le_of_ble_eq_true rfl, Nat.le_of_ble_eq_true rfl⟩) (fun H locs E => ?_)
  refine lv_if_eq (tgt := 19) hx hb dX6_recipe_4 (by decide) (fun c3 => ?_) (fun c3 => ?_)
  · rw [if_pos c3] at hf
    refine lv_iconst (v := 0) hx hb dX6_recipe_19 (by decide) ?_
    obtain rfl := Option.some.inj hf
    exact g_zret (r := 0) C E rfl dX6_recipe_20
  · rw [if_neg c3] at hf
    refine lv_aload_n hx hb dX6_recipe_7 rfl (lv_at hl 0 rfl) ?_
    refine g_get C E 0 1 (fun _ h => List.mem_cons_of_mem _ (List.mem_append_left _ (List.mem_append_right _ h))) rfl rfl (by decide) (List.mem_of_getElem? (i := 1) rfl) rfl rfl dX6_recipe_8 ?_
    refine g_get C E 2 0 (fun _ h => List.mem_cons_of_mem _ (List.mem_append_right _ h)) rfl rfl (by decide) (List.mem_of_getElem? (i := 2) rfl) rfl rfl dX6_recipe_11 ?_
    refine lv_iload_n hx hb dX6_recipe_14 rfl (lv_at hl 1 rfl) ?_
    obtain ⟨h4, hf⟩ := ck_some hf
    refine g_zald C E 3 rfl h4 dX6_recipe_15 ?_
    refine lv_if_eq (tgt := 21) hx hb dX6_recipe_16 (by decide) (fun c5 => ?_) (fun c5 => ?_)
    · rw [if_pos c5] at hf
      refine lv_aload_n hx hb dX6_recipe_21 rfl (lv_at hl 0 rfl) ?_
      refine g_get C E 0 1 (fun _ h => List.mem_cons_of_mem _ (List.mem_append_left _ (List.mem_append_right _ h))) rfl rfl (by decide) (List.mem_of_getElem? (i := 1) rfl) rfl rfl dX6_recipe_22 ?_
      refine g_get C E 2 0 (fun _ h => List.mem_cons_of_mem _ (List.mem_append_right _ h)) rfl rfl (by decide) (List.mem_of_getElem? (i := 2) rfl) rfl rfl dX6_recipe_25 ?_
      refine lv_iload_n hx hb dX6_recipe_28 rfl (lv_at hl 1 rfl) ?_
      refine lv_iconst (v := 1) hx hb dX6_recipe_29 (by decide) ?_
      obtain ⟨h6, hf⟩ := ck_some hf
      refine g_zast (w' := (cW a cI cJ cZ vl (upd hs x1.toNatClampNeg (vp_nar .boolean (1 : Int32))) isz igd iup idn osz ogd oup odn dep rsz lgd llf ldb ldy lsz lti pgd plf pun psz bgd bam bwt bsh brm bsz cab cbl tod imp dis owe itr)) C E 3 rfl h6 dX6_recipe_30 rfl (fun H locs E => ?_)
      refine lv_aload_n hx hb dX6_recipe_31 rfl (lv_at hl 0 rfl) ?_
      refine g_get C E 0 1 (fun _ h => List.mem_cons_of_mem _ (List.mem_append_left _ (List.mem_append_right _ h))) rfl rfl (by decide) (List.mem_of_getElem? (i := 1) rfl) rfl rfl dX6_recipe_32 ?_
      refine lv_dup hx hb dX6_recipe_35 rfl ?_
      refine g_get C E 2 4 (fun _ h => List.mem_cons_of_mem _ (List.mem_append_right _ h)) rfl rfl (by decide) (List.mem_of_getElem? (i := 3) rfl) rfl rfl dX6_recipe_36 ?_
      refine lv_iconst (v := 1) hx hb dX6_recipe_39 (by decide) ?_
      refine lv_iadd hx hb dX6_recipe_40 ?_
      refine g_put (w' := (cW a cI cJ cZ vl (upd hs x1.toNatClampNeg (vp_nar .boolean (1 : Int32))) isz igd iup idn osz ogd oup odn dep (rsz + (1 : Int32)) lgd llf ldb ldy lsz lti pgd plf pun psz bgd bam bwt bsh brm bsz cab cbl tod imp dis owe itr)) C E 2 4 tyX5 tyX5_ok nmX5 (fun _ h => List.mem_cons_of_mem _ (List.mem_append_right _ h)) rfl rfl (by decide) (List.mem_of_getElem? (i := 3) rfl) rfl rfl rfl rfl rfl (Nat.le_of_ble_eq_true rfl) dX6_recipe_41 rfl (fun H locs E => ?_)
      refine lv_iconst (v := 1) hx hb dX6_recipe_44 (by decide) ?_
      obtain rfl := Option.some.inj hf
      exact g_zret (r := 1) C E rfl dX6_recipe_45
    · rw [if_neg c5] at hf
      refine lv_iconst (v := 0) hx hb dX6_recipe_19 (by decide) ?_
      obtain rfl := Option.some.inj hf
      exact g_zret (r := 0) C E rfl dX6_recipe_20
abbrev rm_X6_day : Room := { frames := 1, cells := 0, slots := 0, locals := 22 }
theorem hd_X6_day : yX6_day.cls ≠ "java/lang/invoke/MethodHandle" ∧ yX6_day.cls ≠ "java/lang/invoke/VarHandle" ∧ (parseMethodDescriptor yX6_day.desc).map (fun d => d.parameters.length) = some 1 := by decide +kernel
def f_X6_day (tod : Int32) (x1 : Int32) : Option (Int32 × (Int32)) :=
  (f_X6_isWithin x1 tod (100000 : Int32)).bind fun o1 =>
  if o1 = 0 then
    some ((0 : Int32), tod)
  else
    some ((1 : Int32), x1)
set_option maxHeartbeats 4000000 in
set_option maxRecDepth 100000 in
theorem c_X6_day {l : Launch} {D : va_G} {cI cJ cZ : ClassId} {a : Nat → Nat} {sz : Nat} {vl : Nat → Int32} {hs : Nat → Int32} {isz : Nat → Int32} {igd : Nat → Int32} {iup : Nat → Int32} {idn : Nat → Int32} {osz : Nat → Int32} {ogd : Nat → Int32} {oup : Nat → Int32} {odn : Nat → Int32} {dep : Nat → Int32} {rsz : Int32} {lgd : Nat → Int32} {llf : Nat → Int64} {ldb : Nat → Int64} {ldy : Nat → Int32} {lsz : Int32} {lti : Int64} {pgd : Nat → Int32} {plf : Nat → Int64} {pun : Nat → Int32} {psz : Int32} {bgd : Nat → Int32} {bam : Nat → Int64} {bwt : Nat → Int64} {bsh : Nat → Int64} {brm : Nat → Int64} {bsz : Int32} {cab : Nat → Int64} {cbl : Nat → Int64} {tod : Int32} {imp : Int64} {dis : Int64} {owe : Int64} {itr : Int64} {x1 : Int32} {o : Int32 × (Int32)} (hf : f_X6_day tod x1 = some o) : gMi l yX6_day wsX6_day rm_X6_day D (gT cI cJ cZ) (cW a cI cJ cZ vl hs isz igd iup idn osz ogd oup odn dep rsz lgd llf ldb ldy lsz lti pgd plf pun psz bgd bam bwt bsh brm bsz cab cbl tod imp dis owe itr) (cW a cI cJ cZ vl hs isz igd iup idn osz ogd oup odn dep rsz lgd llf ldb ldy lsz lti pgd plf pun psz bgd bam bwt bsh brm bsz cab cbl o.2 imp dis owe itr) sz [.ref (a 0), .int x1] o.1 := by
  refine g_of (cc := cX6_day) (maxL := 2) (ret := (some .boolean)) (by decide) rfl (Nat.le_of_ble_eq_true rfl) ?_
  intro p e s m below meth c A ls hAe C hl E
  rw [← hAe]
  obtain ⟨hx, hb, hr, hml, hown, hts, hlocks, hN, hA⟩ := id C
  have hl : lv_has ls 2 [(0, .ref (a 0)), (1, .int x1)] := hl
  have E : vE s A D (gT cI cJ cZ) (cW a cI cJ cZ vl hs isz igd iup idn osz ogd oup odn dep rsz lgd llf ldb ldy lsz lti pgd plf pun psz bgd bam bwt bsh brm bsz cab cbl tod imp dis owe itr) s.heap [] := E
  rw [f_X6_day] at hf
  refine lv_iload_n hx hb dX6_day_0 rfl (lv_at hl 1 rfl) ?_
  refine lv_aload_n hx hb dX6_day_1 rfl (lv_at hl 0 rfl) ?_
  refine g_get C E 0 6 (fun _ h => List.mem_cons_of_mem _ (List.mem_append_right _ h)) rfl rfl (by decide) (List.mem_of_getElem? (i := 1) rfl) rfl rfl dX6_day_2 ?_
  refine lv_ldc (v := 100000) hx hb hown (hts (.constant RX6 174 (100000)) (List.mem_of_getElem? (i := 2) rfl)) dX6_day_5 ?_
  obtain ⟨o1, e2, hf⟩ := bd_some hf
  refine g_calli (w' := (cW a cI cJ cZ vl hs isz igd iup idn osz ogd oup odn dep rsz lgd llf ldb ldy lsz lti pgd plf pun psz bgd bam bwt bsh brm bsz cab cbl tod imp dis owe itr)) C E (g_runS (As := [.int x1, .int tod, .int (100000 : Int32)]) (rest := []) C E (c_X6_isWithin e2) (va_cwS 3 hts gX6_day_X6_isWithin rfl rfl rfl hd_X6_isWithin ⟨Nat.le_of_ble_eq_true rfl, Nat.le_of_ble_eq_true rfl⟩) rfl hl.1 rfl (Nat.le_of_ble_eq_true rfl) dX6_day_7 ⟨Nat.le_of_ble_eq_true rfl, Nat.le_of_ble_eq_true rfl⟩) (fun H locs E => ?_)
  refine lv_if_ne (tgt := 15) hx hb dX6_day_10 (by decide) (fun c3 => ?_) (fun c3 => ?_)
  · rw [if_neg c3] at hf
    refine lv_aload_n hx hb dX6_day_15 rfl (lv_at hl 0 rfl) ?_
    refine lv_iload_n hx hb dX6_day_16 rfl (lv_at hl 1 rfl) ?_
    refine g_put (w' := (cW a cI cJ cZ vl hs isz igd iup idn osz ogd oup odn dep rsz lgd llf ldb ldy lsz lti pgd plf pun psz bgd bam bwt bsh brm bsz cab cbl x1 imp dis owe itr)) C E 0 6 tyX6 tyX6_ok nmX6 (fun _ h => List.mem_cons_of_mem _ (List.mem_append_right _ h)) rfl rfl (by decide) (List.mem_of_getElem? (i := 1) rfl) rfl rfl rfl rfl rfl (Nat.le_of_ble_eq_true rfl) dX6_day_17 rfl (fun H locs E => ?_)
    refine lv_iconst (v := 1) hx hb dX6_day_20 (by decide) ?_
    obtain rfl := Option.some.inj hf
    exact g_zret (r := 1) C E rfl dX6_day_21
  · rw [if_pos c3] at hf
    refine lv_iconst (v := 0) hx hb dX6_day_13 (by decide) ?_
    obtain rfl := Option.some.inj hf
    exact g_zret (r := 0) C E rfl dX6_day_14
abbrev rm_X6_sum : Room := { frames := 1, cells := 0, slots := 0, locals := 23 }
theorem hd_X6_sum : yX6_sum.cls ≠ "java/lang/invoke/MethodHandle" ∧ yX6_sum.cls ≠ "java/lang/invoke/VarHandle" ∧ (parseMethodDescriptor yX6_sum.desc).map (fun d => d.parameters.length) = some 1 := by decide +kernel
def f_X6_sum (ldb : Nat → Int64) (lsz : Int32) (imp : Int64) (dis : Int64) (owe : Int64) (itr : Int64) (x1 : Int32) : Option (Int64) :=
  if x1 = 0 then
    some (imp)
  else
  if x1 = 1 then
    some (dis)
  else
  if x1 = 2 then
    some (owe)
  else
  if x1 = 3 then
    some (itr)
  else
  if x1 = 4 then
    (f_X2_wholeDebt ldb lsz).bind fun o6 =>
    some (o6)
  else
  some ((-1 : Int64))
set_option maxHeartbeats 4000000 in
set_option maxRecDepth 100000 in
theorem c_X6_sum {l : Launch} {D : va_G} {cI cJ cZ : ClassId} {a : Nat → Nat} {sz : Nat} {vl : Nat → Int32} {hs : Nat → Int32} {isz : Nat → Int32} {igd : Nat → Int32} {iup : Nat → Int32} {idn : Nat → Int32} {osz : Nat → Int32} {ogd : Nat → Int32} {oup : Nat → Int32} {odn : Nat → Int32} {dep : Nat → Int32} {rsz : Int32} {lgd : Nat → Int32} {llf : Nat → Int64} {ldb : Nat → Int64} {ldy : Nat → Int32} {lsz : Int32} {lti : Int64} {pgd : Nat → Int32} {plf : Nat → Int64} {pun : Nat → Int32} {psz : Int32} {bgd : Nat → Int32} {bam : Nat → Int64} {bwt : Nat → Int64} {bsh : Nat → Int64} {brm : Nat → Int64} {bsz : Int32} {cab : Nat → Int64} {cbl : Nat → Int64} {tod : Int32} {imp : Int64} {dis : Int64} {owe : Int64} {itr : Int64} {x1 : Int32} {o : Int64} (hf : f_X6_sum ldb lsz imp dis owe itr x1 = some o) : gMl l yX6_sum wsX6_sum rm_X6_sum D (gT cI cJ cZ) (cW a cI cJ cZ vl hs isz igd iup idn osz ogd oup odn dep rsz lgd llf ldb ldy lsz lti pgd plf pun psz bgd bam bwt bsh brm bsz cab cbl tod imp dis owe itr) (cW a cI cJ cZ vl hs isz igd iup idn osz ogd oup odn dep rsz lgd llf ldb ldy lsz lti pgd plf pun psz bgd bam bwt bsh brm bsz cab cbl tod imp dis owe itr) sz [.ref (a 0), .int x1] o := by
  refine g_of (cc := cX6_sum) (maxL := 2) (ret := (some .long)) (by decide) rfl (Nat.le_of_ble_eq_true rfl) ?_
  intro p e s m below meth c A ls hAe C hl E
  rw [← hAe]
  obtain ⟨hx, hb, hr, hml, hown, hts, hlocks, hN, hA⟩ := id C
  have hl : lv_has ls 2 [(0, .ref (a 0)), (1, .int x1)] := hl
  have E : vE s A D (gT cI cJ cZ) (cW a cI cJ cZ vl hs isz igd iup idn osz ogd oup odn dep rsz lgd llf ldb ldy lsz lti pgd plf pun psz bgd bam bwt bsh brm bsz cab cbl tod imp dis owe itr) s.heap [] := E
  rw [f_X6_sum] at hf
  refine lv_iload_n hx hb dX6_sum_0 rfl (lv_at hl 1 rfl) ?_
  by_cases c1 : x1 = 0
  · rw [if_pos c1] at hf
    refine lv_tableIn (tgt := 36) (off := 35) hx hb dX6_sum_1 (by rw [c1]; decide) (by rw [c1]; decide) (by rw [c1]; rfl) (by decide) ?_
    refine lv_aload_n hx hb dX6_sum_36 rfl (lv_at hl 0 rfl) ?_
    refine g_get C E 0 7 (fun _ h => List.mem_cons_of_mem _ (List.mem_append_left _ (List.mem_append_right _ h))) rfl rfl (by decide) (List.mem_of_getElem? (i := 1) rfl) rfl rfl dX6_sum_37 ?_
    obtain rfl := Option.some.inj hf
    exact g_lret C E dX6_sum_40
  rw [if_neg c1] at hf
  by_cases c2 : x1 = 1
  · rw [if_pos c2] at hf
    refine lv_tableIn (tgt := 41) (off := 40) hx hb dX6_sum_1 (by rw [c2]; decide) (by rw [c2]; decide) (by rw [c2]; rfl) (by decide) ?_
    refine lv_aload_n hx hb dX6_sum_41 rfl (lv_at hl 0 rfl) ?_
    refine g_get C E 0 8 (fun _ h => List.mem_cons_of_mem _ (List.mem_append_left _ (List.mem_append_right _ h))) rfl rfl (by decide) (List.mem_of_getElem? (i := 2) rfl) rfl rfl dX6_sum_42 ?_
    obtain rfl := Option.some.inj hf
    exact g_lret C E dX6_sum_45
  rw [if_neg c2] at hf
  by_cases c3 : x1 = 2
  · rw [if_pos c3] at hf
    refine lv_tableIn (tgt := 46) (off := 45) hx hb dX6_sum_1 (by rw [c3]; decide) (by rw [c3]; decide) (by rw [c3]; rfl) (by decide) ?_
    refine lv_aload_n hx hb dX6_sum_46 rfl (lv_at hl 0 rfl) ?_
    refine g_get C E 0 9 (fun _ h => List.mem_cons_of_mem _ (List.mem_append_left _ (List.mem_append_right _ h))) rfl rfl (by decide) (List.mem_of_getElem? (i := 3) rfl) rfl rfl dX6_sum_47 ?_
    obtain rfl := Option.some.inj hf
    exact g_lret C E dX6_sum_50
  rw [if_neg c3] at hf
  by_cases c4 : x1 = 3
  · rw [if_pos c4] at hf
    refine lv_tableIn (tgt := 51) (off := 50) hx hb dX6_sum_1 (by rw [c4]; decide) (by rw [c4]; decide) (by rw [c4]; rfl) (by decide) ?_
    refine lv_aload_n hx hb dX6_sum_51 rfl (lv_at hl 0 rfl) ?_
    refine g_get C E 0 10 (fun _ h => List.mem_cons_of_mem _ (List.mem_append_left _ (List.mem_append_right _ h))) rfl rfl (by decide) (List.mem_of_getElem? (i := 4) rfl) rfl rfl dX6_sum_52 ?_
    obtain rfl := Option.some.inj hf
    exact g_lret C E dX6_sum_55
  rw [if_neg c4] at hf
  by_cases c5 : x1 = 4
  · rw [if_pos c5] at hf
    refine lv_tableIn (tgt := 56) (off := 55) hx hb dX6_sum_1 (by rw [c5]; decide) (by rw [c5]; decide) (by rw [c5]; rfl) (by decide) ?_
    refine lv_aload_n hx hb dX6_sum_56 rfl (lv_at hl 0 rfl) ?_
    refine g_get C E 0 2 (fun _ h => List.mem_cons_of_mem _ (List.mem_append_left _ (List.mem_append_right _ h))) rfl rfl (by decide) (List.mem_of_getElem? (i := 5) rfl) rfl rfl dX6_sum_57 ?_
    obtain ⟨o6, e7, hf⟩ := bd_some hf
    refine g_calll (w' := (cW a cI cJ cZ vl hs isz igd iup idn osz ogd oup odn dep rsz lgd llf ldb ldy lsz lti pgd plf pun psz bgd bam bwt bsh brm bsz cab cbl tod imp dis owe itr)) C E (g_runV (As := []) (rest := []) C E (c_X2_wholeDebt e7) (cwV 0 hts gX6_sum_X2_wholeDebt rfl rfl rfl ⟨rfl, hd_X2_wholeDebt⟩ ⟨Nat.le_of_ble_eq_true rfl, Nat.le_of_ble_eq_true rfl⟩) (q0 := 15) (ci := 2) rfl rfl rfl rfl hl.1 rfl (Nat.le_of_ble_eq_true rfl) dX6_sum_60 ⟨Nat.le_of_ble_eq_true rfl, Nat.le_of_ble_eq_true rfl⟩) (fun H locs E => ?_)
    obtain rfl := Option.some.inj hf
    exact g_lret C E dX6_sum_63
  rw [if_neg c5] at hf
  refine lv_tableOut (tgt := 64) hx hb dX6_sum_1 (by have := lv_neT (a := 0) c1 (by decide); have := lv_neT (a := 1) c2 (by decide); have := lv_neT (a := 2) c3 (by decide); have := lv_neT (a := 3) c4 (by decide); have := lv_neT (a := 4) c5 (by decide); omega) (by decide) ?_
  refine lv_ldc2 (v := -1) hx hb hown (hts (.constantLong RX6 159 (-1)) (List.mem_of_getElem? (i := 6) rfl)) dX6_sum_64 ?_
  obtain rfl := Option.some.inj hf
  exact g_lret C E dX6_sum_67
abbrev rm_X6_count : Room := { frames := 0, cells := 0, slots := 0, locals := 0 }
theorem hd_X6_count : yX6_count.cls ≠ "java/lang/invoke/MethodHandle" ∧ yX6_count.cls ≠ "java/lang/invoke/VarHandle" ∧ (parseMethodDescriptor yX6_count.desc).map (fun d => d.parameters.length) = some 1 := by decide +kernel
def f_X6_count (rsz : Int32) (lsz : Int32) (psz : Int32) (tod : Int32) (x1 : Int32) : Option (Int32) :=
  if x1 = 0 then
    some (lsz)
  else
  if x1 = 1 then
    some (rsz)
  else
  if x1 = 2 then
    some (psz)
  else
  if x1 = 3 then
    some (tod)
  else
  some ((-1 : Int32))
set_option maxHeartbeats 4000000 in
set_option maxRecDepth 100000 in
theorem c_X6_count {l : Launch} {D : va_G} {cI cJ cZ : ClassId} {a : Nat → Nat} {sz : Nat} {vl : Nat → Int32} {hs : Nat → Int32} {isz : Nat → Int32} {igd : Nat → Int32} {iup : Nat → Int32} {idn : Nat → Int32} {osz : Nat → Int32} {ogd : Nat → Int32} {oup : Nat → Int32} {odn : Nat → Int32} {dep : Nat → Int32} {rsz : Int32} {lgd : Nat → Int32} {llf : Nat → Int64} {ldb : Nat → Int64} {ldy : Nat → Int32} {lsz : Int32} {lti : Int64} {pgd : Nat → Int32} {plf : Nat → Int64} {pun : Nat → Int32} {psz : Int32} {bgd : Nat → Int32} {bam : Nat → Int64} {bwt : Nat → Int64} {bsh : Nat → Int64} {brm : Nat → Int64} {bsz : Int32} {cab : Nat → Int64} {cbl : Nat → Int64} {tod : Int32} {imp : Int64} {dis : Int64} {owe : Int64} {itr : Int64} {x1 : Int32} {o : Int32} (hf : f_X6_count rsz lsz psz tod x1 = some o) : gMi l yX6_count wsX6_count rm_X6_count D (gT cI cJ cZ) (cW a cI cJ cZ vl hs isz igd iup idn osz ogd oup odn dep rsz lgd llf ldb ldy lsz lti pgd plf pun psz bgd bam bwt bsh brm bsz cab cbl tod imp dis owe itr) (cW a cI cJ cZ vl hs isz igd iup idn osz ogd oup odn dep rsz lgd llf ldb ldy lsz lti pgd plf pun psz bgd bam bwt bsh brm bsz cab cbl tod imp dis owe itr) sz [.ref (a 0), .int x1] o := by
  refine g_of (cc := cX6_count) (maxL := 2) (ret := (some .int)) (by decide) rfl (Nat.le_of_ble_eq_true rfl) ?_
  intro p e s m below meth c A ls hAe C hl E
  rw [← hAe]
  obtain ⟨hx, hb, hr, hml, hown, hts, hlocks, hN, hA⟩ := id C
  have hl : lv_has ls 2 [(0, .ref (a 0)), (1, .int x1)] := hl
  have E : vE s A D (gT cI cJ cZ) (cW a cI cJ cZ vl hs isz igd iup idn osz ogd oup odn dep rsz lgd llf ldb ldy lsz lti pgd plf pun psz bgd bam bwt bsh brm bsz cab cbl tod imp dis owe itr) s.heap [] := E
  rw [f_X6_count] at hf
  refine lv_iload_n hx hb dX6_count_0 rfl (lv_at hl 1 rfl) ?_
  by_cases c1 : x1 = 0
  · rw [if_pos c1] at hf
    refine lv_tableIn (tgt := 32) (off := 31) hx hb dX6_count_1 (by rw [c1]; decide) (by rw [c1]; decide) (by rw [c1]; rfl) (by decide) ?_
    refine lv_aload_n hx hb dX6_count_32 rfl (lv_at hl 0 rfl) ?_
    refine g_get C E 0 2 (fun _ h => List.mem_cons_of_mem _ (List.mem_append_left _ (List.mem_append_left _ (List.mem_append_left _ (List.mem_append_right _ h))))) rfl rfl (by decide) (List.mem_of_getElem? (i := 1) rfl) rfl rfl dX6_count_33 ?_
    refine g_get C E 15 4 (fun _ h => List.mem_cons_of_mem _ (List.mem_append_left _ (List.mem_append_left _ (List.mem_append_right _ h)))) rfl rfl (by decide) (List.mem_of_getElem? (i := 2) rfl) rfl rfl dX6_count_36 ?_
    obtain rfl := Option.some.inj hf
    exact g_iret C E dX6_count_39
  rw [if_neg c1] at hf
  by_cases c2 : x1 = 1
  · rw [if_pos c2] at hf
    refine lv_tableIn (tgt := 40) (off := 39) hx hb dX6_count_1 (by rw [c2]; decide) (by rw [c2]; decide) (by rw [c2]; rfl) (by decide) ?_
    refine lv_aload_n hx hb dX6_count_40 rfl (lv_at hl 0 rfl) ?_
    refine g_get C E 0 1 (fun _ h => List.mem_cons_of_mem _ (List.mem_append_left _ (List.mem_append_left _ (List.mem_append_left _ (List.mem_append_right _ h))))) rfl rfl (by decide) (List.mem_of_getElem? (i := 3) rfl) rfl rfl dX6_count_41 ?_
    refine g_get C E 2 4 (fun _ h => List.mem_cons_of_mem _ (List.mem_append_left _ (List.mem_append_right _ h))) rfl rfl (by decide) (List.mem_of_getElem? (i := 4) rfl) rfl rfl dX6_count_44 ?_
    obtain rfl := Option.some.inj hf
    exact g_iret C E dX6_count_47
  rw [if_neg c2] at hf
  by_cases c3 : x1 = 2
  · rw [if_pos c3] at hf
    refine lv_tableIn (tgt := 48) (off := 47) hx hb dX6_count_1 (by rw [c3]; decide) (by rw [c3]; decide) (by rw [c3]; rfl) (by decide) ?_
    refine lv_aload_n hx hb dX6_count_48 rfl (lv_at hl 0 rfl) ?_
    refine g_get C E 0 3 (fun _ h => List.mem_cons_of_mem _ (List.mem_append_left _ (List.mem_append_left _ (List.mem_append_left _ (List.mem_append_right _ h))))) rfl rfl (by decide) (List.mem_of_getElem? (i := 5) rfl) rfl rfl dX6_count_49 ?_
    refine g_get C E 20 3 (fun _ h => List.mem_cons_of_mem _ (List.mem_append_right _ h)) rfl rfl (by decide) (List.mem_of_getElem? (i := 6) rfl) rfl rfl dX6_count_52 ?_
    obtain rfl := Option.some.inj hf
    exact g_iret C E dX6_count_55
  rw [if_neg c3] at hf
  by_cases c4 : x1 = 3
  · rw [if_pos c4] at hf
    refine lv_tableIn (tgt := 56) (off := 55) hx hb dX6_count_1 (by rw [c4]; decide) (by rw [c4]; decide) (by rw [c4]; rfl) (by decide) ?_
    refine lv_aload_n hx hb dX6_count_56 rfl (lv_at hl 0 rfl) ?_
    refine g_get C E 0 6 (fun _ h => List.mem_cons_of_mem _ (List.mem_append_left _ (List.mem_append_left _ (List.mem_append_left _ (List.mem_append_right _ h))))) rfl rfl (by decide) (List.mem_of_getElem? (i := 7) rfl) rfl rfl dX6_count_57 ?_
    obtain rfl := Option.some.inj hf
    exact g_iret C E dX6_count_60
  rw [if_neg c4] at hf
  refine lv_tableOut (tgt := 61) hx hb dX6_count_1 (by have := lv_neT (a := 0) c1 (by decide); have := lv_neT (a := 1) c2 (by decide); have := lv_neT (a := 2) c3 (by decide); have := lv_neT (a := 3) c4 (by decide); omega) (by decide) ?_
  refine lv_iconst (v := -1) hx hb dX6_count_61 (by decide) ?_
  obtain rfl := Option.some.inj hf
  exact g_iret C E dX6_count_62
abbrev rm_X6_suffices : Room := { frames := 3, cells := 0, slots := 0, locals := 70 }
theorem hd_X6_suffices : yX6_suffices.cls ≠ "java/lang/invoke/MethodHandle" ∧ yX6_suffices.cls ≠ "java/lang/invoke/VarHandle" ∧ (parseMethodDescriptor yX6_suffices.desc).map (fun d => d.parameters.length) = some 2 := by decide +kernel
def f_X6_suffices_L11 (isz : Nat → Int32) (igd : Nat → Int32) (iup : Nat → Int32) (idn : Nat → Int32) (lgd : Nat → Int32) (llf : Nat → Int64) (lsz : Int32) (x1 : Int32) (x2 : Int32) : Nat → Int32 → Option (Int32)
  | 0, _ => none
  | n + 1, x4 =>
  ck x1 12 <|
  if (isz x1.toNatClampNeg) ≤ x4 then
    some ((1 : Int32))
  else
    (f_X3_goodAt_i igd x1 x4).bind fun o3 =>
    (f_X2_stockOf lgd llf lsz o3).bind fun o5 =>
    (f_X3_roundedUp_i iup idn x1 x4 x2).bind fun o7 =>
    if 0 ≤ (lg_cmp o5 o7) then
      f_X6_suffices_L11 isz igd iup idn lgd llf lsz x1 x2 n (x4 + 1)
    else
      some ((0 : Int32))
set_option maxHeartbeats 4000000 in
set_option maxRecDepth 100000 in
theorem w_X6_suffices_L11 {p : Program} {l : Launch} {e : Env} {s : State} {m : MethodId} {args : Array Value} {below : List Frame} {meth : Method} {c : Code} {A : Nat → Prop} {D : va_G} {cI cJ cZ : ClassId} {a : Nat → Nat} {vl : Nat → Int32} {hs : Nat → Int32} {isz : Nat → Int32} {igd : Nat → Int32} {iup : Nat → Int32} {idn : Nat → Int32} {osz : Nat → Int32} {ogd : Nat → Int32} {oup : Nat → Int32} {odn : Nat → Int32} {dep : Nat → Int32} {rsz : Int32} {lgd : Nat → Int32} {llf : Nat → Int64} {ldb : Nat → Int64} {ldy : Nat → Int32} {lsz : Int32} {lti : Int64} {pgd : Nat → Int32} {plf : Nat → Int64} {pun : Nat → Int32} {psz : Int32} {bgd : Nat → Int32} {bam : Nat → Int64} {bwt : Nat → Int64} {bsh : Nat → Int64} {brm : Nat → Int64} {bsz : Int32} {cab : Nat → Int64} {cbl : Nat → Int64} {tod : Int32} {imp : Int64} {dis : Int64} {owe : Int64} {itr : Int64} (C : gC p s m args meth c cX6_suffices 5 (some .boolean) wsX6_suffices RX6 A) {x1 : Int32} {x2 : Int32} {o : Int32} :
    ∀ (n : Nat) (x4 : Int32) (H : Heap) (locs : List Loc) (ls : Array Slot), vE s A D (gT cI cJ cZ) (cW a cI cJ cZ vl hs isz igd iup idn osz ogd oup odn dep rsz lgd llf ldb ldy lsz lti pgd plf pun psz bgd bam bwt bsh brm bsz cab cbl tod imp dis owe itr) H locs → lv_has ls 5 [(0, .ref (a 0)), (1, .int x1), (2, .int x2), (3, .ref (a 4)), (4, .int x4)] → f_X6_suffices_L11 isz igd iup idn lgd llf lsz x1 x2 n x4 = some o → W p l e rm_X6_suffices s m args below meth c H locs 0 0 (MQ below (gQi D (gT cI cJ cZ) A (cW a cI cJ cZ vl hs isz igd iup idn osz ogd oup odn dep rsz lgd llf ldb ldy lsz lti pgd plf pun psz bgd bam bwt bsh brm bsz cab cbl tod imp dis owe itr) o) args s 0 0 A) (F0 m 11 ls []) := by
  obtain ⟨hx, hb, hr, hml, hown, hts, hlocks, hN, hA⟩ := id C
  intro n
  induction n with
  | zero =>
    intro x4 H locs ls E hl hf
    rw [f_X6_suffices_L11] at hf
    cases hf
  | succ n ih =>
    intro x4 H locs ls E hl hf
    rw [f_X6_suffices_L11] at hf
    refine lv_iload hx hb dX6_suffices_11 (lv_at hl 4 rfl) ?_
    refine lv_aload_n hx hb dX6_suffices_13 rfl (lv_at hl 3 rfl) ?_
    refine g_get C E 4 1 (fun _ h => List.mem_cons_of_mem _ (List.mem_append_left _ (List.mem_append_right _ h))) rfl rfl (by decide) (List.mem_of_getElem? (i := 3) rfl) rfl rfl dX6_suffices_14 ?_
    refine lv_iload_n hx hb dX6_suffices_17 rfl (lv_at hl 1 rfl) ?_
    obtain ⟨h1, hf⟩ := ck_some hf
    refine g_iald C E 5 rfl h1 dX6_suffices_18 ?_
    refine lv_icmp_ge (tgt := 56) hx hb dX6_suffices_19 (by decide) (fun c2 => ?_) (fun c2 => ?_)
    · rw [if_pos c2] at hf
      refine lv_iconst (v := 1) hx hb dX6_suffices_56 (by decide) ?_
      obtain rfl := Option.some.inj hf
      exact g_zret (r := 1) C E rfl dX6_suffices_57
    · rw [if_neg c2] at hf
      refine lv_aload_n hx hb dX6_suffices_22 rfl (lv_at hl 0 rfl) ?_
      refine g_get C E 0 2 (fun _ h => List.mem_cons_of_mem _ (List.mem_append_left _ (List.mem_append_left _ (List.mem_append_left _ (List.mem_append_right _ h))))) rfl rfl (by decide) (List.mem_of_getElem? (i := 4) rfl) rfl rfl dX6_suffices_23 ?_
      refine lv_aload_n hx hb dX6_suffices_26 rfl (lv_at hl 3 rfl) ?_
      refine lv_iload_n hx hb dX6_suffices_27 rfl (lv_at hl 1 rfl) ?_
      refine lv_iload hx hb dX6_suffices_28 (lv_at hl 4 rfl) ?_
      obtain ⟨o3, e4, hf⟩ := bd_some hf
      refine g_calli (w' := (cW a cI cJ cZ vl hs isz igd iup idn osz ogd oup odn dep rsz lgd llf ldb ldy lsz lti pgd plf pun psz bgd bam bwt bsh brm bsz cab cbl tod imp dis owe itr)) C E (g_runV (As := [.int x1, .int x4]) (rest := [.ref (a 15)]) C E (c_X3_goodAt_i e4) (cwV 2 hts gX6_suffices_X3_goodAt rfl rfl rfl ⟨rfl, hd_X3_goodAt_i⟩ ⟨Nat.le_of_ble_eq_true rfl, Nat.le_of_ble_eq_true rfl⟩) (q0 := 4) (ci := 3) rfl rfl rfl rfl hl.1 rfl (Nat.le_of_ble_eq_true rfl) dX6_suffices_30 ⟨Nat.le_of_ble_eq_true rfl, Nat.le_of_ble_eq_true rfl⟩) (fun H locs E => ?_)
      obtain ⟨o5, e6, hf⟩ := bd_some hf
      refine g_calll (w' := (cW a cI cJ cZ vl hs isz igd iup idn osz ogd oup odn dep rsz lgd llf ldb ldy lsz lti pgd plf pun psz bgd bam bwt bsh brm bsz cab cbl tod imp dis owe itr)) C E (g_runV (As := [.int o3]) (rest := []) C E (c_X2_stockOf e6) (cwV 1 hts gX6_suffices_X2_stockOf rfl rfl rfl ⟨rfl, hd_X2_stockOf⟩ ⟨Nat.le_of_ble_eq_true rfl, Nat.le_of_ble_eq_true rfl⟩) (q0 := 15) (ci := 2) rfl rfl rfl rfl hl.1 rfl (Nat.le_of_ble_eq_true rfl) dX6_suffices_33 ⟨Nat.le_of_ble_eq_true rfl, Nat.le_of_ble_eq_true rfl⟩) (fun H locs E => ?_)
      refine lv_aload_n hx hb dX6_suffices_36 rfl (lv_at hl 3 rfl) ?_
      refine lv_iload_n hx hb dX6_suffices_37 rfl (lv_at hl 1 rfl) ?_
      refine lv_iload hx hb dX6_suffices_38 (lv_at hl 4 rfl) ?_
      refine lv_iload_n hx hb dX6_suffices_40 rfl (lv_at hl 2 rfl) ?_
      obtain ⟨o7, e8, hf⟩ := bd_some hf
      refine g_calll (w' := (cW a cI cJ cZ vl hs isz igd iup idn osz ogd oup odn dep rsz lgd llf ldb ldy lsz lti pgd plf pun psz bgd bam bwt bsh brm bsz cab cbl tod imp dis owe itr)) C E (g_runV (As := [.int x1, .int x4, .int x2]) (rest := [.long o5]) C E (c_X3_roundedUp_i e8) (cwV 3 hts gX6_suffices_X3_roundedUp rfl rfl rfl ⟨rfl, hd_X3_roundedUp_i⟩ ⟨Nat.le_of_ble_eq_true rfl, Nat.le_of_ble_eq_true rfl⟩) (q0 := 4) (ci := 3) rfl rfl rfl rfl hl.1 rfl (Nat.le_of_ble_eq_true rfl) dX6_suffices_41 ⟨Nat.le_of_ble_eq_true rfl, Nat.le_of_ble_eq_true rfl⟩) (fun H locs E => ?_)
      refine W.lcmp hx hb dX6_suffices_44 ?_
      refine lv_if_ge (tgt := 50) hx hb dX6_suffices_45 (by decide) (fun c9 => ?_) (fun c9 => ?_)
      · rw [if_pos c9] at hf
        refine lv_iinc (v := (x4 + 1)) (lv' := [(4, .int (x4 + 1)), (0, .ref (a 0)), (1, .int x1), (2, .int x2), (3, .ref (a 4))]) hx hb dX6_suffices_50 hl (k := 4) rfl rfl (by decide) rfl (fun ls hl => ?_)
        refine lv_goto (tgt := 11) hx hb dX6_suffices_53 (by decide) ?_
        exact ih (x4 + 1) _ _ _ E (lv_sub hl [1, 2, 3, 4, 0] rfl) hf
      · rw [if_neg c9] at hf
        refine lv_iconst (v := 0) hx hb dX6_suffices_48 (by decide) ?_
        obtain rfl := Option.some.inj hf
        exact g_zret (r := 0) C E rfl dX6_suffices_49
def f_X6_suffices (isz : Nat → Int32) (igd : Nat → Int32) (iup : Nat → Int32) (idn : Nat → Int32) (lgd : Nat → Int32) (llf : Nat → Int64) (lsz : Int32) (x1 : Int32) (x2 : Int32) : Option (Int32) :=
  f_X6_suffices_L11 isz igd iup idn lgd llf lsz x1 x2 FU (0 : Int32)
set_option maxHeartbeats 4000000 in
set_option maxRecDepth 100000 in
theorem c_X6_suffices {l : Launch} {D : va_G} {cI cJ cZ : ClassId} {a : Nat → Nat} {sz : Nat} {vl : Nat → Int32} {hs : Nat → Int32} {isz : Nat → Int32} {igd : Nat → Int32} {iup : Nat → Int32} {idn : Nat → Int32} {osz : Nat → Int32} {ogd : Nat → Int32} {oup : Nat → Int32} {odn : Nat → Int32} {dep : Nat → Int32} {rsz : Int32} {lgd : Nat → Int32} {llf : Nat → Int64} {ldb : Nat → Int64} {ldy : Nat → Int32} {lsz : Int32} {lti : Int64} {pgd : Nat → Int32} {plf : Nat → Int64} {pun : Nat → Int32} {psz : Int32} {bgd : Nat → Int32} {bam : Nat → Int64} {bwt : Nat → Int64} {bsh : Nat → Int64} {brm : Nat → Int64} {bsz : Int32} {cab : Nat → Int64} {cbl : Nat → Int64} {tod : Int32} {imp : Int64} {dis : Int64} {owe : Int64} {itr : Int64} {x1 : Int32} {x2 : Int32} {o : Int32} (hf : f_X6_suffices isz igd iup idn lgd llf lsz x1 x2 = some o) : gMi l yX6_suffices wsX6_suffices rm_X6_suffices D (gT cI cJ cZ) (cW a cI cJ cZ vl hs isz igd iup idn osz ogd oup odn dep rsz lgd llf ldb ldy lsz lti pgd plf pun psz bgd bam bwt bsh brm bsz cab cbl tod imp dis owe itr) (cW a cI cJ cZ vl hs isz igd iup idn osz ogd oup odn dep rsz lgd llf ldb ldy lsz lti pgd plf pun psz bgd bam bwt bsh brm bsz cab cbl tod imp dis owe itr) sz [.ref (a 0), .int x1, .int x2] o := by
  refine g_of (cc := cX6_suffices) (maxL := 5) (ret := (some .boolean)) (by decide) rfl (Nat.le_of_ble_eq_true rfl) ?_
  intro p e s m below meth c A ls hAe C hl E
  rw [← hAe]
  obtain ⟨hx, hb, hr, hml, hown, hts, hlocks, hN, hA⟩ := id C
  have hl : lv_has ls 5 [(0, .ref (a 0)), (1, .int x1), (2, .int x2)] := hl
  have E : vE s A D (gT cI cJ cZ) (cW a cI cJ cZ vl hs isz igd iup idn osz ogd oup odn dep rsz lgd llf ldb ldy lsz lti pgd plf pun psz bgd bam bwt bsh brm bsz cab cbl tod imp dis owe itr) s.heap [] := E
  rw [f_X6_suffices] at hf
  refine lv_aload_n hx hb dX6_suffices_0 rfl (lv_at hl 0 rfl) ?_
  refine g_get C E 0 1 (fun _ h => List.mem_cons_of_mem _ (List.mem_append_left _ (List.mem_append_left _ (List.mem_append_left _ (List.mem_append_right _ h))))) rfl rfl (by decide) (List.mem_of_getElem? (i := 1) rfl) rfl rfl dX6_suffices_1 ?_
  refine g_get C E 2 1 (fun _ h => List.mem_cons_of_mem _ (List.mem_append_left _ (List.mem_append_left _ (List.mem_append_right _ h)))) rfl rfl (by decide) (List.mem_of_getElem? (i := 2) rfl) rfl rfl dX6_suffices_4 ?_
  refine lv_astore_n (lv' := [(3, .ref (a 4)), (0, .ref (a 0)), (1, .int x1), (2, .int x2)]) hx hb dX6_suffices_7 rfl hl (by decide) rfl (fun ls hl => ?_)
  refine lv_iconst (v := 0) hx hb dX6_suffices_8 (by decide) ?_
  refine lv_istore (lv' := [(4, .int (0 : Int32)), (3, .ref (a 4)), (0, .ref (a 0)), (1, .int x1), (2, .int x2)]) hx hb dX6_suffices_9 hl (by decide) rfl (fun ls hl => ?_)
  exact w_X6_suffices_L11 C  FU (0 : Int32) _ _ _ E (lv_sub hl [2, 3, 4, 1, 0] rfl) hf
abbrev rm_X6_takeNeeds : Room := { frames := 4, cells := 0, slots := 0, locals := 101 }
theorem hd_X6_takeNeeds : yX6_takeNeeds.cls ≠ "java/lang/invoke/MethodHandle" ∧ yX6_takeNeeds.cls ≠ "java/lang/invoke/VarHandle" ∧ (parseMethodDescriptor yX6_takeNeeds.desc).map (fun d => d.parameters.length) = some 2 := by decide +kernel
def f_X6_takeNeeds_L14 (isz : Nat → Int32) (igd : Nat → Int32) (iup : Nat → Int32) (idn : Nat → Int32) (lgd : Nat → Int32) (ldy : Nat → Int32) (lsz : Int32) (tod : Int32) (x1 : Int32) (x2 : Int32) : Nat → (Nat → Int64) → (Nat → Int64) → (Int64) → Int64 → Int32 → Option (Int64 × (Nat → Int64) × (Nat → Int64) × (Int64))
  | 0, _, _, _, _, _ => none
  | n + 1, llf, ldb, lti, x4, x6 =>
  ck x1 12 <|
  if (isz x1.toNatClampNeg) ≤ x6 then
    some (x4, llf, ldb, lti)
  else
    (f_X3_goodAt_i igd x1 x6).bind fun o3 =>
    (f_X3_roundedUp_i iup idn x1 x6 x2).bind fun o5 =>
    (f_X2_take lgd llf ldb ldy lsz lti o3 o5 tod).bind fun o7 =>
    f_X6_takeNeeds_L14 isz igd iup idn lgd ldy lsz tod x1 x2 n o7.2.1 o7.2.2.1 o7.2.2.2 (x4 + o7.1) (x6 + 1)
set_option maxHeartbeats 4000000 in
set_option maxRecDepth 100000 in
theorem w_X6_takeNeeds_L14 {p : Program} {l : Launch} {e : Env} {s : State} {m : MethodId} {args : Array Value} {below : List Frame} {meth : Method} {c : Code} {A : Nat → Prop} {D : va_G} {cI cJ cZ : ClassId} {a : Nat → Nat} {vl : Nat → Int32} {hs : Nat → Int32} {isz : Nat → Int32} {igd : Nat → Int32} {iup : Nat → Int32} {idn : Nat → Int32} {osz : Nat → Int32} {ogd : Nat → Int32} {oup : Nat → Int32} {odn : Nat → Int32} {dep : Nat → Int32} {rsz : Int32} {lgd : Nat → Int32} {ldy : Nat → Int32} {lsz : Int32} {pgd : Nat → Int32} {plf : Nat → Int64} {pun : Nat → Int32} {psz : Int32} {bgd : Nat → Int32} {bam : Nat → Int64} {bwt : Nat → Int64} {bsh : Nat → Int64} {brm : Nat → Int64} {bsz : Int32} {cab : Nat → Int64} {cbl : Nat → Int64} {tod : Int32} {imp : Int64} {dis : Int64} {owe : Int64} {itr : Int64} (C : gC p s m args meth c cX6_takeNeeds 7 (some .long) wsX6_takeNeeds RX6 A) {x1 : Int32} {x2 : Int32} {o : Int64 × (Nat → Int64) × (Nat → Int64) × (Int64)} :
    ∀ (n : Nat) (llf : Nat → Int64) (ldb : Nat → Int64) (lti : Int64) (x4 : Int64) (x6 : Int32) (H : Heap) (locs : List Loc) (ls : Array Slot), vE s A D (gT cI cJ cZ) (cW a cI cJ cZ vl hs isz igd iup idn osz ogd oup odn dep rsz lgd llf ldb ldy lsz lti pgd plf pun psz bgd bam bwt bsh brm bsz cab cbl tod imp dis owe itr) H locs → lv_has ls 7 [(0, .ref (a 0)), (1, .int x1), (2, .int x2), (3, .ref (a 4)), (4, .long x4), (6, .int x6)] → f_X6_takeNeeds_L14 isz igd iup idn lgd ldy lsz tod x1 x2 n llf ldb lti x4 x6 = some o → W p l e rm_X6_takeNeeds s m args below meth c H locs 0 0 (MQ below (gQl D (gT cI cJ cZ) A (cW a cI cJ cZ vl hs isz igd iup idn osz ogd oup odn dep rsz lgd o.2.1 o.2.2.1 ldy lsz o.2.2.2 pgd plf pun psz bgd bam bwt bsh brm bsz cab cbl tod imp dis owe itr) o.1) args s 0 0 A) (F0 m 14 ls []) := by
  obtain ⟨hx, hb, hr, hml, hown, hts, hlocks, hN, hA⟩ := id C
  intro n
  induction n with
  | zero =>
    intro llf ldb lti x4 x6 H locs ls E hl hf
    rw [f_X6_takeNeeds_L14] at hf
    cases hf
  | succ n ih =>
    intro llf ldb lti x4 x6 H locs ls E hl hf
    rw [f_X6_takeNeeds_L14] at hf
    refine lv_iload hx hb dX6_takeNeeds_14 (lv_at hl 5 rfl) ?_
    refine lv_aload_n hx hb dX6_takeNeeds_16 rfl (lv_at hl 3 rfl) ?_
    refine g_get C E 4 1 (fun _ h => List.mem_cons_of_mem _ (List.mem_append_left _ (List.mem_append_right _ h))) rfl rfl (by decide) (List.mem_of_getElem? (i := 3) rfl) rfl rfl dX6_takeNeeds_17 ?_
    refine lv_iload_n hx hb dX6_takeNeeds_20 rfl (lv_at hl 1 rfl) ?_
    obtain ⟨h1, hf⟩ := ck_some hf
    refine g_iald C E 5 rfl h1 dX6_takeNeeds_21 ?_
    refine lv_icmp_ge (tgt := 62) hx hb dX6_takeNeeds_22 (by decide) (fun c2 => ?_) (fun c2 => ?_)
    · rw [if_pos c2] at hf
      refine lv_lload hx hb dX6_takeNeeds_62 (lv_at hl 4 rfl) ?_
      obtain rfl := Option.some.inj hf
      exact g_lret C E dX6_takeNeeds_64
    · rw [if_neg c2] at hf
      refine lv_lload hx hb dX6_takeNeeds_25 (lv_at hl 4 rfl) ?_
      refine lv_aload_n hx hb dX6_takeNeeds_27 rfl (lv_at hl 0 rfl) ?_
      refine g_get C E 0 2 (fun _ h => List.mem_cons_of_mem _ (List.mem_append_left _ (List.mem_append_left _ (List.mem_append_left _ (List.mem_append_right _ h))))) rfl rfl (by decide) (List.mem_of_getElem? (i := 4) rfl) rfl rfl dX6_takeNeeds_28 ?_
      refine lv_aload_n hx hb dX6_takeNeeds_31 rfl (lv_at hl 3 rfl) ?_
      refine lv_iload_n hx hb dX6_takeNeeds_32 rfl (lv_at hl 1 rfl) ?_
      refine lv_iload hx hb dX6_takeNeeds_33 (lv_at hl 5 rfl) ?_
      obtain ⟨o3, e4, hf⟩ := bd_some hf
      refine g_calli (w' := (cW a cI cJ cZ vl hs isz igd iup idn osz ogd oup odn dep rsz lgd llf ldb ldy lsz lti pgd plf pun psz bgd bam bwt bsh brm bsz cab cbl tod imp dis owe itr)) C E (g_runV (As := [.int x1, .int x6]) (rest := [.ref (a 15), .long x4]) C E (c_X3_goodAt_i e4) (cwV 2 hts gX6_takeNeeds_X3_goodAt rfl rfl rfl ⟨rfl, hd_X3_goodAt_i⟩ ⟨Nat.le_of_ble_eq_true rfl, Nat.le_of_ble_eq_true rfl⟩) (q0 := 4) (ci := 3) rfl rfl rfl rfl hl.1 rfl (Nat.le_of_ble_eq_true rfl) dX6_takeNeeds_35 ⟨Nat.le_of_ble_eq_true rfl, Nat.le_of_ble_eq_true rfl⟩) (fun H locs E => ?_)
      refine lv_aload_n hx hb dX6_takeNeeds_38 rfl (lv_at hl 3 rfl) ?_
      refine lv_iload_n hx hb dX6_takeNeeds_39 rfl (lv_at hl 1 rfl) ?_
      refine lv_iload hx hb dX6_takeNeeds_40 (lv_at hl 5 rfl) ?_
      refine lv_iload_n hx hb dX6_takeNeeds_42 rfl (lv_at hl 2 rfl) ?_
      obtain ⟨o5, e6, hf⟩ := bd_some hf
      refine g_calll (w' := (cW a cI cJ cZ vl hs isz igd iup idn osz ogd oup odn dep rsz lgd llf ldb ldy lsz lti pgd plf pun psz bgd bam bwt bsh brm bsz cab cbl tod imp dis owe itr)) C E (g_runV (As := [.int x1, .int x6, .int x2]) (rest := [.int o3, .ref (a 15), .long x4]) C E (c_X3_roundedUp_i e6) (cwV 3 hts gX6_takeNeeds_X3_roundedUp rfl rfl rfl ⟨rfl, hd_X3_roundedUp_i⟩ ⟨Nat.le_of_ble_eq_true rfl, Nat.le_of_ble_eq_true rfl⟩) (q0 := 4) (ci := 3) rfl rfl rfl rfl hl.1 rfl (Nat.le_of_ble_eq_true rfl) dX6_takeNeeds_43 ⟨Nat.le_of_ble_eq_true rfl, Nat.le_of_ble_eq_true rfl⟩) (fun H locs E => ?_)
      refine lv_aload_n hx hb dX6_takeNeeds_46 rfl (lv_at hl 0 rfl) ?_
      refine g_get C E 0 6 (fun _ h => List.mem_cons_of_mem _ (List.mem_append_left _ (List.mem_append_left _ (List.mem_append_left _ (List.mem_append_right _ h))))) rfl rfl (by decide) (List.mem_of_getElem? (i := 5) rfl) rfl rfl dX6_takeNeeds_47 ?_
      obtain ⟨o7, e8, hf⟩ := bd_some hf
      refine g_calll (w' := (cW a cI cJ cZ vl hs isz igd iup idn osz ogd oup odn dep rsz lgd o7.2.1 o7.2.2.1 ldy lsz o7.2.2.2 pgd plf pun psz bgd bam bwt bsh brm bsz cab cbl tod imp dis owe itr)) C E (g_runV (As := [.int o3, .long o5, .int tod]) (rest := [.long x4]) C E (c_X2_take e8) (cwV 3 hts gX6_takeNeeds_X2_take rfl rfl rfl ⟨rfl, hd_X2_take⟩ ⟨Nat.le_of_ble_eq_true rfl, Nat.le_of_ble_eq_true rfl⟩) (q0 := 15) (ci := 2) rfl rfl rfl rfl hl.1 rfl (Nat.le_of_ble_eq_true rfl) dX6_takeNeeds_50 ⟨Nat.le_of_ble_eq_true rfl, Nat.le_of_ble_eq_true rfl⟩) (fun H locs E => ?_)
      refine lv_ladd hx hb dX6_takeNeeds_53 ?_
      refine lv_lstore (lv' := [(4, .long (x4 + o7.1)), (0, .ref (a 0)), (1, .int x1), (2, .int x2), (3, .ref (a 4)), (6, .int x6)]) hx hb dX6_takeNeeds_54 hl (by decide) rfl (fun ls hl => ?_)
      refine lv_iinc (v := (x6 + 1)) (lv' := [(6, .int (x6 + 1)), (4, .long (x4 + o7.1)), (0, .ref (a 0)), (1, .int x1), (2, .int x2), (3, .ref (a 4))]) hx hb dX6_takeNeeds_56 hl (k := 5) rfl rfl (by decide) rfl (fun ls hl => ?_)
      refine lv_goto (tgt := 14) hx hb dX6_takeNeeds_59 (by decide) ?_
      exact ih o7.2.1 o7.2.2.1 o7.2.2.2 (x4 + o7.1) (x6 + 1) _ _ _ E (lv_sub hl [2, 3, 4, 5, 1, 0] rfl) hf
def f_X6_takeNeeds (isz : Nat → Int32) (igd : Nat → Int32) (iup : Nat → Int32) (idn : Nat → Int32) (lgd : Nat → Int32) (llf : Nat → Int64) (ldb : Nat → Int64) (ldy : Nat → Int32) (lsz : Int32) (lti : Int64) (tod : Int32) (x1 : Int32) (x2 : Int32) : Option (Int64 × (Nat → Int64) × (Nat → Int64) × (Int64)) :=
  f_X6_takeNeeds_L14 isz igd iup idn lgd ldy lsz tod x1 x2 FU llf ldb lti (0 : Int64) (0 : Int32)
set_option maxHeartbeats 4000000 in
set_option maxRecDepth 100000 in
theorem c_X6_takeNeeds {l : Launch} {D : va_G} {cI cJ cZ : ClassId} {a : Nat → Nat} {sz : Nat} {vl : Nat → Int32} {hs : Nat → Int32} {isz : Nat → Int32} {igd : Nat → Int32} {iup : Nat → Int32} {idn : Nat → Int32} {osz : Nat → Int32} {ogd : Nat → Int32} {oup : Nat → Int32} {odn : Nat → Int32} {dep : Nat → Int32} {rsz : Int32} {lgd : Nat → Int32} {llf : Nat → Int64} {ldb : Nat → Int64} {ldy : Nat → Int32} {lsz : Int32} {lti : Int64} {pgd : Nat → Int32} {plf : Nat → Int64} {pun : Nat → Int32} {psz : Int32} {bgd : Nat → Int32} {bam : Nat → Int64} {bwt : Nat → Int64} {bsh : Nat → Int64} {brm : Nat → Int64} {bsz : Int32} {cab : Nat → Int64} {cbl : Nat → Int64} {tod : Int32} {imp : Int64} {dis : Int64} {owe : Int64} {itr : Int64} {x1 : Int32} {x2 : Int32} {o : Int64 × (Nat → Int64) × (Nat → Int64) × (Int64)} (hf : f_X6_takeNeeds isz igd iup idn lgd llf ldb ldy lsz lti tod x1 x2 = some o) : gMl l yX6_takeNeeds wsX6_takeNeeds rm_X6_takeNeeds D (gT cI cJ cZ) (cW a cI cJ cZ vl hs isz igd iup idn osz ogd oup odn dep rsz lgd llf ldb ldy lsz lti pgd plf pun psz bgd bam bwt bsh brm bsz cab cbl tod imp dis owe itr) (cW a cI cJ cZ vl hs isz igd iup idn osz ogd oup odn dep rsz lgd o.2.1 o.2.2.1 ldy lsz o.2.2.2 pgd plf pun psz bgd bam bwt bsh brm bsz cab cbl tod imp dis owe itr) sz [.ref (a 0), .int x1, .int x2] o.1 := by
  refine g_of (cc := cX6_takeNeeds) (maxL := 7) (ret := (some .long)) (by decide) rfl (Nat.le_of_ble_eq_true rfl) ?_
  intro p e s m below meth c A ls hAe C hl E
  rw [← hAe]
  obtain ⟨hx, hb, hr, hml, hown, hts, hlocks, hN, hA⟩ := id C
  have hl : lv_has ls 7 [(0, .ref (a 0)), (1, .int x1), (2, .int x2)] := hl
  have E : vE s A D (gT cI cJ cZ) (cW a cI cJ cZ vl hs isz igd iup idn osz ogd oup odn dep rsz lgd llf ldb ldy lsz lti pgd plf pun psz bgd bam bwt bsh brm bsz cab cbl tod imp dis owe itr) s.heap [] := E
  rw [f_X6_takeNeeds] at hf
  refine lv_aload_n hx hb dX6_takeNeeds_0 rfl (lv_at hl 0 rfl) ?_
  refine g_get C E 0 1 (fun _ h => List.mem_cons_of_mem _ (List.mem_append_left _ (List.mem_append_left _ (List.mem_append_left _ (List.mem_append_right _ h))))) rfl rfl (by decide) (List.mem_of_getElem? (i := 1) rfl) rfl rfl dX6_takeNeeds_1 ?_
  refine g_get C E 2 1 (fun _ h => List.mem_cons_of_mem _ (List.mem_append_left _ (List.mem_append_left _ (List.mem_append_right _ h)))) rfl rfl (by decide) (List.mem_of_getElem? (i := 2) rfl) rfl rfl dX6_takeNeeds_4 ?_
  refine lv_astore_n (lv' := [(3, .ref (a 4)), (0, .ref (a 0)), (1, .int x1), (2, .int x2)]) hx hb dX6_takeNeeds_7 rfl hl (by decide) rfl (fun ls hl => ?_)
  refine lv_lconst (v := 0) hx hb dX6_takeNeeds_8 (by decide) ?_
  refine lv_lstore (lv' := [(4, .long (0 : Int64)), (3, .ref (a 4)), (0, .ref (a 0)), (1, .int x1), (2, .int x2)]) hx hb dX6_takeNeeds_9 hl (by decide) rfl (fun ls hl => ?_)
  refine lv_iconst (v := 0) hx hb dX6_takeNeeds_11 (by decide) ?_
  refine lv_istore (lv' := [(6, .int (0 : Int32)), (4, .long (0 : Int64)), (3, .ref (a 4)), (0, .ref (a 0)), (1, .int x1), (2, .int x2)]) hx hb dX6_takeNeeds_12 hl (by decide) rfl (fun ls hl => ?_)
  exact w_X6_takeNeeds_L14 C  FU llf ldb lti (0 : Int64) (0 : Int32) _ _ _ E (lv_sub hl [3, 4, 5, 2, 1, 0] rfl) hf
end
