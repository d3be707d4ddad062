section
-- ===== PART A: goes FIRST, ahead of the names: the tables' words, and 'selects' of the private methods out of them =====
/-- a private method of a class that the tables say can be made, by its rows of tables_1 -/
def lw_okq (q : MethodName × Nat) : Prop := (q.1.cls ≠ "java/lang/invoke/MethodHandle" ∧ q.1.cls ≠ "java/lang/invoke/VarHandle") ∧ Cond.instantiable q.1.cls q.2 ∈ tables_1 ∧ Cond.privateMethod q.1 ∈ tables_1 ∧ Cond.instanceMethod q.1 ∈ tables_1
theorem lw_p0 : lw_okq (⟨"java/lang/Throwable", "fillInStackTrace", "(I)Ljava/lang/Throwable;"⟩, 6) := ⟨⟨by decide +kernel, by decide +kernel⟩, List.mem_of_getElem? (i := 79) (by decide +kernel), List.mem_of_getElem? (i := 77) (by decide +kernel), List.mem_of_getElem? (i := 78) (by decide +kernel)⟩
theorem lw_p1 : lw_okq (⟨"FoldRow", "effectOf", "(II)LFoldRow$Effect;"⟩, 2) := ⟨⟨by decide +kernel, by decide +kernel⟩, List.mem_of_getElem? (i := 12) (by decide +kernel), List.mem_of_getElem? (i := 162) (by decide +kernel), List.mem_of_getElem? (i := 163) (by decide +kernel)⟩
theorem lw_p2 : lw_okq (⟨"FoldRow$Effect", "thenAdd", "(J)V"⟩, 5) := ⟨⟨by decide +kernel, by decide +kernel⟩, List.mem_of_getElem? (i := 166) (by decide +kernel), List.mem_of_getElem? (i := 196) (by decide +kernel), List.mem_of_getElem? (i := 197) (by decide +kernel)⟩
theorem lw_p3 : lw_okq (⟨"FoldRow$Effect", "thenGreater", "(J)V"⟩, 5) := ⟨⟨by decide +kernel, by decide +kernel⟩, List.mem_of_getElem? (i := 166) (by decide +kernel), List.mem_of_getElem? (i := 200) (by decide +kernel), List.mem_of_getElem? (i := 201) (by decide +kernel)⟩
theorem lw_p4 : lw_okq (⟨"FoldRow$Effect", "thenLesser", "(J)V"⟩, 5) := ⟨⟨by decide +kernel, by decide +kernel⟩, List.mem_of_getElem? (i := 166) (by decide +kernel), List.mem_of_getElem? (i := 207) (by decide +kernel), List.mem_of_getElem? (i := 208) (by decide +kernel)⟩
theorem lw_p5 : lw_okq (⟨"FoldRow", "countBusy", "(II)I"⟩, 2) := ⟨⟨by decide +kernel, by decide +kernel⟩, List.mem_of_getElem? (i := 12) (by decide +kernel), List.mem_of_getElem? (i := 284) (by decide +kernel), List.mem_of_getElem? (i := 285) (by decide +kernel)⟩
theorem lw_p6 : lw_okq (⟨"FoldRowModel", "fails", "(ZI)Z"⟩, 3) := ⟨⟨by decide +kernel, by decide +kernel⟩, List.mem_of_getElem? (i := 296) (by decide +kernel), List.mem_of_getElem? (i := 329) (by decide +kernel), List.mem_of_getElem? (i := 330) (by decide +kernel)⟩
theorem lw_p7 : lw_okq (⟨"FoldRowModel", "made", "(IIJ)J"⟩, 3) := ⟨⟨by decide +kernel, by decide +kernel⟩, List.mem_of_getElem? (i := 296) (by decide +kernel), List.mem_of_getElem? (i := 354) (by decide +kernel), List.mem_of_getElem? (i := 355) (by decide +kernel)⟩
theorem lw_p8 : lw_okq (⟨"FoldRowModel", "ends", "(IIJ)Z"⟩, 3) := ⟨⟨by decide +kernel, by decide +kernel⟩, List.mem_of_getElem? (i := 296) (by decide +kernel), List.mem_of_getElem? (i := 368) (by decide +kernel), List.mem_of_getElem? (i := 369) (by decide +kernel)⟩
def lw_privs_1 : List (MethodName × Nat) := [(⟨"java/lang/Throwable", "fillInStackTrace", "(I)Ljava/lang/Throwable;"⟩, 6), (⟨"FoldRow", "effectOf", "(II)LFoldRow$Effect;"⟩, 2), (⟨"FoldRow$Effect", "thenAdd", "(J)V"⟩, 5), (⟨"FoldRow$Effect", "thenGreater", "(J)V"⟩, 5), (⟨"FoldRow$Effect", "thenLesser", "(J)V"⟩, 5), (⟨"FoldRow", "countBusy", "(II)I"⟩, 2), (⟨"FoldRowModel", "fails", "(ZI)Z"⟩, 3), (⟨"FoldRowModel", "made", "(IIJ)J"⟩, 3), (⟨"FoldRowModel", "ends", "(IIJ)Z"⟩, 3)]
theorem lw_r1 : ∀ q ∈ lw_privs_1, lw_okq q := List.forall_mem_cons.mpr ⟨lw_p0, List.forall_mem_cons.mpr ⟨lw_p1, List.forall_mem_cons.mpr ⟨lw_p2, List.forall_mem_cons.mpr ⟨lw_p3, List.forall_mem_cons.mpr ⟨lw_p4, List.forall_mem_cons.mpr ⟨lw_p5, List.forall_mem_cons.mpr ⟨lw_p6, List.forall_mem_cons.mpr ⟨lw_p7, List.forall_mem_cons.mpr ⟨lw_p8, fun _ h => absurd h List.not_mem_nil⟩⟩⟩⟩⟩⟩⟩⟩⟩
def lw_privs : List (MethodName × Nat) := lw_privs_1
def lw_tbl : List Cond := k2_sels lw_privs ++ tables_1
theorem lw_privs_ok : ∀ q ∈ lw_privs, lw_okq q := lw_r1
end
section
/-! ===== BEGIN words of one list among another's, by their places ===== -/
theorem goodIn_r {big : List Cond} (ws : List Cond) (ps : List Nat) (hp : ws = ps.filterMap (fun i => big[i]?)) (h : ws.all goodWord = true) : GoodIn big ws := by
  intro w hw
  have h1 := List.all_eq_true.mp h w hw
  rw [hp] at hw
  obtain ⟨i, -, hi⟩ := List.mem_filterMap.mp hw
  have hm : w ∈ big := by first | exact List.mem_of_getElem? hi | exact List.getElem?_mem hi
  exact ⟨hm, good_of_word h1⟩
theorem goodIn_app {big a b : List Cond} (ha : GoodIn big a) (hb : GoodIn big b) : GoodIn big (a ++ b) := fun w h => (List.mem_append.mp h).elim (ha w) (hb w)
theorem goodIn_ca {big a b : List Cond} {c : Cond} (ha : GoodIn big (c :: a)) (hb : GoodIn big b) : GoodIn big (c :: (a ++ b)) := fun w h => (List.mem_cons.mp h).elim (fun e => ha w (List.mem_cons.mpr (Or.inl e))) (fun h => (List.mem_append.mp h).elim (fun h => ha w (List.mem_cons.mpr (Or.inr h))) (hb w))
theorem goodIn_sub {big ws : List Cond} (hm : ∀ w ∈ ws, w ∈ big) (h : ws.all goodWord = true) : GoodIn big ws := fun w hw => ⟨hm w hw, good_of_word (List.all_eq_true.mp h w hw)⟩
/-! ===== END ===== -/

/-! ===== BEGIN exceptions that leave a method, and their catching by the caller (launches without stack traces) ===== -/
section VXA
/-! The laws vx_back, vx_callV, vx_callS, vx_callSW, vx_throw0, vx_throwS follow proofs of the library, with one case more: JvmDerived/Free/Laws.lean (Back.of_free), Shelf42/LK1.lean (callV, callS), Shelf/KitTraced.lean (throwNew0V, throwNewS). -/
-- (the names of the library's Bundle are written out below)
/-- where a method has thrown q: the class by its name, the cell, what was written, the world -/
def vx_T (XC : String → State → State → Prop) (st : State) (q : Addr) (t : State) (mc ms : Nat) (free : Addr → Prop) : Prop :=
  ∃ (E : String) (ce : Cell) (L : List Loc), XC E st t ∧ t.heap[q]? = some ce ∧ ce.vm = .none ∧ st.vm.findClass E = some ce.cls ∧ st.WarmedH t.vm ∧ st.sameButNew ({ t with vm := st.vm } : State) L mc ms ∧ ∀ z ∈ L, free z.base
def vx_Q (Qc : Array Value → State → Outcome → State → Prop) (XC : String → State → State → Prop) (mc ms : Nat) (free : Addr → Prop) : Array Value → State → Outcome → State → Prop := fun a st o t =>
  (Qc a st o t ∧ ∃ L, FrameEnd st o t L mc ms ∧ ∀ q ∈ L, free q.base) ∨ ∃ q, o = .threw q ∧ vx_T XC st q t mc ms free
/-- a callee that returns or throws -/
def vx_Met (l : Launch) (y : MethodName) (ws : List Cond) (rm : Room) (Pc : Array Value → State → Prop) (Qc : Array Value → State → Outcome → State → Prop) (XC : String → State → State → Prop) (mc ms : Nat) (free : Addr → Prop) : Prop :=
  MetFree l y (headSpec ws rm) Pc (fun _ _ _ _ _ => True) (vx_Q Qc XC mc ms free)
def vx_Post (XC : String → State → State → Prop) (mc ms : Nat) (free : Addr → Prop) : Pt → Array Value → Addr → Pt → Prop := fun A a q B =>
  ∃ (g : JFrame) (mk : MethodId) (t : State) (L : List Loc) (E : String) (ce : Cell), B.U.heap = t.heap ∧ B.U.vm = t.vm ∧ XC E (A.U.calling g mk a) t ∧ t.heap[q]? = some ce ∧ ce.vm = .none ∧ A.U.vm.findClass E = some ce.cls ∧ B.locs = A.locs ++ L ∧ (∀ z ∈ L, free z.base) ∧ B.cells = A.cells + mc ∧ B.slots = A.slots + ms
def vx_Back (l : Launch) (R : Room) (p : Program) (e : Env) (below : List Frame) (s : State) (sargs : Array Value) (y : MethodName) (len W9 : Nat)
    (Pre : Pt → Array Value → Prop) (Post : Pt → Array Value → Option Value → Pt → Prop) (PostX : Pt → Array Value → Addr → Pt → Prop) : Prop :=
  ∀ (m : MethodId) (meth : Method) (c : Code) (A : Pt) (g : JFrame) (ig : Instr) (mk : MethodId) (a : Array Value),
    Stand p l e R s m sargs below meth c A.U A.locs A.cells A.slots → g.method = m → g.locals.size = c.maxLocals → decode c.code g.pc = .ok (ig, len) →
    2 * g.monitorRoom + (g.stack.map fun v => v.category).sum ≤ W9 → A.U.methodNamed? y = some mk → Pre A a →
    (∃ (v : Option Value) (B : Pt), Stand p l e R s m sargs below meth c B.U B.locs B.cells B.slots ∧ Post A a v B ∧
      Steps p.tables e below (doInvoke e (A.U.setTop g) [] mk a).1 (B.U.setTop { g with pc := g.pc + len, stack := v.toList ++ g.stack })) ∨
    (∃ (q : Addr) (B : Pt), Stand p l e R s m sargs below meth c B.U B.locs B.cells B.slots ∧ PostX A a q B ∧
      Steps p.tables e below (doInvoke e (A.U.setTop g) [] mk a).1 ((B.U.setTop g).pushFrame (.throwing q)))
section Payer
variable {l : Launch} {R : Room} {p : Program} {e : Env} {below : List Frame} {s : State} {sargs : Array Value} {y : MethodName} {len W9 : Nat}
theorem vx_back {ws : List Cond} {rm : Room} {Pc : Array Value → State → Prop} {Qc : Array Value → State → Outcome → State → Prop} {XC : String → State → State → Prop} {mc ms : Nat} {free : Addr → Prop} {bytes : ByteArray} {maxL : Nat} {ret : Option FieldType}
    (hM : vx_Met l y ws rm Pc Qc XC mc ms free) (hblind : FrameBlind Pc) (hrc : rm.cells = mc) (hrs : rm.slots = ms)
    (hframes : rm.frames + 1 ≤ R.frames) (hlocals : W9 + (maxL + 11) + rm.locals ≤ R.locals)
    (hws : ∀ w ∈ ws, ∀ a' U, s.WarmedH U.vm → w.before a' U = true) (hcode : Cond.code y bytes maxL ret ∈ ws) (hinit : ∀ a' U, s.WarmedH U.vm → (Cond.initialized y.cls).before a' U = true) :
    vx_Back l R p e below s sargs y len W9 (PreOf R mc ms Pc) (PostOf Qc mc ms free) (vx_Post XC mc ms free) := by
  intro m meth c A g ig mk a X hg hsize hdg hW hn hp
  have h1 : (headSpec ws rm).pre.before a A.U = true := atoms_intro fun w hw => hws w hw _ _ X.warmed
  have h2 : (Cond.code y bytes maxL ret).before a A.U = true := hws _ hcode _ _ X.warmed
  have h3 : (Cond.initialized y.cls).before a A.U = true := hinit _ _ X.warmed
  have h4 : A.cells + (headSpec ws rm).room.cells ≤ R.cells := by rw [show (headSpec ws rm).room.cells = mc from hrc]; exact hp.1
  have h5 : A.slots + (headSpec ws rm).room.slots ≤ R.slots := by rw [show (headSpec ws rm).room.slots = ms from hrs]; exact hp.2.1
  have hPc : Pc a (A.U.calling g mk a) := hblind _ _ _ _ hp.2.2
  obtain ⟨U, Ls, c0, s0⟩ := A
  dsimp only [Pt.U, Pt.locs, Pt.cells, Pt.slots] at h1 h2 h3 h4 h5 X hn hPc ⊢
  obtain ⟨methY, cY, hmY, hcY, -, hlY, -, -, -, -⟩ := Cond.code_spec hn h2
  obtain ⟨kY, hkY, -⟩ := className_of_methodNamed hn
  have hinitY : kY.init = .initialized := Cond.initialized_spec (findClass_of_methodNamed hn) hkY h3
  have h : At U g.method c below := by rw [hg]; exact X.here
  have hlocals9 : W9 + (maxL + 11) + (headSpec ws rm).room.locals ≤ R.locals := hlocals
  have happ : (headSpec ws rm).appliesLoose y e.platform (U.calling g mk a) = true :=
    Spec.appliesLoose_calling (g := g) h hdg hn hkY hinitY
      (X.room_calling (g := g) (R' := (headSpec ws rm).room) hsize hmY hcY hframes (by rw [hlY]; omega) h4 h5) h1
  obtain ⟨mid, hmid⟩ := h.above
  have hfr : (U.setTop g).frames = (.java g :: mid) ++ below := by rw [State.frames_setTop' g h.top, hmid]; rfl
  obtain ⟨o, s₂, hsteps, -, hend, hq⟩ := Steps.callFree hM p X.admits X.cas X.clock (acts := []) hfr happ hPc trivial
  have hq' : vx_Q Qc XC mc ms free a (U.calling g mk a) o s₂ := hq
  rw [State.frames_setTop' g h.top] at hend
  obtain ⟨g₀, hg0⟩ := Option.isSome_iff_exists.mp h.top
  obtain ⟨r, hr⟩ := State.topJava?_eq_some.mp hg0
  have hr' : (({ U with heap := s₂.heap, slotsUsed := s₂.slotsUsed } : State).setVm s₂.vm).frames = .java g₀ :: r := hr
  rcases hq' with ⟨hqc, L, hfe, hL⟩ | ⟨q, rfl, E, ce, L, hx, hce, hcv, hcl, hW₂, hsm, hL⟩
  · obtain ⟨⟨v, rfl⟩, hW₂, e2, q2, q3, q4, q5, q6⟩ := id hfe
    have e3 : s₂ = ({ (U.calling g mk a).setFrames s₂.frames with heap := s₂.heap, slotsUsed := s₂.slotsUsed } : State).setVm s₂.vm := by
      have : s₂ = ({ s₂ with vm := (U.calling g mk a).vm } : State).setVm s₂.vm := rfl
      rw [e2] at this
      exact this
    obtain ⟨c₂, i₂, len₂, hc₂, hd₂, hf₂⟩ := hend
    have hW' : U.WarmedH s₂.vm := hW₂
    have hcc : c₂ = c := by
      have h1 : s₂.code? g.method = U.code? g.method := by
        rw [State.code?_eq, State.code?_eq, hW'.alike.method?]
      exact Option.some.inj (hc₂.symm.trans (h1.trans h.code))
    subst hcc
    have hlen : len₂ = len := by rw [hdg] at hd₂; cases hd₂; rfl
    subst hlen
    have hs₂ : s₂ = (({ U with heap := s₂.heap, slotsUsed := s₂.slotsUsed } : State).setVm s₂.vm).setTop { g with pc := g.pc + len₂, stack := v.toList ++ g.stack } := by
      refine e3.trans ?_
      rw [hf₂, State.calling_eq h.top, State.setFrames_setFrames, State.setTop_of_frames _ hr', hr]
      rfl
    have hsame : U.sameButNew ({ U with heap := s₂.heap, slotsUsed := s₂.slotsUsed } : State) L mc ms := by
      refine ⟨?_, q2, q3, q4, q5, q6⟩
      obtain ⟨t, ht, -⟩ := State.frames_cons hr
      show ({ U with heap := s₂.heap, slotsUsed := s₂.slotsUsed } : State) = { U.setFrames U.frames with heap := s₂.heap, slotsUsed := s₂.slotsUsed }
      rw [State.setFrames_self ht]
    subst hg
    refine Or.inl ⟨v, ⟨(({ U with heap := s₂.heap, slotsUsed := s₂.slotsUsed } : State).setVm s₂.vm), Ls ++ L, c0 + mc, s0 + ms⟩,
      ⟨X.admits, X.cas, X.clock, X.frames, X.room, X.hears, X.method, X.code, (X.here.setHeapUsed s₂.heap s₂.slotsUsed).setVm hW'.alike, X.tail, State.WarmedH.trans X.warmed hW', X.limits, X.bytes, X.same.trans (hsame.setVm s.vm)⟩,
      ⟨g, mk, s₂, L, rfl, rfl, hqc, rfl, hL, rfl, rfl⟩, ?_⟩
    show Steps p.tables e below _ ((({ U with heap := s₂.heap, slotsUsed := s₂.slotsUsed } : State).setVm s₂.vm).setTop { g with pc := g.pc + len₂, stack := v.toList ++ g.stack })
    rw [← hs₂]
    exact hsteps
  · obtain ⟨e2, q2, q3, q4, q5, q6⟩ := id hsm
    have e3 : s₂ = ({ (U.calling g mk a).setFrames s₂.frames with heap := s₂.heap, slotsUsed := s₂.slotsUsed } : State).setVm s₂.vm := by
      have : s₂ = ({ s₂ with vm := (U.calling g mk a).vm } : State).setVm s₂.vm := rfl
      rw [e2] at this
      exact this
    have hf₂ : s₂.frames = .throwing q :: .java g :: U.frames.tail := hend
    have hW' : U.WarmedH s₂.vm := hW₂
    have hs₂ : s₂ = ((({ U with heap := s₂.heap, slotsUsed := s₂.slotsUsed } : State).setVm s₂.vm).setTop g).pushFrame (.throwing q) := by
      refine e3.trans ?_
      rw [hf₂, State.calling_eq h.top, State.setFrames_setFrames, State.pushFrame, State.frames_setTop _ hr', State.setTop_of_frames _ hr', State.setFrames_setFrames, hr]
      rfl
    have hsame : U.sameButNew ({ U with heap := s₂.heap, slotsUsed := s₂.slotsUsed } : State) L mc ms := by
      refine ⟨?_, q2, q3, q4, q5, q6⟩
      obtain ⟨t, ht, -⟩ := State.frames_cons hr
      show ({ U with heap := s₂.heap, slotsUsed := s₂.slotsUsed } : State) = { U.setFrames U.frames with heap := s₂.heap, slotsUsed := s₂.slotsUsed }
      rw [State.setFrames_self ht]
    subst hg
    refine Or.inr ⟨q, ⟨(({ U with heap := s₂.heap, slotsUsed := s₂.slotsUsed } : State).setVm s₂.vm), Ls ++ L, c0 + mc, s0 + ms⟩,
      ⟨X.admits, X.cas, X.clock, X.frames, X.room, X.hears, X.method, X.code, (X.here.setHeapUsed s₂.heap s₂.slotsUsed).setVm hW'.alike, X.tail, State.WarmedH.trans X.warmed hW', X.limits, X.bytes, X.same.trans (hsame.setVm s.vm)⟩,
      ⟨g, mk, s₂, L, E, ce, rfl, rfl, hx, hce, hcv, hcl, rfl, hL, rfl, rfl⟩, ?_⟩
    show Steps p.tables e below _ (((({ U with heap := s₂.heap, slotsUsed := s₂.slotsUsed } : State).setVm s₂.vm).setTop g).pushFrame (.throwing q))
    rw [← hs₂]
    exact hsteps
end Payer
section Calls
variable {p : Program} {l : Launch} {e : Env} {R : Room} {s : State} {m : MethodId} {args : Array Value} {below : List Frame} {meth : Method} {c : Code} {T : State} {locs : List Loc} {cells slots : Nat}
theorem vx_callV (X : Stand p l e R s m args below meth c T locs cells slots) (hexec : p.tables.exec = Jvm.exec) {own C : String} {index : Nat} {y : MethodName} {bytes : ByteArray} {maxL : Nat} {ret : Option FieldType}
    (hown : s.vm.findClass own = some m.cls) (hlink : (Cond.methodLink own index y).before args s = true) (hinst : (Cond.instanceMethod y).before args s = true) (hsel : (Cond.selects C y y).before args s = true)
    (hcode : (Cond.code y bytes maxL ret).before args s = true) (hy : y.cls ≠ "java/lang/invoke/MethodHandle" ∧ y.cls ≠ "java/lang/invoke/VarHandle")
    {W9 : Nat} {Pre : Pt → Array Value → Prop} {Post : Pt → Array Value → Option Value → Pt → Prop} {PostX : Pt → Array Value → Addr → Pt → Prop} (hK : vx_Back l R p e below s args y 3 W9 Pre Post PostX)
    {b : Addr} {cellB : Cell} (hcell : T.heap[b]? = some cellB) (hobj : cellB.vm.isStatics = false) (hcls : s.vm.findClass C = some cellB.cls)
    {g : JFrame} (hg : g.method = m) (hsize : g.locals.size = c.maxLocals) {argsL rest : List Value} (hlen : ∀ sig, parseMethodDescriptor y.desc = some sig → argsL.length = sig.parameters.length)
    (hstack : g.stack = argsL.reverse ++ .ref b :: rest) (hW : 2 * g.monitorRoom + (rest.map fun v => v.category).sum ≤ W9) (hdg : decode c.code g.pc = .ok (.invokevirtual index, 3))
    (hpre : ∀ vm₁, s.WarmedH vm₁ → Pre ⟨T.setVm vm₁, locs, cells, slots⟩ (Value.ref b :: argsL).toArray) :
    (∃ (v : Option Value) (vm₁ : Vm) (B : Pt), s.WarmedH vm₁ ∧ Stand p l e R s m args below meth c B.U B.locs B.cells B.slots ∧ Post ⟨T.setVm vm₁, locs, cells, slots⟩ (Value.ref b :: argsL).toArray v B ∧
      ∀ target, Steps p.tables e below (B.U.setTop { g with pc := g.pc + 3, stack := v.toList ++ rest }) target → Steps p.tables e below (T.setTop g) target) ∨
    (∃ (q : Addr) (vm₁ : Vm) (B : Pt), s.WarmedH vm₁ ∧ Stand p l e R s m args below meth c B.U B.locs B.cells B.slots ∧ PostX ⟨T.setVm vm₁, locs, cells, slots⟩ (Value.ref b :: argsL).toArray q B ∧
      Steps p.tables e below (T.setTop g) ((B.U.setTop { g with stack := rest }).pushFrame (.throwing q))) := by
  obtain ⟨mk, methM, hnamed, hmethM, hstM, habM⟩ := Cond.instanceMethod_spec hinst
  obtain ⟨methM', cM, hmethM', -, -, -, -, -, -, hsigM⟩ := Cond.code_spec hnamed hcode
  cases hmethM.symm.trans hmethM'
  obtain ⟨c2, r2, m2, q1, q2, q3, q4, kP, hkP, hkPi⟩ := Cond.selects_spec hsel
  cases hcls.symm.trans q1
  cases (State.methodFound?_of_named hnamed hy).symm.trans q2
  cases hnamed.symm.trans q3
  have hselP : selectMethod e.platform s.vm cellB.cls mk = .method mk := by rw [Launch.admits_selectMethod X.admits]; exact q4
  obtain ⟨vm₁, X₁, hstep₁⟩ := X.invokevirtual hexec hown hlink hnamed hmethM hstM hkP hkPi hy (a := b) (cell := cellB) hcell
    (fun z h => by rw [h] at hobj; cases hobj) hselP hmethM habM hkP hkPi (g := g) hg (argsL := argsL) (rest := rest) (hlen _ hsigM) hstack hdg
  rcases hK m meth c ⟨T.setVm vm₁, locs, cells, slots⟩ { g with stack := rest } (.invokevirtual index) mk (Value.ref b :: argsL).toArray X₁ hg hsize hdg hW (X₁.named hnamed) (hpre vm₁ X₁.warmed) with ⟨v, B, X', hpost, hsteps⟩ | ⟨q, B, X', hpost, hsteps⟩
  · exact Or.inl ⟨v, vm₁, B, X₁.warmed, X', hpost, fun target h => hstep₁ _ fun acts => by rw [doInvoke_state]; exact hsteps.trans h⟩
  · exact Or.inr ⟨q, vm₁, B, X₁.warmed, X', hpost, hstep₁ _ fun acts => by rw [doInvoke_state]; exact hsteps⟩
theorem vx_callS (X : Stand p l e R s m args below meth c T locs cells slots) (hexec : p.tables.exec = Jvm.exec) {own : String} {index : Nat} {y : MethodName} {bytes : ByteArray} {maxL : Nat} {ret : Option FieldType}
    (hown : s.vm.findClass own = some m.cls) (hlink : (Cond.methodLink own index y).before args s = true) (hstat : (Cond.static y).before args s = true) (hinit : (Cond.initialized y.cls).before args s = true)
    (hcode : (Cond.code y bytes maxL ret).before args s = true) (hy : y.cls ≠ "java/lang/invoke/MethodHandle" ∧ y.cls ≠ "java/lang/invoke/VarHandle")
    {W9 : Nat} {Pre : Pt → Array Value → Prop} {Post : Pt → Array Value → Option Value → Pt → Prop} {PostX : Pt → Array Value → Addr → Pt → Prop} (hK : vx_Back l R p e below s args y 3 W9 Pre Post PostX)
    {g : JFrame} (hg : g.method = m) (hsize : g.locals.size = c.maxLocals) {argsL rest : List Value} (hlen : ∀ sig, parseMethodDescriptor y.desc = some sig → argsL.length = sig.parameters.length)
    (hstack : g.stack = argsL.reverse ++ rest) (hW : 2 * g.monitorRoom + (rest.map fun v => v.category).sum ≤ W9) (hdg : decode c.code g.pc = .ok (.invokestatic index, 3))
    (hpre : ∀ vm₁, s.WarmedH vm₁ → Pre ⟨T.setVm vm₁, locs, cells, slots⟩ argsL.toArray) :
    (∃ (v : Option Value) (vm₁ : Vm) (B : Pt), s.WarmedH vm₁ ∧ Stand p l e R s m args below meth c B.U B.locs B.cells B.slots ∧ Post ⟨T.setVm vm₁, locs, cells, slots⟩ argsL.toArray v B ∧
      ∀ target, Steps p.tables e below (B.U.setTop { g with pc := g.pc + 3, stack := v.toList ++ rest }) target → Steps p.tables e below (T.setTop g) target) ∨
    (∃ (q : Addr) (vm₁ : Vm) (B : Pt), s.WarmedH vm₁ ∧ Stand p l e R s m args below meth c B.U B.locs B.cells B.slots ∧ PostX ⟨T.setVm vm₁, locs, cells, slots⟩ argsL.toArray q B ∧
      Steps p.tables e below (T.setTop g) ((B.U.setTop { g with stack := rest }).pushFrame (.throwing q))) := by
  obtain ⟨mk, hnamed⟩ := Cond.code_named hcode
  obtain ⟨methM, cM, hmethM, -, -, -, -, -, -, hsigM⟩ := Cond.code_spec hnamed hcode
  have hstatic : methM.isStatic = true := Cond.static_spec hnamed hmethM hstat
  obtain ⟨kP, hkP, -⟩ := className_of_methodNamed hnamed
  have hinitP : kP.init = .initialized := Cond.initialized_spec (findClass_of_methodNamed hnamed) hkP hinit
  obtain ⟨vm₁, X₁, hstep₁⟩ := X.invokestatic hexec hown hlink hnamed hmethM hstatic hkP hinitP hy (g := g) hg (argsL := argsL) (rest := rest) (hlen _ hsigM) hstack hdg
  rcases hK m meth c ⟨T.setVm vm₁, locs, cells, slots⟩ { g with stack := rest } (.invokestatic index) mk argsL.toArray X₁ hg hsize hdg hW (X₁.named hnamed) (hpre vm₁ X₁.warmed) with ⟨v, B, X', hpost, hsteps⟩ | ⟨q, B, X', hpost, hsteps⟩
  · exact Or.inl ⟨v, vm₁, B, X₁.warmed, X', hpost, fun target h => hstep₁ _ fun acts => by rw [doInvoke_state]; exact hsteps.trans h⟩
  · exact Or.inr ⟨q, vm₁, B, X₁.warmed, X', hpost, hstep₁ _ fun acts => by rw [doInvoke_state]; exact hsteps⟩
end Calls
theorem vx_cls {s : State} {T : State} {vm₁ : Vm} {E : String} {k : ClassId} (hW : s.WarmedH vm₁) (h : (T.setVm vm₁).vm.findClass E = some k) : s.vm.findClass E = some k := by
  have h1 : vm₁.findClass E = some k := h
  rw [hW.alike.findClass] at h1
  exact h1
/-- the method's frame g, with q thrown over it -/
def vx_W (p : Program) (l : Launch) (e : Env) (R : Room) (s : State) (m : MethodId) (args : Array Value) (below : List Frame) (meth : Method) (c : Code) (H : Heap) (locs : List Loc) (cells slots : Nat) (Q : State → Prop) (g : JFrame) (q : Addr) : Prop :=
  ∀ T : State, T.heap = H → Stand p l e R s m args below meth c T locs cells slots → ∃ t, Steps p.tables e below ((T.setTop g).pushFrame (.throwing q)) t ∧ Q t
def vx_Run (p : Program) (l : Launch) (e : Env) (R : Room) (s : State) (m : MethodId) (args : Array Value) (below : List Frame) (meth : Method) (c : Code) (H : Heap) (locs : List Loc) (cells slots mc ms : Nat) (g : JFrame) (rest : List Value) (Qa : State → Outcome → State → Prop) (XC : String → State → State → Prop) (free : Addr → Prop) : Prop :=
  ∀ T : State, T.heap = H → Stand p l e R s m args below meth c T locs cells slots →
    (∃ (v : Option Value) (st₀ t T' : State) (L : List Loc), st₀.heap = H ∧ Stand p l e R s m args below meth c T' (locs ++ L) (cells + mc) (slots + ms) ∧ (∀ q ∈ L, free q.base) ∧ T'.heap = t.heap ∧ T'.vm = t.vm ∧ Qa st₀ (.returned v) t ∧
      Goes p e below T g T' { g with pc := g.pc + 3, stack := v.toList ++ rest }) ∨
    (∃ (q : Addr) (st₀ t T' : State) (L : List Loc) (E : String) (ce : Cell), st₀.heap = H ∧ Stand p l e R s m args below meth c T' (locs ++ L) (cells + mc) (slots + ms) ∧ (∀ z ∈ L, free z.base) ∧ T'.heap = t.heap ∧ T'.vm = t.vm ∧ XC E st₀ t ∧ t.heap[q]? = some ce ∧ ce.vm = .none ∧ s.vm.findClass E = some ce.cls ∧
      Steps p.tables e below (T.setTop g) ((T'.setTop { g with stack := rest }).pushFrame (.throwing q)))
def vx_X {S : Type} (px : S → Prop) (B : String → S → State → Prop) (A : Nat → Prop) : String → State → State → Prop := fun E st t => ∃ u : S, px u ∧ B E u t ∧ va_F A st t
section Runs
variable {p : Program} {l : Launch} {e : Env} {R : Room} {s : State} {m : MethodId} {args : Array Value} {below : List Frame} {meth : Method} {c : Code} {H : Heap} {locs : List Loc} {cells slots : Nat}
variable {y : MethodName} {bytes cc : ByteArray} {maxL nL mc ms n index : Nat} {ret : Option FieldType} {ws : List Cond} {rm : Room} {Pc : Array Value → State → Prop} {Qc : Array Value → State → Outcome → State → Prop} {XC : String → State → State → Prop} {free : Addr → Prop} {Ts : List Cond} {own C : String} {b : Addr} {As rest : List Value} {g : JFrame}
theorem vx_callBack (cb : CallB R s args own index y bytes maxL ret ws rm mc ms n) (hM : vx_Met l y ws rm Pc Qc XC mc ms free) (hbl : FrameBlind Pc) : vx_Back l R p e below s args y 3 8 (PreOf R mc ms Pc) (PostOf Qc mc ms free) (vx_Post XC mc ms free) := by
  obtain ⟨hrc, hrs, hfr, hlo, hws, hcw, -, hini, -⟩ := cb
  exact vx_back (bytes := bytes) (maxL := maxL) (ret := ret) hM hbl hrc hrs hfr hlo hws hcw (fun a' U hW => word_at hW (Or.inl (by first | rfl | simp [Cond.onTables, Cond.keeps, Cond.steady])) hini)
theorem vx_runV (S : CallFix p m c cc nL s args Ts own) (hM : vx_Met l y ws rm Pc Qc XC mc ms free) (cw : CallW R s args own C index y bytes maxL ret ws rm mc ms n) (hp : PreV s H C b Pc As)
    (hg : g.method = m) (hn : As.length = n) (hsize : g.locals.size = nL) (hstack : g.stack = As.reverse ++ .ref b :: rest) (hW : 2 * g.monitorRoom + (rest.map fun v => v.category).sum ≤ 8) (hdg : decode cc g.pc = .ok (.invokevirtual index, 3)) (hf : cells + mc ≤ R.cells ∧ slots + ms ≤ R.slots) :
    vx_Run p l e R s m args below meth c H locs cells slots mc ms g rest (Qc (Value.ref b :: As).toArray) XC free := by
  have hK : vx_Back l R p e below s args y 3 8 (PreOf R mc ms Pc) (PostOf Qc mc ms free) (vx_Post XC mc ms free) := vx_callBack cw.1 hM hp.1
  obtain ⟨⟨-, -, -, -, -, -, hcode, -, hy, hlen, hl⟩, hin, hse⟩ := cw
  obtain ⟨hx, hb, hml, ho, -⟩ := S
  obtain ⟨-, ⟨cellB, hcB, hoB, hclB⟩, hPc⟩ := hp
  intro T hT X
  rcases vx_callV X hx (C := C) (bytes := bytes) (maxL := maxL) (ret := ret) ho hl hin hse hcode hy hK (by rw [hT]; exact hcB) hoB hclB hg (hsize.trans hml.symm) (argsL := As) (rest := rest) (fun sig h => hn.trans (hlen sig h)) hstack hW (by rw [hb]; exact hdg)
    (fun vm₁ hW₁ => ⟨hf.1, hf.2, hPc (T.setVm vm₁) hT hW₁⟩) with ⟨v, vm₁, ⟨U', l2, c2, s2⟩, hW₁, X', ⟨g', mk, t, L, e1, e2, hq, h1, hL, h2, h3⟩, st⟩ | ⟨q, vm₁, ⟨U', l2, c2, s2⟩, hW₁, X', ⟨g', mk, t, L, E, ce, e1, e2, hq, hce, hcv, hcl, h1, hL, h2, h3⟩, st⟩
  · dsimp only [Pt.U, Pt.locs, Pt.cells, Pt.slots] at X' e1 e2 h1 h2 h3 st
    subst h1; subst h2; subst h3
    exact Or.inl ⟨v, (T.setVm vm₁).calling g' mk (Value.ref b :: As).toArray, t, U', L, hT, X', hL, e1, e2, hq, st⟩
  · dsimp only [Pt.U, Pt.locs, Pt.cells, Pt.slots] at X' e1 e2 h1 h2 h3 st hcl
    subst h1; subst h2; subst h3
    exact Or.inr ⟨q, (T.setVm vm₁).calling g' mk (Value.ref b :: As).toArray, t, U', L, E, ce, hT, X', hL, e1, e2, hq, hce, hcv, vx_cls hW₁ hcl, st⟩
theorem vx_runS (S : CallFix p m c cc nL s args Ts own) (hM : vx_Met l y ws rm Pc Qc XC mc ms free) (cw : CallB R s args own index y bytes maxL ret ws rm mc ms n ∧ (Cond.static y).before args s = true) (hp : PreS s H Pc As)
    (hg : g.method = m) (hn : As.length = n) (hsize : g.locals.size = nL) (hstack : g.stack = As.reverse ++ rest) (hW : 2 * g.monitorRoom + (rest.map fun v => v.category).sum ≤ 8) (hdg : decode cc g.pc = .ok (.invokestatic index, 3)) (hf : cells + mc ≤ R.cells ∧ slots + ms ≤ R.slots) :
    vx_Run p l e R s m args below meth c H locs cells slots mc ms g rest (Qc As.toArray) XC free := by
  have hK : vx_Back l R p e below s args y 3 8 (PreOf R mc ms Pc) (PostOf Qc mc ms free) (vx_Post XC mc ms free) := vx_callBack cw.1 hM hp.1
  obtain ⟨⟨-, -, -, -, -, -, hcode, hini, hy, hlen, hl⟩, hstt⟩ := cw
  obtain ⟨hx, hb, hml, ho, -⟩ := S
  intro T hT X
  rcases vx_callS X hx (bytes := bytes) (maxL := maxL) (ret := ret) ho hl hstt hini hcode hy hK hg (hsize.trans hml.symm) (argsL := As) (rest := rest) (fun sig h => hn.trans (hlen sig h)) hstack hW (by rw [hb]; exact hdg)
    (fun vm₁ hW₁ => ⟨hf.1, hf.2, hp.2 (T.setVm vm₁) hT hW₁⟩) with ⟨v, vm₁, ⟨U', l2, c2, s2⟩, hW₁, X', ⟨g', mk, t, L, e1, e2, hq, h1, hL, h2, h3⟩, st⟩ | ⟨q, vm₁, ⟨U', l2, c2, s2⟩, hW₁, X', ⟨g', mk, t, L, E, ce, e1, e2, hq, hce, hcv, hcl, h1, hL, h2, h3⟩, st⟩
  · dsimp only [Pt.U, Pt.locs, Pt.cells, Pt.slots] at X' e1 e2 h1 h2 h3 st
    subst h1; subst h2; subst h3
    exact Or.inl ⟨v, (T.setVm vm₁).calling g' mk As.toArray, t, U', L, hT, X', hL, e1, e2, hq, st⟩
  · dsimp only [Pt.U, Pt.locs, Pt.cells, Pt.slots] at X' e1 e2 h1 h2 h3 st hcl
    subst h1; subst h2; subst h3
    exact Or.inr ⟨q, (T.setVm vm₁).calling g' mk As.toArray, t, U', L, E, ce, hT, X', hL, e1, e2, hq, hce, hcv, vx_cls hW₁ hcl, st⟩
end Runs
section Rows
variable {p : Program} {l : Launch} {e : Env} {R : Room} {s : State} {m : MethodId} {args : Array Value} {below : List Frame} {meth : Method} {c : Code} {H : Heap} {locs : List Loc} {cells slots : Nat} {Q : State → Prop}
variable {mc ms : Nat} {free : Addr → Prop} {A0 A1 : Nat → Prop} {H0 : Heap} {a : Array Value} {pc : Nat} {ls : Array Slot} {st0 rest : List Value}
theorem vx_keep {st₀ t T' : State} {L : List Loc} (h0 : st₀.heap = H) (e1 : T'.heap = t.heap) (hS : va_S A0 H0 H locs) (hA : ∀ q, q < H.size → A1 q → A0 q) (hf : ∀ q, free q → A0 q) (hL : ∀ q ∈ L, free q.base) (hF : va_F A1 st₀ t) :
    H.size ≤ T'.heap.size ∧ (∀ q : Nat, q < H.size → ¬ A1 q → T'.heap[q]? = H[q]?) ∧ va_S A0 H0 T'.heap (locs ++ L) := by
  obtain ⟨hz, hk⟩ := hF
  rw [h0] at hz hk
  exact ⟨by rw [e1]; exact hz, fun q h1 h2 => by rw [e1]; exact hk q h1 h2,
    ⟨Nat.le_trans hS.1 (by rw [e1]; exact hz), fun q h1 h2 => by rw [e1, hk q (Nat.lt_of_lt_of_le h1 hS.1) (fun z => h2 (hA q (Nat.lt_of_lt_of_le h1 hS.1) z))]; exact hS.2.1 q h1 h2, fun q hq => by
      rcases List.mem_append.mp hq with h | h
      · exact hS.2.2 q h
      · exact hf _ (hL q h)⟩⟩
theorem vx_calli {S SX : Type} {post : Int32 → S → Prop} {px : SX → Prop} {B : S → State → Prop} {BX : String → SX → State → Prop} {AX : Nat → Prop} (hr : vx_Run p l e R s m args below meth c H locs cells slots mc ms (F0 m pc ls st0) rest (va_Qi post B A1 a) (vx_X px BX AX) free) (hS : va_S A0 H0 H locs) (hA : ∀ q, q < H.size → A1 q → A0 q) (hf : ∀ q, free q → A0 q) (hAX : ∀ q, q < H.size → AX q → A0 q)
    (kx : ∀ (E : String) (ce : Cell) (q9 : Addr) (u : SX) (t : State) (H1 : Heap) (locs1 : List Loc), t.heap = H1 → s.vm.Alike t.vm → px u → BX E u t → H.size ≤ H1.size → (∀ q : Nat, q < H.size → ¬ AX q → H1[q]? = H[q]?) → va_S A0 H0 H1 locs1 → H1[q9]? = some ce → ce.vm = .none → s.vm.findClass E = some ce.cls → vx_W p l e R s m args below meth c H1 locs1 (cells + mc) (slots + ms) Q (F0 m pc ls rest) q9)
    (kk : ∀ (r : Int32) (u : S) (t : State) (H1 : Heap) (locs1 : List Loc), t.heap = H1 → s.vm.Alike t.vm → post r u → B u t → H.size ≤ H1.size → (∀ q : Nat, q < H.size → ¬ A1 q → H1[q]? = H[q]?) → va_S A0 H0 H1 locs1 → W p l e R s m args below meth c H1 locs1 (cells + mc) (slots + ms) Q (F0 m (pc + 3) ls (.int r :: rest))) : W p l e R s m args below meth c H locs cells slots Q (F0 m pc ls st0) := by
  intro T hT X
  rcases hr T hT X with ⟨v, st₀, t, T', L, h0, X', hL, e1, e2, ⟨⟨r, u, hv, hp, hb⟩, hF⟩, st⟩ | ⟨q, st₀, t, T', L, E, ce, h0, X', hL, e1, e2, ⟨u, hp, hb, hF⟩, hce, hcv, hcl, st⟩
  · cases hv
    obtain ⟨k1, k2, k3⟩ := vx_keep h0 e1 hS hA hf hL hF
    obtain ⟨t2, a1, b1⟩ := kk r u t T'.heap (locs ++ L) e1.symm (by rw [← e2]; exact X'.warmed.alike) hp hb k1 k2 k3 T' rfl X'
    exact ⟨t2, st t2 a1, b1⟩
  · obtain ⟨k1, k2, k3⟩ := vx_keep h0 e1 hS hAX hf hL hF
    obtain ⟨t2, a1, b1⟩ := kx E ce q u t T'.heap (locs ++ L) e1.symm (by rw [← e2]; exact X'.warmed.alike) hp hb k1 k2 k3 (by rw [e1]; exact hce) hcv hcl T' rfl X'
    exact ⟨t2, st.trans a1, b1⟩
theorem vx_calll {S SX : Type} {post : Int64 → S → Prop} {px : SX → Prop} {B : S → State → Prop} {BX : String → SX → State → Prop} {AX : Nat → Prop} (hr : vx_Run p l e R s m args below meth c H locs cells slots mc ms (F0 m pc ls st0) rest (va_Ql post B A1 a) (vx_X px BX AX) free) (hS : va_S A0 H0 H locs) (hA : ∀ q, q < H.size → A1 q → A0 q) (hf : ∀ q, free q → A0 q) (hAX : ∀ q, q < H.size → AX q → A0 q)
    (kx : ∀ (E : String) (ce : Cell) (q9 : Addr) (u : SX) (t : State) (H1 : Heap) (locs1 : List Loc), t.heap = H1 → s.vm.Alike t.vm → px u → BX E u t → H.size ≤ H1.size → (∀ q : Nat, q < H.size → ¬ AX q → H1[q]? = H[q]?) → va_S A0 H0 H1 locs1 → H1[q9]? = some ce → ce.vm = .none → s.vm.findClass E = some ce.cls → vx_W p l e R s m args below meth c H1 locs1 (cells + mc) (slots + ms) Q (F0 m pc ls rest) q9)
    (kk : ∀ (r : Int64) (u : S) (t : State) (H1 : Heap) (locs1 : List Loc), t.heap = H1 → s.vm.Alike t.vm → post r u → B u t → H.size ≤ H1.size → (∀ q : Nat, q < H.size → ¬ A1 q → H1[q]? = H[q]?) → va_S A0 H0 H1 locs1 → W p l e R s m args below meth c H1 locs1 (cells + mc) (slots + ms) Q (F0 m (pc + 3) ls (.long r :: rest))) : W p l e R s m args below meth c H locs cells slots Q (F0 m pc ls st0) := by
  intro T hT X
  rcases hr T hT X with ⟨v, st₀, t, T', L, h0, X', hL, e1, e2, ⟨⟨r, u, hv, hp, hb⟩, hF⟩, st⟩ | ⟨q, st₀, t, T', L, E, ce, h0, X', hL, e1, e2, ⟨u, hp, hb, hF⟩, hce, hcv, hcl, st⟩
  · cases hv
    obtain ⟨k1, k2, k3⟩ := vx_keep h0 e1 hS hA hf hL hF
    obtain ⟨t2, a1, b1⟩ := kk r u t T'.heap (locs ++ L) e1.symm (by rw [← e2]; exact X'.warmed.alike) hp hb k1 k2 k3 T' rfl X'
    exact ⟨t2, st t2 a1, b1⟩
  · obtain ⟨k1, k2, k3⟩ := vx_keep h0 e1 hS hAX hf hL hF
    obtain ⟨t2, a1, b1⟩ := kx E ce q u t T'.heap (locs ++ L) e1.symm (by rw [← e2]; exact X'.warmed.alike) hp hb k1 k2 k3 (by rw [e1]; exact hce) hcv hcl T' rfl X'
    exact ⟨t2, st.trans a1, b1⟩
theorem vx_callf {S SX : Type} {post : UInt32 → S → Prop} {px : SX → Prop} {B : S → State → Prop} {BX : String → SX → State → Prop} {AX : Nat → Prop} (hr : vx_Run p l e R s m args below meth c H locs cells slots mc ms (F0 m pc ls st0) rest (va_Qf post B A1 a) (vx_X px BX AX) free) (hS : va_S A0 H0 H locs) (hA : ∀ q, q < H.size → A1 q → A0 q) (hf : ∀ q, free q → A0 q) (hAX : ∀ q, q < H.size → AX q → A0 q)
    (kx : ∀ (E : String) (ce : Cell) (q9 : Addr) (u : SX) (t : State) (H1 : Heap) (locs1 : List Loc), t.heap = H1 → s.vm.Alike t.vm → px u → BX E u t → H.size ≤ H1.size → (∀ q : Nat, q < H.size → ¬ AX q → H1[q]? = H[q]?) → va_S A0 H0 H1 locs1 → H1[q9]? = some ce → ce.vm = .none → s.vm.findClass E = some ce.cls → vx_W p l e R s m args below meth c H1 locs1 (cells + mc) (slots + ms) Q (F0 m pc ls rest) q9)
    (kk : ∀ (r : UInt32) (u : S) (t : State) (H1 : Heap) (locs1 : List Loc), t.heap = H1 → s.vm.Alike t.vm → post r u → B u t → H.size ≤ H1.size → (∀ q : Nat, q < H.size → ¬ A1 q → H1[q]? = H[q]?) → va_S A0 H0 H1 locs1 → W p l e R s m args below meth c H1 locs1 (cells + mc) (slots + ms) Q (F0 m (pc + 3) ls (.float r :: rest))) : W p l e R s m args below meth c H locs cells slots Q (F0 m pc ls st0) := by
  intro T hT X
  rcases hr T hT X with ⟨v, st₀, t, T', L, h0, X', hL, e1, e2, ⟨⟨r, u, hv, hp, hb⟩, hF⟩, st⟩ | ⟨q, st₀, t, T', L, E, ce, h0, X', hL, e1, e2, ⟨u, hp, hb, hF⟩, hce, hcv, hcl, st⟩
  · cases hv
    obtain ⟨k1, k2, k3⟩ := vx_keep h0 e1 hS hA hf hL hF
    obtain ⟨t2, a1, b1⟩ := kk r u t T'.heap (locs ++ L) e1.symm (by rw [← e2]; exact X'.warmed.alike) hp hb k1 k2 k3 T' rfl X'
    exact ⟨t2, st t2 a1, b1⟩
  · obtain ⟨k1, k2, k3⟩ := vx_keep h0 e1 hS hAX hf hL hF
    obtain ⟨t2, a1, b1⟩ := kx E ce q u t T'.heap (locs ++ L) e1.symm (by rw [← e2]; exact X'.warmed.alike) hp hb k1 k2 k3 (by rw [e1]; exact hce) hcv hcl T' rfl X'
    exact ⟨t2, st.trans a1, b1⟩
theorem vx_calld {S SX : Type} {post : UInt64 → S → Prop} {px : SX → Prop} {B : S → State → Prop} {BX : String → SX → State → Prop} {AX : Nat → Prop} (hr : vx_Run p l e R s m args below meth c H locs cells slots mc ms (F0 m pc ls st0) rest (va_Qd post B A1 a) (vx_X px BX AX) free) (hS : va_S A0 H0 H locs) (hA : ∀ q, q < H.size → A1 q → A0 q) (hf : ∀ q, free q → A0 q) (hAX : ∀ q, q < H.size → AX q → A0 q)
    (kx : ∀ (E : String) (ce : Cell) (q9 : Addr) (u : SX) (t : State) (H1 : Heap) (locs1 : List Loc), t.heap = H1 → s.vm.Alike t.vm → px u → BX E u t → H.size ≤ H1.size → (∀ q : Nat, q < H.size → ¬ AX q → H1[q]? = H[q]?) → va_S A0 H0 H1 locs1 → H1[q9]? = some ce → ce.vm = .none → s.vm.findClass E = some ce.cls → vx_W p l e R s m args below meth c H1 locs1 (cells + mc) (slots + ms) Q (F0 m pc ls rest) q9)
    (kk : ∀ (r : UInt64) (u : S) (t : State) (H1 : Heap) (locs1 : List Loc), t.heap = H1 → s.vm.Alike t.vm → post r u → B u t → H.size ≤ H1.size → (∀ q : Nat, q < H.size → ¬ A1 q → H1[q]? = H[q]?) → va_S A0 H0 H1 locs1 → W p l e R s m args below meth c H1 locs1 (cells + mc) (slots + ms) Q (F0 m (pc + 3) ls (.double r :: rest))) : W p l e R s m args below meth c H locs cells slots Q (F0 m pc ls st0) := by
  intro T hT X
  rcases hr T hT X with ⟨v, st₀, t, T', L, h0, X', hL, e1, e2, ⟨⟨r, u, hv, hp, hb⟩, hF⟩, st⟩ | ⟨q, st₀, t, T', L, E, ce, h0, X', hL, e1, e2, ⟨u, hp, hb, hF⟩, hce, hcv, hcl, st⟩
  · cases hv
    obtain ⟨k1, k2, k3⟩ := vx_keep h0 e1 hS hA hf hL hF
    obtain ⟨t2, a1, b1⟩ := kk r u t T'.heap (locs ++ L) e1.symm (by rw [← e2]; exact X'.warmed.alike) hp hb k1 k2 k3 T' rfl X'
    exact ⟨t2, st t2 a1, b1⟩
  · obtain ⟨k1, k2, k3⟩ := vx_keep h0 e1 hS hAX hf hL hF
    obtain ⟨t2, a1, b1⟩ := kx E ce q u t T'.heap (locs ++ L) e1.symm (by rw [← e2]; exact X'.warmed.alike) hp hb k1 k2 k3 (by rw [e1]; exact hce) hcv hcl T' rfl X'
    exact ⟨t2, st.trans a1, b1⟩
theorem vx_callv {S SX : Type} {post : S → Prop} {px : SX → Prop} {B : S → State → Prop} {BX : String → SX → State → Prop} {AX : Nat → Prop} (hr : vx_Run p l e R s m args below meth c H locs cells slots mc ms (F0 m pc ls st0) rest (va_Qv post B A1 a) (vx_X px BX AX) free) (hS : va_S A0 H0 H locs) (hA : ∀ q, q < H.size → A1 q → A0 q) (hf : ∀ q, free q → A0 q) (hAX : ∀ q, q < H.size → AX q → A0 q)
    (kx : ∀ (E : String) (ce : Cell) (q9 : Addr) (u : SX) (t : State) (H1 : Heap) (locs1 : List Loc), t.heap = H1 → s.vm.Alike t.vm → px u → BX E u t → H.size ≤ H1.size → (∀ q : Nat, q < H.size → ¬ AX q → H1[q]? = H[q]?) → va_S A0 H0 H1 locs1 → H1[q9]? = some ce → ce.vm = .none → s.vm.findClass E = some ce.cls → vx_W p l e R s m args below meth c H1 locs1 (cells + mc) (slots + ms) Q (F0 m pc ls rest) q9)
    (kk : ∀ (u : S) (t : State) (H1 : Heap) (locs1 : List Loc), t.heap = H1 → s.vm.Alike t.vm → post u → B u t → H.size ≤ H1.size → (∀ q : Nat, q < H.size → ¬ A1 q → H1[q]? = H[q]?) → va_S A0 H0 H1 locs1 → W p l e R s m args below meth c H1 locs1 (cells + mc) (slots + ms) Q (F0 m (pc + 3) ls (rest))) : W p l e R s m args below meth c H locs cells slots Q (F0 m pc ls st0) := by
  intro T hT X
  rcases hr T hT X with ⟨v, st₀, t, T', L, h0, X', hL, e1, e2, ⟨⟨u, hv, hp, hb⟩, hF⟩, st⟩ | ⟨q, st₀, t, T', L, E, ce, h0, X', hL, e1, e2, ⟨u, hp, hb, hF⟩, hce, hcv, hcl, st⟩
  · cases hv
    obtain ⟨k1, k2, k3⟩ := vx_keep h0 e1 hS hA hf hL hF
    obtain ⟨t2, a1, b1⟩ := kk u t T'.heap (locs ++ L) e1.symm (by rw [← e2]; exact X'.warmed.alike) hp hb k1 k2 k3 T' rfl X'
    exact ⟨t2, st t2 a1, b1⟩
  · obtain ⟨k1, k2, k3⟩ := vx_keep h0 e1 hS hAX hf hL hF
    obtain ⟨t2, a1, b1⟩ := kx E ce q u t T'.heap (locs ++ L) e1.symm (by rw [← e2]; exact X'.warmed.alike) hp hb k1 k2 k3 (by rw [e1]; exact hce) hcv hcl T' rfl X'
    exact ⟨t2, st.trans a1, b1⟩
end Rows
section Ends
variable {p : Program} {l : Launch} {e : Env} {R : Room} {s : State} {m : MethodId} {args : Array Value} {below : List Frame} {meth : Method} {c : Code} {H : Heap} {locs : List Loc} {cells slots : Nat} {Q : State → Prop}
variable {mc ms : Nat} {free : Addr → Prop} {A0 A1 : Nat → Prop} {H0 : Heap} {a : Array Value} {ls : Array Slot} {st0 rest : List Value}
variable {Qc : Array Value → State → Outcome → State → Prop} {XC : String → State → State → Prop}
/-- what a body that may throw owes at its end -/
def vx_MQ (below : List Frame) (Qc : Array Value → State → Outcome → State → Prop) (XC : String → State → State → Prop) (a : Array Value) (s : State) (mc ms : Nat) (free : Addr → Prop) : State → Prop := fun t =>
  ∃ o, t.status = .running ∧ Ended t below o ∧ vx_Q Qc XC mc ms free a s o t
theorem vx_ret {g : JFrame} {mc ms : Nat} (k : W p l e R s m args below meth c H locs cells slots (MQ below Qc args s mc ms free) g) : W p l e R s m args below meth c H locs cells slots (vx_MQ below Qc XC args s mc ms free) g := by
  intro T hT X
  obtain ⟨t, a1, o, b1, b2, b3, b4⟩ := k T hT X
  exact ⟨t, a1, o, b1, b2, Or.inl ⟨b3, b4⟩⟩
/-- not caught here: it goes on to the caller -/
theorem vx_widen {g : JFrame} {q : Addr} {k n : Nat} (h1 : cells ≤ k) (h2 : slots ≤ n) (kk : vx_W p l e R s m args below meth c H locs k n Q g q) : vx_W p l e R s m args below meth c H locs cells slots Q g q := fun T hT X => kk T hT (stand_widen X h1 h2)
theorem vx_out {pc : Nat} {E : String} {ce : Cell} {q : Addr} {mc ms : Nat} (hout : ∀ x ∈ c.exceptionTable.toList, covers x pc = false) (hlocks : meth.locks = false) (hcell : H[q]? = some ce) (hv : ce.vm = .none) (hcl : s.vm.findClass E = some ce.cls)
    (hx : ∀ t : State, t.heap = H → s.vm.Alike t.vm → XC E s t) (hf : ∀ z ∈ locs, free z.base) (hc : cells ≤ mc) (hs : slots ≤ ms) :
    vx_W p l e R s m args below meth c H locs cells slots (vx_MQ below Qc XC args s mc ms free) (F0 m pc ls rest) q := by
  intro T hT X
  obtain ⟨st1, hrun, hend, hW, hsm⟩ := X.leaveThrown q (g := F0 m pc ls rest) rfl rfl rfl hout hlocks
  have hcell9 : (T.setFrames (.throwing q :: below)).heap[q]? = some ce := by
    show T.heap[q]? = some ce
    rw [hT]; exact hcell
  exact ⟨_, st1, .threw q, hrun, hend, Or.inr ⟨q, rfl, E, ce, locs, hx _ hT hW.alike, hcell9, hv, hcl, hW, hsm.mono hc hs, hf⟩⟩
theorem vx_frame {U : State} {k n : Nat} (h : s.sameButNew ({ U with vm := s.vm } : State) locs k n) : s.heap.size ≤ U.heap.size ∧ ∀ q : Nat, q < s.heap.size → (∀ z ∈ locs, z.base ≠ q) → U.heap[q]? = s.heap[q]? := by
  obtain ⟨-, h2, -, -, -, h6⟩ := h
  refine ⟨h2, fun q hq hz => ?_⟩
  obtain ⟨c9, e1, e2, e3, e4⟩ := h6 q _ (Array.getElem?_eq_getElem hq)
  have hs : c9.slots = (s.heap[q]).slots := Array.ext_getElem? fun i => e4 i fun hm => hz _ hm rfl
  have h9 : c9 = s.heap[q] := by
    rw [hs] at e2
    exact e2
  have e5 : U.heap[q]? = some c9 := e1
  rw [e5, h9, Array.getElem?_eq_getElem hq]
/-- the words of a throw but the four that speak of the heap -/
def vx_no (w : Cond) : Bool := decide (w ≠ .isRef (.static Bundle.tN "UNASSIGNED_STACK" Bundle.steD)) && decide (w ≠ .isRef (.static Bundle.tN "SUPPRESSED_SENTINEL" Bundle.listD)) && decide (w ≠ .laysStatic Bundle.tN "UNASSIGNED_STACK" Bundle.steD) && decide (w ≠ .laysStatic Bundle.tN "SUPPRESSED_SENTINEL" Bundle.listD)
def vx_at0 (own : String) (ic : Nat) (X : String) (names : List String) : List Cond := (Bundle.ownAtoms0 own ic X names).filter vx_no
def vx_atS (own : String) (ic : Nat) (X : String) (names : List String) : List Cond := (Bundle.ownAtoms own ic X names).filter vx_no
/-- a word that the tables alone decide, or a good one -/
def vx_ot (w : Cond) : Bool := w.onTables || goodWord w
theorem vx_ot_at {args a' : Array Value} {s U : State} {w : Cond} (hW : s.WarmedH U.vm) (hvm : s.vm = U.vm) (hg : vx_ot w = true) (h : w.before args s = true) : w.before a' U = true := by
  simp only [vx_ot, Bool.or_eq_true] at hg
  rcases hg with hg | hg
  · exact va_tabs hg hvm h
  · exact word_at hW (good_of_word hg) h
/-- a list's words: the good ones out of the method's own list, the others by premises of their own -/
theorem vx_hat {args : Array Value} {s : State} {L B : List Cond} (h1 : ∀ w ∈ L.filter goodWord, w.before args s = true) (h2 : ∀ w ∈ L.filter (fun w => !goodWord w), w ∈ B) (h3 : ∀ w ∈ B, w.before args s = true) : ∀ w ∈ L, w.before args s = true := by
  intro w hw
  by_cases g : goodWord w = true
  · exact h1 w (List.mem_filter.mpr ⟨hw, g⟩)
  · refine h3 w (h2 w (List.mem_filter.mpr ⟨hw, ?_⟩))
    show (!goodWord w) = true
    cases hgw : goodWord w
    · rfl
    · exact absurd hgw g
theorem vx_c {args : Array Value} {s : State} {w : Cond} {B : List Cond} (h : w.before args s = true) (t : ∀ w ∈ B, w.before args s = true) : ∀ w' ∈ w :: B, w'.before args s = true := fun w' h' => (List.mem_cons.mp h').elim (fun e => by rw [e]; exact h) (t w')
theorem vx_n {args : Array Value} {s : State} : ∀ w ∈ ([] : List Cond), w.before args s = true := fun _ h => nomatch h
theorem vx_own {args : Array Value} {s : State} {L : List Cond} (h1 : ∀ w ∈ L.filter vx_no, w.before args s = true)
    (hU : (Cond.isRef (.static Bundle.tN "UNASSIGNED_STACK" Bundle.steD)).before args s = true) (hN : (Cond.isRef (.static Bundle.tN "SUPPRESSED_SENTINEL" Bundle.listD)).before args s = true)
    (lU : (Cond.laysStatic Bundle.tN "UNASSIGNED_STACK" Bundle.steD).before args s = true) (lN : (Cond.laysStatic Bundle.tN "SUPPRESSED_SENTINEL" Bundle.listD).before args s = true) : ∀ w ∈ L, w.before args s = true := by
  intro w hw
  by_cases e1 : w = .isRef (.static Bundle.tN "UNASSIGNED_STACK" Bundle.steD)
  · rw [e1]; exact hU
  · by_cases e2 : w = .isRef (.static Bundle.tN "SUPPRESSED_SENTINEL" Bundle.listD)
    · rw [e2]; exact hN
    · by_cases e3 : w = .laysStatic Bundle.tN "UNASSIGNED_STACK" Bundle.steD
      · rw [e3]; exact lU
      · by_cases e4 : w = .laysStatic Bundle.tN "SUPPRESSED_SENTINEL" Bundle.listD
        · rw [e4]; exact lN
        · exact h1 w (List.mem_filter.mpr ⟨hw, by unfold vx_no; rw [decide_eq_true e1, decide_eq_true e2, decide_eq_true e3, decide_eq_true e4]; rfl⟩)
/-- where a static field lies, its class's statics cell in H -/
def vx_L (C n d : String) (A : Nat → Prop) (U : State) (H : Heap) : Prop := ∃ (c : ClassId) (k : Class) (i : Nat) (f : Field) (a : Nat) (cell : Cell), U.vm.findClass C = some c ∧ U.fieldFound? C n d = some (c, k, i, f) ∧ f.isStatic = true ∧ k.statics = some a ∧ H[a]? = some cell ∧ cell.vm.isStatics = true ∧ cell.cls = c ∧ f.slot < cell.slots.size ∧ k.staticTypes[f.slot]? = some f.type ∧ ¬ A a
theorem vx_L.moved {C n d : String} {A : Nat → Prop} {u U : State} {H : Heap} (hvm : u.vm.Alike U.vm) (h : vx_L C n d A u H) : vx_L C n d A U H := by
  obtain ⟨c, k, i, f, a, cell, h1, h2, h3, h4, h5, h6, h7, h8, h9, h10⟩ := h
  obtain ⟨k', hi', he⟩ := State.fieldFound?_setVm hvm h2
  exact ⟨c, k', i, f, a, cell, by rw [hvm.findClass]; exact h1, hi', h3, by rw [he]; exact h4, h5, h6, h7, h8, by rw [he]; exact h9, h10⟩
theorem vx_L.kept {C n d : String} {A : Nat → Prop} {U : State} {H H1 : Heap} (h : vx_L C n d A U H) (hq : ∀ a : Nat, a < H.size → ¬ A a → H1[a]? = H[a]?) : vx_L C n d A U H1 := by
  obtain ⟨c, k, i, f, a, cell, h1, h2, h3, h4, h5, h6, h7, h8, h9, h10⟩ := h
  exact ⟨c, k, i, f, a, cell, h1, h2, h3, h4, by rw [hq a (Array.getElem?_eq_some_iff.mp h5).1 h10]; exact h5, h6, h7, h8, h9, h10⟩
theorem vx_L.narrow {C n d : String} {A B : Nat → Prop} {U : State} {H : Heap} (h : vx_L C n d A U H) (hAB : ∀ q, B q → A q) : vx_L C n d B U H := by
  obtain ⟨c, k, i, f, a, cell, h1, h2, h3, h4, h5, h6, h7, h8, h9, h10⟩ := h
  exact ⟨c, k, i, f, a, cell, h1, h2, h3, h4, h5, h6, h7, h8, h9, fun z => h10 (hAB _ z)⟩
theorem vx_L.word {C n d : String} {A : Nat → Prop} {s : State} {args : Array Value} (h : vx_L C n d A s s.heap) : (Cond.laysStatic C n d).before args s = true := by
  obtain ⟨c, k, i, f, a, cell, h1, h2, h3, h4, h5, h6, h7, h8, h9, -⟩ := h
  show (Cond.laysStatic C n d).holds args s none s [] = true
  exact Cond.laysStatic_of h1 h2 h3 h4 h5 h6 h7 h8 h9
/-- .. and what it holds: null or some reference -/
def vx_Zq (C n d : String) (A : Nat → Prop) (U : State) (H : Heap) : Prop := va_Zq C n d A U H ∧ vx_L C n d A U H
theorem vx_Zq.moved {C n d : String} {A : Nat → Prop} {u U : State} {H : Heap} (hvm : u.vm.Alike U.vm) (h : vx_Zq C n d A u H) : vx_Zq C n d A U H := ⟨va_Zq.moved hvm h.1, vx_L.moved hvm h.2⟩
theorem vx_Zq.kept {C n d : String} {A : Nat → Prop} {U : State} {H H1 : Heap} (h : vx_Zq C n d A U H) (hq : ∀ a : Nat, a < H.size → ¬ A a → H1[a]? = H[a]?) : vx_Zq C n d A U H1 := ⟨va_Zq.kept h.1 hq, vx_L.kept h.2 hq⟩
theorem vx_Zq.narrow {C n d : String} {A B : Nat → Prop} {U : State} {H : Heap} (h : vx_Zq C n d A U H) (hAB : ∀ q, B q → A q) : vx_Zq C n d B U H := ⟨va_Zq.narrow h.1 hAB, vx_L.narrow h.2 hAB⟩
theorem vx_Zqof {args : Array Value} {s : State} {C n d : String} {A : Nat → Prop} (hl : (Cond.laysStatic C n d).before args s = true) (hini : (Cond.initialized C).before args s = true) (h : (Cond.isRef (.static C n d)).before args s = true) (hA : ∀ a : Nat, a < s.heap.size → ¬ A a) : vx_Zq C n d A s s.heap := by
  refine ⟨va_Zqof hl hini h hA, ?_⟩
  obtain ⟨c, k, i, f, a, cell, h1, h2, h3, h4, h5, h6, h7, h8, h9⟩ := Cond.laysStatic_spec hl
  exact ⟨c, k, i, f, a, cell, h1, h2, h3, h4, h5, h6, h7, h8, h9, hA a (Array.getElem?_eq_some_iff.mp h5).1⟩
theorem vx_isRef {C n d : String} {v : Value} {A : Nat → Prop} {s : State} {args : Array Value} (h : va_Z C n d v A s s.heap) (hv : v.isRef = true) : (Cond.isRef (.static C n d)).before args s = true := by
  obtain ⟨cf, kf, fi, f, a, cell, h1, h2, h3, h4, h5, h6, h7, -⟩ := h
  have he : (Term.static C n d).eval args s none [] s = some v := by
    simp [Term.eval, State.fieldNamed?, h1, h2, h4, h5, h6, h7]
  simp only [Cond.before, Cond.holds, Cond.value, he]
  cases v <;> simp_all [Value.isRef]
theorem vx_isRefq {C n d : String} {A : Nat → Prop} {s : State} {args : Array Value} (h : va_Zq C n d A s s.heap) : (Cond.isRef (.static C n d)).before args s = true := by
  rcases h with h | ⟨t, h⟩
  · exact vx_isRef h rfl
  · exact vx_isRef h rfl
/-- the same frame, seen from here: as if the method were called anew in this heap -/
theorem vx_rebase {T : State} (X : Stand p l e R s m args below meth c T locs cells slots) {R' : Room} (hf : R'.frames ≤ R.frames) (hl : R'.locals ≤ R.locals) (hc : cells + R'.cells ≤ R.cells) (hs : slots + R'.slots ≤ R.slots) :
    Stand p l e R' ((T.setVm s.vm).setFrames (.invoking m args :: below)) m args below meth c T [] 0 0 := by
  have htop : (T.setVm s.vm).topJava?.isSome := X.here.top
  have hF : ((T.setVm s.vm).setFrames (.invoking m args :: below)).frames = .invoking m args :: below := State.frames_setFrames _ (State.cur_lt_of_top htop)
  obtain ⟨g₀, hg0⟩ := Option.isSome_iff_exists.mp htop
  obtain ⟨r, hr⟩ := State.topJava?_eq_some.mp hg0
  have hl9 : e.platform.stackLimits (T.setVm s.vm).me = e.platform.stackLimits s.me := X.limits
  have hb9 : (T.setVm s.vm).me.stackBytes = s.me.stackBytes := X.bytes
  refine ⟨X.admits, X.cas, X.clock, hF, ?_, X.hears, X.method, X.code, X.here, X.tail, X.warmed, ?_, ?_, ?_⟩
  · have h := X.room
    have hU : ((T.setVm s.vm).setFrames (.invoking m args :: below)).localsInUse = s.localsInUse := by
      rw [State.localsInUse_invoking hF (meth := meth) (c := c) X.method X.code, State.localsInUse_invoking X.frames X.method X.code]
    simp only [State.hasRoom, Bool.and_eq_true, decide_eq_true_eq] at h ⊢
    obtain ⟨⟨⟨⟨h1, h2, h3, h4, h5, h6⟩, h7⟩, h8⟩, h9⟩ := h
    rw [X.frames, List.length_cons] at h2 h3
    have q1 := X.heapSize
    have q2 := X.used
    simp only [hF, hU, List.length_cons, State.stackLimits_setFrames, State.stackBytes_setFrames, hl9, hb9]
    refine ⟨⟨⟨⟨by omega, by omega, by omega, by omega, by omega, h6⟩, ?_⟩, ?_⟩, X.book⟩
    · show T.heap.size + R'.cells ≤ e.platform.maxCells
      omega
    · show T.slotsUsed + R'.slots ≤ e.platform.maxSlots
      omega
  · rw [State.stackLimits_setFrames]; rfl
  · rw [State.stackBytes_setFrames]; rfl
  · refine ⟨?_, Nat.le_refl _, Nat.le_refl _, ?_, ?_, fun a c9 h9 => ⟨c9, h9, rfl, rfl, fun _ _ => rfl⟩⟩
    · obtain ⟨t, ht, -⟩ := State.frames_cons hr
      show T.setVm s.vm = { ((T.setVm s.vm).setFrames (.invoking m args :: below)).setFrames (T.setVm s.vm).frames with heap := T.heap, slotsUsed := T.slotsUsed }
      rw [State.setFrames_setFrames, State.setFrames_self ht]
      rfl
    · show T.slotsUsed = T.slotsUsed + ((T.heap.toList.drop T.heap.size).map (·.slots.size)).sum
      rw [List.drop_eq_nil_of_le (Nat.le_of_eq Array.length_toList)]
      rfl
    · show ((T.heap.toList.drop T.heap.size).map (·.slots.size)).sum ≤ 0
      rw [List.drop_eq_nil_of_le (Nat.le_of_eq Array.length_toList)]
      exact Nat.le_refl _
/-- 'throw new E()': new; dup; invokespecial; athrow -/
theorem vx_throw0 {cc : ByteArray} {pc : Nat} (hexec : p.tables.exec = Jvm.exec) (hb : c.code = cc) (hl : l.stackTraces = false) {own cls : String} {names : List String} {ik ic mc ms : Nat} {A : Nat → Prop}
    (hown : s.vm.findClass own = some m.cls) (hcls : Bundle.fit cls = true) (hnames : ∀ n ∈ names, Bundle.fit n = true)
    (hk : (Cond.classLink own ik cls).before args s = true) (hini : (Cond.initialized cls).before args s = true) (hat : ∀ w ∈ vx_at0 own ic cls names, w.before args s = true)
    (hgood : ∀ w ∈ Cond.classLink own ik cls :: Cond.initialized cls :: vx_at0 own ic cls names, vx_ot w = true)
    (hU : vx_Zq Bundle.tN "UNASSIGNED_STACK" Bundle.steD A s s.heap) (hN : vx_Zq Bundle.tN "SUPPRESSED_SENTINEL" Bundle.listD A s s.heap) (hS : va_S A s.heap H locs) (hsize : ls.size = c.maxLocals)
    (d0 : decode cc pc = .ok (.new ik, 3)) (d3 : decode cc (pc + 3) = .ok (.dup, 1)) (d4 : decode cc (pc + 4) = .ok (.invokespecial ic, 3)) (d7 : decode cc (pc + 7) = .ok (.athrow, 1))
    (hout : ∀ x ∈ c.exceptionTable.toList, covers x (pc + 7) = false)
    (hRframes : names.length + 3 < R.frames) (hRlocals : (rest.map fun v => v.category).sum + (13 * (names.length + 1) + 42) ≤ R.locals) (hRcells : cells + 1 ≤ R.cells) (hRslots : slots + 6 ≤ R.slots) (hlocks : meth.locks = false)
    (hx : ∀ t : State, s.vm.Alike t.vm → H.size ≤ t.heap.size → (∀ q : Nat, q < H.size → t.heap[q]? = H[q]?) → XC cls s t)
    (hf : ∀ z ∈ locs, free z.base) (hc : cells + 1 ≤ mc) (hs : slots + 6 ≤ ms) :
    W p l e R s m args below meth c H locs cells slots (vx_MQ below Qc XC args s mc ms free) (F0 m pc ls rest) := by
  intro T hT X
  have htr : e.platform.stackTraces = false := (show e.platform.stackTraces = l.stackTraces by rw [X.admits.platform]).trans hl
  have Y := vx_rebase X (R' := { frames := R.frames, locals := R.locals, cells := 1, slots := 6 }) (Nat.le_refl _) (Nat.le_refl _) hRcells hRslots
  obtain ⟨s', hA⟩ : ∃ z, z = (T.setVm s.vm).setFrames (.invoking m args :: below) := ⟨_, rfl⟩
  rw [← hA] at Y
  have hvm : s'.vm = s.vm := by rw [hA]; rfl
  have hhp : s'.heap = H := by rw [hA]; exact hT
  have hW0 : s.WarmedH s'.vm := by rw [hvm]; exact State.WarmedH.refl s
  have hat' : ∀ w ∈ vx_at0 own ic cls names, w.before args s' = true := fun w hw => vx_ot_at hW0 hvm.symm (hgood w (List.mem_cons_of_mem _ (List.mem_cons_of_mem _ hw))) (hat w hw)
  have hk' : (Cond.classLink own ik cls).before args s' = true := vx_ot_at hW0 hvm.symm (hgood _ List.mem_cons_self) hk
  have hini' : (Cond.initialized cls).before args s' = true := vx_ot_at hW0 hvm.symm (hgood _ (List.mem_cons_of_mem _ List.mem_cons_self)) hini
  have hU' : vx_Zq Bundle.tN "UNASSIGNED_STACK" Bundle.steD A s' s'.heap := by rw [hhp]; exact vx_Zq.moved hW0.alike (hU.kept hS.2.1)
  have hN' : vx_Zq Bundle.tN "SUPPRESSED_SENTINEL" Bundle.listD A s' s'.heap := by rw [hhp]; exact vx_Zq.moved hW0.alike (hN.kept hS.2.1)
  have h : ∀ w ∈ Bundle.ownAtoms0 own ic cls names, w.before args s' = true := vx_own hat' (vx_isRefq hU'.1) (vx_isRefq hN'.1) hU'.2.word hN'.2.word
  have hown' : s'.vm.findClass own = some m.cls := by rw [hvm]; exact hown
  have hins : (Cond.instantiable cls 6).before args s' = true := h _ (by simp [Bundle.ownAtoms0])
  obtain ⟨vm₁, cX, kX, hfX, hkX, -, -, X₁, st1⟩ := Y.newCold hexec (own := own) (C := cls) (index := ik) (n := 6) hown' hk' hins hini'
    (g := F0 m pc ls rest) rfl (by rw [hb]; exact d0) (Nat.le_refl _) (Nat.le_refl _)
  generalize hT1 : (T.setVm vm₁).pushCell { cls := cX, slots := kX.instanceTypes.map defaultValue, vm := .none } = T1 at X₁ st1
  have hcat : (Value.ref T.heap.size).category = 1 := rfl
  have hcellA : T1.heap[T.heap.size]? = some (freshCell cX kX) := by rw [← hT1]; exact State.heap_pushCell_size _ _
  have d3' : decode c.code (pc + 3) = .ok (.dup, 1) := by rw [hb]; exact d3
  obtain ⟨U, hsteps, hrun, hend, hW, hsame, ce, hce, hO⟩ := X₁.ctorThrow0 hexec htr (own := own) (cls := cls) (names := names) (ic := ic) hown' hcls hnames h (fun x hx => nomatch hx) hfX hkX hcellA (by rw [hhp, hT]; exact Nat.le_refl _)
    (g := { method := m, pc := pc + 4, locals := ls, stack := .ref T.heap.size :: .ref T.heap.size :: rest, locked := none }) rfl hsize rfl rfl (rest := rest) rfl
    (by rw [hb]; exact d4) (by rw [hb]; exact d7) hout hRframes (by simp only [List.map_cons, List.sum_cons, hcat]; omega) hlocks
  obtain ⟨f1, f2⟩ := vx_frame hsame
  rw [hhp] at f1 f2
  have hWs : s.WarmedH U.vm := State.WarmedH.trans hW0 hW
  have hcl : s.vm.findClass cls = some ce.cls := by
    have h9 := hO.cls
    rw [hvm] at h9
    exact h9
  have hall : s.sameButNew ({ U with vm := s.vm } : State) locs mc ms := by
    subst hA
    obtain ⟨e1, e2⟩ := hsame
    rw [State.setFrames_setFrames] at e1
    have h2 : (T.setVm s.vm).sameButNew ({ U with vm := s.vm } : State) [] (0 + 1) (0 + 6) := ⟨e1, e2⟩
    have h3 := X.same.trans h2
    rw [List.append_nil] at h3
    exact h3.mono hc hs
  refine ⟨U, ?_, .threw T.heap.size, hrun, hend, Or.inr ⟨T.heap.size, rfl, cls, ce, locs, hx U hWs.alike f1 (fun q hq => f2 q hq (fun z hz => nomatch hz)), hce, hO.vm, hcl, hWs, hall, hf⟩⟩
  refine st1 _ ?_
  show Steps p.tables e below (T1.setTop { method := m, pc := pc + 3, locals := ls, stack := .ref T.heap.size :: rest, locked := none }) _
  jvm_step X₁.here [X₁.here.top, hexec, d3', Value.category]
  exact hsteps
/-- 'throw new E("text")': new; dup; ldc; invokespecial; athrow -/
theorem vx_throwS {cc : ByteArray} {pc : Nat} (hexec : p.tables.exec = Jvm.exec) (hb : c.code = cc) (hl : l.stackTraces = false) {own cls text : String} {names : List String} {ik is ic mc ms sa : Nat} {A : Nat → Prop}
    (hown : s.vm.findClass own = some m.cls) (hcls : Bundle.fit cls = true) (hnames : ∀ n ∈ names, Bundle.fit n = true)
    (hk : (Cond.classLink own ik cls).before args s = true) (hini : (Cond.initialized cls).before args s = true) (hstr : vk_R own is text sa s) (hat : ∀ w ∈ vx_atS own ic cls names, w.before args s = true)
    (hgood : ∀ w ∈ Cond.classLink own ik cls :: Cond.initialized cls :: vx_atS own ic cls names, vx_ot w = true)
    (hU : vx_Zq Bundle.tN "UNASSIGNED_STACK" Bundle.steD A s s.heap) (hN : vx_Zq Bundle.tN "SUPPRESSED_SENTINEL" Bundle.listD A s s.heap) (hS : va_S A s.heap H locs) (hsize : ls.size = c.maxLocals)
    (d0 : decode cc pc = .ok (.new ik, 3)) (d3 : decode cc (pc + 3) = .ok (.dup, 1)) (d4 : decode cc (pc + 4) = .ok (.ldc is, 2)) (d6 : decode cc (pc + 6) = .ok (.invokespecial ic, 3)) (d9 : decode cc (pc + 9) = .ok (.athrow, 1))
    (hout : ∀ x ∈ c.exceptionTable.toList, covers x (pc + 9) = false)
    (hRframes : names.length + 3 < R.frames) (hRlocals : (rest.map fun v => v.category).sum + (13 * (names.length + 1) + 43) ≤ R.locals) (hRcells : cells + 1 ≤ R.cells) (hRslots : slots + 6 ≤ R.slots) (hlocks : meth.locks = false)
    (hx : ∀ t : State, s.vm.Alike t.vm → H.size ≤ t.heap.size → (∀ q : Nat, q < H.size → t.heap[q]? = H[q]?) → XC cls s t)
    (hf : ∀ z ∈ locs, free z.base) (hc : cells + 1 ≤ mc) (hs : slots + 6 ≤ ms) :
    W p l e R s m args below meth c H locs cells slots (vx_MQ below Qc XC args s mc ms free) (F0 m pc ls rest) := by
  intro T hT X
  have htr : e.platform.stackTraces = false := (show e.platform.stackTraces = l.stackTraces by rw [X.admits.platform]).trans hl
  have Y := vx_rebase X (R' := { frames := R.frames, locals := R.locals, cells := 1, slots := 6 }) (Nat.le_refl _) (Nat.le_refl _) hRcells hRslots
  obtain ⟨s', hA⟩ : ∃ z, z = (T.setVm s.vm).setFrames (.invoking m args :: below) := ⟨_, rfl⟩
  rw [← hA] at Y
  have hvm : s'.vm = s.vm := by rw [hA]; rfl
  have hhp : s'.heap = H := by rw [hA]; exact hT
  have hW0 : s.WarmedH s'.vm := by rw [hvm]; exact State.WarmedH.refl s
  have hat' : ∀ w ∈ vx_atS own ic cls names, w.before args s' = true := fun w hw => vx_ot_at hW0 hvm.symm (hgood w (List.mem_cons_of_mem _ (List.mem_cons_of_mem _ hw))) (hat w hw)
  have hk' : (Cond.classLink own ik cls).before args s' = true := vx_ot_at hW0 hvm.symm (hgood _ List.mem_cons_self) hk
  have hini' : (Cond.initialized cls).before args s' = true := vx_ot_at hW0 hvm.symm (hgood _ (List.mem_cons_of_mem _ List.mem_cons_self)) hini
  have hU' : vx_Zq Bundle.tN "UNASSIGNED_STACK" Bundle.steD A s' s'.heap := by rw [hhp]; exact vx_Zq.moved hW0.alike (hU.kept hS.2.1)
  have hN' : vx_Zq Bundle.tN "SUPPRESSED_SENTINEL" Bundle.listD A s' s'.heap := by rw [hhp]; exact vx_Zq.moved hW0.alike (hN.kept hS.2.1)
  have h : ∀ w ∈ Bundle.ownAtoms own ic cls names, w.before args s' = true := vx_own hat' (vx_isRefq hU'.1) (vx_isRefq hN'.1) hU'.2.word hN'.2.word
  have hown' : s'.vm.findClass own = some m.cls := by rw [hvm]; exact hown
  have hins : (Cond.instantiable cls 6).before args s' = true := h _ (by simp [Bundle.ownAtoms])
  obtain ⟨vm₁, cX, kX, hfX, hkX, -, -, X₁, st1⟩ := Y.newCold hexec (own := own) (C := cls) (index := ik) (n := 6) hown' hk' hins hini'
    (g := F0 m pc ls rest) rfl (by rw [hb]; exact d0) (Nat.le_refl _) (Nat.le_refl _)
  generalize hT1 : (T.setVm vm₁).pushCell { cls := cX, slots := kX.instanceTypes.map defaultValue, vm := .none } = T1 at X₁ st1
  have hcat : (Value.ref T.heap.size).category = 1 := rfl
  have hcellA : T1.heap[T.heap.size]? = some (freshCell cX kX) := by rw [← hT1]; exact State.heap_pushCell_size _ _
  have d3' : decode c.code (pc + 3) = .ok (.dup, 1) := by rw [hb]; exact d3
  have d4' : decode c.code (pc + 4) = .ok (.ldc is, 2) := by rw [hb]; exact d4
  have hstr' : vk_R own is text sa s' := vk_R.warm hW0 hstr
  obtain ⟨U, hsteps, hrun, hend, hW, hsame, ce, hce, hO⟩ := X₁.ctorThrowS hexec htr (own := own) (cls := cls) (names := names) (ic := ic) hown' hcls hnames h (fun x hx => nomatch hx) hfX hkX hcellA (by rw [hhp, hT]; exact Nat.le_refl _) (msg := .ref sa) rfl
    (g := { method := m, pc := pc + 6, locals := ls, stack := .ref sa :: .ref T.heap.size :: .ref T.heap.size :: rest, locked := none }) rfl hsize rfl rfl (rest := rest) rfl
    (by rw [hb]; exact d6) (by rw [hb]; exact d9) hout hRframes (by simp only [List.map_cons, List.sum_cons, hcat]; omega) hlocks
  obtain ⟨f1, f2⟩ := vx_frame hsame
  rw [hhp] at f1 f2
  have hWs : s.WarmedH U.vm := State.WarmedH.trans hW0 hW
  have hcl : s.vm.findClass cls = some ce.cls := by
    have h9 := hO.cls
    rw [hvm] at h9
    exact h9
  have hall : s.sameButNew ({ U with vm := s.vm } : State) locs mc ms := by
    subst hA
    obtain ⟨e1, e2⟩ := hsame
    rw [State.setFrames_setFrames] at e1
    have h2 : (T.setVm s.vm).sameButNew ({ U with vm := s.vm } : State) [] (0 + 1) (0 + 6) := ⟨e1, e2⟩
    have h3 := X.same.trans h2
    rw [List.append_nil] at h3
    exact h3.mono hc hs
  refine ⟨U, ?_, .threw T.heap.size, hrun, hend, Or.inr ⟨T.heap.size, rfl, cls, ce, locs, hx U hWs.alike f1 (fun q hq => f2 q hq (fun z hz => nomatch hz)), hce, hO.vm, hcl, hWs, hall, hf⟩⟩
  refine st1 _ ?_
  show Steps p.tables e below (T1.setTop { method := m, pc := pc + 3, locals := ls, stack := .ref T.heap.size :: rest, locked := none }) _
  jvm_step X₁.here [X₁.here.top, hexec, d3', Value.category]
  exact X₁.ldcString hexec (own := own) (text := text) (index := is) (a := sa) hown' hstr'.1 hstr'.2
    (g := { method := m, pc := pc + 4, locals := ls, stack := .ref T.heap.size :: .ref T.heap.size :: rest, locked := none }) rfl d4' _ hsteps
/-- 'throw new E("text")', the text by a wide index -/
theorem vx_throwSW {cc : ByteArray} {pc : Nat} (hexec : p.tables.exec = Jvm.exec) (hb : c.code = cc) (hl : l.stackTraces = false) {own cls text : String} {names : List String} {ik is ic mc ms sa : Nat} {A : Nat → Prop}
    (hown : s.vm.findClass own = some m.cls) (hcls : Bundle.fit cls = true) (hnames : ∀ n ∈ names, Bundle.fit n = true)
    (hk : (Cond.classLink own ik cls).before args s = true) (hini : (Cond.initialized cls).before args s = true) (hstr : vk_R own is text sa s) (hat : ∀ w ∈ vx_atS own ic cls names, w.before args s = true)
    (hgood : ∀ w ∈ Cond.classLink own ik cls :: Cond.initialized cls :: vx_atS own ic cls names, vx_ot w = true)
    (hU : vx_Zq Bundle.tN "UNASSIGNED_STACK" Bundle.steD A s s.heap) (hN : vx_Zq Bundle.tN "SUPPRESSED_SENTINEL" Bundle.listD A s s.heap) (hS : va_S A s.heap H locs) (hsize : ls.size = c.maxLocals)
    (d0 : decode cc pc = .ok (.new ik, 3)) (d3 : decode cc (pc + 3) = .ok (.dup, 1)) (d4 : decode cc (pc + 4) = .ok (.ldc_w is, 3)) (d7 : decode cc (pc + 7) = .ok (.invokespecial ic, 3)) (d10 : decode cc (pc + 10) = .ok (.athrow, 1))
    (hout : ∀ x ∈ c.exceptionTable.toList, covers x (pc + 10) = false)
    (hRframes : names.length + 3 < R.frames) (hRlocals : (rest.map fun v => v.category).sum + (13 * (names.length + 1) + 43) ≤ R.locals) (hRcells : cells + 1 ≤ R.cells) (hRslots : slots + 6 ≤ R.slots) (hlocks : meth.locks = false)
    (hx : ∀ t : State, s.vm.Alike t.vm → H.size ≤ t.heap.size → (∀ q : Nat, q < H.size → t.heap[q]? = H[q]?) → XC cls s t)
    (hf : ∀ z ∈ locs, free z.base) (hc : cells + 1 ≤ mc) (hs : slots + 6 ≤ ms) :
    W p l e R s m args below meth c H locs cells slots (vx_MQ below Qc XC args s mc ms free) (F0 m pc ls rest) := by
  intro T hT X
  have htr : e.platform.stackTraces = false := (show e.platform.stackTraces = l.stackTraces by rw [X.admits.platform]).trans hl
  have Y := vx_rebase X (R' := { frames := R.frames, locals := R.locals, cells := 1, slots := 6 }) (Nat.le_refl _) (Nat.le_refl _) hRcells hRslots
  obtain ⟨s', hA⟩ : ∃ z, z = (T.setVm s.vm).setFrames (.invoking m args :: below) := ⟨_, rfl⟩
  rw [← hA] at Y
  have hvm : s'.vm = s.vm := by rw [hA]; rfl
  have hhp : s'.heap = H := by rw [hA]; exact hT
  have hW0 : s.WarmedH s'.vm := by rw [hvm]; exact State.WarmedH.refl s
  have hat' : ∀ w ∈ vx_atS own ic cls names, w.before args s' = true := fun w hw => vx_ot_at hW0 hvm.symm (hgood w (List.mem_cons_of_mem _ (List.mem_cons_of_mem _ hw))) (hat w hw)
  have hk' : (Cond.classLink own ik cls).before args s' = true := vx_ot_at hW0 hvm.symm (hgood _ List.mem_cons_self) hk
  have hini' : (Cond.initialized cls).before args s' = true := vx_ot_at hW0 hvm.symm (hgood _ (List.mem_cons_of_mem _ List.mem_cons_self)) hini
  have hU' : vx_Zq Bundle.tN "UNASSIGNED_STACK" Bundle.steD A s' s'.heap := by rw [hhp]; exact vx_Zq.moved hW0.alike (hU.kept hS.2.1)
  have hN' : vx_Zq Bundle.tN "SUPPRESSED_SENTINEL" Bundle.listD A s' s'.heap := by rw [hhp]; exact vx_Zq.moved hW0.alike (hN.kept hS.2.1)
  have h : ∀ w ∈ Bundle.ownAtoms own ic cls names, w.before args s' = true := vx_own hat' (vx_isRefq hU'.1) (vx_isRefq hN'.1) hU'.2.word hN'.2.word
  have hown' : s'.vm.findClass own = some m.cls := by rw [hvm]; exact hown
  have hins : (Cond.instantiable cls 6).before args s' = true := h _ (by simp [Bundle.ownAtoms])
  obtain ⟨vm₁, cX, kX, hfX, hkX, -, -, X₁, st1⟩ := Y.newCold hexec (own := own) (C := cls) (index := ik) (n := 6) hown' hk' hins hini'
    (g := F0 m pc ls rest) rfl (by rw [hb]; exact d0) (Nat.le_refl _) (Nat.le_refl _)
  generalize hT1 : (T.setVm vm₁).pushCell { cls := cX, slots := kX.instanceTypes.map defaultValue, vm := .none } = T1 at X₁ st1
  have hcat : (Value.ref T.heap.size).category = 1 := rfl
  have hcellA : T1.heap[T.heap.size]? = some (freshCell cX kX) := by rw [← hT1]; exact State.heap_pushCell_size _ _
  have d3' : decode c.code (pc + 3) = .ok (.dup, 1) := by rw [hb]; exact d3
  have d4' : decode c.code (pc + 4) = .ok (.ldc_w is, 3) := by rw [hb]; exact d4
  have hstr' : vk_R own is text sa s' := vk_R.warm hW0 hstr
  obtain ⟨U, hsteps, hrun, hend, hW, hsame, ce, hce, hO⟩ := X₁.ctorThrowS hexec htr (own := own) (cls := cls) (names := names) (ic := ic) hown' hcls hnames h (fun x hx => nomatch hx) hfX hkX hcellA (by rw [hhp, hT]; exact Nat.le_refl _) (msg := .ref sa) rfl
    (g := { method := m, pc := pc + 7, locals := ls, stack := .ref sa :: .ref T.heap.size :: .ref T.heap.size :: rest, locked := none }) rfl hsize rfl rfl (rest := rest) rfl
    (by rw [hb]; exact d7) (by rw [hb]; exact d10) hout hRframes (by simp only [List.map_cons, List.sum_cons, hcat]; omega) hlocks
  obtain ⟨f1, f2⟩ := vx_frame hsame
  rw [hhp] at f1 f2
  have hWs : s.WarmedH U.vm := State.WarmedH.trans hW0 hW
  have hcl : s.vm.findClass cls = some ce.cls := by
    have h9 := hO.cls
    rw [hvm] at h9
    exact h9
  have hall : s.sameButNew ({ U with vm := s.vm } : State) locs mc ms := by
    subst hA
    obtain ⟨e1, e2⟩ := hsame
    rw [State.setFrames_setFrames] at e1
    have h2 : (T.setVm s.vm).sameButNew ({ U with vm := s.vm } : State) [] (0 + 1) (0 + 6) := ⟨e1, e2⟩
    have h3 := X.same.trans h2
    rw [List.append_nil] at h3
    exact h3.mono hc hs
  refine ⟨U, ?_, .threw T.heap.size, hrun, hend, Or.inr ⟨T.heap.size, rfl, cls, ce, locs, hx U hWs.alike f1 (fun q hq => f2 q hq (fun z hz => nomatch hz)), hce, hO.vm, hcl, hWs, hall, hf⟩⟩
  refine st1 _ ?_
  show Steps p.tables e below (T1.setTop { method := m, pc := pc + 3, locals := ls, stack := .ref T.heap.size :: rest, locked := none }) _
  jvm_step X₁.here [X₁.here.top, hexec, d3', Value.category]
  exact X₁.ldcStringW hexec (own := own) (text := text) (index := is) (a := sa) hown' hstr'.1 hstr'.2
    (g := { method := m, pc := pc + 4, locals := ls, stack := .ref T.heap.size :: .ref T.heap.size :: rest, locked := none }) rfl d4' _ hsteps
end Ends
section Bodies
variable {l : Launch}
theorem vx_ofW {y : MethodName} {ws ws' : List Cond} {rm : Room} {Pc : Array Value → State → Prop} {Qc : Array Value → State → Outcome → State → Prop} {XC : String → State → State → Prop} {mc ms : Nat} {free : Addr → Prop} {cc : ByteArray} {maxL : Nat} {ret : Option FieldType}
    (hy : plainName y.cls = true) (hw : ws = Cond.code y cc maxL ret :: ws')
    (body : ∀ p e s m args below meth c s₁, BodyLoose p l y (headSpec ws rm) cc maxL ret e s m args below meth c s₁ → c.maxLocals = maxL → (∀ x ∈ c.exceptionTable.toList, False) → Pc args s →
      W p l e (headSpec ws rm).room s m args below meth c s.heap [] 0 0 (vx_MQ below Qc XC args s mc ms free) (entryFrame m args maxL)) : vx_Met l y ws rm Pc Qc XC mc ms free := by
  refine MetFree.of_bodyS (code := cc) (maxLocals := maxL) (ret := ret) hy ?_ ?_
  · intro args s m h hn
    obtain ⟨meth, c, h1, h2, h3, h4, h5, h6, -, -⟩ := Cond.code_spec hn (atoms_spec (ws := ws) h _ (by rw [hw]; exact List.mem_cons_self))
    exact ⟨meth, c, h1, h2, h3, h4, h5, h6⟩
  · intro p e s m args below meth c s₁ B hml hP _
    have hh0 : s₁.heap = s.heap := by rw [B.state]; rfl
    have ht : ∀ x ∈ c.exceptionTable.toList, False := by
      obtain ⟨meth9, c9, h1, h2, -, -, -, -, h7, -⟩ := Cond.code_spec B.named (atoms_spec (ws := ws) B.pre _ (by rw [hw]; exact List.mem_cons_self))
      cases Option.some.inj (h1.symm.trans B.method)
      cases Option.some.inj (h2.symm.trans (Stand.of_body B).code)
      intro x hx
      rw [Array.isEmpty_iff.mp h7] at hx
      cases hx
    obtain ⟨t, a1, o, b1, b2, b3⟩ := body p e s m args below meth c s₁ B hml ht hP s₁ hh0 (Stand.of_body B)
    exact ⟨t, o, a1, b1, b2, b3⟩
/-- the table of a body with handlers -/
theorem vx_table {p : Program} {x y : MethodName} {S : Spec} {cc bytes : ByteArray} {maxL maxL' : Nat} {ret ret' : Option FieldType} {e : Env} {s s₁ : State} {m : MethodId} {args : Array Value} {below : List Frame} {meth : Method} {c : Code} {hh : List (Nat × Nat × Nat × Nat)}
    (B : BodyLoose p l y S cc maxL ret e s m args below meth c s₁) (h : (Cond.codeWith y bytes maxL' ret' hh).before args s = true) : c.exceptionTable.toList = tableOf hh := by
  obtain ⟨m9, meth9, c9, hn9, h1, h2, -, -, h6, -⟩ := Cond.codeWith_spec h
  cases Option.some.inj (hn9.symm.trans B.named)
  cases Option.some.inj (h1.symm.trans B.method)
  cases Option.some.inj (h2.symm.trans (Stand.of_body B).code)
  rw [← h6, table_eq]
end Bodies
end VXA
/-! ===== END ===== -/
/-! ===== BEGIN a static call of a method with an exception table ===== -/
section VXS
variable {p : Program} {l : Launch} {e : Env} {R : Room} {s : State} {m : MethodId} {args : Array Value} {below : List Frame} {meth : Method} {c : Code} {T : State} {H : Heap} {locs : List Loc} {cells slots : Nat}
abbrev vx_CSW (R : Room) (s : State) (args : Array Value) (own : String) (index : Nat) (y : MethodName) (bytes : ByteArray) (maxL : Nat) (ret : Option FieldType) (hh : List (Nat × Nat × Nat × Nat)) (ws : List Cond) (rm : Room) (mc ms n : Nat) : Prop :=
  (rm.cells = mc ∧ rm.slots = ms ∧ rm.frames + 1 ≤ R.frames ∧ 8 + (maxL + 11) + rm.locals ≤ R.locals ∧ (∀ w ∈ ws, ∀ (a' : Array Value) (U : State), s.WarmedH U.vm → w.before a' U = true) ∧ Cond.codeWith y bytes maxL ret hh ∈ ws) ∧
  (Cond.codeWith y bytes maxL ret hh).before args s = true ∧ (Cond.initialized y.cls).before args s = true ∧ (y.cls ≠ "java/lang/invoke/MethodHandle" ∧ y.cls ≠ "java/lang/invoke/VarHandle") ∧
  (∀ sig, parseMethodDescriptor y.desc = some sig → n = sig.parameters.length) ∧ (Cond.methodLink own index y).before args s = true ∧ (Cond.static y).before args s = true
theorem vx_cwSW {own : String} {index maxL mc ms : Nat} {y : MethodName} {bytes : ByteArray} {ret : Option FieldType} {hh : List (Nat × Nat × Nat × Nat)} {Ts ws ws' : List Cond} {rm : Room} (n : Nat) (ht : ∀ w ∈ Ts, w.before args s = true) (hT : GoodIn Ts (va_wsS own index y ws)) (hw : ws = Cond.codeWith y bytes maxL ret hh :: ws') (hrc : rm.cells = mc) (hrs : rm.slots = ms)
    (hd : y.cls ≠ "java/lang/invoke/MethodHandle" ∧ y.cls ≠ "java/lang/invoke/VarHandle" ∧ (parseMethodDescriptor y.desc).map (fun d => d.parameters.length) = some n) (hR : rm.frames + 1 ≤ R.frames ∧ 8 + (maxL + 11) + rm.locals ≤ R.locals) :
    vx_CSW R s args own index y bytes maxL ret hh ws rm mc ms n := by
  have ok : ∀ w ∈ va_wsS own index y ws, w.before args s = true := fun w h => ht w (hT w h).1
  have hG : GoodIn Ts ws := fun w h => hT w (by unfold va_wsS; exact List.mem_append_right _ h)
  have hc : Cond.codeWith y bytes maxL ret hh ∈ ws := by rw [hw]; exact List.mem_cons_self
  refine ⟨⟨hrc, hrs, hR.1, hR.2, pay_in ht hG, hc⟩, ht _ (hG _ hc).1, ok _ (by simp [va_wsS]), ⟨hd.1, hd.2.1⟩, fun sig h => ?_, ok _ (by simp [va_wsS]), ok _ (by simp [va_wsS])⟩
  have h2 := hd.2.2
  rw [h] at h2
  exact (Option.some.inj h2).symm
theorem vx_callSW (X : Stand p l e R s m args below meth c T locs cells slots) (hexec : p.tables.exec = Jvm.exec) {own : String} {index : Nat} {y : MethodName} {bytes : ByteArray} {maxL : Nat} {ret : Option FieldType} {hh : List (Nat × Nat × Nat × Nat)}
    (hown : s.vm.findClass own = some m.cls) (hlink : (Cond.methodLink own index y).before args s = true) (hstat : (Cond.static y).before args s = true) (hinit : (Cond.initialized y.cls).before args s = true)
    (hcode : (Cond.codeWith y bytes maxL ret hh).before args s = true) (hy : y.cls ≠ "java/lang/invoke/MethodHandle" ∧ y.cls ≠ "java/lang/invoke/VarHandle")
    {W9 : Nat} {Pre : Pt → Array Value → Prop} {Post : Pt → Array Value → Option Value → Pt → Prop} (hK : Back l R p e below s args y 3 W9 Pre Post)
    {g : JFrame} (hg : g.method = m) (hsize : g.locals.size = c.maxLocals) {argsL rest : List Value} (hlen : ∀ sig, parseMethodDescriptor y.desc = some sig → argsL.length = sig.parameters.length)
    (hstack : g.stack = argsL.reverse ++ rest) (hW : 2 * g.monitorRoom + (rest.map fun v => v.category).sum ≤ W9) (hdg : decode c.code g.pc = .ok (.invokestatic index, 3))
    (hpre : ∀ vm₁, s.WarmedH vm₁ → Pre ⟨T.setVm vm₁, locs, cells, slots⟩ argsL.toArray) :
    ∃ (v : Option Value) (vm₁ : Vm) (B : Pt), s.WarmedH vm₁ ∧ Stand p l e R s m args below meth c B.U B.locs B.cells B.slots ∧ Post ⟨T.setVm vm₁, locs, cells, slots⟩ argsL.toArray v B ∧
      ∀ target, Steps p.tables e below (B.U.setTop { g with pc := g.pc + 3, stack := v.toList ++ rest }) target → Steps p.tables e below (T.setTop g) target := by
  obtain ⟨mk, methM, cM, hnamed, hmethM, -, -, -, -, -, -, hsigM⟩ := Cond.codeWith_spec hcode
  have hstatic : methM.isStatic = true := Cond.static_spec hnamed hmethM hstat
  obtain ⟨kP, hkP, -⟩ := className_of_methodNamed hnamed
  have hinitP : kP.init = .initialized := Cond.initialized_spec (findClass_of_methodNamed hnamed) hkP hinit
  obtain ⟨vm₁, X₁, hstep₁⟩ := X.invokestatic hexec hown hlink hnamed hmethM hstatic hkP hinitP hy (g := g) hg (argsL := argsL) (rest := rest) (hlen _ hsigM) hstack hdg
  obtain ⟨v, B, X', hpost, hsteps⟩ := hK m meth c ⟨T.setVm vm₁, locs, cells, slots⟩ { g with stack := rest } (.invokestatic index) mk argsL.toArray X₁ hg hsize hdg hW (X₁.named hnamed) (hpre vm₁ X₁.warmed)
  exact ⟨v, vm₁, B, X₁.warmed, X', hpost, fun target h => hstep₁ _ fun acts => by rw [doInvoke_state]; exact hsteps.trans h⟩
theorem vx_runSW {y : MethodName} {bytes cc : ByteArray} {maxL nL mc ms n index : Nat} {ret : Option FieldType} {hh : List (Nat × Nat × Nat × Nat)} {ws : List Cond} {rm : Room} {Pc : Array Value → State → Prop} {Qc : Array Value → State → Outcome → State → Prop} {free : Addr → Prop} {Ts : List Cond} {own : String} {As rest : List Value} {g : JFrame}
    (S : CallFix p m c cc nL s args Ts own) (hM : Met l y ws rm Pc Qc mc ms free) (cw : vx_CSW R s args own index y bytes maxL ret hh ws rm mc ms n) (hp : PreS s H Pc As)
    (hg : g.method = m) (hn : As.length = n) (hsize : g.locals.size = nL) (hstack : g.stack = As.reverse ++ rest) (hW : 2 * g.monitorRoom + (rest.map fun v => v.category).sum ≤ 8) (hdg : decode cc g.pc = .ok (.invokestatic index, 3)) (hf : cells + mc ≤ R.cells ∧ slots + ms ≤ R.slots) :
    va_Run p l e R s m args below meth c H locs cells slots mc ms g rest (Qc As.toArray) (free) := by
  obtain ⟨⟨hrc, hrs, hfr, hlo, hws, hcw⟩, hcode, hini, hy, hlen, hl, hstt⟩ := cw
  have hK : Back l R p e below s args y 3 8 (PreOf R mc ms Pc) (PostOf Qc mc ms free) := va_backW (hh := hh) (bytes := bytes) (maxL := maxL) (ret := ret) hM hp.1 hrc hrs hfr hlo hws hcw (fun a' U hW => word_at hW (Or.inl (by first | rfl | simp [Cond.onTables, Cond.keeps, Cond.steady])) hini)
  obtain ⟨hx, hb, hml, ho, -⟩ := S
  intro T hT X
  obtain ⟨v, vm₁, ⟨U', l2, c2, s2⟩, hW₁, X', ⟨g', mk, t, L, e1, e2, hq, h1, hL, h2, h3⟩, st⟩ := vx_callSW X hx (hh := hh) (bytes := bytes) (maxL := maxL) (ret := ret) ho hl hstt hini hcode hy hK hg (hsize.trans hml.symm) (argsL := As) (rest := rest) (fun sig h => hn.trans (hlen sig h)) hstack hW (by rw [hb]; exact hdg)
    (fun vm₁ hW₁ => ⟨hf.1, hf.2, hp.2 (T.setVm vm₁) hT hW₁⟩)
  dsimp only [Pt.U, Pt.locs, Pt.cells, Pt.slots] at X' e1 e2 h1 h2 h3 st
  subst h1; subst h2; subst h3
  exact ⟨v, (T.setVm vm₁).calling g' mk As.toArray, t, U', L, hT, X', hL, e1, e2, hq, st⟩
/-- a thing of a world lies in the heap -/
theorem vx_lt {D : va_G} {cl : List vw_C} {ws : va_W} {H1 : Heap} (h : va_P D cl ws H1) {k : Nat} {q : Nat × va_E} (hk : ws[k]? = some q) : q.1 < H1.size := (h k q hk).lt
end VXS
/-! ===== END ===== -/
/-! ===== BEGIN methods with a table of their own: called by a name, returning or throwing ===== -/
section VXH
/-! vx_backW, vx_callVX, vx_callSX, vx_callVW, vx_runVW, vx_runVX, vx_runSX, vx_ofWH follow the same proofs as their sisters above (Free/Laws.lean, Shelf42/LK1.lean); vx_outP calls Shelf42/NT130.lean (outThrough). -/
section
variable {l : Launch} {R : Room} {p : Program} {e : Env} {below : List Frame} {s : State} {sargs : Array Value} {y : MethodName} {len W9 : Nat}
theorem vx_backW {ws : List Cond} {rm : Room} {Pc : Array Value → State → Prop} {Qc : Array Value → State → Outcome → State → Prop} {XC : String → State → State → Prop} {mc ms : Nat} {free : Addr → Prop} {bytes : ByteArray} {maxL : Nat} {ret : Option FieldType} {hh : List (Nat × Nat × Nat × Nat)}
    (hM : vx_Met l y ws rm Pc Qc XC mc ms free) (hblind : FrameBlind Pc) (hrc : rm.cells = mc) (hrs : rm.slots = ms)
    (hframes : rm.frames + 1 ≤ R.frames) (hlocals : W9 + (maxL + 11) + rm.locals ≤ R.locals)
    (hws : ∀ w ∈ ws, ∀ a' U, s.WarmedH U.vm → w.before a' U = true) (hcode : Cond.codeWith y bytes maxL ret hh ∈ ws) (hinit : ∀ a' U, s.WarmedH U.vm → (Cond.initialized y.cls).before a' U = true) :
    vx_Back l R p e below s sargs y len W9 (PreOf R mc ms Pc) (PostOf Qc mc ms free) (vx_Post XC mc ms free) := by
  intro m meth c A g ig mk a X hg hsize hdg hW hn hp
  have h1 : (headSpec ws rm).pre.before a A.U = true := atoms_intro fun w hw => hws w hw _ _ X.warmed
  have h2 : (Cond.codeWith y bytes maxL ret hh).before a A.U = true := hws _ hcode _ _ X.warmed
  have h3 : (Cond.initialized y.cls).before a A.U = true := hinit _ _ X.warmed
  have h4 : A.cells + (headSpec ws rm).room.cells ≤ R.cells := by rw [show (headSpec ws rm).room.cells = mc from hrc]; exact hp.1
  have h5 : A.slots + (headSpec ws rm).room.slots ≤ R.slots := by rw [show (headSpec ws rm).room.slots = ms from hrs]; exact hp.2.1
  have hPc : Pc a (A.U.calling g mk a) := hblind _ _ _ _ hp.2.2
  obtain ⟨U, Ls, c0, s0⟩ := A
  dsimp only [Pt.U, Pt.locs, Pt.cells, Pt.slots] at h1 h2 h3 h4 h5 X hn hPc ⊢
  obtain ⟨m9, methY, cY, hn9, hmY, hcY, -, hlY, -⟩ := Cond.codeWith_spec h2
  cases Option.some.inj (hn9.symm.trans hn)
  obtain ⟨kY, hkY, -⟩ := className_of_methodNamed hn
  have hinitY : kY.init = .initialized := Cond.initialized_spec (findClass_of_methodNamed hn) hkY h3
  have h : At U g.method c below := by rw [hg]; exact X.here
  have hlocals9 : W9 + (maxL + 11) + (headSpec ws rm).room.locals ≤ R.locals := hlocals
  have happ : (headSpec ws rm).appliesLoose y e.platform (U.calling g mk a) = true :=
    Spec.appliesLoose_calling (g := g) h hdg hn hkY hinitY
      (X.room_calling (g := g) (R' := (headSpec ws rm).room) hsize hmY hcY hframes (by rw [hlY]; omega) h4 h5) h1
  obtain ⟨mid, hmid⟩ := h.above
  have hfr : (U.setTop g).frames = (.java g :: mid) ++ below := by rw [State.frames_setTop' g h.top, hmid]; rfl
  obtain ⟨o, s₂, hsteps, -, hend, hq⟩ := Steps.callFree hM p X.admits X.cas X.clock (acts := []) hfr happ hPc trivial
  have hq' : vx_Q Qc XC mc ms free a (U.calling g mk a) o s₂ := hq
  rw [State.frames_setTop' g h.top] at hend
  obtain ⟨g₀, hg0⟩ := Option.isSome_iff_exists.mp h.top
  obtain ⟨r, hr⟩ := State.topJava?_eq_some.mp hg0
  have hr' : (({ U with heap := s₂.heap, slotsUsed := s₂.slotsUsed } : State).setVm s₂.vm).frames = .java g₀ :: r := hr
  rcases hq' with ⟨hqc, L, hfe, hL⟩ | ⟨q, rfl, E, ce, L, hx, hce, hcv, hcl, hW₂, hsm, hL⟩
  · obtain ⟨⟨v, rfl⟩, hW₂, e2, q2, q3, q4, q5, q6⟩ := id hfe
    have e3 : s₂ = ({ (U.calling g mk a).setFrames s₂.frames with heap := s₂.heap, slotsUsed := s₂.slotsUsed } : State).setVm s₂.vm := by
      have : s₂ = ({ s₂ with vm := (U.calling g mk a).vm } : State).setVm s₂.vm := rfl
      rw [e2] at this
      exact this
    obtain ⟨c₂, i₂, len₂, hc₂, hd₂, hf₂⟩ := hend
    have hW' : U.WarmedH s₂.vm := hW₂
    have hcc : c₂ = c := by
      have h1 : s₂.code? g.method = U.code? g.method := by
        rw [State.code?_eq, State.code?_eq, hW'.alike.method?]
      exact Option.some.inj (hc₂.symm.trans (h1.trans h.code))
    subst hcc
    have hlen : len₂ = len := by rw [hdg] at hd₂; cases hd₂; rfl
    subst hlen
    have hs₂ : s₂ = (({ U with heap := s₂.heap, slotsUsed := s₂.slotsUsed } : State).setVm s₂.vm).setTop { g with pc := g.pc + len₂, stack := v.toList ++ g.stack } := by
      refine e3.trans ?_
      rw [hf₂, State.calling_eq h.top, State.setFrames_setFrames, State.setTop_of_frames _ hr', hr]
      rfl
    have hsame : U.sameButNew ({ U with heap := s₂.heap, slotsUsed := s₂.slotsUsed } : State) L mc ms := by
      refine ⟨?_, q2, q3, q4, q5, q6⟩
      obtain ⟨t, ht, -⟩ := State.frames_cons hr
      show ({ U with heap := s₂.heap, slotsUsed := s₂.slotsUsed } : State) = { U.setFrames U.frames with heap := s₂.heap, slotsUsed := s₂.slotsUsed }
      rw [State.setFrames_self ht]
    subst hg
    refine Or.inl ⟨v, ⟨(({ U with heap := s₂.heap, slotsUsed := s₂.slotsUsed } : State).setVm s₂.vm), Ls ++ L, c0 + mc, s0 + ms⟩,
      ⟨X.admits, X.cas, X.clock, X.frames, X.room, X.hears, X.method, X.code, (X.here.setHeapUsed s₂.heap s₂.slotsUsed).setVm hW'.alike, X.tail, State.WarmedH.trans X.warmed hW', X.limits, X.bytes, X.same.trans (hsame.setVm s.vm)⟩,
      ⟨g, mk, s₂, L, rfl, rfl, hqc, rfl, hL, rfl, rfl⟩, ?_⟩
    show Steps p.tables e below _ ((({ U with heap := s₂.heap, slotsUsed := s₂.slotsUsed } : State).setVm s₂.vm).setTop { g with pc := g.pc + len₂, stack := v.toList ++ g.stack })
    rw [← hs₂]
    exact hsteps
  · obtain ⟨e2, q2, q3, q4, q5, q6⟩ := id hsm
    have e3 : s₂ = ({ (U.calling g mk a).setFrames s₂.frames with heap := s₂.heap, slotsUsed := s₂.slotsUsed } : State).setVm s₂.vm := by
      have : s₂ = ({ s₂ with vm := (U.calling g mk a).vm } : State).setVm s₂.vm := rfl
      rw [e2] at this
      exact this
    have hf₂ : s₂.frames = .throwing q :: .java g :: U.frames.tail := hend
    have hW' : U.WarmedH s₂.vm := hW₂
    have hs₂ : s₂ = ((({ U with heap := s₂.heap, slotsUsed := s₂.slotsUsed } : State).setVm s₂.vm).setTop g).pushFrame (.throwing q) := by
      refine e3.trans ?_
      rw [hf₂, State.calling_eq h.top, State.setFrames_setFrames, State.pushFrame, State.frames_setTop _ hr', State.setTop_of_frames _ hr', State.setFrames_setFrames, hr]
      rfl
    have hsame : U.sameButNew ({ U with heap := s₂.heap, slotsUsed := s₂.slotsUsed } : State) L mc ms := by
      refine ⟨?_, q2, q3, q4, q5, q6⟩
      obtain ⟨t, ht, -⟩ := State.frames_cons hr
      show ({ U with heap := s₂.heap, slotsUsed := s₂.slotsUsed } : State) = { U.setFrames U.frames with heap := s₂.heap, slotsUsed := s₂.slotsUsed }
      rw [State.setFrames_self ht]
    subst hg
    refine Or.inr ⟨q, ⟨(({ U with heap := s₂.heap, slotsUsed := s₂.slotsUsed } : State).setVm s₂.vm), Ls ++ L, c0 + mc, s0 + ms⟩,
      ⟨X.admits, X.cas, X.clock, X.frames, X.room, X.hears, X.method, X.code, (X.here.setHeapUsed s₂.heap s₂.slotsUsed).setVm hW'.alike, X.tail, State.WarmedH.trans X.warmed hW', X.limits, X.bytes, X.same.trans (hsame.setVm s.vm)⟩,
      ⟨g, mk, s₂, L, E, ce, rfl, rfl, hx, hce, hcv, hcl, rfl, hL, rfl, rfl⟩, ?_⟩
    show Steps p.tables e below _ (((({ U with heap := s₂.heap, slotsUsed := s₂.slotsUsed } : State).setVm s₂.vm).setTop g).pushFrame (.throwing q))
    rw [← hs₂]
    exact hsteps
end
variable {p : Program} {l : Launch} {e : Env} {R : Room} {s : State} {m : MethodId} {args : Array Value} {below : List Frame} {meth : Method} {c : Code} {T : State} {H : Heap} {locs : List Loc} {cells slots : Nat}
theorem vx_callVX (X : Stand p l e R s m args below meth c T locs cells slots) (hexec : p.tables.exec = Jvm.exec) {own C : String} {index : Nat} {y : MethodName} {bytes : ByteArray} {maxL : Nat} {ret : Option FieldType} {hh : List (Nat × Nat × Nat × Nat)}
    (hown : s.vm.findClass own = some m.cls) (hlink : (Cond.methodLink own index y).before args s = true) (hinst : (Cond.instanceMethod y).before args s = true) (hsel : (Cond.selects C y y).before args s = true)
    (hcode : (Cond.codeWith y bytes maxL ret hh).before args s = true) (hy : y.cls ≠ "java/lang/invoke/MethodHandle" ∧ y.cls ≠ "java/lang/invoke/VarHandle")
    {W9 : Nat} {Pre : Pt → Array Value → Prop} {Post : Pt → Array Value → Option Value → Pt → Prop} {PostX : Pt → Array Value → Addr → Pt → Prop} (hK : vx_Back l R p e below s args y 3 W9 Pre Post PostX)
    {b : Addr} {cellB : Cell} (hcell : T.heap[b]? = some cellB) (hobj : cellB.vm.isStatics = false) (hcls : s.vm.findClass C = some cellB.cls)
    {g : JFrame} (hg : g.method = m) (hsize : g.locals.size = c.maxLocals) {argsL rest : List Value} (hlen : ∀ sig, parseMethodDescriptor y.desc = some sig → argsL.length = sig.parameters.length)
    (hstack : g.stack = argsL.reverse ++ .ref b :: rest) (hW : 2 * g.monitorRoom + (rest.map fun v => v.category).sum ≤ W9) (hdg : decode c.code g.pc = .ok (.invokevirtual index, 3))
    (hpre : ∀ vm₁, s.WarmedH vm₁ → Pre ⟨T.setVm vm₁, locs, cells, slots⟩ (Value.ref b :: argsL).toArray) :
    (∃ (v : Option Value) (vm₁ : Vm) (B : Pt), s.WarmedH vm₁ ∧ Stand p l e R s m args below meth c B.U B.locs B.cells B.slots ∧ Post ⟨T.setVm vm₁, locs, cells, slots⟩ (Value.ref b :: argsL).toArray v B ∧
      ∀ target, Steps p.tables e below (B.U.setTop { g with pc := g.pc + 3, stack := v.toList ++ rest }) target → Steps p.tables e below (T.setTop g) target) ∨
    (∃ (q : Addr) (vm₁ : Vm) (B : Pt), s.WarmedH vm₁ ∧ Stand p l e R s m args below meth c B.U B.locs B.cells B.slots ∧ PostX ⟨T.setVm vm₁, locs, cells, slots⟩ (Value.ref b :: argsL).toArray q B ∧
      Steps p.tables e below (T.setTop g) ((B.U.setTop { g with stack := rest }).pushFrame (.throwing q))) := by
  obtain ⟨mk, methM, hnamed, hmethM, hstM, habM⟩ := Cond.instanceMethod_spec hinst
  obtain ⟨m8, methM', cM, hn8, hmethM', -, -, -, -, -, -, hsigM⟩ := Cond.codeWith_spec hcode
  cases Option.some.inj (hn8.symm.trans hnamed)
  cases hmethM.symm.trans hmethM'
  obtain ⟨c2, r2, m2, q1, q2, q3, q4, kP, hkP, hkPi⟩ := Cond.selects_spec hsel
  cases hcls.symm.trans q1
  cases (State.methodFound?_of_named hnamed hy).symm.trans q2
  cases hnamed.symm.trans q3
  have hselP : selectMethod e.platform s.vm cellB.cls mk = .method mk := by rw [Launch.admits_selectMethod X.admits]; exact q4
  obtain ⟨vm₁, X₁, hstep₁⟩ := X.invokevirtual hexec hown hlink hnamed hmethM hstM hkP hkPi hy (a := b) (cell := cellB) hcell
    (fun z h => by rw [h] at hobj; cases hobj) hselP hmethM habM hkP hkPi (g := g) hg (argsL := argsL) (rest := rest) (hlen _ hsigM) hstack hdg
  rcases hK m meth c ⟨T.setVm vm₁, locs, cells, slots⟩ { g with stack := rest } (.invokevirtual index) mk (Value.ref b :: argsL).toArray X₁ hg hsize hdg hW (X₁.named hnamed) (hpre vm₁ X₁.warmed) with ⟨v, B, X', hpost, hsteps⟩ | ⟨q, B, X', hpost, hsteps⟩
  · exact Or.inl ⟨v, vm₁, B, X₁.warmed, X', hpost, fun target h => hstep₁ _ fun acts => by rw [doInvoke_state]; exact hsteps.trans h⟩
  · exact Or.inr ⟨q, vm₁, B, X₁.warmed, X', hpost, hstep₁ _ fun acts => by rw [doInvoke_state]; exact hsteps⟩
theorem vx_callSX (X : Stand p l e R s m args below meth c T locs cells slots) (hexec : p.tables.exec = Jvm.exec) {own : String} {index : Nat} {y : MethodName} {bytes : ByteArray} {maxL : Nat} {ret : Option FieldType} {hh : List (Nat × Nat × Nat × Nat)}
    (hown : s.vm.findClass own = some m.cls) (hlink : (Cond.methodLink own index y).before args s = true) (hstat : (Cond.static y).before args s = true) (hinit : (Cond.initialized y.cls).before args s = true)
    (hcode : (Cond.codeWith y bytes maxL ret hh).before args s = true) (hy : y.cls ≠ "java/lang/invoke/MethodHandle" ∧ y.cls ≠ "java/lang/invoke/VarHandle")
    {W9 : Nat} {Pre : Pt → Array Value → Prop} {Post : Pt → Array Value → Option Value → Pt → Prop} {PostX : Pt → Array Value → Addr → Pt → Prop} (hK : vx_Back l R p e below s args y 3 W9 Pre Post PostX)
    {g : JFrame} (hg : g.method = m) (hsize : g.locals.size = c.maxLocals) {argsL rest : List Value} (hlen : ∀ sig, parseMethodDescriptor y.desc = some sig → argsL.length = sig.parameters.length)
    (hstack : g.stack = argsL.reverse ++ rest) (hW : 2 * g.monitorRoom + (rest.map fun v => v.category).sum ≤ W9) (hdg : decode c.code g.pc = .ok (.invokestatic index, 3))
    (hpre : ∀ vm₁, s.WarmedH vm₁ → Pre ⟨T.setVm vm₁, locs, cells, slots⟩ argsL.toArray) :
    (∃ (v : Option Value) (vm₁ : Vm) (B : Pt), s.WarmedH vm₁ ∧ Stand p l e R s m args below meth c B.U B.locs B.cells B.slots ∧ Post ⟨T.setVm vm₁, locs, cells, slots⟩ argsL.toArray v B ∧
      ∀ target, Steps p.tables e below (B.U.setTop { g with pc := g.pc + 3, stack := v.toList ++ rest }) target → Steps p.tables e below (T.setTop g) target) ∨
    (∃ (q : Addr) (vm₁ : Vm) (B : Pt), s.WarmedH vm₁ ∧ Stand p l e R s m args below meth c B.U B.locs B.cells B.slots ∧ PostX ⟨T.setVm vm₁, locs, cells, slots⟩ argsL.toArray q B ∧
      Steps p.tables e below (T.setTop g) ((B.U.setTop { g with stack := rest }).pushFrame (.throwing q))) := by
  obtain ⟨mk, methM, cM, hnamed, hmethM, -, -, -, -, -, -, hsigM⟩ := Cond.codeWith_spec hcode
  have hstatic : methM.isStatic = true := Cond.static_spec hnamed hmethM hstat
  obtain ⟨kP, hkP, -⟩ := className_of_methodNamed hnamed
  have hinitP : kP.init = .initialized := Cond.initialized_spec (findClass_of_methodNamed hnamed) hkP hinit
  obtain ⟨vm₁, X₁, hstep₁⟩ := X.invokestatic hexec hown hlink hnamed hmethM hstatic hkP hinitP hy (g := g) hg (argsL := argsL) (rest := rest) (hlen _ hsigM) hstack hdg
  rcases hK m meth c ⟨T.setVm vm₁, locs, cells, slots⟩ { g with stack := rest } (.invokestatic index) mk argsL.toArray X₁ hg hsize hdg hW (X₁.named hnamed) (hpre vm₁ X₁.warmed) with ⟨v, B, X', hpost, hsteps⟩ | ⟨q, B, X', hpost, hsteps⟩
  · exact Or.inl ⟨v, vm₁, B, X₁.warmed, X', hpost, fun target h => hstep₁ _ fun acts => by rw [doInvoke_state]; exact hsteps.trans h⟩
  · exact Or.inr ⟨q, vm₁, B, X₁.warmed, X', hpost, hstep₁ _ fun acts => by rw [doInvoke_state]; exact hsteps⟩
theorem vx_callVW (X : Stand p l e R s m args below meth c T locs cells slots) (hexec : p.tables.exec = Jvm.exec) {own C : String} {index : Nat} {y : MethodName} {bytes : ByteArray} {maxL : Nat} {ret : Option FieldType} {hh : List (Nat × Nat × Nat × Nat)}
    (hown : s.vm.findClass own = some m.cls) (hlink : (Cond.methodLink own index y).before args s = true) (hinst : (Cond.instanceMethod y).before args s = true) (hsel : (Cond.selects C y y).before args s = true)
    (hcode : (Cond.codeWith y bytes maxL ret hh).before args s = true) (hy : y.cls ≠ "java/lang/invoke/MethodHandle" ∧ y.cls ≠ "java/lang/invoke/VarHandle")
    {W9 : Nat} {Pre : Pt → Array Value → Prop} {Post : Pt → Array Value → Option Value → Pt → Prop} (hK : Back l R p e below s args y 3 W9 Pre Post)
    {b : Addr} {cellB : Cell} (hcell : T.heap[b]? = some cellB) (hobj : cellB.vm.isStatics = false) (hcls : s.vm.findClass C = some cellB.cls)
    {g : JFrame} (hg : g.method = m) (hsize : g.locals.size = c.maxLocals) {argsL rest : List Value} (hlen : ∀ sig, parseMethodDescriptor y.desc = some sig → argsL.length = sig.parameters.length)
    (hstack : g.stack = argsL.reverse ++ .ref b :: rest) (hW : 2 * g.monitorRoom + (rest.map fun v => v.category).sum ≤ W9) (hdg : decode c.code g.pc = .ok (.invokevirtual index, 3))
    (hpre : ∀ vm₁, s.WarmedH vm₁ → Pre ⟨T.setVm vm₁, locs, cells, slots⟩ (Value.ref b :: argsL).toArray) :
    ∃ (v : Option Value) (vm₁ : Vm) (B : Pt), s.WarmedH vm₁ ∧ Stand p l e R s m args below meth c B.U B.locs B.cells B.slots ∧ Post ⟨T.setVm vm₁, locs, cells, slots⟩ (Value.ref b :: argsL).toArray v B ∧
      ∀ target, Steps p.tables e below (B.U.setTop { g with pc := g.pc + 3, stack := v.toList ++ rest }) target → Steps p.tables e below (T.setTop g) target := by
  obtain ⟨mk, methM, hnamed, hmethM, hstM, habM⟩ := Cond.instanceMethod_spec hinst
  obtain ⟨m8, methM', cM, hn8, hmethM', -, -, -, -, -, -, hsigM⟩ := Cond.codeWith_spec hcode
  cases Option.some.inj (hn8.symm.trans hnamed)
  cases hmethM.symm.trans hmethM'
  obtain ⟨c2, r2, m2, q1, q2, q3, q4, kP, hkP, hkPi⟩ := Cond.selects_spec hsel
  cases hcls.symm.trans q1
  cases (State.methodFound?_of_named hnamed hy).symm.trans q2
  cases hnamed.symm.trans q3
  have hselP : selectMethod e.platform s.vm cellB.cls mk = .method mk := by rw [Launch.admits_selectMethod X.admits]; exact q4
  obtain ⟨vm₁, X₁, hstep₁⟩ := X.invokevirtual hexec hown hlink hnamed hmethM hstM hkP hkPi hy (a := b) (cell := cellB) hcell
    (fun z h => by rw [h] at hobj; cases hobj) hselP hmethM habM hkP hkPi (g := g) hg (argsL := argsL) (rest := rest) (hlen _ hsigM) hstack hdg
  obtain ⟨v, B, X', hpost, hsteps⟩ := hK m meth c ⟨T.setVm vm₁, locs, cells, slots⟩ { g with stack := rest } (.invokevirtual index) mk (Value.ref b :: argsL).toArray X₁ hg hsize hdg hW (X₁.named hnamed) (hpre vm₁ X₁.warmed)
  exact ⟨v, vm₁, B, X₁.warmed, X', hpost, fun target h => hstep₁ _ fun acts => by rw [doInvoke_state]; exact hsteps.trans h⟩
abbrev vx_CVW (R : Room) (s : State) (args : Array Value) (own C : String) (index : Nat) (y : MethodName) (bytes : ByteArray) (maxL : Nat) (ret : Option FieldType) (hh : List (Nat × Nat × Nat × Nat)) (ws : List Cond) (rm : Room) (mc ms n : Nat) : Prop :=
  (rm.cells = mc ∧ rm.slots = ms ∧ rm.frames + 1 ≤ R.frames ∧ 8 + (maxL + 11) + rm.locals ≤ R.locals ∧ (∀ w ∈ ws, ∀ (a' : Array Value) (U : State), s.WarmedH U.vm → w.before a' U = true) ∧ Cond.codeWith y bytes maxL ret hh ∈ ws) ∧
  (Cond.codeWith y bytes maxL ret hh).before args s = true ∧ (Cond.initialized y.cls).before args s = true ∧ (y.cls ≠ "java/lang/invoke/MethodHandle" ∧ y.cls ≠ "java/lang/invoke/VarHandle") ∧
  (∀ sig, parseMethodDescriptor y.desc = some sig → n = sig.parameters.length) ∧ (Cond.methodLink own index y).before args s = true ∧ (Cond.instanceMethod y).before args s = true ∧ (Cond.selects C y y).before args s = true
theorem vx_cwVW {own C : String} {index maxL mc ms : Nat} {y : MethodName} {bytes : ByteArray} {ret : Option FieldType} {hh : List (Nat × Nat × Nat × Nat)} {Ts ws ws' : List Cond} {rm : Room} (n : Nat) (ht : ∀ w ∈ Ts, w.before args s = true) (hT : GoodIn Ts (wsV own index C y ws)) (hw : ws = Cond.codeWith y bytes maxL ret hh :: ws') (hrc : rm.cells = mc) (hrs : rm.slots = ms)
    (hd : y.cls = C ∧ y.cls ≠ "java/lang/invoke/MethodHandle" ∧ y.cls ≠ "java/lang/invoke/VarHandle" ∧ (parseMethodDescriptor y.desc).map (fun d => d.parameters.length) = some n) (hR : rm.frames + 1 ≤ R.frames ∧ 8 + (maxL + 11) + rm.locals ≤ R.locals) :
    vx_CVW R s args own C index y bytes maxL ret hh ws rm mc ms n := by
  obtain ⟨hC, hd⟩ := hd
  subst hC
  have ok : ∀ w ∈ wsV own index y.cls y ws, w.before args s = true := fun w h => ht w (hT w h).1
  have hG : GoodIn Ts ws := fun w h => hT w (by unfold wsV; exact List.mem_append_right _ h)
  have hc : Cond.codeWith y bytes maxL ret hh ∈ ws := by rw [hw]; exact List.mem_cons_self
  refine ⟨⟨hrc, hrs, hR.1, hR.2, pay_in ht hG, hc⟩, ht _ (hG _ hc).1, ok _ (by simp [wsV]), ⟨hd.1, hd.2.1⟩, fun sig h => ?_, ok _ (by simp [wsV]), ok _ (by simp [wsV]), ok _ (by simp [wsV])⟩
  have h2 := hd.2.2
  rw [h] at h2
  exact (Option.some.inj h2).symm
theorem vx_runVW {y : MethodName} {bytes cc : ByteArray} {maxL nL mc ms n index : Nat} {ret : Option FieldType} {hh : List (Nat × Nat × Nat × Nat)} {ws : List Cond} {rm : Room} {Pc : Array Value → State → Prop} {Qc : Array Value → State → Outcome → State → Prop} {free : Addr → Prop} {Ts : List Cond} {own C : String} {b : Addr} {As rest : List Value} {g : JFrame}
    (S : CallFix p m c cc nL s args Ts own) (hM : Met l y ws rm Pc Qc mc ms free) (cw : vx_CVW R s args own C index y bytes maxL ret hh ws rm mc ms n) (hp : PreV s H C b Pc As)
    (hg : g.method = m) (hn : As.length = n) (hsize : g.locals.size = nL) (hstack : g.stack = As.reverse ++ .ref b :: rest) (hW : 2 * g.monitorRoom + (rest.map fun v => v.category).sum ≤ 8) (hdg : decode cc g.pc = .ok (.invokevirtual index, 3)) (hf : cells + mc ≤ R.cells ∧ slots + ms ≤ R.slots) :
    va_Run p l e R s m args below meth c H locs cells slots mc ms g rest (Qc (Value.ref b :: As).toArray) free := by
  obtain ⟨⟨hrc, hrs, hfr, hlo, hws, hcw⟩, hcode, hini, hy, hlen, hl, hin, hse⟩ := cw
  have hK : Back l R p e below s args y 3 8 (PreOf R mc ms Pc) (PostOf Qc mc ms free) := va_backW (hh := hh) (bytes := bytes) (maxL := maxL) (ret := ret) hM hp.1 hrc hrs hfr hlo hws hcw (fun a' U hW => word_at hW (Or.inl (by first | rfl | simp [Cond.onTables, Cond.keeps, Cond.steady])) hini)
  obtain ⟨hx, hb, hml, ho, -⟩ := S
  obtain ⟨-, ⟨cellB, hcB, hoB, hclB⟩, hPc⟩ := hp
  intro T hT X
  obtain ⟨v, vm₁, ⟨U', l2, c2, s2⟩, hW₁, X', ⟨g', mk, t, L, e1, e2, hq, h1, hL, h2, h3⟩, st⟩ := vx_callVW X hx (C := C) (hh := hh) (bytes := bytes) (maxL := maxL) (ret := ret) ho hl hin hse hcode hy hK (by rw [hT]; exact hcB) hoB hclB hg (hsize.trans hml.symm) (argsL := As) (rest := rest) (fun sig h => hn.trans (hlen sig h)) hstack hW (by rw [hb]; exact hdg)
    (fun vm₁ hW₁ => ⟨hf.1, hf.2, hPc (T.setVm vm₁) hT hW₁⟩)
  dsimp only [Pt.U, Pt.locs, Pt.cells, Pt.slots] at X' e1 e2 h1 h2 h3 st
  subst h1; subst h2; subst h3
  exact ⟨v, (T.setVm vm₁).calling g' mk (Value.ref b :: As).toArray, t, U', L, hT, X', hL, e1, e2, hq, st⟩
section
variable {y : MethodName} {bytes cc : ByteArray} {maxL nL mc ms n index : Nat} {ret : Option FieldType} {ws : List Cond} {rm : Room} {Pc : Array Value → State → Prop} {Qc : Array Value → State → Outcome → State → Prop} {XC : String → State → State → Prop} {free : Addr → Prop} {Ts : List Cond} {own C : String} {b : Addr} {As rest : List Value} {g : JFrame}
theorem vx_runVX {hh : List (Nat × Nat × Nat × Nat)} (S : CallFix p m c cc nL s args Ts own) (hM : vx_Met l y ws rm Pc Qc XC mc ms free) (cw : vx_CVW R s args own C index y bytes maxL ret hh ws rm mc ms n) (hp : PreV s H C b Pc As)
    (hg : g.method = m) (hn : As.length = n) (hsize : g.locals.size = nL) (hstack : g.stack = As.reverse ++ .ref b :: rest) (hW : 2 * g.monitorRoom + (rest.map fun v => v.category).sum ≤ 8) (hdg : decode cc g.pc = .ok (.invokevirtual index, 3)) (hf : cells + mc ≤ R.cells ∧ slots + ms ≤ R.slots) :
    vx_Run p l e R s m args below meth c H locs cells slots mc ms g rest (Qc (Value.ref b :: As).toArray) XC free := by
  obtain ⟨⟨hrc, hrs, hfr, hlo, hws, hcw⟩, hcode, hini, hy, hlen, hl, hin, hse⟩ := cw
  have hK : vx_Back l R p e below s args y 3 8 (PreOf R mc ms Pc) (PostOf Qc mc ms free) (vx_Post XC mc ms free) := vx_backW (hh := hh) (bytes := bytes) (maxL := maxL) (ret := ret) hM hp.1 hrc hrs hfr hlo hws hcw (fun a' U hW => word_at hW (Or.inl (by first | rfl | simp [Cond.onTables, Cond.keeps, Cond.steady])) hini)
  obtain ⟨hx, hb, hml, ho, -⟩ := S
  obtain ⟨-, ⟨cellB, hcB, hoB, hclB⟩, hPc⟩ := hp
  intro T hT X
  rcases vx_callVX X hx (C := C) (hh := hh) (bytes := bytes) (maxL := maxL) (ret := ret) ho hl hin hse hcode hy hK (by rw [hT]; exact hcB) hoB hclB hg (hsize.trans hml.symm) (argsL := As) (rest := rest) (fun sig h => hn.trans (hlen sig h)) hstack hW (by rw [hb]; exact hdg)
    (fun vm₁ hW₁ => ⟨hf.1, hf.2, hPc (T.setVm vm₁) hT hW₁⟩) with ⟨v, vm₁, ⟨U', l2, c2, s2⟩, hW₁, X', ⟨g', mk, t, L, e1, e2, hq, h1, hL, h2, h3⟩, st⟩ | ⟨q, vm₁, ⟨U', l2, c2, s2⟩, hW₁, X', ⟨g', mk, t, L, E, ce, e1, e2, hq, hce, hcv, hcl, h1, hL, h2, h3⟩, st⟩
  · dsimp only [Pt.U, Pt.locs, Pt.cells, Pt.slots] at X' e1 e2 h1 h2 h3 st
    subst h1; subst h2; subst h3
    exact Or.inl ⟨v, (T.setVm vm₁).calling g' mk (Value.ref b :: As).toArray, t, U', L, hT, X', hL, e1, e2, hq, st⟩
  · dsimp only [Pt.U, Pt.locs, Pt.cells, Pt.slots] at X' e1 e2 h1 h2 h3 st hcl
    subst h1; subst h2; subst h3
    exact Or.inr ⟨q, (T.setVm vm₁).calling g' mk (Value.ref b :: As).toArray, t, U', L, E, ce, hT, X', hL, e1, e2, hq, hce, hcv, vx_cls hW₁ hcl, st⟩
theorem vx_runSX {hh : List (Nat × Nat × Nat × Nat)} (S : CallFix p m c cc nL s args Ts own) (hM : vx_Met l y ws rm Pc Qc XC mc ms free) (cw : vx_CSW R s args own index y bytes maxL ret hh ws rm mc ms n) (hp : PreS s H Pc As)
    (hg : g.method = m) (hn : As.length = n) (hsize : g.locals.size = nL) (hstack : g.stack = As.reverse ++ rest) (hW : 2 * g.monitorRoom + (rest.map fun v => v.category).sum ≤ 8) (hdg : decode cc g.pc = .ok (.invokestatic index, 3)) (hf : cells + mc ≤ R.cells ∧ slots + ms ≤ R.slots) :
    vx_Run p l e R s m args below meth c H locs cells slots mc ms g rest (Qc As.toArray) XC free := by
  obtain ⟨⟨hrc, hrs, hfr, hlo, hws, hcw⟩, hcode, hini, hy, hlen, hl, hstt⟩ := cw
  have hK : vx_Back l R p e below s args y 3 8 (PreOf R mc ms Pc) (PostOf Qc mc ms free) (vx_Post XC mc ms free) := vx_backW (hh := hh) (bytes := bytes) (maxL := maxL) (ret := ret) hM hp.1 hrc hrs hfr hlo hws hcw (fun a' U hW => word_at hW (Or.inl (by first | rfl | simp [Cond.onTables, Cond.keeps, Cond.steady])) hini)
  obtain ⟨hx, hb, hml, ho, -⟩ := S
  intro T hT X
  rcases vx_callSX X hx (hh := hh) (bytes := bytes) (maxL := maxL) (ret := ret) ho hl hstt hini hcode hy hK hg (hsize.trans hml.symm) (argsL := As) (rest := rest) (fun sig h => hn.trans (hlen sig h)) hstack hW (by rw [hb]; exact hdg)
    (fun vm₁ hW₁ => ⟨hf.1, hf.2, hp.2 (T.setVm vm₁) hT hW₁⟩) with ⟨v, vm₁, ⟨U', l2, c2, s2⟩, hW₁, X', ⟨g', mk, t, L, e1, e2, hq, h1, hL, h2, h3⟩, st⟩ | ⟨q, vm₁, ⟨U', l2, c2, s2⟩, hW₁, X', ⟨g', mk, t, L, E, ce, e1, e2, hq, hce, hcv, hcl, h1, hL, h2, h3⟩, st⟩
  · dsimp only [Pt.U, Pt.locs, Pt.cells, Pt.slots] at X' e1 e2 h1 h2 h3 st
    subst h1; subst h2; subst h3
    exact Or.inl ⟨v, (T.setVm vm₁).calling g' mk As.toArray, t, U', L, hT, X', hL, e1, e2, hq, st⟩
  · dsimp only [Pt.U, Pt.locs, Pt.cells, Pt.slots] at X' e1 e2 h1 h2 h3 st hcl
    subst h1; subst h2; subst h3
    exact Or.inr ⟨q, (T.setVm vm₁).calling g' mk As.toArray, t, U', L, E, ce, hT, X', hL, e1, e2, hq, hce, hcv, vx_cls hW₁ hcl, st⟩
end
end VXH
theorem vx_ofWH {l : Launch} {y : MethodName} {ws ws' : List Cond} {rm : Room} {Pc : Array Value → State → Prop} {Qc : Array Value → State → Outcome → State → Prop} {XC : String → State → State → Prop} {mc ms : Nat} {free : Addr → Prop} {cc : ByteArray} {maxL : Nat} {ret : Option FieldType} {hh : List (Nat × Nat × Nat × Nat)}
    (hy : plainName y.cls = true) (hw : ws = Cond.codeWith y cc maxL ret hh :: ws')
    (body : ∀ p e s m args below meth c s₁, BodyLoose p l y (headSpec ws rm) cc maxL ret e s m args below meth c s₁ → c.maxLocals = maxL → Pc args s →
      W p l e (headSpec ws rm).room s m args below meth c s.heap [] 0 0 (vx_MQ below Qc XC args s mc ms free) (entryFrame m args maxL)) : vx_Met l y ws rm Pc Qc XC mc ms free := by
  refine MetFree.of_bodyS (code := cc) (maxLocals := maxL) (ret := ret) hy ?_ ?_
  · intro args s m h hn
    obtain ⟨m9, meth, c, hn9, h1, h2, h3, h4, -, h5, h6, -⟩ := Cond.codeWith_spec (atoms_spec (ws := ws) h _ (by rw [hw]; exact List.mem_cons_self))
    cases hn.symm.trans hn9
    exact ⟨meth, c, h1, h2, h3, h4, h5, h6⟩
  · intro p e s m args below meth c s₁ B hml hP _
    have hh0 : s₁.heap = s.heap := by rw [B.state]; rfl
    obtain ⟨t, a1, o, b1, b2, b3⟩ := body p e s m args below meth c s₁ B hml hP s₁ hh0 (Stand.of_body B)
    exact ⟨t, o, a1, b1, b2, b3⟩
/-! ===== END ===== -/
end
section
/-! ===== catching by a row of the method's own table, behind rows that name other classes (own proofs over the base library) ===== -/
section CA
/-- one row that holds the pc and whose class links: the object is taken, or the search goes on; the link is noted either way -/
theorem ca_row {Q : Handler → Pre} {E : CtlPost} {e : Env} {d : Bool} {acts : List Action} {s : State} {f : JFrame} {a : Addr} {x : ExceptionTableEntry} {t : List ExceptionTableEntry} {k : ClassId} {ce : Cell}
    (hx : covers x f.pc = true) (h0 : x.catchType ≠ 0) (hl : s.vm.ClassLinks e.platform f.method.cls x.catchType k) (hce : s.heap[a]? = some ce) (hv : ce.vm = .none)
    (h1 : ∃ q, s.vm.classes[ce.cls]? = some q) (h2 : ∃ q, s.vm.classes[k]? = some q) :
    wp (findHandler.go f a (x :: t)) Q E e d acts s ↔
      if s.vm.assignable ce.cls k = true then Q (.found x.handlerPc) d acts (s.setVm (s.vm.noted f.method.cls x.catchType (.cls k)))
      else wp (findHandler.go f a t) Q E e d acts (s.setVm (s.vm.noted f.method.cls x.catchType (.cls k))) := by
  simp only [covers] at hx
  obtain ⟨r1, r2⟩ := (resolveClass_links e.toSetting hl).op (op := VmOp.resolveClass f.method.cls x.catchType) rfl
  have al : s.vm.Alike (s.vm.noted f.method.cls x.catchType (.cls k)) := (Vm.Alike.refl s.vm).noted _ _ _
  obtain ⟨q1, e1⟩ := h1
  obtain ⟨q2, e2⟩ := h2
  obtain ⟨q3, e3, -⟩ := al.2.2 _ _ e1
  obtain ⟨q4, e4, -⟩ := al.2.2 _ _ e2
  have as := al.assignable ce.cls k
  have ho : ∀ z, ce.vm ≠ .statics z := fun z h => by rw [hv] at h; cases h
  cases hfit : s.vm.assignable ce.cls k <;> rw [hfit] at as <;> simp [findHandler.go, hx, h0, r1, r2, hce, ho, e3, e4, as, VmOp.dirties, VmOp.acts]
/-- the whole search: the rows 'pre' are passed, x takes it -/
theorem ca_go {e : Env} {s₀ : State} {f : JFrame} {a : Addr} {ce : Cell} (hv : ce.vm = .none) (hk0 : ∃ q, s₀.vm.classes[ce.cls]? = some q) {x : ExceptionTableEntry} {suf : List ExceptionTableEntry}
    (hx : covers x f.pc = true) (h0 : x.catchType ≠ 0) {k : ClassId} (hl : s₀.vm.ClassLinks e.platform f.method.cls x.catchType k) (hfit : s₀.vm.assignable ce.cls k = true) :
    ∀ (pre : List ExceptionTableEntry) (S : State), s₀.WarmedH S.vm → S.heap[a]? = some ce →
      (∀ z ∈ pre, covers z f.pc = false ∨ (z.catchType ≠ 0 ∧ ∃ k', s₀.vm.ClassLinks e.platform f.method.cls z.catchType k' ∧ s₀.vm.assignable ce.cls k' = false)) →
      ∃ vm', s₀.WarmedH vm' ∧ ∀ (Q : Handler → Pre) (E : CtlPost) (d : Bool) (acts : List Action), wp (findHandler.go f a (pre ++ x :: suf)) Q E e d acts S ↔ Q (.found x.handlerPc) d acts (S.setVm vm') := by
  obtain ⟨q0, hq0⟩ := hk0
  have row : ∀ (z : ExceptionTableEntry) (kz : ClassId) (S : State), s₀.WarmedH S.vm → s₀.vm.ClassLinks e.platform f.method.cls z.catchType kz →
      s₀.WarmedH (S.vm.noted f.method.cls z.catchType (.cls kz)) ∧ S.vm.ClassLinks e.platform f.method.cls z.catchType kz ∧ (∃ q, S.vm.classes[ce.cls]? = some q) ∧ (∃ q, S.vm.classes[kz]? = some q) ∧ S.vm.assignable ce.cls kz = s₀.vm.assignable ce.cls kz := by
    intro z kz S hW hz
    obtain ⟨dk, _, _, kt, hd, _, _, _, _, hkt, _, hopen⟩ := hz.here
    obtain ⟨q1, h1, -⟩ := hW.alike.2.2 _ _ hq0
    obtain ⟨q2, h2, -⟩ := hW.alike.2.2 _ _ hkt
    exact ⟨hW.noted hd hopen (State.rightAt_cls hz), hW.classLinks hz, ⟨q1, h1⟩, ⟨q2, h2⟩, hW.alike.assignable _ _⟩
  intro pre
  induction pre with
  | nil =>
    intro S hW hc _
    obtain ⟨w1, w2, w3, w4, w5⟩ := row x k S hW hl
    refine ⟨_, w1, fun Q E d acts => ?_⟩
    rw [List.nil_append, ca_row hx h0 w2 hc hv w3 w4, if_pos (w5.trans hfit)]
  | cons z zs ih =>
    intro S hW hc hp
    rcases hp z List.mem_cons_self with hn | ⟨hz0, kz, hz, hno⟩
    · obtain ⟨vm', w1, w2⟩ := ih S hW hc (fun y hy => hp y (List.mem_cons_of_mem _ hy))
      refine ⟨vm', w1, fun Q E d acts => ?_⟩
      rw [List.cons_append, Jvm.W.findHandler_go_skip hn]
      exact w2 Q E d acts
    · by_cases hcov : covers z f.pc = true
      · obtain ⟨v1, v2, v3, v4, v5⟩ := row z kz S hW hz
        obtain ⟨vm', w1, w2⟩ := ih (S.setVm (S.vm.noted f.method.cls z.catchType (.cls kz))) v1 hc (fun y hy => hp y (List.mem_cons_of_mem _ hy))
        refine ⟨vm', w1, fun Q E d acts => ?_⟩
        rw [List.cons_append, ca_row hcov hz0 v2 hc hv v3 v4, if_neg (by rw [v5, hno]; decide)]
        exact w2 Q E d acts
      · obtain ⟨vm', w1, w2⟩ := ih S hW hc (fun y hy => hp y (List.mem_cons_of_mem _ hy))
        refine ⟨vm', w1, fun Q E d acts => ?_⟩
        rw [List.cons_append, Jvm.W.findHandler_go_skip (by simpa using hcov)]
        exact w2 Q E d acts
end CA
section CB
variable {p : Program} {l : Launch} {e : Env} {R : Room} {s : State} {m : MethodId} {args : Array Value} {below : List Frame} {meth : Method} {c : Code} {H : Heap} {locs : List Loc} {cells slots : Nat} {Q : State → Prop}
variable {pc : Nat} {ls : Array Slot} {rest : List Value}
/-- caught by the row x of this method's table; the rows ahead don't take it -/
theorem vx_catch {own name : String} {E : String} {ce : Cell} {q : Addr} (hown : s.vm.findClass own = some m.cls) (pre : List ExceptionTableEntry) (x : ExceptionTableEntry) (suf : List ExceptionTableEntry) (hsplit : c.exceptionTable.toList = pre ++ x :: suf)
    (hpass : ∀ z ∈ pre, covers z pc = false ∨ (z.catchType ≠ 0 ∧ ∃ nm : String, (Cond.classLink own z.catchType nm).before args s = true ∧ va_Nc E nm s)) (hx : covers x pc = true) (h0 : x.catchType ≠ 0)
    (hlink : (Cond.classLink own x.catchType name).before args s = true) (hcast : (Cond.castable E name).before args s = true) (hcell : H[q]? = some ce) (hv : ce.vm = .none) (hcl : s.vm.findClass E = some ce.cls)
    (kk : W p l e R s m args below meth c H locs cells slots Q (F0 m x.handlerPc ls [.ref q])) : vx_W p l e R s m args below meth c H locs cells slots Q (F0 m pc ls rest) q := by
  intro T hT X
  have hpl : e.platform.magicAccessors = ({} : Platform).magicAccessors := by rw [X.admits.platform]
  obtain ⟨c3, c4, hc3, hc4, hasg⟩ := Cond.castable_spec hcast
  cases Option.some.inj (hc3.symm.trans hcl)
  obtain ⟨c5, hc5, hcl5⟩ := Cond.classLink_spec hown hlink e.platform hpl
  cases Option.some.inj (hc4.symm.trans hc5)
  have hk0 : ∃ q, s.vm.classes[ce.cls]? = some q := by obtain ⟨k9, h9, -⟩ := Vm.findClass_spec hcl; exact ⟨k9, h9⟩
  have hheap : ((T.setTop (F0 m pc ls rest)).pushFrame (.throwing q)).heap[q]? = some ce := by rw [Stand.throwing_heap, hT]; exact hcell
  have hvm : ((T.setTop (F0 m pc ls rest)).pushFrame (.throwing q)).vm = T.vm := Stand.throwing_vm T _ q
  obtain ⟨vm', hW', hq⟩ := ca_go (e := e) (s₀ := s) (f := F0 m pc ls rest) (a := q) (suf := suf) hv hk0 hx h0 hcl5 hasg pre ((T.setTop (F0 m pc ls rest)).pushFrame (.throwing q)) (by rw [hvm]; exact X.warmed) hheap
    (fun z hz => by
      rcases hpass z hz with h | ⟨hz0, nm, hl1, hn1⟩
      · exact Or.inl h
      · obtain ⟨c6, hc6, hcl6⟩ := Cond.classLink_spec hown hl1 e.platform hpl
        obtain ⟨a8, b8, h1, h2, h3⟩ := hn1
        cases Option.some.inj (h1.symm.trans hcl)
        cases Option.some.inj (h2.symm.trans hc6)
        exact Or.inr ⟨hz0, _, hcl6, h3⟩)
  obtain ⟨t, a1, b1⟩ := kk (T.setVm vm') hT (X.noted hW')
  refine ⟨t, ?_, b1⟩
  have hfind : ∀ (Q : Handler → Pre) (E : CtlPost) (d : Bool) (acts : List Action), wp (findHandler (F0 m pc ls rest) q) Q E e d acts ((T.setTop (F0 m pc ls rest)).pushFrame (.throwing q)) ↔ Q (.found x.handlerPc) d acts (((T.setTop (F0 m pc ls rest)).pushFrame (.throwing q)).setVm vm') := by
    intro Q E d acts
    rw [Jvm.W.findHandler_eq (meth := meth) (code := c) (by rw [hvm]; exact X.method') X.code, hsplit]
    exact hq Q E d acts
  have hat : At T (F0 m pc ls rest).method c below := X.here
  obtain ⟨hgo, hw⟩ := hat.throwing q
  refine Steps.head hgo hw ?_
  rw [stepThread_throwing (frames_entered hat.top _)]
  have hstep : (stepThrowing e ((T.setTop (F0 m pc ls rest)).pushFrame (.throwing q)) q (.java (F0 m pc ls rest) :: T.frames.tail)).1 = (((T.setTop (F0 m pc ls rest)).pushFrame (.throwing q)).setVm vm').setFrames (.java { (F0 m pc ls rest) with pc := x.handlerPc, stack := [.ref q] } :: T.frames.tail) := by
    simp only [stepThrowing, searchFrame, vmDo]
    generalize hr : Sem.go _ e false [] ((T.setTop (F0 m pc ls rest)).pushFrame (.throwing q)) = res
    obtain ⟨as, rfl, ha⟩ := Sem.eq_ok_of hr (a := Handler.found x.handlerPc) (s' := ((T.setTop (F0 m pc ls rest)).pushFrame (.throwing q)).setVm vm') (acts' := []) (by simp [hfind _ _ _ _])
    rfl
  rw [hstep]
  obtain ⟨g₀, hg⟩ := Option.isSome_iff_exists.mp hat.top
  obtain ⟨r, hr⟩ := State.topJava?_eq_some.mp hg
  have hr' : (T.setVm vm').frames = .java g₀ :: r := hr
  rw [State.setTop_of_frames _ hr'] at a1
  have e9 : ∀ (u : State) (F G : List Frame), ((u.setFrames F).setVm vm').setFrames G = (u.setVm vm').setFrames G := by
    intro u F G
    rw [show (u.setFrames F).setVm vm' = (u.setVm vm').setFrames F from rfl, State.setFrames_setFrames]
  rw [hr, List.tail_cons, State.pushFrame, e9, State.setTop_of_frames _ hr, e9]
  exact a1
end CB
end
section
/-! ===== BEGIN printed: names, fields, word lists, decode rows ===== -/
def RX0 : String := "FoldRow$Effect"
def TX0 : u_T := fun k => match k with
  | 0 => ("FoldRow$Effect", "shift", "J", false)
  | 1 => ("FoldRow$Effect", "hasLow", "Z", false)
  | 2 => ("FoldRow$Effect", "low", "J", false)
  | 3 => ("FoldRow$Effect", "hasHigh", "Z", false)
  | _ => ("FoldRow$Effect", "high", "J", false)
def tyX0 : Nat → FieldType := fun k => match k with
  | 0 => .long
  | 1 => .boolean
  | 2 => .long
  | 3 => .boolean
  | _ => .long
abbrev wsX00 : List Cond := u_ws RX0 TX0 5
theorem nmX0 : ∀ a, a < 5 → ∀ b, b < 5 → a ≠ b → (TX0 a).2.1 ≠ (TX0 b).2.1 := by decide +kernel
theorem tyX0_ok : ∀ k, k < 5 → parseFieldDescriptor (TX0 k).2.2.1 = some (tyX0 k) := by decide +kernel
abbrev cX0_init : ByteArray := prog_2_method_1_code
def yX0_init : MethodName := ⟨RX0, "<init>", "()V"⟩
abbrev cX0_then : ByteArray := prog_2_method_2_code
def yX0_then : MethodName := ⟨RX0, "then", "(IJ)V"⟩
abbrev cX0_thenAdd : ByteArray := prog_2_method_3_code
def yX0_thenAdd : MethodName := ⟨RX0, "thenAdd", "(J)V"⟩
abbrev cX0_thenGreater : ByteArray := prog_2_method_4_code
def yX0_thenGreater : MethodName := ⟨RX0, "thenGreater", "(J)V"⟩
abbrev cX0_thenLesser : ByteArray := prog_2_method_5_code
def yX0_thenLesser : MethodName := ⟨RX0, "thenLesser", "(J)V"⟩
abbrev cX0_on : ByteArray := prog_2_method_6_code
def yX0_on : MethodName := ⟨RX0, "on", "(J)J"⟩
abbrev cX0_staysAtHigh : ByteArray := prog_2_method_7_code
def yX0_staysAtHigh : MethodName := ⟨RX0, "staysAtHigh", "(Z)Z"⟩
abbrev cX0_isSameOfAll : ByteArray := prog_2_method_8_code
def yX0_isSameOfAll : MethodName := ⟨RX0, "isSameOfAll", "()Z"⟩
abbrev cX0_leavesEachItself : ByteArray := prog_2_method_9_code
def yX0_leavesEachItself : MethodName := ⟨RX0, "leavesEachItself", "()Z"⟩
def RX1 : String := "FoldRow"
def TX1 : u_T := fun k => match k with
  | 0 => ("FoldRow", "kinds", "[I", true)
  | _ => ("FoldRow", "values", "[J", true)
def tyX1 : Nat → FieldType := fun k => match k with
  | 0 => .array .int
  | _ => .array .long
abbrev wsX10 : List Cond := u_ws RX1 TX1 2
theorem nmX1 : ∀ a, a < 2 → ∀ b, b < 2 → a ≠ b → (TX1 a).2.1 ≠ (TX1 b).2.1 := by decide +kernel
theorem tyX1_ok : ∀ k, k < 2 → parseFieldDescriptor (TX1 k).2.2.1 = some (tyX1 k) := by decide +kernel
abbrev cX1_init : ByteArray := prog_1_method_1_code
def yX1_init : MethodName := ⟨RX1, "<init>", "()V"⟩
abbrev cX1_set : ByteArray := prog_1_method_2_code
def yX1_set : MethodName := ⟨RX1, "set", "(IIJ)V"⟩
abbrev cX1_fill : ByteArray := prog_1_method_3_code
def yX1_fill : MethodName := ⟨RX1, "fill", "(IIIJ)V"⟩
abbrev cX1_swap : ByteArray := prog_1_method_4_code
def yX1_swap : MethodName := ⟨RX1, "swap", "(II)V"⟩
abbrev cX1_fold : ByteArray := prog_1_method_5_code
def yX1_fold : MethodName := ⟨RX1, "fold", "(IIJ)J"⟩
abbrev cX1_again : ByteArray := prog_1_method_6_code
def yX1_again : MethodName := ⟨RX1, "again", "(IIJI)J"⟩
abbrev cX1_least : ByteArray := prog_1_method_7_code
def yX1_least : MethodName := ⟨RX1, "least", "(II)J"⟩
abbrev cX1_greatest : ByteArray := prog_1_method_8_code
def yX1_greatest : MethodName := ⟨RX1, "greatest", "(II)J"⟩
abbrev cX1_fixed : ByteArray := prog_1_method_9_code
def yX1_fixed : MethodName := ⟨RX1, "fixed", "(IIZ)J"⟩
abbrev cX1_about : ByteArray := prog_1_method_10_code
def yX1_about : MethodName := ⟨RX1, "about", "(III)I"⟩
abbrev cX1_countBusy : ByteArray := prog_1_method_11_code
def yX1_countBusy : MethodName := ⟨RX1, "countBusy", "(II)I"⟩
abbrev cX1_effectOf : ByteArray := prog_1_method_12_code
def yX1_effectOf : MethodName := ⟨RX1, "effectOf", "(II)LFoldRow$Effect;"⟩
abbrev cX1_checkRule : ByteArray := prog_1_method_13_code
def yX1_checkRule : MethodName := ⟨RX1, "checkRule", "(IJ)V"⟩
abbrev cX1_checkNumber : ByteArray := prog_1_method_14_code
def yX1_checkNumber : MethodName := ⟨RX1, "checkNumber", "(J)V"⟩
abbrev cX1_checkTimes : ByteArray := prog_1_method_15_code
def yX1_checkTimes : MethodName := ⟨RX1, "checkTimes", "(I)V"⟩
abbrev cX1_checkQuestion : ByteArray := prog_1_method_16_code
def yX1_checkQuestion : MethodName := ⟨RX1, "checkQuestion", "(I)V"⟩
abbrev cX1_checkPlace : ByteArray := prog_1_method_17_code
def yX1_checkPlace : MethodName := ⟨RX1, "checkPlace", "(I)V"⟩
abbrev cX1_checkPart : ByteArray := prog_1_method_18_code
def yX1_checkPart : MethodName := ⟨RX1, "checkPart", "(II)V"⟩
def RX2 : String := "FoldRowModel"
def TX2 : u_T := fun k => match k with
  | 0 => ("FoldRowModel", "err", "I", false)
  | 1 => ("FoldRowModel", "kinds", "[I", true)
  | _ => ("FoldRowModel", "numbers", "[J", true)
def tyX2 : Nat → FieldType := fun k => match k with
  | 0 => .int
  | 1 => .array .int
  | _ => .array .long
abbrev wsX20 : List Cond := u_ws RX2 TX2 3
theorem nmX2 : ∀ a, a < 3 → ∀ b, b < 3 → a ≠ b → (TX2 a).2.1 ≠ (TX2 b).2.1 := by decide +kernel
theorem tyX2_ok : ∀ k, k < 3 → parseFieldDescriptor (TX2 k).2.2.1 = some (tyX2 k) := by decide +kernel
abbrev cX2_init : ByteArray := prog_4_method_1_code
def yX2_init : MethodName := ⟨RX2, "<init>", "()V"⟩
abbrev cX2_thrown : ByteArray := prog_4_method_2_code
def yX2_thrown : MethodName := ⟨RX2, "thrown", "()I"⟩
abbrev cX2_in : ByteArray := prog_4_method_3_code
def yX2_in : MethodName := ⟨RX2, "in", "(JJJ)Z"⟩
abbrev cX2_fails : ByteArray := prog_4_method_4_code
def yX2_fails : MethodName := ⟨RX2, "fails", "(ZI)Z"⟩
abbrev cX2_isRule : ByteArray := prog_4_method_5_code
def yX2_isRule : MethodName := ⟨RX2, "isRule", "(IJ)Z"⟩
abbrev cX2_isPart : ByteArray := prog_4_method_6_code
def yX2_isPart : MethodName := ⟨RX2, "isPart", "(II)Z"⟩
abbrev cX2_isNumber : ByteArray := prog_4_method_7_code
def yX2_isNumber : MethodName := ⟨RX2, "isNumber", "(J)Z"⟩
abbrev cX2_set : ByteArray := prog_4_method_8_code
def yX2_set : MethodName := ⟨RX2, "set", "(IIJ)V"⟩
abbrev cX2_fill : ByteArray := prog_4_method_9_code
def yX2_fill : MethodName := ⟨RX2, "fill", "(IIIJ)V"⟩
abbrev cX2_swap : ByteArray := prog_4_method_10_code
def yX2_swap : MethodName := ⟨RX2, "swap", "(II)V"⟩
abbrev cX2_made : ByteArray := prog_4_method_11_code
def yX2_made : MethodName := ⟨RX2, "made", "(IIJ)J"⟩
abbrev cX2_fold : ByteArray := prog_4_method_12_code
def yX2_fold : MethodName := ⟨RX2, "fold", "(IIJ)J"⟩
abbrev cX2_again : ByteArray := prog_4_method_13_code
def yX2_again : MethodName := ⟨RX2, "again", "(IIJI)J"⟩
abbrev cX2_ends : ByteArray := prog_4_method_14_code
def yX2_ends : MethodName := ⟨RX2, "ends", "(IIJ)Z"⟩
abbrev cX2_least : ByteArray := prog_4_method_15_code
def yX2_least : MethodName := ⟨RX2, "least", "(II)J"⟩
abbrev cX2_greatest : ByteArray := prog_4_method_16_code
def yX2_greatest : MethodName := ⟨RX2, "greatest", "(II)J"⟩
abbrev cX2_fixed : ByteArray := prog_4_method_17_code
def yX2_fixed : MethodName := ⟨RX2, "fixed", "(IIZ)J"⟩
abbrev cX2_about : ByteArray := prog_4_method_18_code
def yX2_about : MethodName := ⟨RX2, "about", "(III)I"⟩
def RJ9 : String := "java/lang/Math"
def TJ9 : u_T := fun k => match k with
  | _ => ("", "", "", false)
def tyJ9 : Nat → FieldType := fun k => match k with
  | _ => .int
abbrev wsJ90 : List Cond := u_ws RJ9 TJ9 0
theorem nmJ9 : ∀ a, a < 0 → ∀ b, b < 0 → a ≠ b → (TJ9 a).2.1 ≠ (TJ9 b).2.1 := by decide +kernel
theorem tyJ9_ok : ∀ k, k < 0 → parseFieldDescriptor (TJ9 k).2.2.1 = some (tyJ9 k) := by decide +kernel
abbrev cJ9_max_f86c9 : ByteArray := prog_8_method_66_code
def yJ9_max_f86c9 : MethodName := ⟨RJ9, "max", "(JJ)J"⟩
abbrev cJ9_min_f86c9 : ByteArray := prog_8_method_70_code
def yJ9_min_f86c9 : MethodName := ⟨RJ9, "min", "(JJ)J"⟩
def RJ0 : String := "java/lang/String"
def TJ0 : u_T := fun k => match k with
  | _ => ("", "", "", false)
def tyJ0 : Nat → FieldType := fun k => match k with
  | _ => .int
abbrev wsJ00 : List Cond := u_ws RJ0 TJ0 0
theorem nmJ0 : ∀ a, a < 0 → ∀ b, b < 0 → a ≠ b → (TJ0 a).2.1 ≠ (TJ0 b).2.1 := by decide +kernel
theorem tyJ0_ok : ∀ k, k < 0 → parseFieldDescriptor (TJ0 k).2.2.1 = some (tyJ0 k) := by decide +kernel
def RL : String := "FoldRowLaw"
abbrev cL_set : ByteArray := method_3_code
def yL_set : MethodName := ⟨RL, "set", "(LFoldRow;IIJ)I"⟩
abbrev cL_fill : ByteArray := method_4_code
def yL_fill : MethodName := ⟨RL, "fill", "(LFoldRow;IIIJ)I"⟩
abbrev cL_swap : ByteArray := method_5_code
def yL_swap : MethodName := ⟨RL, "swap", "(LFoldRow;II)I"⟩
abbrev cL_fold : ByteArray := method_6_code
def yL_fold : MethodName := ⟨RL, "fold", "(LFoldRow;IIJ[J)I"⟩
abbrev cL_again : ByteArray := method_7_code
def yL_again : MethodName := ⟨RL, "again", "(LFoldRow;IIJI[J)I"⟩
abbrev cL_least : ByteArray := method_8_code
def yL_least : MethodName := ⟨RL, "least", "(LFoldRow;II[J)I"⟩
abbrev cL_greatest : ByteArray := method_9_code
def yL_greatest : MethodName := ⟨RL, "greatest", "(LFoldRow;II[J)I"⟩
abbrev cL_fixed : ByteArray := method_10_code
def yL_fixed : MethodName := ⟨RL, "fixed", "(LFoldRow;IIZ[J)I"⟩
abbrev cL_about : ByteArray := method_11_code
def yL_about : MethodName := ⟨RL, "about", "(LFoldRow;III[J)I"⟩
abbrev cL_law : ByteArray := code
def yL_law : MethodName := ⟨RL, "law", "([I)Z"⟩
def wsX0_init : List Cond := .code yX0_init cX0_init 1 none :: ([.methodLink RX0 3 objectInit, .instanceMethod objectInit, .code objectInit ⟨#[0xb1]⟩ 1 none, .fieldLink RX0 9 "FoldRow$Effect" "shift" "J", .fieldLink RX0 15 "FoldRow$Effect" "hasLow" "Z", .fieldLink RX0 19 "FoldRow$Effect" "low" "J", .fieldLink RX0 22 "FoldRow$Effect" "hasHigh" "Z", .fieldLink RX0 25 "FoldRow$Effect" "high" "J"] ++ wsX00)
def wsX0_thenAdd : List Cond := .code yX0_thenAdd cX0_thenAdd 3 none :: ([.fieldLink RX0 9 "FoldRow$Effect" "shift" "J", .fieldLink RX0 19 "FoldRow$Effect" "low" "J", .fieldLink RX0 25 "FoldRow$Effect" "high" "J"] ++ wsX00)
def wsX0_thenGreater : List Cond := .code yX0_thenGreater cX0_thenGreater 3 none :: ([.fieldLink RX0 15 "FoldRow$Effect" "hasLow" "Z", .fieldLink RX0 19 "FoldRow$Effect" "low" "J", .methodLink RX0 38 Lib.MathLoose.max_long.x, .static Lib.MathLoose.max_long.x, .initialized "java/lang/Math", .code Lib.MathLoose.max_long.x Lib.MathLoose.max_long.code 4 (some .long), .fieldLink RX0 25 "FoldRow$Effect" "high" "J"] ++ wsX00)
def wsX0_thenLesser : List Cond := .code yX0_thenLesser cX0_thenLesser 3 none :: ([.fieldLink RX0 22 "FoldRow$Effect" "hasHigh" "Z", .fieldLink RX0 25 "FoldRow$Effect" "high" "J", .methodLink RX0 44 Lib.MathLoose.min_long.x, .static Lib.MathLoose.min_long.x, .initialized "java/lang/Math", .code Lib.MathLoose.min_long.x Lib.MathLoose.min_long.code 4 (some .long), .fieldLink RX0 19 "FoldRow$Effect" "low" "J"] ++ wsX00)
def wsX0_then_r1 : List Cond := [Cond.methodLink RX0 28 yX0_thenAdd, Cond.instanceMethod yX0_thenAdd, Cond.selects RX0 yX0_thenAdd yX0_thenAdd, Cond.initialized RX0, Cond.code yX0_thenAdd cX0_thenAdd 3 none, Cond.fieldLink RX0 9 "FoldRow$Effect" "shift" "J", Cond.fieldLink RX0 19 "FoldRow$Effect" "low" "J", Cond.fieldLink RX0 25 "FoldRow$Effect" "high" "J", Cond.methodLink RX0 32 yX0_thenGreater, Cond.instanceMethod yX0_thenGreater, Cond.selects RX0 yX0_thenGreater yX0_thenGreater, Cond.code yX0_thenGreater cX0_thenGreater 3 none, Cond.fieldLink RX0 15 "FoldRow$Effect" "hasLow" "Z", Cond.methodLink RX0 38 Lib.MathLoose.max_long.x, Cond.static Lib.MathLoose.max_long.x, Cond.initialized "java/lang/Math", Cond.code Lib.MathLoose.max_long.x Lib.MathLoose.max_long.code 4 (some .long), Cond.methodLink RX0 35 yX0_thenLesser, Cond.instanceMethod yX0_thenLesser, Cond.selects RX0 yX0_thenLesser yX0_thenLesser, Cond.code yX0_thenLesser cX0_thenLesser 3 none, Cond.fieldLink RX0 22 "FoldRow$Effect" "hasHigh" "Z", Cond.methodLink RX0 44 Lib.MathLoose.min_long.x, Cond.static Lib.MathLoose.min_long.x]
def wsX0_then_r2 : List Cond := [Cond.code Lib.MathLoose.min_long.x Lib.MathLoose.min_long.code 4 (some .long)]
def wsX0_then : List Cond := .code yX0_then cX0_then 4 none :: ((wsX0_then_r1 ++ wsX0_then_r2) ++ wsX00)
def wsX0_on : List Cond := .code yX0_on cX0_on 5 (some .long) :: ([.fieldLink RX0 9 "FoldRow$Effect" "shift" "J", .fieldLink RX0 15 "FoldRow$Effect" "hasLow" "Z", .fieldLink RX0 19 "FoldRow$Effect" "low" "J", .fieldLink RX0 22 "FoldRow$Effect" "hasHigh" "Z", .fieldLink RX0 25 "FoldRow$Effect" "high" "J"] ++ wsX00)
def wsX0_staysAtHigh : List Cond := .code yX0_staysAtHigh cX0_staysAtHigh 2 (some .boolean) :: ([.fieldLink RX0 9 "FoldRow$Effect" "shift" "J"] ++ wsX00)
def wsX0_isSameOfAll : List Cond := .code yX0_isSameOfAll cX0_isSameOfAll 1 (some .boolean) :: ([.fieldLink RX0 15 "FoldRow$Effect" "hasLow" "Z", .fieldLink RX0 22 "FoldRow$Effect" "hasHigh" "Z", .fieldLink RX0 19 "FoldRow$Effect" "low" "J", .fieldLink RX0 25 "FoldRow$Effect" "high" "J"] ++ wsX00)
def wsX0_leavesEachItself : List Cond := .code yX0_leavesEachItself cX0_leavesEachItself 1 (some .boolean) :: ([.fieldLink RX0 9 "FoldRow$Effect" "shift" "J", .fieldLink RX0 15 "FoldRow$Effect" "hasLow" "Z", .fieldLink RX0 22 "FoldRow$Effect" "hasHigh" "Z"] ++ wsX00)
def wsX1_init : List Cond := .code yX1_init cX1_init 1 none :: ([.methodLink RX1 1 objectInit, .instanceMethod objectInit, .code objectInit ⟨#[0xb1]⟩ 1 none, .arrayClass .int, .fieldLink RX1 9 "FoldRow" "kinds" "[I", .arrayClass .long, .fieldLink RX1 13 "FoldRow" "values" "[J"] ++ wsX10)
def wsX1_checkRule : List Cond := .code yX1_checkRule cX1_checkRule 3 none :: ([.classLink RX1 93 "java/lang/IllegalArgumentException", .initialized "java/lang/IllegalArgumentException", .constantLong RX1 98 (-1000000000), .constantLong RX1 100 (1000000000)] ++ (vx_atS RX1 97 "java/lang/IllegalArgumentException" ["java/lang/RuntimeException", "java/lang/Exception"]).filter goodWord)
def wsX1_checkPlace : List Cond := .code yX1_checkPlace cX1_checkPlace 1 none :: ([.classLink RX1 114 "java/lang/IndexOutOfBoundsException", .initialized "java/lang/IndexOutOfBoundsException"] ++ (vx_atS RX1 118 "java/lang/IndexOutOfBoundsException" ["java/lang/RuntimeException", "java/lang/Exception"]).filter goodWord)
def wsX1_set : List Cond := .code yX1_set cX1_set 5 none :: ([.fieldLink RX1 9 "FoldRow" "kinds" "[I", .fieldLink RX1 13 "FoldRow" "values" "[J", .methodLink RX1 17 yX1_checkRule, .static yX1_checkRule, .initialized RX1, .code yX1_checkRule cX1_checkRule 3 none, .classLink RX1 93 "java/lang/IllegalArgumentException", .initialized "java/lang/IllegalArgumentException", .constantLong RX1 98 (-1000000000), .constantLong RX1 100 (1000000000), .methodLink RX1 21 yX1_checkPlace, .static yX1_checkPlace, .code yX1_checkPlace cX1_checkPlace 1 none, .classLink RX1 114 "java/lang/IndexOutOfBoundsException", .initialized "java/lang/IndexOutOfBoundsException"] ++ wsX10 ++ (vx_atS RX1 97 "java/lang/IllegalArgumentException" ["java/lang/RuntimeException", "java/lang/Exception"]).filter goodWord ++ (vx_atS RX1 118 "java/lang/IndexOutOfBoundsException" ["java/lang/RuntimeException", "java/lang/Exception"]).filter goodWord)
def wsX1_checkPart : List Cond := .code yX1_checkPart cX1_checkPart 2 none :: ([.classLink RX1 114 "java/lang/IndexOutOfBoundsException", .initialized "java/lang/IndexOutOfBoundsException"] ++ (vx_atS RX1 118 "java/lang/IndexOutOfBoundsException" ["java/lang/RuntimeException", "java/lang/Exception"]).filter goodWord)
def wsX1_fill : List Cond := .code yX1_fill cX1_fill 7 none :: ([.fieldLink RX1 9 "FoldRow" "kinds" "[I", .fieldLink RX1 13 "FoldRow" "values" "[J", .methodLink RX1 17 yX1_checkRule, .static yX1_checkRule, .initialized RX1, .code yX1_checkRule cX1_checkRule 3 none, .classLink RX1 93 "java/lang/IllegalArgumentException", .initialized "java/lang/IllegalArgumentException", .constantLong RX1 98 (-1000000000), .constantLong RX1 100 (1000000000), .methodLink RX1 25 yX1_checkPart, .static yX1_checkPart, .code yX1_checkPart cX1_checkPart 2 none, .classLink RX1 114 "java/lang/IndexOutOfBoundsException", .initialized "java/lang/IndexOutOfBoundsException"] ++ wsX10 ++ (vx_atS RX1 97 "java/lang/IllegalArgumentException" ["java/lang/RuntimeException", "java/lang/Exception"]).filter goodWord ++ (vx_atS RX1 118 "java/lang/IndexOutOfBoundsException" ["java/lang/RuntimeException", "java/lang/Exception"]).filter goodWord)
def wsX1_swap : List Cond := .code yX1_swap cX1_swap 6 none :: ([.fieldLink RX1 9 "FoldRow" "kinds" "[I", .fieldLink RX1 13 "FoldRow" "values" "[J", .methodLink RX1 21 yX1_checkPlace, .static yX1_checkPlace, .initialized RX1, .code yX1_checkPlace cX1_checkPlace 1 none, .classLink RX1 114 "java/lang/IndexOutOfBoundsException", .initialized "java/lang/IndexOutOfBoundsException"] ++ wsX10 ++ (vx_atS RX1 118 "java/lang/IndexOutOfBoundsException" ["java/lang/RuntimeException", "java/lang/Exception"]).filter goodWord)
def wsX1_checkNumber : List Cond := .code yX1_checkNumber cX1_checkNumber 2 none :: ([.classLink RX1 93 "java/lang/IllegalArgumentException", .initialized "java/lang/IllegalArgumentException", .constantLong RX1 104 (-1000000000000), .constantLong RX1 106 (1000000000000)] ++ (vx_atS RX1 97 "java/lang/IllegalArgumentException" ["java/lang/RuntimeException", "java/lang/Exception"]).filter goodWord)
def wsX1_effectOf_r1 : List Cond := [Cond.classLink RX1 38 RX0, Cond.instantiable RX0 5, Cond.initialized RX0, Cond.fieldLink RX1 9 "FoldRow" "kinds" "[I", Cond.fieldLink RX1 13 "FoldRow" "values" "[J", Cond.instanceMethod yX0_init, Cond.code yX0_init cX0_init 1 none, Cond.methodLink RX0 3 objectInit, Cond.instanceMethod objectInit, Cond.code objectInit ⟨#[0xb1]⟩ 1 none, Cond.fieldLink RX0 9 "FoldRow$Effect" "shift" "J", Cond.fieldLink RX0 15 "FoldRow$Effect" "hasLow" "Z", Cond.fieldLink RX0 19 "FoldRow$Effect" "low" "J", Cond.fieldLink RX0 22 "FoldRow$Effect" "hasHigh" "Z", Cond.fieldLink RX0 25 "FoldRow$Effect" "high" "J", Cond.methodLink RX1 90 yX0_then, Cond.instanceMethod yX0_then, Cond.selects RX0 yX0_then yX0_then, Cond.code yX0_then cX0_then 4 none, Cond.methodLink RX0 28 yX0_thenAdd, Cond.instanceMethod yX0_thenAdd, Cond.selects RX0 yX0_thenAdd yX0_thenAdd, Cond.code yX0_thenAdd cX0_thenAdd 3 none, Cond.methodLink RX0 32 yX0_thenGreater]
def wsX1_effectOf_r2 : List Cond := [Cond.instanceMethod yX0_thenGreater, Cond.selects RX0 yX0_thenGreater yX0_thenGreater, Cond.code yX0_thenGreater cX0_thenGreater 3 none, Cond.methodLink RX0 38 Lib.MathLoose.max_long.x, Cond.static Lib.MathLoose.max_long.x, Cond.initialized "java/lang/Math", Cond.code Lib.MathLoose.max_long.x Lib.MathLoose.max_long.code 4 (some .long), Cond.methodLink RX0 35 yX0_thenLesser, Cond.instanceMethod yX0_thenLesser, Cond.selects RX0 yX0_thenLesser yX0_thenLesser, Cond.code yX0_thenLesser cX0_thenLesser 3 none, Cond.methodLink RX0 44 Lib.MathLoose.min_long.x, Cond.static Lib.MathLoose.min_long.x, Cond.code Lib.MathLoose.min_long.x Lib.MathLoose.min_long.code 4 (some .long)]
def wsX1_effectOf : List Cond := .code yX1_effectOf cX1_effectOf 5 (some (.object "FoldRow$Effect")) :: ((wsX1_effectOf_r1 ++ wsX1_effectOf_r2) ++ wsX00 ++ wsX10)
def wsX1_fold_r1 : List Cond := [Cond.methodLink RX1 29 yX1_checkNumber, Cond.static yX1_checkNumber, Cond.initialized RX1, Cond.code yX1_checkNumber cX1_checkNumber 2 none, Cond.classLink RX1 93 "java/lang/IllegalArgumentException", Cond.initialized "java/lang/IllegalArgumentException", Cond.constantLong RX1 104 (-1000000000000), Cond.constantLong RX1 106 (1000000000000), Cond.methodLink RX1 25 yX1_checkPart, Cond.static yX1_checkPart, Cond.code yX1_checkPart cX1_checkPart 2 none, Cond.classLink RX1 114 "java/lang/IndexOutOfBoundsException", Cond.initialized "java/lang/IndexOutOfBoundsException", Cond.methodLink RX1 33 yX1_effectOf, Cond.instanceMethod yX1_effectOf, Cond.selects RX1 yX1_effectOf yX1_effectOf, Cond.code yX1_effectOf cX1_effectOf 5 (some (.object "FoldRow$Effect")), Cond.classLink RX1 38 RX0, Cond.instantiable RX0 5, Cond.initialized RX0, Cond.fieldLink RX1 9 "FoldRow" "kinds" "[I", Cond.fieldLink RX1 13 "FoldRow" "values" "[J", Cond.instanceMethod yX0_init, Cond.code yX0_init cX0_init 1 none]
def wsX1_fold_r2 : List Cond := [Cond.methodLink RX0 3 objectInit, Cond.instanceMethod objectInit, Cond.code objectInit ⟨#[0xb1]⟩ 1 none, Cond.fieldLink RX0 9 "FoldRow$Effect" "shift" "J", Cond.fieldLink RX0 15 "FoldRow$Effect" "hasLow" "Z", Cond.fieldLink RX0 19 "FoldRow$Effect" "low" "J", Cond.fieldLink RX0 22 "FoldRow$Effect" "hasHigh" "Z", Cond.fieldLink RX0 25 "FoldRow$Effect" "high" "J", Cond.methodLink RX1 90 yX0_then, Cond.instanceMethod yX0_then, Cond.selects RX0 yX0_then yX0_then, Cond.code yX0_then cX0_then 4 none, Cond.methodLink RX0 28 yX0_thenAdd, Cond.instanceMethod yX0_thenAdd, Cond.selects RX0 yX0_thenAdd yX0_thenAdd, Cond.code yX0_thenAdd cX0_thenAdd 3 none, Cond.methodLink RX0 32 yX0_thenGreater, Cond.instanceMethod yX0_thenGreater, Cond.selects RX0 yX0_thenGreater yX0_thenGreater, Cond.code yX0_thenGreater cX0_thenGreater 3 none, Cond.methodLink RX0 38 Lib.MathLoose.max_long.x, Cond.static Lib.MathLoose.max_long.x, Cond.initialized "java/lang/Math", Cond.code Lib.MathLoose.max_long.x Lib.MathLoose.max_long.code 4 (some .long)]
def wsX1_fold_r3 : List Cond := [Cond.methodLink RX0 35 yX0_thenLesser, Cond.instanceMethod yX0_thenLesser, Cond.selects RX0 yX0_thenLesser yX0_thenLesser, Cond.code yX0_thenLesser cX0_thenLesser 3 none, Cond.methodLink RX0 44 Lib.MathLoose.min_long.x, Cond.static Lib.MathLoose.min_long.x, Cond.code Lib.MathLoose.min_long.x Lib.MathLoose.min_long.code 4 (some .long), Cond.methodLink RX1 37 yX0_on, Cond.instanceMethod yX0_on, Cond.selects RX0 yX0_on yX0_on, Cond.code yX0_on cX0_on 5 (some .long)]
def wsX1_fold : List Cond := .code yX1_fold cX1_fold 5 (some .long) :: ((wsX1_fold_r1 ++ (wsX1_fold_r2 ++ wsX1_fold_r3)) ++ wsX00 ++ wsX10 ++ (vx_atS RX1 97 "java/lang/IllegalArgumentException" ["java/lang/RuntimeException", "java/lang/Exception"]).filter goodWord ++ (vx_atS RX1 118 "java/lang/IndexOutOfBoundsException" ["java/lang/RuntimeException", "java/lang/Exception"]).filter goodWord)
def wsX1_checkTimes : List Cond := .code yX1_checkTimes cX1_checkTimes 1 none :: ([.classLink RX1 93 "java/lang/IllegalArgumentException", .initialized "java/lang/IllegalArgumentException"] ++ (vx_atS RX1 97 "java/lang/IllegalArgumentException" ["java/lang/RuntimeException", "java/lang/Exception"]).filter goodWord)
def wsX1_again_r1 : List Cond := [Cond.methodLink RX1 29 yX1_checkNumber, Cond.static yX1_checkNumber, Cond.initialized RX1, Cond.code yX1_checkNumber cX1_checkNumber 2 none, Cond.classLink RX1 93 "java/lang/IllegalArgumentException", Cond.initialized "java/lang/IllegalArgumentException", Cond.constantLong RX1 104 (-1000000000000), Cond.constantLong RX1 106 (1000000000000), Cond.methodLink RX1 43 yX1_checkTimes, Cond.static yX1_checkTimes, Cond.code yX1_checkTimes cX1_checkTimes 1 none, Cond.methodLink RX1 25 yX1_checkPart, Cond.static yX1_checkPart, Cond.code yX1_checkPart cX1_checkPart 2 none, Cond.classLink RX1 114 "java/lang/IndexOutOfBoundsException", Cond.initialized "java/lang/IndexOutOfBoundsException", Cond.methodLink RX1 33 yX1_effectOf, Cond.instanceMethod yX1_effectOf, Cond.selects RX1 yX1_effectOf yX1_effectOf, Cond.code yX1_effectOf cX1_effectOf 5 (some (.object "FoldRow$Effect")), Cond.classLink RX1 38 RX0, Cond.instantiable RX0 5, Cond.initialized RX0, Cond.fieldLink RX1 9 "FoldRow" "kinds" "[I"]
def wsX1_again_r2 : List Cond := [Cond.fieldLink RX1 13 "FoldRow" "values" "[J", Cond.instanceMethod yX0_init, Cond.code yX0_init cX0_init 1 none, Cond.methodLink RX0 3 objectInit, Cond.instanceMethod objectInit, Cond.code objectInit ⟨#[0xb1]⟩ 1 none, Cond.fieldLink RX0 9 "FoldRow$Effect" "shift" "J", Cond.fieldLink RX0 15 "FoldRow$Effect" "hasLow" "Z", Cond.fieldLink RX0 19 "FoldRow$Effect" "low" "J", Cond.fieldLink RX0 22 "FoldRow$Effect" "hasHigh" "Z", Cond.fieldLink RX0 25 "FoldRow$Effect" "high" "J", Cond.methodLink RX1 90 yX0_then, Cond.instanceMethod yX0_then, Cond.selects RX0 yX0_then yX0_then, Cond.code yX0_then cX0_then 4 none, Cond.methodLink RX0 28 yX0_thenAdd, Cond.instanceMethod yX0_thenAdd, Cond.selects RX0 yX0_thenAdd yX0_thenAdd, Cond.code yX0_thenAdd cX0_thenAdd 3 none, Cond.methodLink RX0 32 yX0_thenGreater, Cond.instanceMethod yX0_thenGreater, Cond.selects RX0 yX0_thenGreater yX0_thenGreater, Cond.code yX0_thenGreater cX0_thenGreater 3 none, Cond.methodLink RX0 38 Lib.MathLoose.max_long.x]
def wsX1_again_r3 : List Cond := [Cond.static Lib.MathLoose.max_long.x, Cond.initialized "java/lang/Math", Cond.code Lib.MathLoose.max_long.x Lib.MathLoose.max_long.code 4 (some .long), Cond.methodLink RX0 35 yX0_thenLesser, Cond.instanceMethod yX0_thenLesser, Cond.selects RX0 yX0_thenLesser yX0_thenLesser, Cond.code yX0_thenLesser cX0_thenLesser 3 none, Cond.methodLink RX0 44 Lib.MathLoose.min_long.x, Cond.static Lib.MathLoose.min_long.x, Cond.code Lib.MathLoose.min_long.x Lib.MathLoose.min_long.code 4 (some .long), Cond.methodLink RX1 37 yX0_on, Cond.instanceMethod yX0_on, Cond.selects RX0 yX0_on yX0_on, Cond.code yX0_on cX0_on 5 (some .long)]
def wsX1_again : List Cond := .code yX1_again cX1_again 10 (some .long) :: ((wsX1_again_r1 ++ (wsX1_again_r2 ++ wsX1_again_r3)) ++ wsX00 ++ wsX10 ++ (vx_atS RX1 97 "java/lang/IllegalArgumentException" ["java/lang/RuntimeException", "java/lang/Exception"]).filter goodWord ++ (vx_atS RX1 118 "java/lang/IndexOutOfBoundsException" ["java/lang/RuntimeException", "java/lang/Exception"]).filter goodWord)
def wsX1_least_r1 : List Cond := [Cond.classLink RX1 50 "java/lang/UnsupportedOperationException", Cond.initialized "java/lang/UnsupportedOperationException", Cond.methodLink RX1 25 yX1_checkPart, Cond.static yX1_checkPart, Cond.initialized RX1, Cond.code yX1_checkPart cX1_checkPart 2 none, Cond.classLink RX1 114 "java/lang/IndexOutOfBoundsException", Cond.initialized "java/lang/IndexOutOfBoundsException", Cond.methodLink RX1 33 yX1_effectOf, Cond.instanceMethod yX1_effectOf, Cond.selects RX1 yX1_effectOf yX1_effectOf, Cond.code yX1_effectOf cX1_effectOf 5 (some (.object "FoldRow$Effect")), Cond.classLink RX1 38 RX0, Cond.instantiable RX0 5, Cond.initialized RX0, Cond.fieldLink RX1 9 "FoldRow" "kinds" "[I", Cond.fieldLink RX1 13 "FoldRow" "values" "[J", Cond.instanceMethod yX0_init, Cond.code yX0_init cX0_init 1 none, Cond.methodLink RX0 3 objectInit, Cond.instanceMethod objectInit, Cond.code objectInit ⟨#[0xb1]⟩ 1 none, Cond.fieldLink RX0 9 "FoldRow$Effect" "shift" "J", Cond.fieldLink RX0 15 "FoldRow$Effect" "hasLow" "Z"]
def wsX1_least_r2 : List Cond := [Cond.fieldLink RX0 19 "FoldRow$Effect" "low" "J", Cond.fieldLink RX0 22 "FoldRow$Effect" "hasHigh" "Z", Cond.fieldLink RX0 25 "FoldRow$Effect" "high" "J", Cond.methodLink RX1 90 yX0_then, Cond.instanceMethod yX0_then, Cond.selects RX0 yX0_then yX0_then, Cond.code yX0_then cX0_then 4 none, Cond.methodLink RX0 28 yX0_thenAdd, Cond.instanceMethod yX0_thenAdd, Cond.selects RX0 yX0_thenAdd yX0_thenAdd, Cond.code yX0_thenAdd cX0_thenAdd 3 none, Cond.methodLink RX0 32 yX0_thenGreater, Cond.instanceMethod yX0_thenGreater, Cond.selects RX0 yX0_thenGreater yX0_thenGreater, Cond.code yX0_thenGreater cX0_thenGreater 3 none, Cond.methodLink RX0 38 Lib.MathLoose.max_long.x, Cond.static Lib.MathLoose.max_long.x, Cond.initialized "java/lang/Math", Cond.code Lib.MathLoose.max_long.x Lib.MathLoose.max_long.code 4 (some .long), Cond.methodLink RX0 35 yX0_thenLesser, Cond.instanceMethod yX0_thenLesser, Cond.selects RX0 yX0_thenLesser yX0_thenLesser, Cond.code yX0_thenLesser cX0_thenLesser 3 none, Cond.methodLink RX0 44 Lib.MathLoose.min_long.x]
def wsX1_least_r3 : List Cond := [Cond.static Lib.MathLoose.min_long.x, Cond.code Lib.MathLoose.min_long.x Lib.MathLoose.min_long.code 4 (some .long)]
def wsX1_least : List Cond := .code yX1_least cX1_least 4 (some .long) :: ((wsX1_least_r1 ++ (wsX1_least_r2 ++ wsX1_least_r3)) ++ wsX00 ++ wsX10 ++ (vx_atS RX1 54 "java/lang/UnsupportedOperationException" ["java/lang/RuntimeException", "java/lang/Exception"]).filter goodWord ++ (vx_atS RX1 118 "java/lang/IndexOutOfBoundsException" ["java/lang/RuntimeException", "java/lang/Exception"]).filter goodWord)
def wsX1_greatest_r1 : List Cond := [Cond.classLink RX1 50 "java/lang/UnsupportedOperationException", Cond.initialized "java/lang/UnsupportedOperationException", Cond.methodLink RX1 25 yX1_checkPart, Cond.static yX1_checkPart, Cond.initialized RX1, Cond.code yX1_checkPart cX1_checkPart 2 none, Cond.classLink RX1 114 "java/lang/IndexOutOfBoundsException", Cond.initialized "java/lang/IndexOutOfBoundsException", Cond.methodLink RX1 33 yX1_effectOf, Cond.instanceMethod yX1_effectOf, Cond.selects RX1 yX1_effectOf yX1_effectOf, Cond.code yX1_effectOf cX1_effectOf 5 (some (.object "FoldRow$Effect")), Cond.classLink RX1 38 RX0, Cond.instantiable RX0 5, Cond.initialized RX0, Cond.fieldLink RX1 9 "FoldRow" "kinds" "[I", Cond.fieldLink RX1 13 "FoldRow" "values" "[J", Cond.instanceMethod yX0_init, Cond.code yX0_init cX0_init 1 none, Cond.methodLink RX0 3 objectInit, Cond.instanceMethod objectInit, Cond.code objectInit ⟨#[0xb1]⟩ 1 none, Cond.fieldLink RX0 9 "FoldRow$Effect" "shift" "J", Cond.fieldLink RX0 15 "FoldRow$Effect" "hasLow" "Z"]
def wsX1_greatest_r2 : List Cond := [Cond.fieldLink RX0 19 "FoldRow$Effect" "low" "J", Cond.fieldLink RX0 22 "FoldRow$Effect" "hasHigh" "Z", Cond.fieldLink RX0 25 "FoldRow$Effect" "high" "J", Cond.methodLink RX1 90 yX0_then, Cond.instanceMethod yX0_then, Cond.selects RX0 yX0_then yX0_then, Cond.code yX0_then cX0_then 4 none, Cond.methodLink RX0 28 yX0_thenAdd, Cond.instanceMethod yX0_thenAdd, Cond.selects RX0 yX0_thenAdd yX0_thenAdd, Cond.code yX0_thenAdd cX0_thenAdd 3 none, Cond.methodLink RX0 32 yX0_thenGreater, Cond.instanceMethod yX0_thenGreater, Cond.selects RX0 yX0_thenGreater yX0_thenGreater, Cond.code yX0_thenGreater cX0_thenGreater 3 none, Cond.methodLink RX0 38 Lib.MathLoose.max_long.x, Cond.static Lib.MathLoose.max_long.x, Cond.initialized "java/lang/Math", Cond.code Lib.MathLoose.max_long.x Lib.MathLoose.max_long.code 4 (some .long), Cond.methodLink RX0 35 yX0_thenLesser, Cond.instanceMethod yX0_thenLesser, Cond.selects RX0 yX0_thenLesser yX0_thenLesser, Cond.code yX0_thenLesser cX0_thenLesser 3 none, Cond.methodLink RX0 44 Lib.MathLoose.min_long.x]
def wsX1_greatest_r3 : List Cond := [Cond.static Lib.MathLoose.min_long.x, Cond.code Lib.MathLoose.min_long.x Lib.MathLoose.min_long.code 4 (some .long)]
def wsX1_greatest : List Cond := .code yX1_greatest cX1_greatest 4 (some .long) :: ((wsX1_greatest_r1 ++ (wsX1_greatest_r2 ++ wsX1_greatest_r3)) ++ wsX00 ++ wsX10 ++ (vx_atS RX1 54 "java/lang/UnsupportedOperationException" ["java/lang/RuntimeException", "java/lang/Exception"]).filter goodWord ++ (vx_atS RX1 118 "java/lang/IndexOutOfBoundsException" ["java/lang/RuntimeException", "java/lang/Exception"]).filter goodWord)
def wsX1_fixed_r1 : List Cond := [Cond.classLink RX1 50 "java/lang/UnsupportedOperationException", Cond.initialized "java/lang/UnsupportedOperationException", Cond.methodLink RX1 25 yX1_checkPart, Cond.static yX1_checkPart, Cond.initialized RX1, Cond.code yX1_checkPart cX1_checkPart 2 none, Cond.classLink RX1 114 "java/lang/IndexOutOfBoundsException", Cond.initialized "java/lang/IndexOutOfBoundsException", Cond.methodLink RX1 33 yX1_effectOf, Cond.instanceMethod yX1_effectOf, Cond.selects RX1 yX1_effectOf yX1_effectOf, Cond.code yX1_effectOf cX1_effectOf 5 (some (.object "FoldRow$Effect")), Cond.classLink RX1 38 RX0, Cond.instantiable RX0 5, Cond.initialized RX0, Cond.fieldLink RX1 9 "FoldRow" "kinds" "[I", Cond.fieldLink RX1 13 "FoldRow" "values" "[J", Cond.instanceMethod yX0_init, Cond.code yX0_init cX0_init 1 none, Cond.methodLink RX0 3 objectInit, Cond.instanceMethod objectInit, Cond.code objectInit ⟨#[0xb1]⟩ 1 none, Cond.fieldLink RX0 9 "FoldRow$Effect" "shift" "J", Cond.fieldLink RX0 15 "FoldRow$Effect" "hasLow" "Z"]
def wsX1_fixed_r2 : List Cond := [Cond.fieldLink RX0 19 "FoldRow$Effect" "low" "J", Cond.fieldLink RX0 22 "FoldRow$Effect" "hasHigh" "Z", Cond.fieldLink RX0 25 "FoldRow$Effect" "high" "J", Cond.methodLink RX1 90 yX0_then, Cond.instanceMethod yX0_then, Cond.selects RX0 yX0_then yX0_then, Cond.code yX0_then cX0_then 4 none, Cond.methodLink RX0 28 yX0_thenAdd, Cond.instanceMethod yX0_thenAdd, Cond.selects RX0 yX0_thenAdd yX0_thenAdd, Cond.code yX0_thenAdd cX0_thenAdd 3 none, Cond.methodLink RX0 32 yX0_thenGreater, Cond.instanceMethod yX0_thenGreater, Cond.selects RX0 yX0_thenGreater yX0_thenGreater, Cond.code yX0_thenGreater cX0_thenGreater 3 none, Cond.methodLink RX0 38 Lib.MathLoose.max_long.x, Cond.static Lib.MathLoose.max_long.x, Cond.initialized "java/lang/Math", Cond.code Lib.MathLoose.max_long.x Lib.MathLoose.max_long.code 4 (some .long), Cond.methodLink RX0 35 yX0_thenLesser, Cond.instanceMethod yX0_thenLesser, Cond.selects RX0 yX0_thenLesser yX0_thenLesser, Cond.code yX0_thenLesser cX0_thenLesser 3 none, Cond.methodLink RX0 44 Lib.MathLoose.min_long.x]
def wsX1_fixed_r3 : List Cond := [Cond.static Lib.MathLoose.min_long.x, Cond.code Lib.MathLoose.min_long.x Lib.MathLoose.min_long.code 4 (some .long), Cond.methodLink RX1 69 yX0_staysAtHigh, Cond.instanceMethod yX0_staysAtHigh, Cond.selects RX0 yX0_staysAtHigh yX0_staysAtHigh, Cond.code yX0_staysAtHigh cX0_staysAtHigh 2 (some .boolean)]
def wsX1_fixed : List Cond := .code yX1_fixed cX1_fixed 6 (some .long) :: ((wsX1_fixed_r1 ++ (wsX1_fixed_r2 ++ wsX1_fixed_r3)) ++ wsX00 ++ wsX10 ++ (vx_atS RX1 54 "java/lang/UnsupportedOperationException" ["java/lang/RuntimeException", "java/lang/Exception"]).filter goodWord ++ (vx_atS RX1 118 "java/lang/IndexOutOfBoundsException" ["java/lang/RuntimeException", "java/lang/Exception"]).filter goodWord)
def wsX1_checkQuestion : List Cond := .code yX1_checkQuestion cX1_checkQuestion 1 none :: ([.classLink RX1 93 "java/lang/IllegalArgumentException", .initialized "java/lang/IllegalArgumentException"] ++ (vx_atS RX1 97 "java/lang/IllegalArgumentException" ["java/lang/RuntimeException", "java/lang/Exception"]).filter goodWord)
def wsX1_countBusy : List Cond := .code yX1_countBusy cX1_countBusy 5 (some .int) :: ([.fieldLink RX1 9 "FoldRow" "kinds" "[I"] ++ wsX10)
def wsX1_about_r1 : List Cond := [Cond.methodLink RX1 75 yX1_checkQuestion, Cond.static yX1_checkQuestion, Cond.initialized RX1, Cond.code yX1_checkQuestion cX1_checkQuestion 1 none, Cond.classLink RX1 93 "java/lang/IllegalArgumentException", Cond.initialized "java/lang/IllegalArgumentException", Cond.methodLink RX1 25 yX1_checkPart, Cond.static yX1_checkPart, Cond.code yX1_checkPart cX1_checkPart 2 none, Cond.classLink RX1 114 "java/lang/IndexOutOfBoundsException", Cond.initialized "java/lang/IndexOutOfBoundsException", Cond.methodLink RX1 78 yX1_countBusy, Cond.instanceMethod yX1_countBusy, Cond.selects RX1 yX1_countBusy yX1_countBusy, Cond.code yX1_countBusy cX1_countBusy 5 (some .int), Cond.fieldLink RX1 9 "FoldRow" "kinds" "[I", Cond.methodLink RX1 33 yX1_effectOf, Cond.instanceMethod yX1_effectOf, Cond.selects RX1 yX1_effectOf yX1_effectOf, Cond.code yX1_effectOf cX1_effectOf 5 (some (.object "FoldRow$Effect")), Cond.classLink RX1 38 RX0, Cond.instantiable RX0 5, Cond.initialized RX0, Cond.fieldLink RX1 13 "FoldRow" "values" "[J"]
def wsX1_about_r2 : List Cond := [Cond.instanceMethod yX0_init, Cond.code yX0_init cX0_init 1 none, Cond.methodLink RX0 3 objectInit, Cond.instanceMethod objectInit, Cond.code objectInit ⟨#[0xb1]⟩ 1 none, Cond.fieldLink RX0 9 "FoldRow$Effect" "shift" "J", Cond.fieldLink RX0 15 "FoldRow$Effect" "hasLow" "Z", Cond.fieldLink RX0 19 "FoldRow$Effect" "low" "J", Cond.fieldLink RX0 22 "FoldRow$Effect" "hasHigh" "Z", Cond.fieldLink RX0 25 "FoldRow$Effect" "high" "J", Cond.methodLink RX1 90 yX0_then, Cond.instanceMethod yX0_then, Cond.selects RX0 yX0_then yX0_then, Cond.code yX0_then cX0_then 4 none, Cond.methodLink RX0 28 yX0_thenAdd, Cond.instanceMethod yX0_thenAdd, Cond.selects RX0 yX0_thenAdd yX0_thenAdd, Cond.code yX0_thenAdd cX0_thenAdd 3 none, Cond.methodLink RX0 32 yX0_thenGreater, Cond.instanceMethod yX0_thenGreater, Cond.selects RX0 yX0_thenGreater yX0_thenGreater, Cond.code yX0_thenGreater cX0_thenGreater 3 none, Cond.methodLink RX0 38 Lib.MathLoose.max_long.x, Cond.static Lib.MathLoose.max_long.x]
def wsX1_about_r3 : List Cond := [Cond.initialized "java/lang/Math", Cond.code Lib.MathLoose.max_long.x Lib.MathLoose.max_long.code 4 (some .long), Cond.methodLink RX0 35 yX0_thenLesser, Cond.instanceMethod yX0_thenLesser, Cond.selects RX0 yX0_thenLesser yX0_thenLesser, Cond.code yX0_thenLesser cX0_thenLesser 3 none, Cond.methodLink RX0 44 Lib.MathLoose.min_long.x, Cond.static Lib.MathLoose.min_long.x, Cond.code Lib.MathLoose.min_long.x Lib.MathLoose.min_long.code 4 (some .long), Cond.methodLink RX1 82 yX0_isSameOfAll, Cond.instanceMethod yX0_isSameOfAll, Cond.selects RX0 yX0_isSameOfAll yX0_isSameOfAll, Cond.code yX0_isSameOfAll cX0_isSameOfAll 1 (some .boolean), Cond.methodLink RX1 86 yX0_leavesEachItself, Cond.instanceMethod yX0_leavesEachItself, Cond.selects RX0 yX0_leavesEachItself yX0_leavesEachItself, Cond.code yX0_leavesEachItself cX0_leavesEachItself 1 (some .boolean)]
def wsX1_about : List Cond := .code yX1_about cX1_about 6 (some .int) :: ((wsX1_about_r1 ++ (wsX1_about_r2 ++ wsX1_about_r3)) ++ wsX10 ++ wsX00 ++ (vx_atS RX1 97 "java/lang/IllegalArgumentException" ["java/lang/RuntimeException", "java/lang/Exception"]).filter goodWord ++ (vx_atS RX1 118 "java/lang/IndexOutOfBoundsException" ["java/lang/RuntimeException", "java/lang/Exception"]).filter goodWord)
def wsX2_init : List Cond := .code yX2_init cX2_init 1 none :: ([.methodLink RX2 1 objectInit, .instanceMethod objectInit, .code objectInit ⟨#[0xb1]⟩ 1 none, .arrayClass .int, .fieldLink RX2 9 "FoldRowModel" "kinds" "[I", .arrayClass .long, .fieldLink RX2 13 "FoldRowModel" "numbers" "[J"] ++ wsX20)
def wsX2_thrown : List Cond := .code yX2_thrown cX2_thrown 1 (some .int) :: ([.fieldLink RX2 17 "FoldRowModel" "err" "I"] ++ wsX20)
def wsX2_in : List Cond := .code yX2_in cX2_in 6 (some .boolean) :: ([])
def wsX2_fails : List Cond := .code yX2_fails cX2_fails 3 (some .boolean) :: ([.fieldLink RX2 17 "FoldRowModel" "err" "I"] ++ wsX20)
def wsX2_isRule : List Cond := .code yX2_isRule cX2_isRule 3 (some .boolean) :: ([.constantLong RX2 21 (4), .constantLong RX2 27 (-1000000000), .constantLong RX2 29 (1000000000), .methodLink RX2 23 yX2_in, .static yX2_in, .initialized RX2, .code yX2_in cX2_in 6 (some .boolean)])
def wsX2_isPart : List Cond := .code yX2_isPart cX2_isPart 2 (some .boolean) :: ([])
def wsX2_isNumber : List Cond := .code yX2_isNumber cX2_isNumber 2 (some .boolean) :: ([.constantLong RX2 31 (-1000000000000), .constantLong RX2 33 (1000000000000), .methodLink RX2 23 yX2_in, .static yX2_in, .initialized RX2, .code yX2_in cX2_in 6 (some .boolean)])
def wsX2_set : List Cond := .code yX2_set cX2_set 5 none :: ([.fieldLink RX2 17 "FoldRowModel" "err" "I", .constantLong RX2 43 (255), .fieldLink RX2 9 "FoldRowModel" "kinds" "[I", .fieldLink RX2 13 "FoldRowModel" "numbers" "[J", .methodLink RX2 35 yX2_isRule, .static yX2_isRule, .initialized RX2, .code yX2_isRule cX2_isRule 3 (some .boolean), .constantLong RX2 21 (4), .constantLong RX2 27 (-1000000000), .constantLong RX2 29 (1000000000), .methodLink RX2 23 yX2_in, .static yX2_in, .code yX2_in cX2_in 6 (some .boolean), .methodLink RX2 39 yX2_fails, .instanceMethod yX2_fails, .selects RX2 yX2_fails yX2_fails, .code yX2_fails cX2_fails 3 (some .boolean)] ++ wsX20)
def wsX2_fill : List Cond := .code yX2_fill cX2_fill 7 none :: ([.fieldLink RX2 17 "FoldRowModel" "err" "I", .fieldLink RX2 9 "FoldRowModel" "kinds" "[I", .fieldLink RX2 13 "FoldRowModel" "numbers" "[J", .methodLink RX2 35 yX2_isRule, .static yX2_isRule, .initialized RX2, .code yX2_isRule cX2_isRule 3 (some .boolean), .constantLong RX2 21 (4), .constantLong RX2 27 (-1000000000), .constantLong RX2 29 (1000000000), .methodLink RX2 23 yX2_in, .static yX2_in, .code yX2_in cX2_in 6 (some .boolean), .methodLink RX2 39 yX2_fails, .instanceMethod yX2_fails, .selects RX2 yX2_fails yX2_fails, .code yX2_fails cX2_fails 3 (some .boolean), .methodLink RX2 45 yX2_isPart, .static yX2_isPart, .code yX2_isPart cX2_isPart 2 (some .boolean)] ++ wsX20)
def wsX2_swap : List Cond := .code yX2_swap cX2_swap 6 none :: ([.fieldLink RX2 17 "FoldRowModel" "err" "I", .constantLong RX2 43 (255), .fieldLink RX2 9 "FoldRowModel" "kinds" "[I", .fieldLink RX2 13 "FoldRowModel" "numbers" "[J", .methodLink RX2 23 yX2_in, .static yX2_in, .initialized RX2, .code yX2_in cX2_in 6 (some .boolean), .methodLink RX2 39 yX2_fails, .instanceMethod yX2_fails, .selects RX2 yX2_fails yX2_fails, .code yX2_fails cX2_fails 3 (some .boolean)] ++ wsX20)
def wsX2_made : List Cond := .code yX2_made cX2_made 8 (some .long) :: ([.fieldLink RX2 9 "FoldRowModel" "kinds" "[I", .fieldLink RX2 13 "FoldRowModel" "numbers" "[J"] ++ wsX20)
def wsX2_fold : List Cond := .code yX2_fold cX2_fold 5 (some .long) :: ([.fieldLink RX2 17 "FoldRowModel" "err" "I", .methodLink RX2 49 yX2_isNumber, .static yX2_isNumber, .initialized RX2, .code yX2_isNumber cX2_isNumber 2 (some .boolean), .constantLong RX2 31 (-1000000000000), .constantLong RX2 33 (1000000000000), .methodLink RX2 23 yX2_in, .static yX2_in, .code yX2_in cX2_in 6 (some .boolean), .methodLink RX2 39 yX2_fails, .instanceMethod yX2_fails, .selects RX2 yX2_fails yX2_fails, .code yX2_fails cX2_fails 3 (some .boolean), .methodLink RX2 45 yX2_isPart, .static yX2_isPart, .code yX2_isPart cX2_isPart 2 (some .boolean), .methodLink RX2 53 yX2_made, .instanceMethod yX2_made, .selects RX2 yX2_made yX2_made, .code yX2_made cX2_made 8 (some .long), .fieldLink RX2 9 "FoldRowModel" "kinds" "[I", .fieldLink RX2 13 "FoldRowModel" "numbers" "[J"] ++ wsX20)
def wsX2_again : List Cond := .code yX2_again cX2_again 9 (some .long) :: ([.fieldLink RX2 17 "FoldRowModel" "err" "I", .constantLong RX2 57 (1000), .methodLink RX2 49 yX2_isNumber, .static yX2_isNumber, .initialized RX2, .code yX2_isNumber cX2_isNumber 2 (some .boolean), .constantLong RX2 31 (-1000000000000), .constantLong RX2 33 (1000000000000), .methodLink RX2 23 yX2_in, .static yX2_in, .code yX2_in cX2_in 6 (some .boolean), .methodLink RX2 39 yX2_fails, .instanceMethod yX2_fails, .selects RX2 yX2_fails yX2_fails, .code yX2_fails cX2_fails 3 (some .boolean), .methodLink RX2 45 yX2_isPart, .static yX2_isPart, .code yX2_isPart cX2_isPart 2 (some .boolean), .methodLink RX2 53 yX2_made, .instanceMethod yX2_made, .selects RX2 yX2_made yX2_made, .code yX2_made cX2_made 8 (some .long), .fieldLink RX2 9 "FoldRowModel" "kinds" "[I", .fieldLink RX2 13 "FoldRowModel" "numbers" "[J"] ++ wsX20)
def wsX2_ends : List Cond := .code yX2_ends cX2_ends 5 (some .boolean) :: ([.constantLong RX2 59 (2), .methodLink RX2 53 yX2_made, .instanceMethod yX2_made, .selects RX2 yX2_made yX2_made, .initialized RX2, .code yX2_made cX2_made 8 (some .long), .fieldLink RX2 9 "FoldRowModel" "kinds" "[I", .fieldLink RX2 13 "FoldRowModel" "numbers" "[J"] ++ wsX20)
def wsX2_least : List Cond := .code yX2_least cX2_least 3 (some .long) :: ([.fieldLink RX2 17 "FoldRowModel" "err" "I", .constantLong RX2 61 (-1000000000000000), .methodLink RX2 45 yX2_isPart, .static yX2_isPart, .initialized RX2, .code yX2_isPart cX2_isPart 2 (some .boolean), .methodLink RX2 39 yX2_fails, .instanceMethod yX2_fails, .selects RX2 yX2_fails yX2_fails, .code yX2_fails cX2_fails 3 (some .boolean), .methodLink RX2 63 yX2_ends, .instanceMethod yX2_ends, .selects RX2 yX2_ends yX2_ends, .code yX2_ends cX2_ends 5 (some .boolean), .constantLong RX2 59 (2), .methodLink RX2 53 yX2_made, .instanceMethod yX2_made, .selects RX2 yX2_made yX2_made, .code yX2_made cX2_made 8 (some .long), .fieldLink RX2 9 "FoldRowModel" "kinds" "[I", .fieldLink RX2 13 "FoldRowModel" "numbers" "[J"] ++ wsX20)
def wsX2_greatest : List Cond := .code yX2_greatest cX2_greatest 3 (some .long) :: ([.fieldLink RX2 17 "FoldRowModel" "err" "I", .constantLong RX2 67 (1000000000000000), .methodLink RX2 45 yX2_isPart, .static yX2_isPart, .initialized RX2, .code yX2_isPart cX2_isPart 2 (some .boolean), .methodLink RX2 39 yX2_fails, .instanceMethod yX2_fails, .selects RX2 yX2_fails yX2_fails, .code yX2_fails cX2_fails 3 (some .boolean), .methodLink RX2 63 yX2_ends, .instanceMethod yX2_ends, .selects RX2 yX2_ends yX2_ends, .code yX2_ends cX2_ends 5 (some .boolean), .constantLong RX2 59 (2), .methodLink RX2 53 yX2_made, .instanceMethod yX2_made, .selects RX2 yX2_made yX2_made, .code yX2_made cX2_made 8 (some .long), .fieldLink RX2 9 "FoldRowModel" "kinds" "[I", .fieldLink RX2 13 "FoldRowModel" "numbers" "[J"] ++ wsX20)
def wsX2_fixed : List Cond := .code yX2_fixed cX2_fixed 9 (some .long) :: ([.fieldLink RX2 17 "FoldRowModel" "err" "I", .constantLong RX2 67 (1000000000000000), .constantLong RX2 61 (-1000000000000000), .methodLink RX2 45 yX2_isPart, .static yX2_isPart, .initialized RX2, .code yX2_isPart cX2_isPart 2 (some .boolean), .methodLink RX2 39 yX2_fails, .instanceMethod yX2_fails, .selects RX2 yX2_fails yX2_fails, .code yX2_fails cX2_fails 3 (some .boolean), .methodLink RX2 53 yX2_made, .instanceMethod yX2_made, .selects RX2 yX2_made yX2_made, .code yX2_made cX2_made 8 (some .long), .fieldLink RX2 9 "FoldRowModel" "kinds" "[I", .fieldLink RX2 13 "FoldRowModel" "numbers" "[J", .methodLink RX2 63 yX2_ends, .instanceMethod yX2_ends, .selects RX2 yX2_ends yX2_ends, .code yX2_ends cX2_ends 5 (some .boolean), .constantLong RX2 59 (2)] ++ wsX20)
def wsX2_about : List Cond := .code yX2_about cX2_about 10 (some .int) :: ([.fieldLink RX2 17 "FoldRowModel" "err" "I", .constantLong RX2 59 (2), .constantLong RX2 61 (-1000000000000000), .constantLong RX2 67 (1000000000000000), .fieldLink RX2 9 "FoldRowModel" "kinds" "[I", .methodLink RX2 23 yX2_in, .static yX2_in, .initialized RX2, .code yX2_in cX2_in 6 (some .boolean), .methodLink RX2 39 yX2_fails, .instanceMethod yX2_fails, .selects RX2 yX2_fails yX2_fails, .code yX2_fails cX2_fails 3 (some .boolean), .methodLink RX2 45 yX2_isPart, .static yX2_isPart, .code yX2_isPart cX2_isPart 2 (some .boolean), .methodLink RX2 53 yX2_made, .instanceMethod yX2_made, .selects RX2 yX2_made yX2_made, .code yX2_made cX2_made 8 (some .long), .fieldLink RX2 13 "FoldRowModel" "numbers" "[J"] ++ wsX20)
def wsJ9_max_f86c9 : List Cond := .code yJ9_max_f86c9 cJ9_max_f86c9 4 (some .long) :: ([])
def wsJ9_min_f86c9 : List Cond := .code yJ9_min_f86c9 cJ9_min_f86c9 4 (some .long) :: ([])
def wsL_set : List Cond := .codeWith yL_set cL_set 6 (some .int) [(0, 7, 10, 13), (0, 7, 14, 15)] :: ([.classLink RL 13 "java/lang/IllegalArgumentException", .classLink RL 15 "java/lang/IndexOutOfBoundsException", .methodLink RL 7 yX1_set, .instanceMethod yX1_set, .selects RX1 yX1_set yX1_set, .initialized RX1, .code yX1_set cX1_set 5 none, .fieldLink RX1 9 "FoldRow" "kinds" "[I", .fieldLink RX1 13 "FoldRow" "values" "[J", .methodLink RX1 17 yX1_checkRule, .static yX1_checkRule, .code yX1_checkRule cX1_checkRule 3 none, .classLink RX1 93 "java/lang/IllegalArgumentException", .initialized "java/lang/IllegalArgumentException", .constantLong RX1 98 (-1000000000), .constantLong RX1 100 (1000000000), .methodLink RX1 21 yX1_checkPlace, .static yX1_checkPlace, .code yX1_checkPlace cX1_checkPlace 1 none, .classLink RX1 114 "java/lang/IndexOutOfBoundsException", .initialized "java/lang/IndexOutOfBoundsException"] ++ wsX10 ++ (vx_atS RX1 97 "java/lang/IllegalArgumentException" ["java/lang/RuntimeException", "java/lang/Exception"]).filter goodWord ++ (vx_atS RX1 118 "java/lang/IndexOutOfBoundsException" ["java/lang/RuntimeException", "java/lang/Exception"]).filter goodWord)
def wsL_fill : List Cond := .codeWith yL_fill cL_fill 7 (some .int) [(0, 9, 12, 13), (0, 9, 16, 15)] :: ([.classLink RL 13 "java/lang/IllegalArgumentException", .classLink RL 15 "java/lang/IndexOutOfBoundsException", .methodLink RL 17 yX1_fill, .instanceMethod yX1_fill, .selects RX1 yX1_fill yX1_fill, .initialized RX1, .code yX1_fill cX1_fill 7 none, .fieldLink RX1 9 "FoldRow" "kinds" "[I", .fieldLink RX1 13 "FoldRow" "values" "[J", .methodLink RX1 17 yX1_checkRule, .static yX1_checkRule, .code yX1_checkRule cX1_checkRule 3 none, .classLink RX1 93 "java/lang/IllegalArgumentException", .initialized "java/lang/IllegalArgumentException", .constantLong RX1 98 (-1000000000), .constantLong RX1 100 (1000000000), .methodLink RX1 25 yX1_checkPart, .static yX1_checkPart, .code yX1_checkPart cX1_checkPart 2 none, .classLink RX1 114 "java/lang/IndexOutOfBoundsException", .initialized "java/lang/IndexOutOfBoundsException"] ++ wsX10 ++ (vx_atS RX1 97 "java/lang/IllegalArgumentException" ["java/lang/RuntimeException", "java/lang/Exception"]).filter goodWord ++ (vx_atS RX1 118 "java/lang/IndexOutOfBoundsException" ["java/lang/RuntimeException", "java/lang/Exception"]).filter goodWord)
def wsL_swap : List Cond := .codeWith yL_swap cL_swap 4 (some .int) [(0, 6, 9, 15)] :: ([.classLink RL 15 "java/lang/IndexOutOfBoundsException", .methodLink RL 21 yX1_swap, .instanceMethod yX1_swap, .selects RX1 yX1_swap yX1_swap, .initialized RX1, .code yX1_swap cX1_swap 6 none, .fieldLink RX1 9 "FoldRow" "kinds" "[I", .fieldLink RX1 13 "FoldRow" "values" "[J", .methodLink RX1 21 yX1_checkPlace, .static yX1_checkPlace, .code yX1_checkPlace cX1_checkPlace 1 none, .classLink RX1 114 "java/lang/IndexOutOfBoundsException", .initialized "java/lang/IndexOutOfBoundsException"] ++ wsX10 ++ (vx_atS RX1 118 "java/lang/IndexOutOfBoundsException" ["java/lang/RuntimeException", "java/lang/Exception"]).filter goodWord)
def wsL_fold_r1 : List Cond := [Cond.classLink RL 13 "java/lang/IllegalArgumentException", Cond.classLink RL 15 "java/lang/IndexOutOfBoundsException", Cond.methodLink RL 25 yX1_fold, Cond.instanceMethod yX1_fold, Cond.selects RX1 yX1_fold yX1_fold, Cond.initialized RX1, Cond.code yX1_fold cX1_fold 5 (some .long), Cond.methodLink RX1 29 yX1_checkNumber, Cond.static yX1_checkNumber, Cond.code yX1_checkNumber cX1_checkNumber 2 none, Cond.classLink RX1 93 "java/lang/IllegalArgumentException", Cond.initialized "java/lang/IllegalArgumentException", Cond.constantLong RX1 104 (-1000000000000), Cond.constantLong RX1 106 (1000000000000), Cond.methodLink RX1 25 yX1_checkPart, Cond.static yX1_checkPart, Cond.code yX1_checkPart cX1_checkPart 2 none, Cond.classLink RX1 114 "java/lang/IndexOutOfBoundsException", Cond.initialized "java/lang/IndexOutOfBoundsException", Cond.methodLink RX1 33 yX1_effectOf, Cond.instanceMethod yX1_effectOf, Cond.selects RX1 yX1_effectOf yX1_effectOf, Cond.code yX1_effectOf cX1_effectOf 5 (some (.object "FoldRow$Effect")), Cond.classLink RX1 38 RX0]
def wsL_fold_r2 : List Cond := [Cond.instantiable RX0 5, Cond.initialized RX0, Cond.fieldLink RX1 9 "FoldRow" "kinds" "[I", Cond.fieldLink RX1 13 "FoldRow" "values" "[J", Cond.instanceMethod yX0_init, Cond.code yX0_init cX0_init 1 none, Cond.methodLink RX0 3 objectInit, Cond.instanceMethod objectInit, Cond.code objectInit ⟨#[0xb1]⟩ 1 none, Cond.fieldLink RX0 9 "FoldRow$Effect" "shift" "J", Cond.fieldLink RX0 15 "FoldRow$Effect" "hasLow" "Z", Cond.fieldLink RX0 19 "FoldRow$Effect" "low" "J", Cond.fieldLink RX0 22 "FoldRow$Effect" "hasHigh" "Z", Cond.fieldLink RX0 25 "FoldRow$Effect" "high" "J", Cond.methodLink RX1 90 yX0_then, Cond.instanceMethod yX0_then, Cond.selects RX0 yX0_then yX0_then, Cond.code yX0_then cX0_then 4 none, Cond.methodLink RX0 28 yX0_thenAdd, Cond.instanceMethod yX0_thenAdd, Cond.selects RX0 yX0_thenAdd yX0_thenAdd, Cond.code yX0_thenAdd cX0_thenAdd 3 none, Cond.methodLink RX0 32 yX0_thenGreater, Cond.instanceMethod yX0_thenGreater]
def wsL_fold_r3 : List Cond := [Cond.selects RX0 yX0_thenGreater yX0_thenGreater, Cond.code yX0_thenGreater cX0_thenGreater 3 none, Cond.methodLink RX0 38 Lib.MathLoose.max_long.x, Cond.static Lib.MathLoose.max_long.x, Cond.initialized "java/lang/Math", Cond.code Lib.MathLoose.max_long.x Lib.MathLoose.max_long.code 4 (some .long), Cond.methodLink RX0 35 yX0_thenLesser, Cond.instanceMethod yX0_thenLesser, Cond.selects RX0 yX0_thenLesser yX0_thenLesser, Cond.code yX0_thenLesser cX0_thenLesser 3 none, Cond.methodLink RX0 44 Lib.MathLoose.min_long.x, Cond.static Lib.MathLoose.min_long.x, Cond.code Lib.MathLoose.min_long.x Lib.MathLoose.min_long.code 4 (some .long), Cond.methodLink RX1 37 yX0_on, Cond.instanceMethod yX0_on, Cond.selects RX0 yX0_on yX0_on, Cond.code yX0_on cX0_on 5 (some .long)]
def wsL_fold : List Cond := .codeWith yL_fold cL_fold 7 (some .int) [(0, 11, 14, 13), (0, 11, 18, 15)] :: ((wsL_fold_r1 ++ (wsL_fold_r2 ++ wsL_fold_r3)) ++ wsX00 ++ wsX10 ++ (vx_atS RX1 97 "java/lang/IllegalArgumentException" ["java/lang/RuntimeException", "java/lang/Exception"]).filter goodWord ++ (vx_atS RX1 118 "java/lang/IndexOutOfBoundsException" ["java/lang/RuntimeException", "java/lang/Exception"]).filter goodWord)
def wsL_again_r1 : List Cond := [Cond.classLink RL 13 "java/lang/IllegalArgumentException", Cond.classLink RL 15 "java/lang/IndexOutOfBoundsException", Cond.methodLink RL 29 yX1_again, Cond.instanceMethod yX1_again, Cond.selects RX1 yX1_again yX1_again, Cond.initialized RX1, Cond.code yX1_again cX1_again 10 (some .long), Cond.methodLink RX1 29 yX1_checkNumber, Cond.static yX1_checkNumber, Cond.code yX1_checkNumber cX1_checkNumber 2 none, Cond.classLink RX1 93 "java/lang/IllegalArgumentException", Cond.initialized "java/lang/IllegalArgumentException", Cond.constantLong RX1 104 (-1000000000000), Cond.constantLong RX1 106 (1000000000000), Cond.methodLink RX1 43 yX1_checkTimes, Cond.static yX1_checkTimes, Cond.code yX1_checkTimes cX1_checkTimes 1 none, Cond.methodLink RX1 25 yX1_checkPart, Cond.static yX1_checkPart, Cond.code yX1_checkPart cX1_checkPart 2 none, Cond.classLink RX1 114 "java/lang/IndexOutOfBoundsException", Cond.initialized "java/lang/IndexOutOfBoundsException", Cond.methodLink RX1 33 yX1_effectOf, Cond.instanceMethod yX1_effectOf]
def wsL_again_r2 : List Cond := [Cond.selects RX1 yX1_effectOf yX1_effectOf, Cond.code yX1_effectOf cX1_effectOf 5 (some (.object "FoldRow$Effect")), Cond.classLink RX1 38 RX0, Cond.instantiable RX0 5, Cond.initialized RX0, Cond.fieldLink RX1 9 "FoldRow" "kinds" "[I", Cond.fieldLink RX1 13 "FoldRow" "values" "[J", Cond.instanceMethod yX0_init, Cond.code yX0_init cX0_init 1 none, Cond.methodLink RX0 3 objectInit, Cond.instanceMethod objectInit, Cond.code objectInit ⟨#[0xb1]⟩ 1 none, Cond.fieldLink RX0 9 "FoldRow$Effect" "shift" "J", Cond.fieldLink RX0 15 "FoldRow$Effect" "hasLow" "Z", Cond.fieldLink RX0 19 "FoldRow$Effect" "low" "J", Cond.fieldLink RX0 22 "FoldRow$Effect" "hasHigh" "Z", Cond.fieldLink RX0 25 "FoldRow$Effect" "high" "J", Cond.methodLink RX1 90 yX0_then, Cond.instanceMethod yX0_then, Cond.selects RX0 yX0_then yX0_then, Cond.code yX0_then cX0_then 4 none, Cond.methodLink RX0 28 yX0_thenAdd, Cond.instanceMethod yX0_thenAdd, Cond.selects RX0 yX0_thenAdd yX0_thenAdd]
def wsL_again_r3 : List Cond := [Cond.code yX0_thenAdd cX0_thenAdd 3 none, Cond.methodLink RX0 32 yX0_thenGreater, Cond.instanceMethod yX0_thenGreater, Cond.selects RX0 yX0_thenGreater yX0_thenGreater, Cond.code yX0_thenGreater cX0_thenGreater 3 none, Cond.methodLink RX0 38 Lib.MathLoose.max_long.x, Cond.static Lib.MathLoose.max_long.x, Cond.initialized "java/lang/Math", Cond.code Lib.MathLoose.max_long.x Lib.MathLoose.max_long.code 4 (some .long), Cond.methodLink RX0 35 yX0_thenLesser, Cond.instanceMethod yX0_thenLesser, Cond.selects RX0 yX0_thenLesser yX0_thenLesser, Cond.code yX0_thenLesser cX0_thenLesser 3 none, Cond.methodLink RX0 44 Lib.MathLoose.min_long.x, Cond.static Lib.MathLoose.min_long.x, Cond.code Lib.MathLoose.min_long.x Lib.MathLoose.min_long.code 4 (some .long), Cond.methodLink RX1 37 yX0_on, Cond.instanceMethod yX0_on, Cond.selects RX0 yX0_on yX0_on, Cond.code yX0_on cX0_on 5 (some .long)]
def wsL_again : List Cond := .codeWith yL_again cL_again 8 (some .int) [(0, 13, 16, 13), (0, 13, 20, 15)] :: ((wsL_again_r1 ++ (wsL_again_r2 ++ wsL_again_r3)) ++ wsX00 ++ wsX10 ++ (vx_atS RX1 97 "java/lang/IllegalArgumentException" ["java/lang/RuntimeException", "java/lang/Exception"]).filter goodWord ++ (vx_atS RX1 118 "java/lang/IndexOutOfBoundsException" ["java/lang/RuntimeException", "java/lang/Exception"]).filter goodWord)
def wsL_least_r1 : List Cond := [Cond.classLink RL 15 "java/lang/IndexOutOfBoundsException", Cond.classLink RL 37 "java/lang/UnsupportedOperationException", Cond.methodLink RL 33 yX1_least, Cond.instanceMethod yX1_least, Cond.selects RX1 yX1_least yX1_least, Cond.initialized RX1, Cond.code yX1_least cX1_least 4 (some .long), Cond.classLink RX1 50 "java/lang/UnsupportedOperationException", Cond.initialized "java/lang/UnsupportedOperationException", Cond.methodLink RX1 25 yX1_checkPart, Cond.static yX1_checkPart, Cond.code yX1_checkPart cX1_checkPart 2 none, Cond.classLink RX1 114 "java/lang/IndexOutOfBoundsException", Cond.initialized "java/lang/IndexOutOfBoundsException", Cond.methodLink RX1 33 yX1_effectOf, Cond.instanceMethod yX1_effectOf, Cond.selects RX1 yX1_effectOf yX1_effectOf, Cond.code yX1_effectOf cX1_effectOf 5 (some (.object "FoldRow$Effect")), Cond.classLink RX1 38 RX0, Cond.instantiable RX0 5, Cond.initialized RX0, Cond.fieldLink RX1 9 "FoldRow" "kinds" "[I", Cond.fieldLink RX1 13 "FoldRow" "values" "[J", Cond.instanceMethod yX0_init]
def wsL_least_r2 : List Cond := [Cond.code yX0_init cX0_init 1 none, Cond.methodLink RX0 3 objectInit, Cond.instanceMethod objectInit, Cond.code objectInit ⟨#[0xb1]⟩ 1 none, Cond.fieldLink RX0 9 "FoldRow$Effect" "shift" "J", Cond.fieldLink RX0 15 "FoldRow$Effect" "hasLow" "Z", Cond.fieldLink RX0 19 "FoldRow$Effect" "low" "J", Cond.fieldLink RX0 22 "FoldRow$Effect" "hasHigh" "Z", Cond.fieldLink RX0 25 "FoldRow$Effect" "high" "J", Cond.methodLink RX1 90 yX0_then, Cond.instanceMethod yX0_then, Cond.selects RX0 yX0_then yX0_then, Cond.code yX0_then cX0_then 4 none, Cond.methodLink RX0 28 yX0_thenAdd, Cond.instanceMethod yX0_thenAdd, Cond.selects RX0 yX0_thenAdd yX0_thenAdd, Cond.code yX0_thenAdd cX0_thenAdd 3 none, Cond.methodLink RX0 32 yX0_thenGreater, Cond.instanceMethod yX0_thenGreater, Cond.selects RX0 yX0_thenGreater yX0_thenGreater, Cond.code yX0_thenGreater cX0_thenGreater 3 none, Cond.methodLink RX0 38 Lib.MathLoose.max_long.x, Cond.static Lib.MathLoose.max_long.x, Cond.initialized "java/lang/Math"]
def wsL_least_r3 : List Cond := [Cond.code Lib.MathLoose.max_long.x Lib.MathLoose.max_long.code 4 (some .long), Cond.methodLink RX0 35 yX0_thenLesser, Cond.instanceMethod yX0_thenLesser, Cond.selects RX0 yX0_thenLesser yX0_thenLesser, Cond.code yX0_thenLesser cX0_thenLesser 3 none, Cond.methodLink RX0 44 Lib.MathLoose.min_long.x, Cond.static Lib.MathLoose.min_long.x, Cond.code Lib.MathLoose.min_long.x Lib.MathLoose.min_long.code 4 (some .long)]
def wsL_least : List Cond := .codeWith yL_least cL_least 5 (some .int) [(0, 9, 12, 15), (0, 9, 16, 37)] :: ((wsL_least_r1 ++ (wsL_least_r2 ++ wsL_least_r3)) ++ wsX00 ++ wsX10 ++ (vx_atS RX1 54 "java/lang/UnsupportedOperationException" ["java/lang/RuntimeException", "java/lang/Exception"]).filter goodWord ++ (vx_atS RX1 118 "java/lang/IndexOutOfBoundsException" ["java/lang/RuntimeException", "java/lang/Exception"]).filter goodWord)
def wsL_greatest_r1 : List Cond := [Cond.classLink RL 15 "java/lang/IndexOutOfBoundsException", Cond.classLink RL 37 "java/lang/UnsupportedOperationException", Cond.methodLink RL 39 yX1_greatest, Cond.instanceMethod yX1_greatest, Cond.selects RX1 yX1_greatest yX1_greatest, Cond.initialized RX1, Cond.code yX1_greatest cX1_greatest 4 (some .long), Cond.classLink RX1 50 "java/lang/UnsupportedOperationException", Cond.initialized "java/lang/UnsupportedOperationException", Cond.methodLink RX1 25 yX1_checkPart, Cond.static yX1_checkPart, Cond.code yX1_checkPart cX1_checkPart 2 none, Cond.classLink RX1 114 "java/lang/IndexOutOfBoundsException", Cond.initialized "java/lang/IndexOutOfBoundsException", Cond.methodLink RX1 33 yX1_effectOf, Cond.instanceMethod yX1_effectOf, Cond.selects RX1 yX1_effectOf yX1_effectOf, Cond.code yX1_effectOf cX1_effectOf 5 (some (.object "FoldRow$Effect")), Cond.classLink RX1 38 RX0, Cond.instantiable RX0 5, Cond.initialized RX0, Cond.fieldLink RX1 9 "FoldRow" "kinds" "[I", Cond.fieldLink RX1 13 "FoldRow" "values" "[J", Cond.instanceMethod yX0_init]
def wsL_greatest_r2 : List Cond := [Cond.code yX0_init cX0_init 1 none, Cond.methodLink RX0 3 objectInit, Cond.instanceMethod objectInit, Cond.code objectInit ⟨#[0xb1]⟩ 1 none, Cond.fieldLink RX0 9 "FoldRow$Effect" "shift" "J", Cond.fieldLink RX0 15 "FoldRow$Effect" "hasLow" "Z", Cond.fieldLink RX0 19 "FoldRow$Effect" "low" "J", Cond.fieldLink RX0 22 "FoldRow$Effect" "hasHigh" "Z", Cond.fieldLink RX0 25 "FoldRow$Effect" "high" "J", Cond.methodLink RX1 90 yX0_then, Cond.instanceMethod yX0_then, Cond.selects RX0 yX0_then yX0_then, Cond.code yX0_then cX0_then 4 none, Cond.methodLink RX0 28 yX0_thenAdd, Cond.instanceMethod yX0_thenAdd, Cond.selects RX0 yX0_thenAdd yX0_thenAdd, Cond.code yX0_thenAdd cX0_thenAdd 3 none, Cond.methodLink RX0 32 yX0_thenGreater, Cond.instanceMethod yX0_thenGreater, Cond.selects RX0 yX0_thenGreater yX0_thenGreater, Cond.code yX0_thenGreater cX0_thenGreater 3 none, Cond.methodLink RX0 38 Lib.MathLoose.max_long.x, Cond.static Lib.MathLoose.max_long.x, Cond.initialized "java/lang/Math"]
def wsL_greatest_r3 : List Cond := [Cond.code Lib.MathLoose.max_long.x Lib.MathLoose.max_long.code 4 (some .long), Cond.methodLink RX0 35 yX0_thenLesser, Cond.instanceMethod yX0_thenLesser, Cond.selects RX0 yX0_thenLesser yX0_thenLesser, Cond.code yX0_thenLesser cX0_thenLesser 3 none, Cond.methodLink RX0 44 Lib.MathLoose.min_long.x, Cond.static Lib.MathLoose.min_long.x, Cond.code Lib.MathLoose.min_long.x Lib.MathLoose.min_long.code 4 (some .long)]
def wsL_greatest : List Cond := .codeWith yL_greatest cL_greatest 5 (some .int) [(0, 9, 12, 15), (0, 9, 16, 37)] :: ((wsL_greatest_r1 ++ (wsL_greatest_r2 ++ wsL_greatest_r3)) ++ wsX00 ++ wsX10 ++ (vx_atS RX1 54 "java/lang/UnsupportedOperationException" ["java/lang/RuntimeException", "java/lang/Exception"]).filter goodWord ++ (vx_atS RX1 118 "java/lang/IndexOutOfBoundsException" ["java/lang/RuntimeException", "java/lang/Exception"]).filter goodWord)
def wsL_fixed_r1 : List Cond := [Cond.classLink RL 15 "java/lang/IndexOutOfBoundsException", Cond.classLink RL 37 "java/lang/UnsupportedOperationException", Cond.methodLink RL 42 yX1_fixed, Cond.instanceMethod yX1_fixed, Cond.selects RX1 yX1_fixed yX1_fixed, Cond.initialized RX1, Cond.code yX1_fixed cX1_fixed 6 (some .long), Cond.classLink RX1 50 "java/lang/UnsupportedOperationException", Cond.initialized "java/lang/UnsupportedOperationException", Cond.methodLink RX1 25 yX1_checkPart, Cond.static yX1_checkPart, Cond.code yX1_checkPart cX1_checkPart 2 none, Cond.classLink RX1 114 "java/lang/IndexOutOfBoundsException", Cond.initialized "java/lang/IndexOutOfBoundsException", Cond.methodLink RX1 33 yX1_effectOf, Cond.instanceMethod yX1_effectOf, Cond.selects RX1 yX1_effectOf yX1_effectOf, Cond.code yX1_effectOf cX1_effectOf 5 (some (.object "FoldRow$Effect")), Cond.classLink RX1 38 RX0, Cond.instantiable RX0 5, Cond.initialized RX0, Cond.fieldLink RX1 9 "FoldRow" "kinds" "[I", Cond.fieldLink RX1 13 "FoldRow" "values" "[J", Cond.instanceMethod yX0_init]
def wsL_fixed_r2 : List Cond := [Cond.code yX0_init cX0_init 1 none, Cond.methodLink RX0 3 objectInit, Cond.instanceMethod objectInit, Cond.code objectInit ⟨#[0xb1]⟩ 1 none, Cond.fieldLink RX0 9 "FoldRow$Effect" "shift" "J", Cond.fieldLink RX0 15 "FoldRow$Effect" "hasLow" "Z", Cond.fieldLink RX0 19 "FoldRow$Effect" "low" "J", Cond.fieldLink RX0 22 "FoldRow$Effect" "hasHigh" "Z", Cond.fieldLink RX0 25 "FoldRow$Effect" "high" "J", Cond.methodLink RX1 90 yX0_then, Cond.instanceMethod yX0_then, Cond.selects RX0 yX0_then yX0_then, Cond.code yX0_then cX0_then 4 none, Cond.methodLink RX0 28 yX0_thenAdd, Cond.instanceMethod yX0_thenAdd, Cond.selects RX0 yX0_thenAdd yX0_thenAdd, Cond.code yX0_thenAdd cX0_thenAdd 3 none, Cond.methodLink RX0 32 yX0_thenGreater, Cond.instanceMethod yX0_thenGreater, Cond.selects RX0 yX0_thenGreater yX0_thenGreater, Cond.code yX0_thenGreater cX0_thenGreater 3 none, Cond.methodLink RX0 38 Lib.MathLoose.max_long.x, Cond.static Lib.MathLoose.max_long.x, Cond.initialized "java/lang/Math"]
def wsL_fixed_r3 : List Cond := [Cond.code Lib.MathLoose.max_long.x Lib.MathLoose.max_long.code 4 (some .long), Cond.methodLink RX0 35 yX0_thenLesser, Cond.instanceMethod yX0_thenLesser, Cond.selects RX0 yX0_thenLesser yX0_thenLesser, Cond.code yX0_thenLesser cX0_thenLesser 3 none, Cond.methodLink RX0 44 Lib.MathLoose.min_long.x, Cond.static Lib.MathLoose.min_long.x, Cond.code Lib.MathLoose.min_long.x Lib.MathLoose.min_long.code 4 (some .long), Cond.methodLink RX1 69 yX0_staysAtHigh, Cond.instanceMethod yX0_staysAtHigh, Cond.selects RX0 yX0_staysAtHigh yX0_staysAtHigh, Cond.code yX0_staysAtHigh cX0_staysAtHigh 2 (some .boolean)]
def wsL_fixed : List Cond := .codeWith yL_fixed cL_fixed 6 (some .int) [(0, 11, 14, 15), (0, 11, 18, 37)] :: ((wsL_fixed_r1 ++ (wsL_fixed_r2 ++ wsL_fixed_r3)) ++ wsX00 ++ wsX10 ++ (vx_atS RX1 54 "java/lang/UnsupportedOperationException" ["java/lang/RuntimeException", "java/lang/Exception"]).filter goodWord ++ (vx_atS RX1 118 "java/lang/IndexOutOfBoundsException" ["java/lang/RuntimeException", "java/lang/Exception"]).filter goodWord)
def wsL_about_r1 : List Cond := [Cond.classLink RL 13 "java/lang/IllegalArgumentException", Cond.classLink RL 15 "java/lang/IndexOutOfBoundsException", Cond.methodLink RL 46 yX1_about, Cond.instanceMethod yX1_about, Cond.selects RX1 yX1_about yX1_about, Cond.initialized RX1, Cond.code yX1_about cX1_about 6 (some .int), Cond.methodLink RX1 75 yX1_checkQuestion, Cond.static yX1_checkQuestion, Cond.code yX1_checkQuestion cX1_checkQuestion 1 none, Cond.classLink RX1 93 "java/lang/IllegalArgumentException", Cond.initialized "java/lang/IllegalArgumentException", Cond.methodLink RX1 25 yX1_checkPart, Cond.static yX1_checkPart, Cond.code yX1_checkPart cX1_checkPart 2 none, Cond.classLink RX1 114 "java/lang/IndexOutOfBoundsException", Cond.initialized "java/lang/IndexOutOfBoundsException", Cond.methodLink RX1 78 yX1_countBusy, Cond.instanceMethod yX1_countBusy, Cond.selects RX1 yX1_countBusy yX1_countBusy, Cond.code yX1_countBusy cX1_countBusy 5 (some .int), Cond.fieldLink RX1 9 "FoldRow" "kinds" "[I", Cond.methodLink RX1 33 yX1_effectOf, Cond.instanceMethod yX1_effectOf]
def wsL_about_r2 : List Cond := [Cond.selects RX1 yX1_effectOf yX1_effectOf, Cond.code yX1_effectOf cX1_effectOf 5 (some (.object "FoldRow$Effect")), Cond.classLink RX1 38 RX0, Cond.instantiable RX0 5, Cond.initialized RX0, Cond.fieldLink RX1 13 "FoldRow" "values" "[J", Cond.instanceMethod yX0_init, Cond.code yX0_init cX0_init 1 none, Cond.methodLink RX0 3 objectInit, Cond.instanceMethod objectInit, Cond.code objectInit ⟨#[0xb1]⟩ 1 none, Cond.fieldLink RX0 9 "FoldRow$Effect" "shift" "J", Cond.fieldLink RX0 15 "FoldRow$Effect" "hasLow" "Z", Cond.fieldLink RX0 19 "FoldRow$Effect" "low" "J", Cond.fieldLink RX0 22 "FoldRow$Effect" "hasHigh" "Z", Cond.fieldLink RX0 25 "FoldRow$Effect" "high" "J", Cond.methodLink RX1 90 yX0_then, Cond.instanceMethod yX0_then, Cond.selects RX0 yX0_then yX0_then, Cond.code yX0_then cX0_then 4 none, Cond.methodLink RX0 28 yX0_thenAdd, Cond.instanceMethod yX0_thenAdd, Cond.selects RX0 yX0_thenAdd yX0_thenAdd, Cond.code yX0_thenAdd cX0_thenAdd 3 none]
def wsL_about_r3 : List Cond := [Cond.methodLink RX0 32 yX0_thenGreater, Cond.instanceMethod yX0_thenGreater, Cond.selects RX0 yX0_thenGreater yX0_thenGreater, Cond.code yX0_thenGreater cX0_thenGreater 3 none, Cond.methodLink RX0 38 Lib.MathLoose.max_long.x, Cond.static Lib.MathLoose.max_long.x, Cond.initialized "java/lang/Math", Cond.code Lib.MathLoose.max_long.x Lib.MathLoose.max_long.code 4 (some .long), Cond.methodLink RX0 35 yX0_thenLesser, Cond.instanceMethod yX0_thenLesser, Cond.selects RX0 yX0_thenLesser yX0_thenLesser, Cond.code yX0_thenLesser cX0_thenLesser 3 none, Cond.methodLink RX0 44 Lib.MathLoose.min_long.x, Cond.static Lib.MathLoose.min_long.x, Cond.code Lib.MathLoose.min_long.x Lib.MathLoose.min_long.code 4 (some .long), Cond.methodLink RX1 82 yX0_isSameOfAll, Cond.instanceMethod yX0_isSameOfAll, Cond.selects RX0 yX0_isSameOfAll yX0_isSameOfAll, Cond.code yX0_isSameOfAll cX0_isSameOfAll 1 (some .boolean), Cond.methodLink RX1 86 yX0_leavesEachItself, Cond.instanceMethod yX0_leavesEachItself, Cond.selects RX0 yX0_leavesEachItself yX0_leavesEachItself, Cond.code yX0_leavesEachItself cX0_leavesEachItself 1 (some .boolean)]
def wsL_about : List Cond := .codeWith yL_about cL_about 6 (some .int) [(0, 12, 15, 13), (0, 12, 19, 15)] :: ((wsL_about_r1 ++ (wsL_about_r2 ++ wsL_about_r3)) ++ wsX10 ++ wsX00 ++ (vx_atS RX1 97 "java/lang/IllegalArgumentException" ["java/lang/RuntimeException", "java/lang/Exception"]).filter goodWord ++ (vx_atS RX1 118 "java/lang/IndexOutOfBoundsException" ["java/lang/RuntimeException", "java/lang/Exception"]).filter goodWord)
def wsL_law0_r1 : List Cond := [Cond.classLink RL 8 RX1, Cond.instantiable RX1 2, Cond.initialized RX1, Cond.classLink RL 51 RX2, Cond.instantiable RX2 3, Cond.initialized RX2, Cond.arrayClass .long, Cond.constantLong RL 54 (4294967295), Cond.methodLink RL 50 yX1_init, Cond.instanceMethod yX1_init, Cond.code yX1_init cX1_init 1 none, Cond.methodLink RX1 1 objectInit, Cond.instanceMethod objectInit, Cond.code objectInit ⟨#[0xb1]⟩ 1 none, Cond.arrayClass .int, Cond.fieldLink RX1 9 "FoldRow" "kinds" "[I", Cond.fieldLink RX1 13 "FoldRow" "values" "[J", Cond.methodLink RL 53 yX2_init, Cond.instanceMethod yX2_init, Cond.code yX2_init cX2_init 1 none, Cond.methodLink RX2 1 objectInit, Cond.fieldLink RX2 9 "FoldRowModel" "kinds" "[I", Cond.fieldLink RX2 13 "FoldRowModel" "numbers" "[J", Cond.methodLink RL 56 yL_set]
def wsL_law0_r2 : List Cond := [Cond.static yL_set, Cond.initialized RL, Cond.codeWith yL_set cL_set 6 (some .int) [(0, 7, 10, 13), (0, 7, 14, 15)], Cond.classLink RL 13 "java/lang/IllegalArgumentException", Cond.classLink RL 15 "java/lang/IndexOutOfBoundsException", Cond.methodLink RL 7 yX1_set, Cond.instanceMethod yX1_set, Cond.selects RX1 yX1_set yX1_set, Cond.code yX1_set cX1_set 5 none, Cond.methodLink RX1 17 yX1_checkRule, Cond.static yX1_checkRule, Cond.code yX1_checkRule cX1_checkRule 3 none, Cond.classLink RX1 93 "java/lang/IllegalArgumentException", Cond.initialized "java/lang/IllegalArgumentException", Cond.constantLong RX1 98 (-1000000000), Cond.constantLong RX1 100 (1000000000), Cond.methodLink RX1 21 yX1_checkPlace, Cond.static yX1_checkPlace, Cond.code yX1_checkPlace cX1_checkPlace 1 none, Cond.classLink RX1 114 "java/lang/IndexOutOfBoundsException", Cond.initialized "java/lang/IndexOutOfBoundsException", Cond.methodLink RL 61 yX2_set, Cond.instanceMethod yX2_set, Cond.selects RX2 yX2_set yX2_set]
def wsL_law0_r3 : List Cond := [Cond.code yX2_set cX2_set 5 none, Cond.fieldLink RX2 17 "FoldRowModel" "err" "I", Cond.constantLong RX2 43 (255), Cond.methodLink RX2 35 yX2_isRule, Cond.static yX2_isRule, Cond.code yX2_isRule cX2_isRule 3 (some .boolean), Cond.constantLong RX2 21 (4), Cond.constantLong RX2 27 (-1000000000), Cond.constantLong RX2 29 (1000000000), Cond.methodLink RX2 23 yX2_in, Cond.static yX2_in, Cond.code yX2_in cX2_in 6 (some .boolean), Cond.methodLink RX2 39 yX2_fails, Cond.instanceMethod yX2_fails, Cond.selects RX2 yX2_fails yX2_fails, Cond.code yX2_fails cX2_fails 3 (some .boolean), Cond.methodLink RL 62 yX2_thrown, Cond.instanceMethod yX2_thrown, Cond.selects RX2 yX2_thrown yX2_thrown, Cond.code yX2_thrown cX2_thrown 1 (some .int), Cond.methodLink RL 66 yL_fill, Cond.static yL_fill, Cond.codeWith yL_fill cL_fill 7 (some .int) [(0, 9, 12, 13), (0, 9, 16, 15)], Cond.methodLink RL 17 yX1_fill]
def wsL_law0_r4 : List Cond := [Cond.instanceMethod yX1_fill, Cond.selects RX1 yX1_fill yX1_fill, Cond.code yX1_fill cX1_fill 7 none, Cond.methodLink RX1 25 yX1_checkPart, Cond.static yX1_checkPart, Cond.code yX1_checkPart cX1_checkPart 2 none, Cond.methodLink RL 69 yX2_fill, Cond.instanceMethod yX2_fill, Cond.selects RX2 yX2_fill yX2_fill, Cond.code yX2_fill cX2_fill 7 none, Cond.methodLink RX2 45 yX2_isPart, Cond.static yX2_isPart, Cond.code yX2_isPart cX2_isPart 2 (some .boolean), Cond.methodLink RL 70 yL_swap, Cond.static yL_swap, Cond.codeWith yL_swap cL_swap 4 (some .int) [(0, 6, 9, 15)], Cond.methodLink RL 21 yX1_swap, Cond.instanceMethod yX1_swap, Cond.selects RX1 yX1_swap yX1_swap, Cond.code yX1_swap cX1_swap 6 none, Cond.methodLink RL 73 yX2_swap, Cond.instanceMethod yX2_swap, Cond.selects RX2 yX2_swap yX2_swap, Cond.code yX2_swap cX2_swap 6 none]
def wsL_law0_r5 : List Cond := [Cond.methodLink RL 74 yL_fold, Cond.static yL_fold, Cond.codeWith yL_fold cL_fold 7 (some .int) [(0, 11, 14, 13), (0, 11, 18, 15)], Cond.methodLink RL 25 yX1_fold, Cond.instanceMethod yX1_fold, Cond.selects RX1 yX1_fold yX1_fold, Cond.code yX1_fold cX1_fold 5 (some .long), Cond.methodLink RX1 29 yX1_checkNumber, Cond.static yX1_checkNumber, Cond.code yX1_checkNumber cX1_checkNumber 2 none, Cond.constantLong RX1 104 (-1000000000000), Cond.constantLong RX1 106 (1000000000000), Cond.methodLink RX1 33 yX1_effectOf, Cond.instanceMethod yX1_effectOf, Cond.selects RX1 yX1_effectOf yX1_effectOf, Cond.code yX1_effectOf cX1_effectOf 5 (some (.object "FoldRow$Effect")), Cond.classLink RX1 38 RX0, Cond.instantiable RX0 5, Cond.initialized RX0, Cond.instanceMethod yX0_init, Cond.code yX0_init cX0_init 1 none, Cond.methodLink RX0 3 objectInit, Cond.fieldLink RX0 9 "FoldRow$Effect" "shift" "J", Cond.fieldLink RX0 15 "FoldRow$Effect" "hasLow" "Z"]
def wsL_law0_r6 : List Cond := [Cond.fieldLink RX0 19 "FoldRow$Effect" "low" "J", Cond.fieldLink RX0 22 "FoldRow$Effect" "hasHigh" "Z", Cond.fieldLink RX0 25 "FoldRow$Effect" "high" "J", Cond.methodLink RX1 90 yX0_then, Cond.instanceMethod yX0_then, Cond.selects RX0 yX0_then yX0_then, Cond.code yX0_then cX0_then 4 none, Cond.methodLink RX0 28 yX0_thenAdd, Cond.instanceMethod yX0_thenAdd, Cond.selects RX0 yX0_thenAdd yX0_thenAdd, Cond.code yX0_thenAdd cX0_thenAdd 3 none, Cond.methodLink RX0 32 yX0_thenGreater, Cond.instanceMethod yX0_thenGreater, Cond.selects RX0 yX0_thenGreater yX0_thenGreater, Cond.code yX0_thenGreater cX0_thenGreater 3 none, Cond.methodLink RX0 38 Lib.MathLoose.max_long.x, Cond.static Lib.MathLoose.max_long.x, Cond.initialized "java/lang/Math", Cond.code Lib.MathLoose.max_long.x Lib.MathLoose.max_long.code 4 (some .long), Cond.methodLink RX0 35 yX0_thenLesser, Cond.instanceMethod yX0_thenLesser, Cond.selects RX0 yX0_thenLesser yX0_thenLesser, Cond.code yX0_thenLesser cX0_thenLesser 3 none, Cond.methodLink RX0 44 Lib.MathLoose.min_long.x]
def wsL_law0_r7 : List Cond := [Cond.static Lib.MathLoose.min_long.x, Cond.code Lib.MathLoose.min_long.x Lib.MathLoose.min_long.code 4 (some .long), Cond.methodLink RX1 37 yX0_on, Cond.instanceMethod yX0_on, Cond.selects RX0 yX0_on yX0_on, Cond.code yX0_on cX0_on 5 (some .long), Cond.methodLink RL 77 yX2_fold, Cond.instanceMethod yX2_fold, Cond.selects RX2 yX2_fold yX2_fold, Cond.code yX2_fold cX2_fold 5 (some .long), Cond.methodLink RX2 49 yX2_isNumber, Cond.static yX2_isNumber, Cond.code yX2_isNumber cX2_isNumber 2 (some .boolean), Cond.constantLong RX2 31 (-1000000000000), Cond.constantLong RX2 33 (1000000000000), Cond.methodLink RX2 53 yX2_made, Cond.instanceMethod yX2_made, Cond.selects RX2 yX2_made yX2_made, Cond.code yX2_made cX2_made 8 (some .long), Cond.methodLink RL 78 yL_again, Cond.static yL_again, Cond.codeWith yL_again cL_again 8 (some .int) [(0, 13, 16, 13), (0, 13, 20, 15)], Cond.methodLink RL 29 yX1_again, Cond.instanceMethod yX1_again]
def wsL_law0_r8 : List Cond := [Cond.selects RX1 yX1_again yX1_again, Cond.code yX1_again cX1_again 10 (some .long), Cond.methodLink RX1 43 yX1_checkTimes, Cond.static yX1_checkTimes, Cond.code yX1_checkTimes cX1_checkTimes 1 none, Cond.methodLink RL 81 yX2_again, Cond.instanceMethod yX2_again, Cond.selects RX2 yX2_again yX2_again, Cond.code yX2_again cX2_again 9 (some .long), Cond.constantLong RX2 57 (1000), Cond.methodLink RL 82 yL_least, Cond.static yL_least, Cond.codeWith yL_least cL_least 5 (some .int) [(0, 9, 12, 15), (0, 9, 16, 37)], Cond.classLink RL 37 "java/lang/UnsupportedOperationException", Cond.methodLink RL 33 yX1_least, Cond.instanceMethod yX1_least, Cond.selects RX1 yX1_least yX1_least, Cond.code yX1_least cX1_least 4 (some .long), Cond.classLink RX1 50 "java/lang/UnsupportedOperationException", Cond.initialized "java/lang/UnsupportedOperationException", Cond.methodLink RL 85 yX2_least, Cond.instanceMethod yX2_least, Cond.selects RX2 yX2_least yX2_least, Cond.code yX2_least cX2_least 3 (some .long)]
def wsL_law0_r9 : List Cond := [Cond.constantLong RX2 61 (-1000000000000000), Cond.methodLink RX2 63 yX2_ends, Cond.instanceMethod yX2_ends, Cond.selects RX2 yX2_ends yX2_ends, Cond.code yX2_ends cX2_ends 5 (some .boolean), Cond.constantLong RX2 59 (2), Cond.methodLink RL 86 yL_greatest, Cond.static yL_greatest, Cond.codeWith yL_greatest cL_greatest 5 (some .int) [(0, 9, 12, 15), (0, 9, 16, 37)], Cond.methodLink RL 39 yX1_greatest, Cond.instanceMethod yX1_greatest, Cond.selects RX1 yX1_greatest yX1_greatest, Cond.code yX1_greatest cX1_greatest 4 (some .long), Cond.methodLink RL 88 yX2_greatest, Cond.instanceMethod yX2_greatest, Cond.selects RX2 yX2_greatest yX2_greatest, Cond.code yX2_greatest cX2_greatest 3 (some .long), Cond.constantLong RX2 67 (1000000000000000), Cond.methodLink RL 89 yL_fixed, Cond.static yL_fixed, Cond.codeWith yL_fixed cL_fixed 6 (some .int) [(0, 11, 14, 15), (0, 11, 18, 37)], Cond.methodLink RL 42 yX1_fixed, Cond.instanceMethod yX1_fixed, Cond.selects RX1 yX1_fixed yX1_fixed]
def wsL_law0_r10 : List Cond := [Cond.code yX1_fixed cX1_fixed 6 (some .long), Cond.methodLink RX1 69 yX0_staysAtHigh, Cond.instanceMethod yX0_staysAtHigh, Cond.selects RX0 yX0_staysAtHigh yX0_staysAtHigh, Cond.code yX0_staysAtHigh cX0_staysAtHigh 2 (some .boolean), Cond.methodLink RL 92 yX2_fixed, Cond.instanceMethod yX2_fixed, Cond.selects RX2 yX2_fixed yX2_fixed, Cond.code yX2_fixed cX2_fixed 9 (some .long), Cond.methodLink RL 93 yL_about, Cond.static yL_about, Cond.codeWith yL_about cL_about 6 (some .int) [(0, 12, 15, 13), (0, 12, 19, 15)], Cond.methodLink RL 46 yX1_about, Cond.instanceMethod yX1_about, Cond.selects RX1 yX1_about yX1_about, Cond.code yX1_about cX1_about 6 (some .int), Cond.methodLink RX1 75 yX1_checkQuestion, Cond.static yX1_checkQuestion, Cond.code yX1_checkQuestion cX1_checkQuestion 1 none, Cond.methodLink RX1 78 yX1_countBusy, Cond.instanceMethod yX1_countBusy, Cond.selects RX1 yX1_countBusy yX1_countBusy, Cond.code yX1_countBusy cX1_countBusy 5 (some .int), Cond.methodLink RX1 82 yX0_isSameOfAll]
def wsL_law0_r11 : List Cond := [Cond.instanceMethod yX0_isSameOfAll, Cond.selects RX0 yX0_isSameOfAll yX0_isSameOfAll, Cond.code yX0_isSameOfAll cX0_isSameOfAll 1 (some .boolean), Cond.methodLink RX1 86 yX0_leavesEachItself, Cond.instanceMethod yX0_leavesEachItself, Cond.selects RX0 yX0_leavesEachItself yX0_leavesEachItself, Cond.code yX0_leavesEachItself cX0_leavesEachItself 1 (some .boolean), Cond.methodLink RL 96 yX2_about, Cond.instanceMethod yX2_about, Cond.selects RX2 yX2_about yX2_about, Cond.code yX2_about cX2_about 10 (some .int)]
def wsL_law0 : List Cond := (wsL_law0_r1 ++ (wsL_law0_r2 ++ (wsL_law0_r3 ++ (wsL_law0_r4 ++ (wsL_law0_r5 ++ (wsL_law0_r6 ++ (wsL_law0_r7 ++ (wsL_law0_r8 ++ (wsL_law0_r9 ++ (wsL_law0_r10 ++ wsL_law0_r11)))))))))) ++ wsX10 ++ wsX20 ++ wsX00 ++ ([] : List Cond)
def wsL_law : List Cond := wsL_law0 ++ (vx_atS RX1 97 "java/lang/IllegalArgumentException" ["java/lang/RuntimeException", "java/lang/Exception"]).filter goodWord ++ (vx_atS RX1 118 "java/lang/IndexOutOfBoundsException" ["java/lang/RuntimeException", "java/lang/Exception"]).filter goodWord ++ (vx_atS RX1 54 "java/lang/UnsupportedOperationException" ["java/lang/RuntimeException", "java/lang/Exception"]).filter goodWord
set_option maxRecDepth 20000 in
theorem wsL_law_in0 : ∀ w ∈ wsL_law0, w ∈ lw_tbl := fun w h => (goodIn_p wsL_law0 [24, 27, 308, 45, 48, 122, 327, 330, 334, 340, 323, 145, 148, 345, 348, 156, 352, 163, 166, 173, 178, 203, 207, 211, 214, 218, 221, 225, 356, 359, 365, 232, 235, 369, 244, 374, 379, 267, 384, 275, 279, 389, 287, 290, 295, 299, 303, 393] (by decide +kernel) (by decide +kernel) w h).1
theorem wsL_law_x0 : ∀ w ∈ (vx_atS RX1 97 "java/lang/IllegalArgumentException" ["java/lang/RuntimeException", "java/lang/Exception"]).filter goodWord, w ∈ lw_tbl := by decide +kernel
theorem wsL_law_x1 : ∀ w ∈ (vx_atS RX1 118 "java/lang/IndexOutOfBoundsException" ["java/lang/RuntimeException", "java/lang/Exception"]).filter goodWord, w ∈ lw_tbl := by decide +kernel
theorem wsL_law_x2 : ∀ w ∈ (vx_atS RX1 54 "java/lang/UnsupportedOperationException" ["java/lang/RuntimeException", "java/lang/Exception"]).filter goodWord, w ∈ lw_tbl := by decide +kernel
theorem wsL_law_in : ∀ w ∈ wsL_law, w ∈ lw_tbl := fun w h => (List.mem_append.mp h).elim (fun h => (List.mem_append.mp h).elim (fun h => (List.mem_append.mp h).elim (fun h => wsL_law_in0 w h) (fun h => wsL_law_x0 w h)) (fun h => wsL_law_x1 w h)) (fun h => wsL_law_x2 w h)
theorem inlX0 : ∀ w ∈ wsX00, w ∈ wsL_law := fun _ h => List.mem_append_left _ (List.mem_append_left _ (List.mem_append_left _ (List.mem_append_left _ (List.mem_append_right _ h))))
theorem inX0 : ∀ w ∈ wsX00, w ∈ lw_tbl := fun w h => wsL_law_in w (inlX0 w h)
theorem inlX1 : ∀ w ∈ wsX10, w ∈ wsL_law := fun _ h => List.mem_append_left _ (List.mem_append_left _ (List.mem_append_left _ (List.mem_append_left _ (List.mem_append_left _ (List.mem_append_left _ (List.mem_append_right _ h))))))
theorem inX1 : ∀ w ∈ wsX10, w ∈ lw_tbl := fun w h => wsL_law_in w (inlX1 w h)
theorem inlX2 : ∀ w ∈ wsX20, w ∈ wsL_law := fun _ h => List.mem_append_left _ (List.mem_append_left _ (List.mem_append_left _ (List.mem_append_left _ (List.mem_append_left _ (List.mem_append_right _ h)))))
theorem inX2 : ∀ w ∈ wsX20, w ∈ lw_tbl := fun w h => wsL_law_in w (inlX2 w h)
theorem inJ9 : ∀ w ∈ wsJ90, w ∈ lw_tbl := by decide +kernel
theorem inJ0 : ∀ w ∈ wsJ00, w ∈ lw_tbl := by decide +kernel
theorem dX0_init_0 : decode cX0_init 0 = .ok (.aload_n 0, 1) := by decide +kernel
theorem dX0_init_1 : decode cX0_init 1 = .ok (.invokespecial 3, 3) := by decide +kernel
theorem dX0_init_4 : decode cX0_init 4 = .ok (.aload_n 0, 1) := by decide +kernel
theorem dX0_init_5 : decode cX0_init 5 = .ok (.lconst 0, 1) := by decide +kernel
theorem dX0_init_6 : decode cX0_init 6 = .ok (.putfield 9, 3) := by decide +kernel
theorem dX0_init_9 : decode cX0_init 9 = .ok (.aload_n 0, 1) := by decide +kernel
theorem dX0_init_10 : decode cX0_init 10 = .ok (.iconst 0, 1) := by decide +kernel
theorem dX0_init_11 : decode cX0_init 11 = .ok (.putfield 15, 3) := by decide +kernel
theorem dX0_init_14 : decode cX0_init 14 = .ok (.aload_n 0, 1) := by decide +kernel
theorem dX0_init_15 : decode cX0_init 15 = .ok (.lconst 0, 1) := by decide +kernel
theorem dX0_init_16 : decode cX0_init 16 = .ok (.putfield 19, 3) := by decide +kernel
theorem dX0_init_19 : decode cX0_init 19 = .ok (.aload_n 0, 1) := by decide +kernel
theorem dX0_init_20 : decode cX0_init 20 = .ok (.iconst 0, 1) := by decide +kernel
theorem dX0_init_21 : decode cX0_init 21 = .ok (.putfield 22, 3) := by decide +kernel
theorem dX0_init_24 : decode cX0_init 24 = .ok (.aload_n 0, 1) := by decide +kernel
theorem dX0_init_25 : decode cX0_init 25 = .ok (.lconst 0, 1) := by decide +kernel
theorem dX0_init_26 : decode cX0_init 26 = .ok (.putfield 25, 3) := by decide +kernel
theorem dX0_init_29 : decode cX0_init 29 = .ok (.return_, 1) := by decide +kernel
set_option maxRecDepth 20000 in
theorem ggX0_then_X0_thenAdd : GoodIn wsX0_then wsX0_thenAdd := goodIn_r _ [5, 6, 7, 8, 26, 27, 28, 29, 30] (by decide +kernel) (by decide +kernel)
set_option maxRecDepth 20000 in
theorem gX0_then_X0_thenAdd : GoodIn wsX0_then (wsV RX0 28 RX0 yX0_thenAdd wsX0_thenAdd) := goodIn_app (goodIn_of _ (by decide +kernel)) ggX0_then_X0_thenAdd
set_option maxRecDepth 20000 in
theorem ggX0_then_X0_thenGreater : GoodIn wsX0_then wsX0_thenGreater := goodIn_r _ [12, 13, 7, 14, 15, 16, 17, 8, 26, 27, 28, 29, 30] (by decide +kernel) (by decide +kernel)
set_option maxRecDepth 20000 in
theorem gX0_then_X0_thenGreater : GoodIn wsX0_then (wsV RX0 32 RX0 yX0_thenGreater wsX0_thenGreater) := goodIn_app (goodIn_of _ (by decide +kernel)) ggX0_then_X0_thenGreater
set_option maxRecDepth 20000 in
theorem ggX0_then_X0_thenLesser : GoodIn wsX0_then wsX0_thenLesser := goodIn_r _ [21, 22, 8, 23, 24, 16, 25, 7, 26, 27, 28, 29, 30] (by decide +kernel) (by decide +kernel)
set_option maxRecDepth 20000 in
theorem gX0_then_X0_thenLesser : GoodIn wsX0_then (wsV RX0 35 RX0 yX0_thenLesser wsX0_thenLesser) := goodIn_app (goodIn_of _ (by decide +kernel)) ggX0_then_X0_thenLesser
theorem dX0_then_0 : decode cX0_then 0 = .ok (.iload_n 1, 1) := by decide +kernel
theorem dX0_then_1 : decode cX0_then 1 = .ok (.tableswitch 68 1 4 #[31, 39, 52, 60], 31) := by decide +kernel
theorem dX0_then_32 : decode cX0_then 32 = .ok (.aload_n 0, 1) := by decide +kernel
theorem dX0_then_33 : decode cX0_then 33 = .ok (.lload_n 2, 1) := by decide +kernel
theorem dX0_then_34 : decode cX0_then 34 = .ok (.invokevirtual 28, 3) := by decide +kernel
theorem dX0_then_37 : decode cX0_then 37 = .ok (.goto 32, 3) := by decide +kernel
theorem dX0_then_40 : decode cX0_then 40 = .ok (.aload_n 0, 1) := by decide +kernel
theorem dX0_then_41 : decode cX0_then 41 = .ok (.lload_n 2, 1) := by decide +kernel
theorem dX0_then_42 : decode cX0_then 42 = .ok (.invokevirtual 32, 3) := by decide +kernel
theorem dX0_then_45 : decode cX0_then 45 = .ok (.aload_n 0, 1) := by decide +kernel
theorem dX0_then_46 : decode cX0_then 46 = .ok (.lload_n 2, 1) := by decide +kernel
theorem dX0_then_47 : decode cX0_then 47 = .ok (.invokevirtual 35, 3) := by decide +kernel
theorem dX0_then_50 : decode cX0_then 50 = .ok (.goto 19, 3) := by decide +kernel
theorem dX0_then_53 : decode cX0_then 53 = .ok (.aload_n 0, 1) := by decide +kernel
theorem dX0_then_54 : decode cX0_then 54 = .ok (.lload_n 2, 1) := by decide +kernel
theorem dX0_then_55 : decode cX0_then 55 = .ok (.invokevirtual 32, 3) := by decide +kernel
theorem dX0_then_58 : decode cX0_then 58 = .ok (.goto 11, 3) := by decide +kernel
theorem dX0_then_61 : decode cX0_then 61 = .ok (.aload_n 0, 1) := by decide +kernel
theorem dX0_then_62 : decode cX0_then 62 = .ok (.lload_n 2, 1) := by decide +kernel
theorem dX0_then_63 : decode cX0_then 63 = .ok (.invokevirtual 35, 3) := by decide +kernel
theorem dX0_then_66 : decode cX0_then 66 = .ok (.goto 3, 3) := by decide +kernel
theorem dX0_then_69 : decode cX0_then 69 = .ok (.return_, 1) := by decide +kernel
theorem dX0_thenAdd_0 : decode cX0_thenAdd 0 = .ok (.aload_n 0, 1) := by decide +kernel
theorem dX0_thenAdd_1 : decode cX0_thenAdd 1 = .ok (.dup, 1) := by decide +kernel
theorem dX0_thenAdd_2 : decode cX0_thenAdd 2 = .ok (.getfield 9, 3) := by decide +kernel
theorem dX0_thenAdd_5 : decode cX0_thenAdd 5 = .ok (.lload_n 1, 1) := by decide +kernel
theorem dX0_thenAdd_6 : decode cX0_thenAdd 6 = .ok (.ladd, 1) := by decide +kernel
theorem dX0_thenAdd_7 : decode cX0_thenAdd 7 = .ok (.putfield 9, 3) := by decide +kernel
theorem dX0_thenAdd_10 : decode cX0_thenAdd 10 = .ok (.aload_n 0, 1) := by decide +kernel
theorem dX0_thenAdd_11 : decode cX0_thenAdd 11 = .ok (.dup, 1) := by decide +kernel
theorem dX0_thenAdd_12 : decode cX0_thenAdd 12 = .ok (.getfield 19, 3) := by decide +kernel
theorem dX0_thenAdd_15 : decode cX0_thenAdd 15 = .ok (.lload_n 1, 1) := by decide +kernel
theorem dX0_thenAdd_16 : decode cX0_thenAdd 16 = .ok (.ladd, 1) := by decide +kernel
theorem dX0_thenAdd_17 : decode cX0_thenAdd 17 = .ok (.putfield 19, 3) := by decide +kernel
theorem dX0_thenAdd_20 : decode cX0_thenAdd 20 = .ok (.aload_n 0, 1) := by decide +kernel
theorem dX0_thenAdd_21 : decode cX0_thenAdd 21 = .ok (.dup, 1) := by decide +kernel
theorem dX0_thenAdd_22 : decode cX0_thenAdd 22 = .ok (.getfield 25, 3) := by decide +kernel
theorem dX0_thenAdd_25 : decode cX0_thenAdd 25 = .ok (.lload_n 1, 1) := by decide +kernel
theorem dX0_thenAdd_26 : decode cX0_thenAdd 26 = .ok (.ladd, 1) := by decide +kernel
theorem dX0_thenAdd_27 : decode cX0_thenAdd 27 = .ok (.putfield 25, 3) := by decide +kernel
theorem dX0_thenAdd_30 : decode cX0_thenAdd 30 = .ok (.return_, 1) := by decide +kernel
theorem dX0_thenGreater_0 : decode cX0_thenGreater 0 = .ok (.aload_n 0, 1) := by decide +kernel
theorem dX0_thenGreater_1 : decode cX0_thenGreater 1 = .ok (.aload_n 0, 1) := by decide +kernel
theorem dX0_thenGreater_2 : decode cX0_thenGreater 2 = .ok (.getfield 15, 3) := by decide +kernel
theorem dX0_thenGreater_5 : decode cX0_thenGreater 5 = .ok (.ifCond .eq 14, 3) := by decide +kernel
theorem dX0_thenGreater_8 : decode cX0_thenGreater 8 = .ok (.aload_n 0, 1) := by decide +kernel
theorem dX0_thenGreater_9 : decode cX0_thenGreater 9 = .ok (.getfield 19, 3) := by decide +kernel
theorem dX0_thenGreater_12 : decode cX0_thenGreater 12 = .ok (.lload_n 1, 1) := by decide +kernel
theorem dX0_thenGreater_13 : decode cX0_thenGreater 13 = .ok (.invokestatic 38, 3) := by decide +kernel
theorem dX0_thenGreater_16 : decode cX0_thenGreater 16 = .ok (.goto 4, 3) := by decide +kernel
theorem dX0_thenGreater_19 : decode cX0_thenGreater 19 = .ok (.lload_n 1, 1) := by decide +kernel
theorem dX0_thenGreater_20 : decode cX0_thenGreater 20 = .ok (.putfield 19, 3) := by decide +kernel
theorem dX0_thenGreater_23 : decode cX0_thenGreater 23 = .ok (.aload_n 0, 1) := by decide +kernel
theorem dX0_thenGreater_24 : decode cX0_thenGreater 24 = .ok (.iconst 1, 1) := by decide +kernel
theorem dX0_thenGreater_25 : decode cX0_thenGreater 25 = .ok (.putfield 15, 3) := by decide +kernel
theorem dX0_thenGreater_28 : decode cX0_thenGreater 28 = .ok (.aload_n 0, 1) := by decide +kernel
theorem dX0_thenGreater_29 : decode cX0_thenGreater 29 = .ok (.aload_n 0, 1) := by decide +kernel
theorem dX0_thenGreater_30 : decode cX0_thenGreater 30 = .ok (.getfield 25, 3) := by decide +kernel
theorem dX0_thenGreater_33 : decode cX0_thenGreater 33 = .ok (.lload_n 1, 1) := by decide +kernel
theorem dX0_thenGreater_34 : decode cX0_thenGreater 34 = .ok (.invokestatic 38, 3) := by decide +kernel
theorem dX0_thenGreater_37 : decode cX0_thenGreater 37 = .ok (.putfield 25, 3) := by decide +kernel
theorem dX0_thenGreater_40 : decode cX0_thenGreater 40 = .ok (.return_, 1) := by decide +kernel
theorem dX0_thenLesser_0 : decode cX0_thenLesser 0 = .ok (.aload_n 0, 1) := by decide +kernel
theorem dX0_thenLesser_1 : decode cX0_thenLesser 1 = .ok (.aload_n 0, 1) := by decide +kernel
theorem dX0_thenLesser_2 : decode cX0_thenLesser 2 = .ok (.getfield 22, 3) := by decide +kernel
theorem dX0_thenLesser_5 : decode cX0_thenLesser 5 = .ok (.ifCond .eq 14, 3) := by decide +kernel
theorem dX0_thenLesser_8 : decode cX0_thenLesser 8 = .ok (.aload_n 0, 1) := by decide +kernel
theorem dX0_thenLesser_9 : decode cX0_thenLesser 9 = .ok (.getfield 25, 3) := by decide +kernel
theorem dX0_thenLesser_12 : decode cX0_thenLesser 12 = .ok (.lload_n 1, 1) := by decide +kernel
theorem dX0_thenLesser_13 : decode cX0_thenLesser 13 = .ok (.invokestatic 44, 3) := by decide +kernel
theorem dX0_thenLesser_16 : decode cX0_thenLesser 16 = .ok (.goto 4, 3) := by decide +kernel
theorem dX0_thenLesser_19 : decode cX0_thenLesser 19 = .ok (.lload_n 1, 1) := by decide +kernel
theorem dX0_thenLesser_20 : decode cX0_thenLesser 20 = .ok (.putfield 25, 3) := by decide +kernel
theorem dX0_thenLesser_23 : decode cX0_thenLesser 23 = .ok (.aload_n 0, 1) := by decide +kernel
theorem dX0_thenLesser_24 : decode cX0_thenLesser 24 = .ok (.iconst 1, 1) := by decide +kernel
theorem dX0_thenLesser_25 : decode cX0_thenLesser 25 = .ok (.putfield 22, 3) := by decide +kernel
theorem dX0_thenLesser_28 : decode cX0_thenLesser 28 = .ok (.aload_n 0, 1) := by decide +kernel
theorem dX0_thenLesser_29 : decode cX0_thenLesser 29 = .ok (.aload_n 0, 1) := by decide +kernel
theorem dX0_thenLesser_30 : decode cX0_thenLesser 30 = .ok (.getfield 19, 3) := by decide +kernel
theorem dX0_thenLesser_33 : decode cX0_thenLesser 33 = .ok (.lload_n 1, 1) := by decide +kernel
theorem dX0_thenLesser_34 : decode cX0_thenLesser 34 = .ok (.invokestatic 44, 3) := by decide +kernel
theorem dX0_thenLesser_37 : decode cX0_thenLesser 37 = .ok (.putfield 19, 3) := by decide +kernel
theorem dX0_thenLesser_40 : decode cX0_thenLesser 40 = .ok (.return_, 1) := by decide +kernel
theorem dX0_on_0 : decode cX0_on 0 = .ok (.lload_n 1, 1) := by decide +kernel
theorem dX0_on_1 : decode cX0_on 1 = .ok (.aload_n 0, 1) := by decide +kernel
theorem dX0_on_2 : decode cX0_on 2 = .ok (.getfield 9, 3) := by decide +kernel
theorem dX0_on_5 : decode cX0_on 5 = .ok (.ladd, 1) := by decide +kernel
theorem dX0_on_6 : decode cX0_on 6 = .ok (.lstore_n 3, 1) := by decide +kernel
theorem dX0_on_7 : decode cX0_on 7 = .ok (.aload_n 0, 1) := by decide +kernel
theorem dX0_on_8 : decode cX0_on 8 = .ok (.getfield 15, 3) := by decide +kernel
theorem dX0_on_11 : decode cX0_on 11 = .ok (.ifCond .eq 17, 3) := by decide +kernel
theorem dX0_on_14 : decode cX0_on 14 = .ok (.lload_n 3, 1) := by decide +kernel
theorem dX0_on_15 : decode cX0_on 15 = .ok (.aload_n 0, 1) := by decide +kernel
theorem dX0_on_16 : decode cX0_on 16 = .ok (.getfield 19, 3) := by decide +kernel
theorem dX0_on_19 : decode cX0_on 19 = .ok (.lcmp, 1) := by decide +kernel
theorem dX0_on_20 : decode cX0_on 20 = .ok (.ifCond .ge 8, 3) := by decide +kernel
theorem dX0_on_23 : decode cX0_on 23 = .ok (.aload_n 0, 1) := by decide +kernel
theorem dX0_on_24 : decode cX0_on 24 = .ok (.getfield 19, 3) := by decide +kernel
theorem dX0_on_27 : decode cX0_on 27 = .ok (.lstore_n 3, 1) := by decide +kernel
theorem dX0_on_28 : decode cX0_on 28 = .ok (.aload_n 0, 1) := by decide +kernel
theorem dX0_on_29 : decode cX0_on 29 = .ok (.getfield 22, 3) := by decide +kernel
theorem dX0_on_32 : decode cX0_on 32 = .ok (.ifCond .eq 17, 3) := by decide +kernel
theorem dX0_on_35 : decode cX0_on 35 = .ok (.lload_n 3, 1) := by decide +kernel
theorem dX0_on_36 : decode cX0_on 36 = .ok (.aload_n 0, 1) := by decide +kernel
theorem dX0_on_37 : decode cX0_on 37 = .ok (.getfield 25, 3) := by decide +kernel
theorem dX0_on_40 : decode cX0_on 40 = .ok (.lcmp, 1) := by decide +kernel
theorem dX0_on_41 : decode cX0_on 41 = .ok (.ifCond .le 8, 3) := by decide +kernel
theorem dX0_on_44 : decode cX0_on 44 = .ok (.aload_n 0, 1) := by decide +kernel
theorem dX0_on_45 : decode cX0_on 45 = .ok (.getfield 25, 3) := by decide +kernel
theorem dX0_on_48 : decode cX0_on 48 = .ok (.lstore_n 3, 1) := by decide +kernel
theorem dX0_on_49 : decode cX0_on 49 = .ok (.lload_n 3, 1) := by decide +kernel
theorem dX0_on_50 : decode cX0_on 50 = .ok (.lreturn, 1) := by decide +kernel
theorem dX0_staysAtHigh_0 : decode cX0_staysAtHigh 0 = .ok (.aload_n 0, 1) := by decide +kernel
theorem dX0_staysAtHigh_1 : decode cX0_staysAtHigh 1 = .ok (.getfield 9, 3) := by decide +kernel
theorem dX0_staysAtHigh_4 : decode cX0_staysAtHigh 4 = .ok (.lconst 0, 1) := by decide +kernel
theorem dX0_staysAtHigh_5 : decode cX0_staysAtHigh 5 = .ok (.lcmp, 1) := by decide +kernel
theorem dX0_staysAtHigh_6 : decode cX0_staysAtHigh 6 = .ok (.ifCond .ne 7, 3) := by decide +kernel
theorem dX0_staysAtHigh_9 : decode cX0_staysAtHigh 9 = .ok (.iload_n 1, 1) := by decide +kernel
theorem dX0_staysAtHigh_10 : decode cX0_staysAtHigh 10 = .ok (.goto 17, 3) := by decide +kernel
theorem dX0_staysAtHigh_13 : decode cX0_staysAtHigh 13 = .ok (.aload_n 0, 1) := by decide +kernel
theorem dX0_staysAtHigh_14 : decode cX0_staysAtHigh 14 = .ok (.getfield 9, 3) := by decide +kernel
theorem dX0_staysAtHigh_17 : decode cX0_staysAtHigh 17 = .ok (.lconst 0, 1) := by decide +kernel
theorem dX0_staysAtHigh_18 : decode cX0_staysAtHigh 18 = .ok (.lcmp, 1) := by decide +kernel
theorem dX0_staysAtHigh_19 : decode cX0_staysAtHigh 19 = .ok (.ifCond .le 7, 3) := by decide +kernel
theorem dX0_staysAtHigh_22 : decode cX0_staysAtHigh 22 = .ok (.iconst 1, 1) := by decide +kernel
theorem dX0_staysAtHigh_23 : decode cX0_staysAtHigh 23 = .ok (.goto 4, 3) := by decide +kernel
theorem dX0_staysAtHigh_26 : decode cX0_staysAtHigh 26 = .ok (.iconst 0, 1) := by decide +kernel
theorem dX0_staysAtHigh_27 : decode cX0_staysAtHigh 27 = .ok (.ireturn, 1) := by decide +kernel
theorem dX0_isSameOfAll_0 : decode cX0_isSameOfAll 0 = .ok (.aload_n 0, 1) := by decide +kernel
theorem dX0_isSameOfAll_1 : decode cX0_isSameOfAll 1 = .ok (.getfield 15, 3) := by decide +kernel
theorem dX0_isSameOfAll_4 : decode cX0_isSameOfAll 4 = .ok (.ifCond .eq 26, 3) := by decide +kernel
theorem dX0_isSameOfAll_7 : decode cX0_isSameOfAll 7 = .ok (.aload_n 0, 1) := by decide +kernel
theorem dX0_isSameOfAll_8 : decode cX0_isSameOfAll 8 = .ok (.getfield 22, 3) := by decide +kernel
theorem dX0_isSameOfAll_11 : decode cX0_isSameOfAll 11 = .ok (.ifCond .eq 19, 3) := by decide +kernel
theorem dX0_isSameOfAll_14 : decode cX0_isSameOfAll 14 = .ok (.aload_n 0, 1) := by decide +kernel
theorem dX0_isSameOfAll_15 : decode cX0_isSameOfAll 15 = .ok (.getfield 19, 3) := by decide +kernel
theorem dX0_isSameOfAll_18 : decode cX0_isSameOfAll 18 = .ok (.aload_n 0, 1) := by decide +kernel
theorem dX0_isSameOfAll_19 : decode cX0_isSameOfAll 19 = .ok (.getfield 25, 3) := by decide +kernel
theorem dX0_isSameOfAll_22 : decode cX0_isSameOfAll 22 = .ok (.lcmp, 1) := by decide +kernel
theorem dX0_isSameOfAll_23 : decode cX0_isSameOfAll 23 = .ok (.ifCond .ne 7, 3) := by decide +kernel
theorem dX0_isSameOfAll_26 : decode cX0_isSameOfAll 26 = .ok (.iconst 1, 1) := by decide +kernel
theorem dX0_isSameOfAll_27 : decode cX0_isSameOfAll 27 = .ok (.goto 4, 3) := by decide +kernel
theorem dX0_isSameOfAll_30 : decode cX0_isSameOfAll 30 = .ok (.iconst 0, 1) := by decide +kernel
theorem dX0_isSameOfAll_31 : decode cX0_isSameOfAll 31 = .ok (.ireturn, 1) := by decide +kernel
theorem dX0_leavesEachItself_0 : decode cX0_leavesEachItself 0 = .ok (.aload_n 0, 1) := by decide +kernel
theorem dX0_leavesEachItself_1 : decode cX0_leavesEachItself 1 = .ok (.getfield 9, 3) := by decide +kernel
theorem dX0_leavesEachItself_4 : decode cX0_leavesEachItself 4 = .ok (.lconst 0, 1) := by decide +kernel
theorem dX0_leavesEachItself_5 : decode cX0_leavesEachItself 5 = .ok (.lcmp, 1) := by decide +kernel
theorem dX0_leavesEachItself_6 : decode cX0_leavesEachItself 6 = .ok (.ifCond .ne 21, 3) := by decide +kernel
theorem dX0_leavesEachItself_9 : decode cX0_leavesEachItself 9 = .ok (.aload_n 0, 1) := by decide +kernel
theorem dX0_leavesEachItself_10 : decode cX0_leavesEachItself 10 = .ok (.getfield 15, 3) := by decide +kernel
theorem dX0_leavesEachItself_13 : decode cX0_leavesEachItself 13 = .ok (.ifCond .ne 14, 3) := by decide +kernel
theorem dX0_leavesEachItself_16 : decode cX0_leavesEachItself 16 = .ok (.aload_n 0, 1) := by decide +kernel
theorem dX0_leavesEachItself_17 : decode cX0_leavesEachItself 17 = .ok (.getfield 22, 3) := by decide +kernel
theorem dX0_leavesEachItself_20 : decode cX0_leavesEachItself 20 = .ok (.ifCond .ne 7, 3) := by decide +kernel
theorem dX0_leavesEachItself_23 : decode cX0_leavesEachItself 23 = .ok (.iconst 1, 1) := by decide +kernel
theorem dX0_leavesEachItself_24 : decode cX0_leavesEachItself 24 = .ok (.goto 4, 3) := by decide +kernel
theorem dX0_leavesEachItself_27 : decode cX0_leavesEachItself 27 = .ok (.iconst 0, 1) := by decide +kernel
theorem dX0_leavesEachItself_28 : decode cX0_leavesEachItself 28 = .ok (.ireturn, 1) := by decide +kernel
theorem dX1_init_0 : decode cX1_init 0 = .ok (.aload_n 0, 1) := by decide +kernel
theorem dX1_init_1 : decode cX1_init 1 = .ok (.invokespecial 1, 3) := by decide +kernel
theorem dX1_init_4 : decode cX1_init 4 = .ok (.aload_n 0, 1) := by decide +kernel
theorem dX1_init_5 : decode cX1_init 5 = .ok (.sipush 256, 3) := by decide +kernel
theorem dX1_init_8 : decode cX1_init 8 = .ok (.newarray .int, 2) := by decide +kernel
theorem dX1_init_10 : decode cX1_init 10 = .ok (.putfield 9, 3) := by decide +kernel
theorem dX1_init_13 : decode cX1_init 13 = .ok (.aload_n 0, 1) := by decide +kernel
theorem dX1_init_14 : decode cX1_init 14 = .ok (.sipush 256, 3) := by decide +kernel
theorem dX1_init_17 : decode cX1_init 17 = .ok (.newarray .long, 2) := by decide +kernel
theorem dX1_init_19 : decode cX1_init 19 = .ok (.putfield 13, 3) := by decide +kernel
theorem dX1_init_22 : decode cX1_init 22 = .ok (.return_, 1) := by decide +kernel
set_option maxRecDepth 20000 in
theorem ggX1_set_X1_checkRule : GoodIn wsX1_set wsX1_checkRule := goodIn_ca (goodIn_r _ [6, 7, 8, 9, 10] (by decide +kernel) (by decide +kernel)) (goodIn_sub (fun _ h => List.mem_cons_of_mem _ (List.mem_append_left _ (List.mem_append_right _ h))) (by decide +kernel))
set_option maxRecDepth 20000 in
theorem gX1_set_X1_checkRule : GoodIn wsX1_set (va_wsS RX1 17 yX1_checkRule wsX1_checkRule) := goodIn_app (goodIn_of _ (by decide +kernel)) ggX1_set_X1_checkRule
set_option maxRecDepth 20000 in
theorem ggX1_set_X1_checkPlace : GoodIn wsX1_set wsX1_checkPlace := goodIn_ca (goodIn_r _ [13, 14, 15] (by decide +kernel) (by decide +kernel)) (goodIn_sub (fun _ h => List.mem_cons_of_mem _ (List.mem_append_right _ h)) (by decide +kernel))
set_option maxRecDepth 20000 in
theorem gX1_set_X1_checkPlace : GoodIn wsX1_set (va_wsS RX1 21 yX1_checkPlace wsX1_checkPlace) := goodIn_app (goodIn_of _ (by decide +kernel)) ggX1_set_X1_checkPlace
theorem dX1_set_0 : decode cX1_set 0 = .ok (.iload_n 2, 1) := by decide +kernel
theorem dX1_set_1 : decode cX1_set 1 = .ok (.lload_n 3, 1) := by decide +kernel
theorem dX1_set_2 : decode cX1_set 2 = .ok (.invokestatic 17, 3) := by decide +kernel
theorem dX1_set_5 : decode cX1_set 5 = .ok (.iload_n 1, 1) := by decide +kernel
theorem dX1_set_6 : decode cX1_set 6 = .ok (.invokestatic 21, 3) := by decide +kernel
theorem dX1_set_9 : decode cX1_set 9 = .ok (.aload_n 0, 1) := by decide +kernel
theorem dX1_set_10 : decode cX1_set 10 = .ok (.getfield 9, 3) := by decide +kernel
theorem dX1_set_13 : decode cX1_set 13 = .ok (.iload_n 1, 1) := by decide +kernel
theorem dX1_set_14 : decode cX1_set 14 = .ok (.iload_n 2, 1) := by decide +kernel
theorem dX1_set_15 : decode cX1_set 15 = .ok (.iastore, 1) := by decide +kernel
theorem dX1_set_16 : decode cX1_set 16 = .ok (.aload_n 0, 1) := by decide +kernel
theorem dX1_set_17 : decode cX1_set 17 = .ok (.getfield 13, 3) := by decide +kernel
theorem dX1_set_20 : decode cX1_set 20 = .ok (.iload_n 1, 1) := by decide +kernel
theorem dX1_set_21 : decode cX1_set 21 = .ok (.lload_n 3, 1) := by decide +kernel
theorem dX1_set_22 : decode cX1_set 22 = .ok (.lastore, 1) := by decide +kernel
theorem dX1_set_23 : decode cX1_set 23 = .ok (.return_, 1) := by decide +kernel
set_option maxRecDepth 20000 in
theorem ggX1_fill_X1_checkRule : GoodIn wsX1_fill wsX1_checkRule := goodIn_ca (goodIn_r _ [6, 7, 8, 9, 10] (by decide +kernel) (by decide +kernel)) (goodIn_sub (fun _ h => List.mem_cons_of_mem _ (List.mem_append_left _ (List.mem_append_right _ h))) (by decide +kernel))
set_option maxRecDepth 20000 in
theorem gX1_fill_X1_checkRule : GoodIn wsX1_fill (va_wsS RX1 17 yX1_checkRule wsX1_checkRule) := goodIn_app (goodIn_of _ (by decide +kernel)) ggX1_fill_X1_checkRule
set_option maxRecDepth 20000 in
theorem ggX1_fill_X1_checkPart : GoodIn wsX1_fill wsX1_checkPart := goodIn_ca (goodIn_r _ [13, 14, 15] (by decide +kernel) (by decide +kernel)) (goodIn_sub (fun _ h => List.mem_cons_of_mem _ (List.mem_append_right _ h)) (by decide +kernel))
set_option maxRecDepth 20000 in
theorem gX1_fill_X1_checkPart : GoodIn wsX1_fill (va_wsS RX1 25 yX1_checkPart wsX1_checkPart) := goodIn_app (goodIn_of _ (by decide +kernel)) ggX1_fill_X1_checkPart
theorem dX1_fill_0 : decode cX1_fill 0 = .ok (.iload_n 3, 1) := by decide +kernel
theorem dX1_fill_1 : decode cX1_fill 1 = .ok (.lload 4, 2) := by decide +kernel
theorem dX1_fill_3 : decode cX1_fill 3 = .ok (.invokestatic 17, 3) := by decide +kernel
theorem dX1_fill_6 : decode cX1_fill 6 = .ok (.iload_n 1, 1) := by decide +kernel
theorem dX1_fill_7 : decode cX1_fill 7 = .ok (.iload_n 2, 1) := by decide +kernel
theorem dX1_fill_8 : decode cX1_fill 8 = .ok (.invokestatic 25, 3) := by decide +kernel
theorem dX1_fill_11 : decode cX1_fill 11 = .ok (.iload_n 1, 1) := by decide +kernel
theorem dX1_fill_12 : decode cX1_fill 12 = .ok (.istore 6, 2) := by decide +kernel
theorem dX1_fill_14 : decode cX1_fill 14 = .ok (.iload 6, 2) := by decide +kernel
theorem dX1_fill_16 : decode cX1_fill 16 = .ok (.iload_n 2, 1) := by decide +kernel
theorem dX1_fill_17 : decode cX1_fill 17 = .ok (.if_icmp .ge 26, 3) := by decide +kernel
theorem dX1_fill_20 : decode cX1_fill 20 = .ok (.aload_n 0, 1) := by decide +kernel
theorem dX1_fill_21 : decode cX1_fill 21 = .ok (.getfield 9, 3) := by decide +kernel
theorem dX1_fill_24 : decode cX1_fill 24 = .ok (.iload 6, 2) := by decide +kernel
theorem dX1_fill_26 : decode cX1_fill 26 = .ok (.iload_n 3, 1) := by decide +kernel
theorem dX1_fill_27 : decode cX1_fill 27 = .ok (.iastore, 1) := by decide +kernel
theorem dX1_fill_28 : decode cX1_fill 28 = .ok (.aload_n 0, 1) := by decide +kernel
theorem dX1_fill_29 : decode cX1_fill 29 = .ok (.getfield 13, 3) := by decide +kernel
theorem dX1_fill_32 : decode cX1_fill 32 = .ok (.iload 6, 2) := by decide +kernel
theorem dX1_fill_34 : decode cX1_fill 34 = .ok (.lload 4, 2) := by decide +kernel
theorem dX1_fill_36 : decode cX1_fill 36 = .ok (.lastore, 1) := by decide +kernel
theorem dX1_fill_37 : decode cX1_fill 37 = .ok (.iinc 6 1, 3) := by decide +kernel
theorem dX1_fill_40 : decode cX1_fill 40 = .ok (.goto (-26), 3) := by decide +kernel
theorem dX1_fill_43 : decode cX1_fill 43 = .ok (.return_, 1) := by decide +kernel
set_option maxRecDepth 20000 in
theorem ggX1_swap_X1_checkPlace : GoodIn wsX1_swap wsX1_checkPlace := goodIn_ca (goodIn_r _ [6, 7, 8] (by decide +kernel) (by decide +kernel)) (goodIn_sub (fun _ h => List.mem_cons_of_mem _ (List.mem_append_right _ h)) (by decide +kernel))
set_option maxRecDepth 20000 in
theorem gX1_swap_X1_checkPlace : GoodIn wsX1_swap (va_wsS RX1 21 yX1_checkPlace wsX1_checkPlace) := goodIn_app (goodIn_of _ (by decide +kernel)) ggX1_swap_X1_checkPlace
theorem dX1_swap_0 : decode cX1_swap 0 = .ok (.iload_n 1, 1) := by decide +kernel
theorem dX1_swap_1 : decode cX1_swap 1 = .ok (.invokestatic 21, 3) := by decide +kernel
theorem dX1_swap_4 : decode cX1_swap 4 = .ok (.iload_n 2, 1) := by decide +kernel
theorem dX1_swap_5 : decode cX1_swap 5 = .ok (.invokestatic 21, 3) := by decide +kernel
theorem dX1_swap_8 : decode cX1_swap 8 = .ok (.aload_n 0, 1) := by decide +kernel
theorem dX1_swap_9 : decode cX1_swap 9 = .ok (.getfield 9, 3) := by decide +kernel
theorem dX1_swap_12 : decode cX1_swap 12 = .ok (.iload_n 1, 1) := by decide +kernel
theorem dX1_swap_13 : decode cX1_swap 13 = .ok (.iaload, 1) := by decide +kernel
theorem dX1_swap_14 : decode cX1_swap 14 = .ok (.istore_n 3, 1) := by decide +kernel
theorem dX1_swap_15 : decode cX1_swap 15 = .ok (.aload_n 0, 1) := by decide +kernel
theorem dX1_swap_16 : decode cX1_swap 16 = .ok (.getfield 13, 3) := by decide +kernel
theorem dX1_swap_19 : decode cX1_swap 19 = .ok (.iload_n 1, 1) := by decide +kernel
theorem dX1_swap_20 : decode cX1_swap 20 = .ok (.laload, 1) := by decide +kernel
theorem dX1_swap_21 : decode cX1_swap 21 = .ok (.lstore 4, 2) := by decide +kernel
theorem dX1_swap_23 : decode cX1_swap 23 = .ok (.aload_n 0, 1) := by decide +kernel
theorem dX1_swap_24 : decode cX1_swap 24 = .ok (.getfield 9, 3) := by decide +kernel
theorem dX1_swap_27 : decode cX1_swap 27 = .ok (.iload_n 1, 1) := by decide +kernel
theorem dX1_swap_28 : decode cX1_swap 28 = .ok (.aload_n 0, 1) := by decide +kernel
theorem dX1_swap_29 : decode cX1_swap 29 = .ok (.getfield 9, 3) := by decide +kernel
theorem dX1_swap_32 : decode cX1_swap 32 = .ok (.iload_n 2, 1) := by decide +kernel
theorem dX1_swap_33 : decode cX1_swap 33 = .ok (.iaload, 1) := by decide +kernel
theorem dX1_swap_34 : decode cX1_swap 34 = .ok (.iastore, 1) := by decide +kernel
theorem dX1_swap_35 : decode cX1_swap 35 = .ok (.aload_n 0, 1) := by decide +kernel
theorem dX1_swap_36 : decode cX1_swap 36 = .ok (.getfield 13, 3) := by decide +kernel
theorem dX1_swap_39 : decode cX1_swap 39 = .ok (.iload_n 1, 1) := by decide +kernel
theorem dX1_swap_40 : decode cX1_swap 40 = .ok (.aload_n 0, 1) := by decide +kernel
theorem dX1_swap_41 : decode cX1_swap 41 = .ok (.getfield 13, 3) := by decide +kernel
theorem dX1_swap_44 : decode cX1_swap 44 = .ok (.iload_n 2, 1) := by decide +kernel
theorem dX1_swap_45 : decode cX1_swap 45 = .ok (.laload, 1) := by decide +kernel
theorem dX1_swap_46 : decode cX1_swap 46 = .ok (.lastore, 1) := by decide +kernel
theorem dX1_swap_47 : decode cX1_swap 47 = .ok (.aload_n 0, 1) := by decide +kernel
theorem dX1_swap_48 : decode cX1_swap 48 = .ok (.getfield 9, 3) := by decide +kernel
theorem dX1_swap_51 : decode cX1_swap 51 = .ok (.iload_n 2, 1) := by decide +kernel
theorem dX1_swap_52 : decode cX1_swap 52 = .ok (.iload_n 3, 1) := by decide +kernel
theorem dX1_swap_53 : decode cX1_swap 53 = .ok (.iastore, 1) := by decide +kernel
theorem dX1_swap_54 : decode cX1_swap 54 = .ok (.aload_n 0, 1) := by decide +kernel
theorem dX1_swap_55 : decode cX1_swap 55 = .ok (.getfield 13, 3) := by decide +kernel
theorem dX1_swap_58 : decode cX1_swap 58 = .ok (.iload_n 2, 1) := by decide +kernel
theorem dX1_swap_59 : decode cX1_swap 59 = .ok (.lload 4, 2) := by decide +kernel
theorem dX1_swap_61 : decode cX1_swap 61 = .ok (.lastore, 1) := by decide +kernel
theorem dX1_swap_62 : decode cX1_swap 62 = .ok (.return_, 1) := by decide +kernel
set_option maxRecDepth 20000 in
theorem ggX1_fold_X1_checkNumber : GoodIn wsX1_fold wsX1_checkNumber := goodIn_ca (goodIn_r _ [4, 5, 6, 7, 8] (by decide +kernel) (by decide +kernel)) (goodIn_sub (fun _ h => List.mem_cons_of_mem _ (List.mem_append_left _ (List.mem_append_right _ h))) (by decide +kernel))
set_option maxRecDepth 20000 in
theorem gX1_fold_X1_checkNumber : GoodIn wsX1_fold (va_wsS RX1 29 yX1_checkNumber wsX1_checkNumber) := goodIn_app (goodIn_of _ (by decide +kernel)) ggX1_fold_X1_checkNumber
set_option maxRecDepth 20000 in
theorem ggX1_fold_X1_checkPart : GoodIn wsX1_fold wsX1_checkPart := goodIn_ca (goodIn_r _ [11, 12, 13] (by decide +kernel) (by decide +kernel)) (goodIn_sub (fun _ h => List.mem_cons_of_mem _ (List.mem_append_right _ h)) (by decide +kernel))
set_option maxRecDepth 20000 in
theorem gX1_fold_X1_checkPart : GoodIn wsX1_fold (va_wsS RX1 25 yX1_checkPart wsX1_checkPart) := goodIn_app (goodIn_of _ (by decide +kernel)) ggX1_fold_X1_checkPart
set_option maxRecDepth 20000 in
theorem ggX1_fold_X1_effectOf : GoodIn wsX1_fold wsX1_effectOf := goodIn_r _ [17, 18, 19, 20, 21, 22, 23, 24, 25, 26, 27, 28, 29, 30, 31, 32, 33, 34, 35, 36, 37, 38, 39, 40, 41, 42, 43, 44, 45, 46, 47, 48, 49, 50, 51, 52, 53, 54, 55, 60, 61, 62, 63, 64, 65, 66] (by decide +kernel) (by decide +kernel)
set_option maxRecDepth 20000 in
theorem gX1_fold_X1_effectOf : GoodIn wsX1_fold (wsV RX1 33 RX1 yX1_effectOf wsX1_effectOf) := goodIn_app (goodIn_of _ (by decide +kernel)) ggX1_fold_X1_effectOf
set_option maxRecDepth 20000 in
theorem ggX1_fold_X0_on : GoodIn wsX1_fold wsX0_on := goodIn_r _ [59, 28, 29, 30, 31, 32, 60, 61, 62, 63, 64] (by decide +kernel) (by decide +kernel)
set_option maxRecDepth 20000 in
theorem gX1_fold_X0_on : GoodIn wsX1_fold (wsV RX1 37 RX0 yX0_on wsX0_on) := goodIn_app (goodIn_of _ (by decide +kernel)) ggX1_fold_X0_on
theorem dX1_fold_0 : decode cX1_fold 0 = .ok (.lload_n 3, 1) := by decide +kernel
theorem dX1_fold_1 : decode cX1_fold 1 = .ok (.invokestatic 29, 3) := by decide +kernel
theorem dX1_fold_4 : decode cX1_fold 4 = .ok (.iload_n 1, 1) := by decide +kernel
theorem dX1_fold_5 : decode cX1_fold 5 = .ok (.iload_n 2, 1) := by decide +kernel
theorem dX1_fold_6 : decode cX1_fold 6 = .ok (.invokestatic 25, 3) := by decide +kernel
theorem dX1_fold_9 : decode cX1_fold 9 = .ok (.aload_n 0, 1) := by decide +kernel
theorem dX1_fold_10 : decode cX1_fold 10 = .ok (.iload_n 1, 1) := by decide +kernel
theorem dX1_fold_11 : decode cX1_fold 11 = .ok (.iload_n 2, 1) := by decide +kernel
theorem dX1_fold_12 : decode cX1_fold 12 = .ok (.invokevirtual 33, 3) := by decide +kernel
theorem dX1_fold_15 : decode cX1_fold 15 = .ok (.lload_n 3, 1) := by decide +kernel
theorem dX1_fold_16 : decode cX1_fold 16 = .ok (.invokevirtual 37, 3) := by decide +kernel
theorem dX1_fold_19 : decode cX1_fold 19 = .ok (.lreturn, 1) := by decide +kernel
set_option maxRecDepth 20000 in
theorem ggX1_again_X1_checkNumber : GoodIn wsX1_again wsX1_checkNumber := goodIn_ca (goodIn_r _ [4, 5, 6, 7, 8] (by decide +kernel) (by decide +kernel)) (goodIn_sub (fun _ h => List.mem_cons_of_mem _ (List.mem_append_left _ (List.mem_append_right _ h))) (by decide +kernel))
set_option maxRecDepth 20000 in
theorem gX1_again_X1_checkNumber : GoodIn wsX1_again (va_wsS RX1 29 yX1_checkNumber wsX1_checkNumber) := goodIn_app (goodIn_of _ (by decide +kernel)) ggX1_again_X1_checkNumber
set_option maxRecDepth 20000 in
theorem ggX1_again_X1_checkTimes : GoodIn wsX1_again wsX1_checkTimes := goodIn_ca (goodIn_r _ [11, 5, 6] (by decide +kernel) (by decide +kernel)) (goodIn_sub (fun _ h => List.mem_cons_of_mem _ (List.mem_append_left _ (List.mem_append_right _ h))) (by decide +kernel))
set_option maxRecDepth 20000 in
theorem gX1_again_X1_checkTimes : GoodIn wsX1_again (va_wsS RX1 43 yX1_checkTimes wsX1_checkTimes) := goodIn_app (goodIn_of _ (by decide +kernel)) ggX1_again_X1_checkTimes
set_option maxRecDepth 20000 in
theorem ggX1_again_X1_checkPart : GoodIn wsX1_again wsX1_checkPart := goodIn_ca (goodIn_r _ [14, 15, 16] (by decide +kernel) (by decide +kernel)) (goodIn_sub (fun _ h => List.mem_cons_of_mem _ (List.mem_append_right _ h)) (by decide +kernel))
set_option maxRecDepth 20000 in
theorem gX1_again_X1_checkPart : GoodIn wsX1_again (va_wsS RX1 25 yX1_checkPart wsX1_checkPart) := goodIn_app (goodIn_of _ (by decide +kernel)) ggX1_again_X1_checkPart
set_option maxRecDepth 20000 in
theorem ggX1_again_X1_effectOf : GoodIn wsX1_again wsX1_effectOf := goodIn_r _ [20, 21, 22, 23, 24, 25, 26, 27, 28, 29, 30, 31, 32, 33, 34, 35, 36, 37, 38, 39, 40, 41, 42, 43, 44, 45, 46, 47, 48, 49, 50, 51, 52, 53, 54, 55, 56, 57, 58, 63, 64, 65, 66, 67, 68, 69] (by decide +kernel) (by decide +kernel)
set_option maxRecDepth 20000 in
theorem gX1_again_X1_effectOf : GoodIn wsX1_again (wsV RX1 33 RX1 yX1_effectOf wsX1_effectOf) := goodIn_app (goodIn_of _ (by decide +kernel)) ggX1_again_X1_effectOf
set_option maxRecDepth 20000 in
theorem ggX1_again_X0_on : GoodIn wsX1_again wsX0_on := goodIn_r _ [62, 31, 32, 33, 34, 35, 63, 64, 65, 66, 67] (by decide +kernel) (by decide +kernel)
set_option maxRecDepth 20000 in
theorem gX1_again_X0_on : GoodIn wsX1_again (wsV RX1 37 RX0 yX0_on wsX0_on) := goodIn_app (goodIn_of _ (by decide +kernel)) ggX1_again_X0_on
theorem dX1_again_0 : decode cX1_again 0 = .ok (.lload_n 3, 1) := by decide +kernel
theorem dX1_again_1 : decode cX1_again 1 = .ok (.invokestatic 29, 3) := by decide +kernel
theorem dX1_again_4 : decode cX1_again 4 = .ok (.iload 5, 2) := by decide +kernel
theorem dX1_again_6 : decode cX1_again 6 = .ok (.invokestatic 43, 3) := by decide +kernel
theorem dX1_again_9 : decode cX1_again 9 = .ok (.iload_n 1, 1) := by decide +kernel
theorem dX1_again_10 : decode cX1_again 10 = .ok (.iload_n 2, 1) := by decide +kernel
theorem dX1_again_11 : decode cX1_again 11 = .ok (.invokestatic 25, 3) := by decide +kernel
theorem dX1_again_14 : decode cX1_again 14 = .ok (.aload_n 0, 1) := by decide +kernel
theorem dX1_again_15 : decode cX1_again 15 = .ok (.iload_n 1, 1) := by decide +kernel
theorem dX1_again_16 : decode cX1_again 16 = .ok (.iload_n 2, 1) := by decide +kernel
theorem dX1_again_17 : decode cX1_again 17 = .ok (.invokevirtual 33, 3) := by decide +kernel
theorem dX1_again_20 : decode cX1_again 20 = .ok (.astore 6, 2) := by decide +kernel
theorem dX1_again_22 : decode cX1_again 22 = .ok (.lload_n 3, 1) := by decide +kernel
theorem dX1_again_23 : decode cX1_again 23 = .ok (.lstore 7, 2) := by decide +kernel
theorem dX1_again_25 : decode cX1_again 25 = .ok (.iconst 0, 1) := by decide +kernel
theorem dX1_again_26 : decode cX1_again 26 = .ok (.istore 9, 2) := by decide +kernel
theorem dX1_again_28 : decode cX1_again 28 = .ok (.iload 9, 2) := by decide +kernel
theorem dX1_again_30 : decode cX1_again 30 = .ok (.iload 5, 2) := by decide +kernel
theorem dX1_again_32 : decode cX1_again 32 = .ok (.if_icmp .ge 18, 3) := by decide +kernel
theorem dX1_again_35 : decode cX1_again 35 = .ok (.aload 6, 2) := by decide +kernel
theorem dX1_again_37 : decode cX1_again 37 = .ok (.lload 7, 2) := by decide +kernel
theorem dX1_again_39 : decode cX1_again 39 = .ok (.invokevirtual 37, 3) := by decide +kernel
theorem dX1_again_42 : decode cX1_again 42 = .ok (.lstore 7, 2) := by decide +kernel
theorem dX1_again_44 : decode cX1_again 44 = .ok (.iinc 9 1, 3) := by decide +kernel
theorem dX1_again_47 : decode cX1_again 47 = .ok (.goto (-19), 3) := by decide +kernel
theorem dX1_again_50 : decode cX1_again 50 = .ok (.lload 7, 2) := by decide +kernel
theorem dX1_again_52 : decode cX1_again 52 = .ok (.lreturn, 1) := by decide +kernel
set_option maxRecDepth 20000 in
theorem ggX1_least_X1_checkPart : GoodIn wsX1_least wsX1_checkPart := goodIn_ca (goodIn_r _ [6, 7, 8] (by decide +kernel) (by decide +kernel)) (goodIn_sub (fun _ h => List.mem_cons_of_mem _ (List.mem_append_right _ h)) (by decide +kernel))
set_option maxRecDepth 20000 in
theorem gX1_least_X1_checkPart : GoodIn wsX1_least (va_wsS RX1 25 yX1_checkPart wsX1_checkPart) := goodIn_app (goodIn_of _ (by decide +kernel)) ggX1_least_X1_checkPart
set_option maxRecDepth 20000 in
theorem ggX1_least_X1_effectOf : GoodIn wsX1_least wsX1_effectOf := goodIn_r _ [12, 13, 14, 15, 16, 17, 18, 19, 20, 21, 22, 23, 24, 25, 26, 27, 28, 29, 30, 31, 32, 33, 34, 35, 36, 37, 38, 39, 40, 41, 42, 43, 44, 45, 46, 47, 48, 49, 50, 51, 52, 53, 54, 55, 56, 57] (by decide +kernel) (by decide +kernel)
set_option maxRecDepth 20000 in
theorem gX1_least_X1_effectOf : GoodIn wsX1_least (wsV RX1 33 RX1 yX1_effectOf wsX1_effectOf) := goodIn_app (goodIn_of _ (by decide +kernel)) ggX1_least_X1_effectOf
theorem dX1_least_0 : decode cX1_least 0 = .ok (.iload_n 1, 1) := by decide +kernel
theorem dX1_least_1 : decode cX1_least 1 = .ok (.iload_n 2, 1) := by decide +kernel
theorem dX1_least_2 : decode cX1_least 2 = .ok (.invokestatic 25, 3) := by decide +kernel
theorem dX1_least_5 : decode cX1_least 5 = .ok (.aload_n 0, 1) := by decide +kernel
theorem dX1_least_6 : decode cX1_least 6 = .ok (.iload_n 1, 1) := by decide +kernel
theorem dX1_least_7 : decode cX1_least 7 = .ok (.iload_n 2, 1) := by decide +kernel
theorem dX1_least_8 : decode cX1_least 8 = .ok (.invokevirtual 33, 3) := by decide +kernel
theorem dX1_least_11 : decode cX1_least 11 = .ok (.astore_n 3, 1) := by decide +kernel
theorem dX1_least_12 : decode cX1_least 12 = .ok (.aload_n 3, 1) := by decide +kernel
theorem dX1_least_13 : decode cX1_least 13 = .ok (.getfield 46, 3) := by decide +kernel
theorem dX1_least_16 : decode cX1_least 16 = .ok (.ifCond .ne 13, 3) := by decide +kernel
theorem dX1_least_19 : decode cX1_least 19 = .ok (.new 50, 3) := by decide +kernel
theorem dX1_least_22 : decode cX1_least 22 = .ok (.dup, 1) := by decide +kernel
theorem dX1_least_23 : decode cX1_least 23 = .ok (.ldc 52, 2) := by decide +kernel
theorem dX1_least_25 : decode cX1_least 25 = .ok (.invokespecial 54, 3) := by decide +kernel
theorem dX1_least_28 : decode cX1_least 28 = .ok (.athrow, 1) := by decide +kernel
theorem dX1_least_29 : decode cX1_least 29 = .ok (.aload_n 3, 1) := by decide +kernel
theorem dX1_least_30 : decode cX1_least 30 = .ok (.getfield 57, 3) := by decide +kernel
theorem dX1_least_33 : decode cX1_least 33 = .ok (.lreturn, 1) := by decide +kernel
set_option maxRecDepth 20000 in
theorem ggX1_greatest_X1_checkPart : GoodIn wsX1_greatest wsX1_checkPart := goodIn_ca (goodIn_r _ [6, 7, 8] (by decide +kernel) (by decide +kernel)) (goodIn_sub (fun _ h => List.mem_cons_of_mem _ (List.mem_append_right _ h)) (by decide +kernel))
set_option maxRecDepth 20000 in
theorem gX1_greatest_X1_checkPart : GoodIn wsX1_greatest (va_wsS RX1 25 yX1_checkPart wsX1_checkPart) := goodIn_app (goodIn_of _ (by decide +kernel)) ggX1_greatest_X1_checkPart
set_option maxRecDepth 20000 in
theorem ggX1_greatest_X1_effectOf : GoodIn wsX1_greatest wsX1_effectOf := goodIn_r _ [12, 13, 14, 15, 16, 17, 18, 19, 20, 21, 22, 23, 24, 25, 26, 27, 28, 29, 30, 31, 32, 33, 34, 35, 36, 37, 38, 39, 40, 41, 42, 43, 44, 45, 46, 47, 48, 49, 50, 51, 52, 53, 54, 55, 56, 57] (by decide +kernel) (by decide +kernel)
set_option maxRecDepth 20000 in
theorem gX1_greatest_X1_effectOf : GoodIn wsX1_greatest (wsV RX1 33 RX1 yX1_effectOf wsX1_effectOf) := goodIn_app (goodIn_of _ (by decide +kernel)) ggX1_greatest_X1_effectOf
theorem dX1_greatest_0 : decode cX1_greatest 0 = .ok (.iload_n 1, 1) := by decide +kernel
theorem dX1_greatest_1 : decode cX1_greatest 1 = .ok (.iload_n 2, 1) := by decide +kernel
theorem dX1_greatest_2 : decode cX1_greatest 2 = .ok (.invokestatic 25, 3) := by decide +kernel
theorem dX1_greatest_5 : decode cX1_greatest 5 = .ok (.aload_n 0, 1) := by decide +kernel
theorem dX1_greatest_6 : decode cX1_greatest 6 = .ok (.iload_n 1, 1) := by decide +kernel
theorem dX1_greatest_7 : decode cX1_greatest 7 = .ok (.iload_n 2, 1) := by decide +kernel
theorem dX1_greatest_8 : decode cX1_greatest 8 = .ok (.invokevirtual 33, 3) := by decide +kernel
theorem dX1_greatest_11 : decode cX1_greatest 11 = .ok (.astore_n 3, 1) := by decide +kernel
theorem dX1_greatest_12 : decode cX1_greatest 12 = .ok (.aload_n 3, 1) := by decide +kernel
theorem dX1_greatest_13 : decode cX1_greatest 13 = .ok (.getfield 61, 3) := by decide +kernel
theorem dX1_greatest_16 : decode cX1_greatest 16 = .ok (.ifCond .ne 13, 3) := by decide +kernel
theorem dX1_greatest_19 : decode cX1_greatest 19 = .ok (.new 50, 3) := by decide +kernel
theorem dX1_greatest_22 : decode cX1_greatest 22 = .ok (.dup, 1) := by decide +kernel
theorem dX1_greatest_23 : decode cX1_greatest 23 = .ok (.ldc 64, 2) := by decide +kernel
theorem dX1_greatest_25 : decode cX1_greatest 25 = .ok (.invokespecial 54, 3) := by decide +kernel
theorem dX1_greatest_28 : decode cX1_greatest 28 = .ok (.athrow, 1) := by decide +kernel
theorem dX1_greatest_29 : decode cX1_greatest 29 = .ok (.aload_n 3, 1) := by decide +kernel
theorem dX1_greatest_30 : decode cX1_greatest 30 = .ok (.getfield 66, 3) := by decide +kernel
theorem dX1_greatest_33 : decode cX1_greatest 33 = .ok (.lreturn, 1) := by decide +kernel
set_option maxRecDepth 20000 in
theorem ggX1_fixed_X1_checkPart : GoodIn wsX1_fixed wsX1_checkPart := goodIn_ca (goodIn_r _ [6, 7, 8] (by decide +kernel) (by decide +kernel)) (goodIn_sub (fun _ h => List.mem_cons_of_mem _ (List.mem_append_right _ h)) (by decide +kernel))
set_option maxRecDepth 20000 in
theorem gX1_fixed_X1_checkPart : GoodIn wsX1_fixed (va_wsS RX1 25 yX1_checkPart wsX1_checkPart) := goodIn_app (goodIn_of _ (by decide +kernel)) ggX1_fixed_X1_checkPart
set_option maxRecDepth 20000 in
theorem ggX1_fixed_X1_effectOf : GoodIn wsX1_fixed wsX1_effectOf := goodIn_r _ [12, 13, 14, 15, 16, 17, 18, 19, 20, 21, 22, 23, 24, 25, 26, 27, 28, 29, 30, 31, 32, 33, 34, 35, 36, 37, 38, 39, 40, 41, 42, 43, 44, 45, 46, 47, 48, 49, 50, 55, 56, 57, 58, 59, 60, 61] (by decide +kernel) (by decide +kernel)
set_option maxRecDepth 20000 in
theorem gX1_fixed_X1_effectOf : GoodIn wsX1_fixed (wsV RX1 33 RX1 yX1_effectOf wsX1_effectOf) := goodIn_app (goodIn_of _ (by decide +kernel)) ggX1_fixed_X1_effectOf
set_option maxRecDepth 20000 in
theorem ggX1_fixed_X0_staysAtHigh : GoodIn wsX1_fixed wsX0_staysAtHigh := goodIn_r _ [54, 23, 55, 56, 57, 58, 59] (by decide +kernel) (by decide +kernel)
set_option maxRecDepth 20000 in
theorem gX1_fixed_X0_staysAtHigh : GoodIn wsX1_fixed (wsV RX1 69 RX0 yX0_staysAtHigh wsX0_staysAtHigh) := goodIn_app (goodIn_of _ (by decide +kernel)) ggX1_fixed_X0_staysAtHigh
theorem dX1_fixed_0 : decode cX1_fixed 0 = .ok (.iload_n 1, 1) := by decide +kernel
theorem dX1_fixed_1 : decode cX1_fixed 1 = .ok (.iload_n 2, 1) := by decide +kernel
theorem dX1_fixed_2 : decode cX1_fixed 2 = .ok (.invokestatic 25, 3) := by decide +kernel
theorem dX1_fixed_5 : decode cX1_fixed 5 = .ok (.aload_n 0, 1) := by decide +kernel
theorem dX1_fixed_6 : decode cX1_fixed 6 = .ok (.iload_n 1, 1) := by decide +kernel
theorem dX1_fixed_7 : decode cX1_fixed 7 = .ok (.iload_n 2, 1) := by decide +kernel
theorem dX1_fixed_8 : decode cX1_fixed 8 = .ok (.invokevirtual 33, 3) := by decide +kernel
theorem dX1_fixed_11 : decode cX1_fixed 11 = .ok (.astore 4, 2) := by decide +kernel
theorem dX1_fixed_13 : decode cX1_fixed 13 = .ok (.aload 4, 2) := by decide +kernel
theorem dX1_fixed_15 : decode cX1_fixed 15 = .ok (.iload_n 3, 1) := by decide +kernel
theorem dX1_fixed_16 : decode cX1_fixed 16 = .ok (.invokevirtual 69, 3) := by decide +kernel
theorem dX1_fixed_19 : decode cX1_fixed 19 = .ok (.istore 5, 2) := by decide +kernel
theorem dX1_fixed_21 : decode cX1_fixed 21 = .ok (.iload 5, 2) := by decide +kernel
theorem dX1_fixed_23 : decode cX1_fixed 23 = .ok (.ifCond .eq 14, 3) := by decide +kernel
theorem dX1_fixed_26 : decode cX1_fixed 26 = .ok (.aload 4, 2) := by decide +kernel
theorem dX1_fixed_28 : decode cX1_fixed 28 = .ok (.getfield 61, 3) := by decide +kernel
theorem dX1_fixed_31 : decode cX1_fixed 31 = .ok (.ifCond .ne 24, 3) := by decide +kernel
theorem dX1_fixed_34 : decode cX1_fixed 34 = .ok (.goto 11, 3) := by decide +kernel
theorem dX1_fixed_37 : decode cX1_fixed 37 = .ok (.aload 4, 2) := by decide +kernel
theorem dX1_fixed_39 : decode cX1_fixed 39 = .ok (.getfield 46, 3) := by decide +kernel
theorem dX1_fixed_42 : decode cX1_fixed 42 = .ok (.ifCond .ne 13, 3) := by decide +kernel
theorem dX1_fixed_45 : decode cX1_fixed 45 = .ok (.new 50, 3) := by decide +kernel
theorem dX1_fixed_48 : decode cX1_fixed 48 = .ok (.dup, 1) := by decide +kernel
theorem dX1_fixed_49 : decode cX1_fixed 49 = .ok (.ldc 73, 2) := by decide +kernel
theorem dX1_fixed_51 : decode cX1_fixed 51 = .ok (.invokespecial 54, 3) := by decide +kernel
theorem dX1_fixed_54 : decode cX1_fixed 54 = .ok (.athrow, 1) := by decide +kernel
theorem dX1_fixed_55 : decode cX1_fixed 55 = .ok (.iload 5, 2) := by decide +kernel
theorem dX1_fixed_57 : decode cX1_fixed 57 = .ok (.ifCond .eq 11, 3) := by decide +kernel
theorem dX1_fixed_60 : decode cX1_fixed 60 = .ok (.aload 4, 2) := by decide +kernel
theorem dX1_fixed_62 : decode cX1_fixed 62 = .ok (.getfield 66, 3) := by decide +kernel
theorem dX1_fixed_65 : decode cX1_fixed 65 = .ok (.goto 8, 3) := by decide +kernel
theorem dX1_fixed_68 : decode cX1_fixed 68 = .ok (.aload 4, 2) := by decide +kernel
theorem dX1_fixed_70 : decode cX1_fixed 70 = .ok (.getfield 57, 3) := by decide +kernel
theorem dX1_fixed_73 : decode cX1_fixed 73 = .ok (.lreturn, 1) := by decide +kernel
set_option maxRecDepth 20000 in
theorem ggX1_about_X1_checkQuestion : GoodIn wsX1_about wsX1_checkQuestion := goodIn_ca (goodIn_r _ [4, 5, 6] (by decide +kernel) (by decide +kernel)) (goodIn_sub (fun _ h => List.mem_cons_of_mem _ (List.mem_append_left _ (List.mem_append_right _ h))) (by decide +kernel))
set_option maxRecDepth 20000 in
theorem gX1_about_X1_checkQuestion : GoodIn wsX1_about (va_wsS RX1 75 yX1_checkQuestion wsX1_checkQuestion) := goodIn_app (goodIn_of _ (by decide +kernel)) ggX1_about_X1_checkQuestion
set_option maxRecDepth 20000 in
theorem ggX1_about_X1_checkPart : GoodIn wsX1_about wsX1_checkPart := goodIn_ca (goodIn_r _ [9, 10, 11] (by decide +kernel) (by decide +kernel)) (goodIn_sub (fun _ h => List.mem_cons_of_mem _ (List.mem_append_right _ h)) (by decide +kernel))
set_option maxRecDepth 20000 in
theorem gX1_about_X1_checkPart : GoodIn wsX1_about (va_wsS RX1 25 yX1_checkPart wsX1_checkPart) := goodIn_app (goodIn_of _ (by decide +kernel)) ggX1_about_X1_checkPart
set_option maxRecDepth 20000 in
theorem ggX1_about_X1_countBusy : GoodIn wsX1_about wsX1_countBusy := goodIn_r _ [15, 16, 66, 67] (by decide +kernel) (by decide +kernel)
set_option maxRecDepth 20000 in
theorem gX1_about_X1_countBusy : GoodIn wsX1_about (wsV RX1 78 RX1 yX1_countBusy wsX1_countBusy) := goodIn_app (goodIn_of _ (by decide +kernel)) ggX1_about_X1_countBusy
set_option maxRecDepth 20000 in
theorem ggX1_about_X1_effectOf : GoodIn wsX1_about wsX1_effectOf := goodIn_r _ [20, 21, 22, 23, 16, 24, 25, 26, 27, 28, 29, 30, 31, 32, 33, 34, 35, 36, 37, 38, 39, 40, 41, 42, 43, 44, 45, 46, 47, 48, 49, 50, 51, 52, 53, 54, 55, 56, 57, 68, 69, 70, 71, 72, 66, 67] (by decide +kernel) (by decide +kernel)
set_option maxRecDepth 20000 in
theorem gX1_about_X1_effectOf : GoodIn wsX1_about (wsV RX1 33 RX1 yX1_effectOf wsX1_effectOf) := goodIn_app (goodIn_of _ (by decide +kernel)) ggX1_about_X1_effectOf
set_option maxRecDepth 20000 in
theorem ggX1_about_X0_isSameOfAll : GoodIn wsX1_about wsX0_isSameOfAll := goodIn_r _ [61, 31, 33, 32, 34, 68, 69, 70, 71, 72] (by decide +kernel) (by decide +kernel)
set_option maxRecDepth 20000 in
theorem gX1_about_X0_isSameOfAll : GoodIn wsX1_about (wsV RX1 82 RX0 yX0_isSameOfAll wsX0_isSameOfAll) := goodIn_app (goodIn_of _ (by decide +kernel)) ggX1_about_X0_isSameOfAll
set_option maxRecDepth 20000 in
theorem ggX1_about_X0_leavesEachItself : GoodIn wsX1_about wsX0_leavesEachItself := goodIn_r _ [65, 30, 31, 33, 68, 69, 70, 71, 72] (by decide +kernel) (by decide +kernel)
set_option maxRecDepth 20000 in
theorem gX1_about_X0_leavesEachItself : GoodIn wsX1_about (wsV RX1 86 RX0 yX0_leavesEachItself wsX0_leavesEachItself) := goodIn_app (goodIn_of _ (by decide +kernel)) ggX1_about_X0_leavesEachItself
theorem dX1_about_0 : decode cX1_about 0 = .ok (.iload_n 3, 1) := by decide +kernel
theorem dX1_about_1 : decode cX1_about 1 = .ok (.invokestatic 75, 3) := by decide +kernel
theorem dX1_about_4 : decode cX1_about 4 = .ok (.iload_n 1, 1) := by decide +kernel
theorem dX1_about_5 : decode cX1_about 5 = .ok (.iload_n 2, 1) := by decide +kernel
theorem dX1_about_6 : decode cX1_about 6 = .ok (.invokestatic 25, 3) := by decide +kernel
theorem dX1_about_9 : decode cX1_about 9 = .ok (.iload_n 3, 1) := by decide +kernel
theorem dX1_about_10 : decode cX1_about 10 = .ok (.iconst 1, 1) := by decide +kernel
theorem dX1_about_11 : decode cX1_about 11 = .ok (.if_icmp .ne 10, 3) := by decide +kernel
theorem dX1_about_14 : decode cX1_about 14 = .ok (.aload_n 0, 1) := by decide +kernel
theorem dX1_about_15 : decode cX1_about 15 = .ok (.iload_n 1, 1) := by decide +kernel
theorem dX1_about_16 : decode cX1_about 16 = .ok (.iload_n 2, 1) := by decide +kernel
theorem dX1_about_17 : decode cX1_about 17 = .ok (.invokevirtual 78, 3) := by decide +kernel
theorem dX1_about_20 : decode cX1_about 20 = .ok (.ireturn, 1) := by decide +kernel
theorem dX1_about_21 : decode cX1_about 21 = .ok (.aload_n 0, 1) := by decide +kernel
theorem dX1_about_22 : decode cX1_about 22 = .ok (.iload_n 1, 1) := by decide +kernel
theorem dX1_about_23 : decode cX1_about 23 = .ok (.iload_n 2, 1) := by decide +kernel
theorem dX1_about_24 : decode cX1_about 24 = .ok (.invokevirtual 33, 3) := by decide +kernel
theorem dX1_about_27 : decode cX1_about 27 = .ok (.astore 4, 2) := by decide +kernel
theorem dX1_about_29 : decode cX1_about 29 = .ok (.iload_n 3, 1) := by decide +kernel
theorem dX1_about_30 : decode cX1_about 30 = .ok (.ifCond .ne 11, 3) := by decide +kernel
theorem dX1_about_33 : decode cX1_about 33 = .ok (.aload 4, 2) := by decide +kernel
theorem dX1_about_35 : decode cX1_about 35 = .ok (.invokevirtual 82, 3) := by decide +kernel
theorem dX1_about_38 : decode cX1_about 38 = .ok (.goto 8, 3) := by decide +kernel
theorem dX1_about_41 : decode cX1_about 41 = .ok (.aload 4, 2) := by decide +kernel
theorem dX1_about_43 : decode cX1_about 43 = .ok (.invokevirtual 86, 3) := by decide +kernel
theorem dX1_about_46 : decode cX1_about 46 = .ok (.istore 5, 2) := by decide +kernel
theorem dX1_about_48 : decode cX1_about 48 = .ok (.iload 5, 2) := by decide +kernel
theorem dX1_about_50 : decode cX1_about 50 = .ok (.ifCond .eq 7, 3) := by decide +kernel
theorem dX1_about_53 : decode cX1_about 53 = .ok (.iconst 1, 1) := by decide +kernel
theorem dX1_about_54 : decode cX1_about 54 = .ok (.goto 4, 3) := by decide +kernel
theorem dX1_about_57 : decode cX1_about 57 = .ok (.iconst 0, 1) := by decide +kernel
theorem dX1_about_58 : decode cX1_about 58 = .ok (.ireturn, 1) := by decide +kernel
theorem dX1_countBusy_0 : decode cX1_countBusy 0 = .ok (.iconst 0, 1) := by decide +kernel
theorem dX1_countBusy_1 : decode cX1_countBusy 1 = .ok (.istore_n 3, 1) := by decide +kernel
theorem dX1_countBusy_2 : decode cX1_countBusy 2 = .ok (.iload_n 1, 1) := by decide +kernel
theorem dX1_countBusy_3 : decode cX1_countBusy 3 = .ok (.istore 4, 2) := by decide +kernel
theorem dX1_countBusy_5 : decode cX1_countBusy 5 = .ok (.iload 4, 2) := by decide +kernel
theorem dX1_countBusy_7 : decode cX1_countBusy 7 = .ok (.iload_n 2, 1) := by decide +kernel
theorem dX1_countBusy_8 : decode cX1_countBusy 8 = .ok (.if_icmp .ge 22, 3) := by decide +kernel
theorem dX1_countBusy_11 : decode cX1_countBusy 11 = .ok (.aload_n 0, 1) := by decide +kernel
theorem dX1_countBusy_12 : decode cX1_countBusy 12 = .ok (.getfield 9, 3) := by decide +kernel
theorem dX1_countBusy_15 : decode cX1_countBusy 15 = .ok (.iload 4, 2) := by decide +kernel
theorem dX1_countBusy_17 : decode cX1_countBusy 17 = .ok (.iaload, 1) := by decide +kernel
theorem dX1_countBusy_18 : decode cX1_countBusy 18 = .ok (.ifCond .eq 6, 3) := by decide +kernel
theorem dX1_countBusy_21 : decode cX1_countBusy 21 = .ok (.iinc 3 1, 3) := by decide +kernel
theorem dX1_countBusy_24 : decode cX1_countBusy 24 = .ok (.iinc 4 1, 3) := by decide +kernel
theorem dX1_countBusy_27 : decode cX1_countBusy 27 = .ok (.goto (-22), 3) := by decide +kernel
theorem dX1_countBusy_30 : decode cX1_countBusy 30 = .ok (.iload_n 3, 1) := by decide +kernel
theorem dX1_countBusy_31 : decode cX1_countBusy 31 = .ok (.ireturn, 1) := by decide +kernel
set_option maxRecDepth 20000 in
theorem ggX1_effectOf_X0_init : GoodIn wsX1_effectOf wsX0_init := goodIn_r _ [7, 8, 9, 10, 11, 12, 13, 14, 15, 39, 40, 41, 42, 43] (by decide +kernel) (by decide +kernel)
set_option maxRecDepth 20000 in
theorem gX1_effectOf_X0_init_n89 : GoodIn wsX1_effectOf (wsX0_init) := ggX1_effectOf_X0_init
set_option maxRecDepth 20000 in
theorem ggX1_effectOf_X0_then : GoodIn wsX1_effectOf wsX0_then := goodIn_r _ [19, 20, 21, 22, 3, 23, 11, 13, 15, 24, 25, 26, 27, 12, 28, 29, 30, 31, 32, 33, 34, 35, 14, 36, 37, 38, 39, 40, 41, 42, 43] (by decide +kernel) (by decide +kernel)
set_option maxRecDepth 20000 in
theorem gX1_effectOf_X0_then : GoodIn wsX1_effectOf (wsV RX1 90 RX0 yX0_then wsX0_then) := goodIn_app (goodIn_of _ (by decide +kernel)) ggX1_effectOf_X0_then
theorem dX1_effectOf_0 : decode cX1_effectOf 0 = .ok (.new 38, 3) := by decide +kernel
theorem dX1_effectOf_3 : decode cX1_effectOf 3 = .ok (.dup, 1) := by decide +kernel
theorem dX1_effectOf_4 : decode cX1_effectOf 4 = .ok (.invokespecial 89, 3) := by decide +kernel
theorem dX1_effectOf_7 : decode cX1_effectOf 7 = .ok (.astore_n 3, 1) := by decide +kernel
theorem dX1_effectOf_8 : decode cX1_effectOf 8 = .ok (.iload_n 1, 1) := by decide +kernel
theorem dX1_effectOf_9 : decode cX1_effectOf 9 = .ok (.istore 4, 2) := by decide +kernel
theorem dX1_effectOf_11 : decode cX1_effectOf 11 = .ok (.iload 4, 2) := by decide +kernel
theorem dX1_effectOf_13 : decode cX1_effectOf 13 = .ok (.iload_n 2, 1) := by decide +kernel
theorem dX1_effectOf_14 : decode cX1_effectOf 14 = .ok (.if_icmp .ge 27, 3) := by decide +kernel
theorem dX1_effectOf_17 : decode cX1_effectOf 17 = .ok (.aload_n 3, 1) := by decide +kernel
theorem dX1_effectOf_18 : decode cX1_effectOf 18 = .ok (.aload_n 0, 1) := by decide +kernel
theorem dX1_effectOf_19 : decode cX1_effectOf 19 = .ok (.getfield 9, 3) := by decide +kernel
theorem dX1_effectOf_22 : decode cX1_effectOf 22 = .ok (.iload 4, 2) := by decide +kernel
theorem dX1_effectOf_24 : decode cX1_effectOf 24 = .ok (.iaload, 1) := by decide +kernel
theorem dX1_effectOf_25 : decode cX1_effectOf 25 = .ok (.aload_n 0, 1) := by decide +kernel
theorem dX1_effectOf_26 : decode cX1_effectOf 26 = .ok (.getfield 13, 3) := by decide +kernel
theorem dX1_effectOf_29 : decode cX1_effectOf 29 = .ok (.iload 4, 2) := by decide +kernel
theorem dX1_effectOf_31 : decode cX1_effectOf 31 = .ok (.laload, 1) := by decide +kernel
theorem dX1_effectOf_32 : decode cX1_effectOf 32 = .ok (.invokevirtual 90, 3) := by decide +kernel
theorem dX1_effectOf_35 : decode cX1_effectOf 35 = .ok (.iinc 4 1, 3) := by decide +kernel
theorem dX1_effectOf_38 : decode cX1_effectOf 38 = .ok (.goto (-27), 3) := by decide +kernel
theorem dX1_effectOf_41 : decode cX1_effectOf 41 = .ok (.aload_n 3, 1) := by decide +kernel
theorem dX1_effectOf_42 : decode cX1_effectOf 42 = .ok (.areturn, 1) := by decide +kernel
theorem dX1_checkRule_0 : decode cX1_checkRule 0 = .ok (.iload_n 0, 1) := by decide +kernel
theorem dX1_checkRule_1 : decode cX1_checkRule 1 = .ok (.ifCond .lt 8, 3) := by decide +kernel
theorem dX1_checkRule_4 : decode cX1_checkRule 4 = .ok (.iload_n 0, 1) := by decide +kernel
theorem dX1_checkRule_5 : decode cX1_checkRule 5 = .ok (.iconst 4, 1) := by decide +kernel
theorem dX1_checkRule_6 : decode cX1_checkRule 6 = .ok (.if_icmp .le 13, 3) := by decide +kernel
theorem dX1_checkRule_9 : decode cX1_checkRule 9 = .ok (.new 93, 3) := by decide +kernel
theorem dX1_checkRule_12 : decode cX1_checkRule 12 = .ok (.dup, 1) := by decide +kernel
theorem dX1_checkRule_13 : decode cX1_checkRule 13 = .ok (.ldc 95, 2) := by decide +kernel
theorem dX1_checkRule_15 : decode cX1_checkRule 15 = .ok (.invokespecial 97, 3) := by decide +kernel
theorem dX1_checkRule_18 : decode cX1_checkRule 18 = .ok (.athrow, 1) := by decide +kernel
theorem dX1_checkRule_19 : decode cX1_checkRule 19 = .ok (.lload_n 1, 1) := by decide +kernel
theorem dX1_checkRule_20 : decode cX1_checkRule 20 = .ok (.ldc2_w 98, 3) := by decide +kernel
theorem dX1_checkRule_23 : decode cX1_checkRule 23 = .ok (.lcmp, 1) := by decide +kernel
theorem dX1_checkRule_24 : decode cX1_checkRule 24 = .ok (.ifCond .lt 11, 3) := by decide +kernel
theorem dX1_checkRule_27 : decode cX1_checkRule 27 = .ok (.lload_n 1, 1) := by decide +kernel
theorem dX1_checkRule_28 : decode cX1_checkRule 28 = .ok (.ldc2_w 100, 3) := by decide +kernel
theorem dX1_checkRule_31 : decode cX1_checkRule 31 = .ok (.lcmp, 1) := by decide +kernel
theorem dX1_checkRule_32 : decode cX1_checkRule 32 = .ok (.ifCond .le 13, 3) := by decide +kernel
theorem dX1_checkRule_35 : decode cX1_checkRule 35 = .ok (.new 93, 3) := by decide +kernel
theorem dX1_checkRule_38 : decode cX1_checkRule 38 = .ok (.dup, 1) := by decide +kernel
theorem dX1_checkRule_39 : decode cX1_checkRule 39 = .ok (.ldc 102, 2) := by decide +kernel
theorem dX1_checkRule_41 : decode cX1_checkRule 41 = .ok (.invokespecial 97, 3) := by decide +kernel
theorem dX1_checkRule_44 : decode cX1_checkRule 44 = .ok (.athrow, 1) := by decide +kernel
theorem dX1_checkRule_45 : decode cX1_checkRule 45 = .ok (.return_, 1) := by decide +kernel
theorem dX1_checkNumber_0 : decode cX1_checkNumber 0 = .ok (.lload_n 0, 1) := by decide +kernel
theorem dX1_checkNumber_1 : decode cX1_checkNumber 1 = .ok (.ldc2_w 104, 3) := by decide +kernel
theorem dX1_checkNumber_4 : decode cX1_checkNumber 4 = .ok (.lcmp, 1) := by decide +kernel
theorem dX1_checkNumber_5 : decode cX1_checkNumber 5 = .ok (.ifCond .lt 11, 3) := by decide +kernel
theorem dX1_checkNumber_8 : decode cX1_checkNumber 8 = .ok (.lload_n 0, 1) := by decide +kernel
theorem dX1_checkNumber_9 : decode cX1_checkNumber 9 = .ok (.ldc2_w 106, 3) := by decide +kernel
theorem dX1_checkNumber_12 : decode cX1_checkNumber 12 = .ok (.lcmp, 1) := by decide +kernel
theorem dX1_checkNumber_13 : decode cX1_checkNumber 13 = .ok (.ifCond .le 13, 3) := by decide +kernel
theorem dX1_checkNumber_16 : decode cX1_checkNumber 16 = .ok (.new 93, 3) := by decide +kernel
theorem dX1_checkNumber_19 : decode cX1_checkNumber 19 = .ok (.dup, 1) := by decide +kernel
theorem dX1_checkNumber_20 : decode cX1_checkNumber 20 = .ok (.ldc 108, 2) := by decide +kernel
theorem dX1_checkNumber_22 : decode cX1_checkNumber 22 = .ok (.invokespecial 97, 3) := by decide +kernel
theorem dX1_checkNumber_25 : decode cX1_checkNumber 25 = .ok (.athrow, 1) := by decide +kernel
theorem dX1_checkNumber_26 : decode cX1_checkNumber 26 = .ok (.return_, 1) := by decide +kernel
theorem dX1_checkTimes_0 : decode cX1_checkTimes 0 = .ok (.iload_n 0, 1) := by decide +kernel
theorem dX1_checkTimes_1 : decode cX1_checkTimes 1 = .ok (.ifCond .lt 10, 3) := by decide +kernel
theorem dX1_checkTimes_4 : decode cX1_checkTimes 4 = .ok (.iload_n 0, 1) := by decide +kernel
theorem dX1_checkTimes_5 : decode cX1_checkTimes 5 = .ok (.sipush 1000, 3) := by decide +kernel
theorem dX1_checkTimes_8 : decode cX1_checkTimes 8 = .ok (.if_icmp .le 13, 3) := by decide +kernel
theorem dX1_checkTimes_11 : decode cX1_checkTimes 11 = .ok (.new 93, 3) := by decide +kernel
theorem dX1_checkTimes_14 : decode cX1_checkTimes 14 = .ok (.dup, 1) := by decide +kernel
theorem dX1_checkTimes_15 : decode cX1_checkTimes 15 = .ok (.ldc 110, 2) := by decide +kernel
theorem dX1_checkTimes_17 : decode cX1_checkTimes 17 = .ok (.invokespecial 97, 3) := by decide +kernel
theorem dX1_checkTimes_20 : decode cX1_checkTimes 20 = .ok (.athrow, 1) := by decide +kernel
theorem dX1_checkTimes_21 : decode cX1_checkTimes 21 = .ok (.return_, 1) := by decide +kernel
theorem dX1_checkQuestion_0 : decode cX1_checkQuestion 0 = .ok (.iload_n 0, 1) := by decide +kernel
theorem dX1_checkQuestion_1 : decode cX1_checkQuestion 1 = .ok (.ifCond .lt 8, 3) := by decide +kernel
theorem dX1_checkQuestion_4 : decode cX1_checkQuestion 4 = .ok (.iload_n 0, 1) := by decide +kernel
theorem dX1_checkQuestion_5 : decode cX1_checkQuestion 5 = .ok (.iconst 2, 1) := by decide +kernel
theorem dX1_checkQuestion_6 : decode cX1_checkQuestion 6 = .ok (.if_icmp .le 13, 3) := by decide +kernel
theorem dX1_checkQuestion_9 : decode cX1_checkQuestion 9 = .ok (.new 93, 3) := by decide +kernel
theorem dX1_checkQuestion_12 : decode cX1_checkQuestion 12 = .ok (.dup, 1) := by decide +kernel
theorem dX1_checkQuestion_13 : decode cX1_checkQuestion 13 = .ok (.ldc 112, 2) := by decide +kernel
theorem dX1_checkQuestion_15 : decode cX1_checkQuestion 15 = .ok (.invokespecial 97, 3) := by decide +kernel
theorem dX1_checkQuestion_18 : decode cX1_checkQuestion 18 = .ok (.athrow, 1) := by decide +kernel
theorem dX1_checkQuestion_19 : decode cX1_checkQuestion 19 = .ok (.return_, 1) := by decide +kernel
theorem dX1_checkPlace_0 : decode cX1_checkPlace 0 = .ok (.iload_n 0, 1) := by decide +kernel
theorem dX1_checkPlace_1 : decode cX1_checkPlace 1 = .ok (.ifCond .lt 10, 3) := by decide +kernel
theorem dX1_checkPlace_4 : decode cX1_checkPlace 4 = .ok (.iload_n 0, 1) := by decide +kernel
theorem dX1_checkPlace_5 : decode cX1_checkPlace 5 = .ok (.sipush 256, 3) := by decide +kernel
theorem dX1_checkPlace_8 : decode cX1_checkPlace 8 = .ok (.if_icmp .lt 13, 3) := by decide +kernel
theorem dX1_checkPlace_11 : decode cX1_checkPlace 11 = .ok (.new 114, 3) := by decide +kernel
theorem dX1_checkPlace_14 : decode cX1_checkPlace 14 = .ok (.dup, 1) := by decide +kernel
theorem dX1_checkPlace_15 : decode cX1_checkPlace 15 = .ok (.ldc 116, 2) := by decide +kernel
theorem dX1_checkPlace_17 : decode cX1_checkPlace 17 = .ok (.invokespecial 118, 3) := by decide +kernel
theorem dX1_checkPlace_20 : decode cX1_checkPlace 20 = .ok (.athrow, 1) := by decide +kernel
theorem dX1_checkPlace_21 : decode cX1_checkPlace 21 = .ok (.return_, 1) := by decide +kernel
theorem dX1_checkPart_0 : decode cX1_checkPart 0 = .ok (.iload_n 0, 1) := by decide +kernel
theorem dX1_checkPart_1 : decode cX1_checkPart 1 = .ok (.ifCond .lt 15, 3) := by decide +kernel
theorem dX1_checkPart_4 : decode cX1_checkPart 4 = .ok (.iload_n 1, 1) := by decide +kernel
theorem dX1_checkPart_5 : decode cX1_checkPart 5 = .ok (.iload_n 0, 1) := by decide +kernel
theorem dX1_checkPart_6 : decode cX1_checkPart 6 = .ok (.if_icmp .lt 10, 3) := by decide +kernel
theorem dX1_checkPart_9 : decode cX1_checkPart 9 = .ok (.iload_n 1, 1) := by decide +kernel
theorem dX1_checkPart_10 : decode cX1_checkPart 10 = .ok (.sipush 256, 3) := by decide +kernel
theorem dX1_checkPart_13 : decode cX1_checkPart 13 = .ok (.if_icmp .le 13, 3) := by decide +kernel
theorem dX1_checkPart_16 : decode cX1_checkPart 16 = .ok (.new 114, 3) := by decide +kernel
theorem dX1_checkPart_19 : decode cX1_checkPart 19 = .ok (.dup, 1) := by decide +kernel
theorem dX1_checkPart_20 : decode cX1_checkPart 20 = .ok (.ldc 119, 2) := by decide +kernel
theorem dX1_checkPart_22 : decode cX1_checkPart 22 = .ok (.invokespecial 118, 3) := by decide +kernel
theorem dX1_checkPart_25 : decode cX1_checkPart 25 = .ok (.athrow, 1) := by decide +kernel
theorem dX1_checkPart_26 : decode cX1_checkPart 26 = .ok (.return_, 1) := by decide +kernel
theorem dX2_init_0 : decode cX2_init 0 = .ok (.aload_n 0, 1) := by decide +kernel
theorem dX2_init_1 : decode cX2_init 1 = .ok (.invokespecial 1, 3) := by decide +kernel
theorem dX2_init_4 : decode cX2_init 4 = .ok (.aload_n 0, 1) := by decide +kernel
theorem dX2_init_5 : decode cX2_init 5 = .ok (.sipush 256, 3) := by decide +kernel
theorem dX2_init_8 : decode cX2_init 8 = .ok (.newarray .int, 2) := by decide +kernel
theorem dX2_init_10 : decode cX2_init 10 = .ok (.putfield 9, 3) := by decide +kernel
theorem dX2_init_13 : decode cX2_init 13 = .ok (.aload_n 0, 1) := by decide +kernel
theorem dX2_init_14 : decode cX2_init 14 = .ok (.sipush 256, 3) := by decide +kernel
theorem dX2_init_17 : decode cX2_init 17 = .ok (.newarray .long, 2) := by decide +kernel
theorem dX2_init_19 : decode cX2_init 19 = .ok (.putfield 13, 3) := by decide +kernel
theorem dX2_init_22 : decode cX2_init 22 = .ok (.return_, 1) := by decide +kernel
theorem dX2_thrown_0 : decode cX2_thrown 0 = .ok (.aload_n 0, 1) := by decide +kernel
theorem dX2_thrown_1 : decode cX2_thrown 1 = .ok (.getfield 17, 3) := by decide +kernel
theorem dX2_thrown_4 : decode cX2_thrown 4 = .ok (.ireturn, 1) := by decide +kernel
theorem dX2_in_0 : decode cX2_in 0 = .ok (.lload_n 0, 1) := by decide +kernel
theorem dX2_in_1 : decode cX2_in 1 = .ok (.lload_n 2, 1) := by decide +kernel
theorem dX2_in_2 : decode cX2_in 2 = .ok (.lcmp, 1) := by decide +kernel
theorem dX2_in_3 : decode cX2_in 3 = .ok (.ifCond .lt 14, 3) := by decide +kernel
theorem dX2_in_6 : decode cX2_in 6 = .ok (.lload_n 0, 1) := by decide +kernel
theorem dX2_in_7 : decode cX2_in 7 = .ok (.lload 4, 2) := by decide +kernel
theorem dX2_in_9 : decode cX2_in 9 = .ok (.lcmp, 1) := by decide +kernel
theorem dX2_in_10 : decode cX2_in 10 = .ok (.ifCond .gt 7, 3) := by decide +kernel
theorem dX2_in_13 : decode cX2_in 13 = .ok (.iconst 1, 1) := by decide +kernel
theorem dX2_in_14 : decode cX2_in 14 = .ok (.goto 4, 3) := by decide +kernel
theorem dX2_in_17 : decode cX2_in 17 = .ok (.iconst 0, 1) := by decide +kernel
theorem dX2_in_18 : decode cX2_in 18 = .ok (.ireturn, 1) := by decide +kernel
theorem dX2_fails_0 : decode cX2_fails 0 = .ok (.iload_n 1, 1) := by decide +kernel
theorem dX2_fails_1 : decode cX2_fails 1 = .ok (.ifCond .eq 15, 3) := by decide +kernel
theorem dX2_fails_4 : decode cX2_fails 4 = .ok (.aload_n 0, 1) := by decide +kernel
theorem dX2_fails_5 : decode cX2_fails 5 = .ok (.getfield 17, 3) := by decide +kernel
theorem dX2_fails_8 : decode cX2_fails 8 = .ok (.ifCond .ne 8, 3) := by decide +kernel
theorem dX2_fails_11 : decode cX2_fails 11 = .ok (.aload_n 0, 1) := by decide +kernel
theorem dX2_fails_12 : decode cX2_fails 12 = .ok (.iload_n 2, 1) := by decide +kernel
theorem dX2_fails_13 : decode cX2_fails 13 = .ok (.putfield 17, 3) := by decide +kernel
theorem dX2_fails_16 : decode cX2_fails 16 = .ok (.aload_n 0, 1) := by decide +kernel
theorem dX2_fails_17 : decode cX2_fails 17 = .ok (.getfield 17, 3) := by decide +kernel
theorem dX2_fails_20 : decode cX2_fails 20 = .ok (.ifCond .eq 7, 3) := by decide +kernel
theorem dX2_fails_23 : decode cX2_fails 23 = .ok (.iconst 1, 1) := by decide +kernel
theorem dX2_fails_24 : decode cX2_fails 24 = .ok (.goto 4, 3) := by decide +kernel
theorem dX2_fails_27 : decode cX2_fails 27 = .ok (.iconst 0, 1) := by decide +kernel
theorem dX2_fails_28 : decode cX2_fails 28 = .ok (.ireturn, 1) := by decide +kernel
set_option maxRecDepth 20000 in
theorem ggX2_isRule_X2_in : GoodIn wsX2_isRule wsX2_in := goodIn_r _ [7] (by decide +kernel) (by decide +kernel)
set_option maxRecDepth 20000 in
theorem gX2_isRule_X2_in : GoodIn wsX2_isRule (va_wsS RX2 23 yX2_in wsX2_in) := goodIn_app (goodIn_of _ (by decide +kernel)) ggX2_isRule_X2_in
theorem dX2_isRule_0 : decode cX2_isRule 0 = .ok (.iload_n 0, 1) := by decide +kernel
theorem dX2_isRule_1 : decode cX2_isRule 1 = .ok (.i2l, 1) := by decide +kernel
theorem dX2_isRule_2 : decode cX2_isRule 2 = .ok (.lconst 0, 1) := by decide +kernel
theorem dX2_isRule_3 : decode cX2_isRule 3 = .ok (.ldc2_w 21, 3) := by decide +kernel
theorem dX2_isRule_6 : decode cX2_isRule 6 = .ok (.invokestatic 23, 3) := by decide +kernel
theorem dX2_isRule_9 : decode cX2_isRule 9 = .ok (.ifCond .eq 20, 3) := by decide +kernel
theorem dX2_isRule_12 : decode cX2_isRule 12 = .ok (.lload_n 1, 1) := by decide +kernel
theorem dX2_isRule_13 : decode cX2_isRule 13 = .ok (.ldc2_w 27, 3) := by decide +kernel
theorem dX2_isRule_16 : decode cX2_isRule 16 = .ok (.ldc2_w 29, 3) := by decide +kernel
theorem dX2_isRule_19 : decode cX2_isRule 19 = .ok (.invokestatic 23, 3) := by decide +kernel
theorem dX2_isRule_22 : decode cX2_isRule 22 = .ok (.ifCond .eq 7, 3) := by decide +kernel
theorem dX2_isRule_25 : decode cX2_isRule 25 = .ok (.iconst 1, 1) := by decide +kernel
theorem dX2_isRule_26 : decode cX2_isRule 26 = .ok (.goto 4, 3) := by decide +kernel
theorem dX2_isRule_29 : decode cX2_isRule 29 = .ok (.iconst 0, 1) := by decide +kernel
theorem dX2_isRule_30 : decode cX2_isRule 30 = .ok (.ireturn, 1) := by decide +kernel
theorem dX2_isPart_0 : decode cX2_isPart 0 = .ok (.iconst 0, 1) := by decide +kernel
theorem dX2_isPart_1 : decode cX2_isPart 1 = .ok (.iload_n 0, 1) := by decide +kernel
theorem dX2_isPart_2 : decode cX2_isPart 2 = .ok (.if_icmp .gt 19, 3) := by decide +kernel
theorem dX2_isPart_5 : decode cX2_isPart 5 = .ok (.iload_n 0, 1) := by decide +kernel
theorem dX2_isPart_6 : decode cX2_isPart 6 = .ok (.iload_n 1, 1) := by decide +kernel
theorem dX2_isPart_7 : decode cX2_isPart 7 = .ok (.if_icmp .gt 14, 3) := by decide +kernel
theorem dX2_isPart_10 : decode cX2_isPart 10 = .ok (.iload_n 1, 1) := by decide +kernel
theorem dX2_isPart_11 : decode cX2_isPart 11 = .ok (.sipush 256, 3) := by decide +kernel
theorem dX2_isPart_14 : decode cX2_isPart 14 = .ok (.if_icmp .gt 7, 3) := by decide +kernel
theorem dX2_isPart_17 : decode cX2_isPart 17 = .ok (.iconst 1, 1) := by decide +kernel
theorem dX2_isPart_18 : decode cX2_isPart 18 = .ok (.goto 4, 3) := by decide +kernel
theorem dX2_isPart_21 : decode cX2_isPart 21 = .ok (.iconst 0, 1) := by decide +kernel
theorem dX2_isPart_22 : decode cX2_isPart 22 = .ok (.ireturn, 1) := by decide +kernel
set_option maxRecDepth 20000 in
theorem ggX2_isNumber_X2_in : GoodIn wsX2_isNumber wsX2_in := goodIn_r _ [6] (by decide +kernel) (by decide +kernel)
set_option maxRecDepth 20000 in
theorem gX2_isNumber_X2_in : GoodIn wsX2_isNumber (va_wsS RX2 23 yX2_in wsX2_in) := goodIn_app (goodIn_of _ (by decide +kernel)) ggX2_isNumber_X2_in
theorem dX2_isNumber_0 : decode cX2_isNumber 0 = .ok (.lload_n 0, 1) := by decide +kernel
theorem dX2_isNumber_1 : decode cX2_isNumber 1 = .ok (.ldc2_w 31, 3) := by decide +kernel
theorem dX2_isNumber_4 : decode cX2_isNumber 4 = .ok (.ldc2_w 33, 3) := by decide +kernel
theorem dX2_isNumber_7 : decode cX2_isNumber 7 = .ok (.invokestatic 23, 3) := by decide +kernel
theorem dX2_isNumber_10 : decode cX2_isNumber 10 = .ok (.ireturn, 1) := by decide +kernel
set_option maxRecDepth 20000 in
theorem ggX2_set_X2_isRule : GoodIn wsX2_set wsX2_isRule := goodIn_r _ [8, 9, 10, 11, 12, 13, 7, 14] (by decide +kernel) (by decide +kernel)
set_option maxRecDepth 20000 in
theorem gX2_set_X2_isRule : GoodIn wsX2_set (va_wsS RX2 35 yX2_isRule wsX2_isRule) := goodIn_app (goodIn_of _ (by decide +kernel)) ggX2_set_X2_isRule
set_option maxRecDepth 20000 in
theorem ggX2_set_X2_fails : GoodIn wsX2_set wsX2_fails := goodIn_r _ [18, 1, 19, 20, 21] (by decide +kernel) (by decide +kernel)
set_option maxRecDepth 20000 in
theorem gX2_set_X2_fails : GoodIn wsX2_set (wsV RX2 39 RX2 yX2_fails wsX2_fails) := goodIn_app (goodIn_of _ (by decide +kernel)) ggX2_set_X2_fails
set_option maxRecDepth 20000 in
theorem ggX2_set_X2_in : GoodIn wsX2_set wsX2_in := goodIn_r _ [14] (by decide +kernel) (by decide +kernel)
set_option maxRecDepth 20000 in
theorem gX2_set_X2_in : GoodIn wsX2_set (va_wsS RX2 23 yX2_in wsX2_in) := goodIn_app (goodIn_of _ (by decide +kernel)) ggX2_set_X2_in
theorem dX2_set_0 : decode cX2_set 0 = .ok (.aload_n 0, 1) := by decide +kernel
theorem dX2_set_1 : decode cX2_set 1 = .ok (.iconst 0, 1) := by decide +kernel
theorem dX2_set_2 : decode cX2_set 2 = .ok (.putfield 17, 3) := by decide +kernel
theorem dX2_set_5 : decode cX2_set 5 = .ok (.aload_n 0, 1) := by decide +kernel
theorem dX2_set_6 : decode cX2_set 6 = .ok (.iload_n 2, 1) := by decide +kernel
theorem dX2_set_7 : decode cX2_set 7 = .ok (.lload_n 3, 1) := by decide +kernel
theorem dX2_set_8 : decode cX2_set 8 = .ok (.invokestatic 35, 3) := by decide +kernel
theorem dX2_set_11 : decode cX2_set 11 = .ok (.ifCond .ne 7, 3) := by decide +kernel
theorem dX2_set_14 : decode cX2_set 14 = .ok (.iconst 1, 1) := by decide +kernel
theorem dX2_set_15 : decode cX2_set 15 = .ok (.goto 4, 3) := by decide +kernel
theorem dX2_set_18 : decode cX2_set 18 = .ok (.iconst 0, 1) := by decide +kernel
theorem dX2_set_19 : decode cX2_set 19 = .ok (.iconst 1, 1) := by decide +kernel
theorem dX2_set_20 : decode cX2_set 20 = .ok (.invokevirtual 39, 3) := by decide +kernel
theorem dX2_set_23 : decode cX2_set 23 = .ok (.ifCond .ne 28, 3) := by decide +kernel
theorem dX2_set_26 : decode cX2_set 26 = .ok (.aload_n 0, 1) := by decide +kernel
theorem dX2_set_27 : decode cX2_set 27 = .ok (.iload_n 1, 1) := by decide +kernel
theorem dX2_set_28 : decode cX2_set 28 = .ok (.i2l, 1) := by decide +kernel
theorem dX2_set_29 : decode cX2_set 29 = .ok (.lconst 0, 1) := by decide +kernel
theorem dX2_set_30 : decode cX2_set 30 = .ok (.ldc2_w 43, 3) := by decide +kernel
theorem dX2_set_33 : decode cX2_set 33 = .ok (.invokestatic 23, 3) := by decide +kernel
theorem dX2_set_36 : decode cX2_set 36 = .ok (.ifCond .ne 7, 3) := by decide +kernel
theorem dX2_set_39 : decode cX2_set 39 = .ok (.iconst 1, 1) := by decide +kernel
theorem dX2_set_40 : decode cX2_set 40 = .ok (.goto 4, 3) := by decide +kernel
theorem dX2_set_43 : decode cX2_set 43 = .ok (.iconst 0, 1) := by decide +kernel
theorem dX2_set_44 : decode cX2_set 44 = .ok (.iconst 2, 1) := by decide +kernel
theorem dX2_set_45 : decode cX2_set 45 = .ok (.invokevirtual 39, 3) := by decide +kernel
theorem dX2_set_48 : decode cX2_set 48 = .ok (.ifCond .eq 4, 3) := by decide +kernel
theorem dX2_set_51 : decode cX2_set 51 = .ok (.return_, 1) := by decide +kernel
theorem dX2_set_52 : decode cX2_set 52 = .ok (.aload_n 0, 1) := by decide +kernel
theorem dX2_set_53 : decode cX2_set 53 = .ok (.getfield 9, 3) := by decide +kernel
theorem dX2_set_56 : decode cX2_set 56 = .ok (.iload_n 1, 1) := by decide +kernel
theorem dX2_set_57 : decode cX2_set 57 = .ok (.iload_n 2, 1) := by decide +kernel
theorem dX2_set_58 : decode cX2_set 58 = .ok (.iastore, 1) := by decide +kernel
theorem dX2_set_59 : decode cX2_set 59 = .ok (.aload_n 0, 1) := by decide +kernel
theorem dX2_set_60 : decode cX2_set 60 = .ok (.getfield 13, 3) := by decide +kernel
theorem dX2_set_63 : decode cX2_set 63 = .ok (.iload_n 1, 1) := by decide +kernel
theorem dX2_set_64 : decode cX2_set 64 = .ok (.lload_n 3, 1) := by decide +kernel
theorem dX2_set_65 : decode cX2_set 65 = .ok (.lastore, 1) := by decide +kernel
theorem dX2_set_66 : decode cX2_set 66 = .ok (.return_, 1) := by decide +kernel
set_option maxRecDepth 20000 in
theorem ggX2_fill_X2_isRule : GoodIn wsX2_fill wsX2_isRule := goodIn_r _ [7, 8, 9, 10, 11, 12, 6, 13] (by decide +kernel) (by decide +kernel)
set_option maxRecDepth 20000 in
theorem gX2_fill_X2_isRule : GoodIn wsX2_fill (va_wsS RX2 35 yX2_isRule wsX2_isRule) := goodIn_app (goodIn_of _ (by decide +kernel)) ggX2_fill_X2_isRule
set_option maxRecDepth 20000 in
theorem ggX2_fill_X2_fails : GoodIn wsX2_fill wsX2_fails := goodIn_r _ [17, 1, 21, 22, 23] (by decide +kernel) (by decide +kernel)
set_option maxRecDepth 20000 in
theorem gX2_fill_X2_fails : GoodIn wsX2_fill (wsV RX2 39 RX2 yX2_fails wsX2_fails) := goodIn_app (goodIn_of _ (by decide +kernel)) ggX2_fill_X2_fails
set_option maxRecDepth 20000 in
theorem ggX2_fill_X2_isPart : GoodIn wsX2_fill wsX2_isPart := goodIn_r _ [20] (by decide +kernel) (by decide +kernel)
set_option maxRecDepth 20000 in
theorem gX2_fill_X2_isPart : GoodIn wsX2_fill (va_wsS RX2 45 yX2_isPart wsX2_isPart) := goodIn_app (goodIn_of _ (by decide +kernel)) ggX2_fill_X2_isPart
theorem dX2_fill_0 : decode cX2_fill 0 = .ok (.aload_n 0, 1) := by decide +kernel
theorem dX2_fill_1 : decode cX2_fill 1 = .ok (.iconst 0, 1) := by decide +kernel
theorem dX2_fill_2 : decode cX2_fill 2 = .ok (.putfield 17, 3) := by decide +kernel
theorem dX2_fill_5 : decode cX2_fill 5 = .ok (.aload_n 0, 1) := by decide +kernel
theorem dX2_fill_6 : decode cX2_fill 6 = .ok (.iload_n 3, 1) := by decide +kernel
theorem dX2_fill_7 : decode cX2_fill 7 = .ok (.lload 4, 2) := by decide +kernel
theorem dX2_fill_9 : decode cX2_fill 9 = .ok (.invokestatic 35, 3) := by decide +kernel
theorem dX2_fill_12 : decode cX2_fill 12 = .ok (.ifCond .ne 7, 3) := by decide +kernel
theorem dX2_fill_15 : decode cX2_fill 15 = .ok (.iconst 1, 1) := by decide +kernel
theorem dX2_fill_16 : decode cX2_fill 16 = .ok (.goto 4, 3) := by decide +kernel
theorem dX2_fill_19 : decode cX2_fill 19 = .ok (.iconst 0, 1) := by decide +kernel
theorem dX2_fill_20 : decode cX2_fill 20 = .ok (.iconst 1, 1) := by decide +kernel
theorem dX2_fill_21 : decode cX2_fill 21 = .ok (.invokevirtual 39, 3) := by decide +kernel
theorem dX2_fill_24 : decode cX2_fill 24 = .ok (.ifCond .ne 24, 3) := by decide +kernel
theorem dX2_fill_27 : decode cX2_fill 27 = .ok (.aload_n 0, 1) := by decide +kernel
theorem dX2_fill_28 : decode cX2_fill 28 = .ok (.iload_n 1, 1) := by decide +kernel
theorem dX2_fill_29 : decode cX2_fill 29 = .ok (.iload_n 2, 1) := by decide +kernel
theorem dX2_fill_30 : decode cX2_fill 30 = .ok (.invokestatic 45, 3) := by decide +kernel
theorem dX2_fill_33 : decode cX2_fill 33 = .ok (.ifCond .ne 7, 3) := by decide +kernel
theorem dX2_fill_36 : decode cX2_fill 36 = .ok (.iconst 1, 1) := by decide +kernel
theorem dX2_fill_37 : decode cX2_fill 37 = .ok (.goto 4, 3) := by decide +kernel
theorem dX2_fill_40 : decode cX2_fill 40 = .ok (.iconst 0, 1) := by decide +kernel
theorem dX2_fill_41 : decode cX2_fill 41 = .ok (.iconst 2, 1) := by decide +kernel
theorem dX2_fill_42 : decode cX2_fill 42 = .ok (.invokevirtual 39, 3) := by decide +kernel
theorem dX2_fill_45 : decode cX2_fill 45 = .ok (.ifCond .eq 4, 3) := by decide +kernel
theorem dX2_fill_48 : decode cX2_fill 48 = .ok (.return_, 1) := by decide +kernel
theorem dX2_fill_49 : decode cX2_fill 49 = .ok (.iload_n 1, 1) := by decide +kernel
theorem dX2_fill_50 : decode cX2_fill 50 = .ok (.istore 6, 2) := by decide +kernel
theorem dX2_fill_52 : decode cX2_fill 52 = .ok (.iload 6, 2) := by decide +kernel
theorem dX2_fill_54 : decode cX2_fill 54 = .ok (.iload_n 2, 1) := by decide +kernel
theorem dX2_fill_55 : decode cX2_fill 55 = .ok (.if_icmp .ge 26, 3) := by decide +kernel
theorem dX2_fill_58 : decode cX2_fill 58 = .ok (.aload_n 0, 1) := by decide +kernel
theorem dX2_fill_59 : decode cX2_fill 59 = .ok (.getfield 9, 3) := by decide +kernel
theorem dX2_fill_62 : decode cX2_fill 62 = .ok (.iload 6, 2) := by decide +kernel
theorem dX2_fill_64 : decode cX2_fill 64 = .ok (.iload_n 3, 1) := by decide +kernel
theorem dX2_fill_65 : decode cX2_fill 65 = .ok (.iastore, 1) := by decide +kernel
theorem dX2_fill_66 : decode cX2_fill 66 = .ok (.aload_n 0, 1) := by decide +kernel
theorem dX2_fill_67 : decode cX2_fill 67 = .ok (.getfield 13, 3) := by decide +kernel
theorem dX2_fill_70 : decode cX2_fill 70 = .ok (.iload 6, 2) := by decide +kernel
theorem dX2_fill_72 : decode cX2_fill 72 = .ok (.lload 4, 2) := by decide +kernel
theorem dX2_fill_74 : decode cX2_fill 74 = .ok (.lastore, 1) := by decide +kernel
theorem dX2_fill_75 : decode cX2_fill 75 = .ok (.iinc 6 1, 3) := by decide +kernel
theorem dX2_fill_78 : decode cX2_fill 78 = .ok (.goto (-26), 3) := by decide +kernel
theorem dX2_fill_81 : decode cX2_fill 81 = .ok (.return_, 1) := by decide +kernel
set_option maxRecDepth 20000 in
theorem ggX2_swap_X2_in : GoodIn wsX2_swap wsX2_in := goodIn_r _ [8] (by decide +kernel) (by decide +kernel)
set_option maxRecDepth 20000 in
theorem gX2_swap_X2_in : GoodIn wsX2_swap (va_wsS RX2 23 yX2_in wsX2_in) := goodIn_app (goodIn_of _ (by decide +kernel)) ggX2_swap_X2_in
set_option maxRecDepth 20000 in
theorem ggX2_swap_X2_fails : GoodIn wsX2_swap wsX2_fails := goodIn_r _ [12, 1, 13, 14, 15] (by decide +kernel) (by decide +kernel)
set_option maxRecDepth 20000 in
theorem gX2_swap_X2_fails : GoodIn wsX2_swap (wsV RX2 39 RX2 yX2_fails wsX2_fails) := goodIn_app (goodIn_of _ (by decide +kernel)) ggX2_swap_X2_fails
theorem dX2_swap_0 : decode cX2_swap 0 = .ok (.aload_n 0, 1) := by decide +kernel
theorem dX2_swap_1 : decode cX2_swap 1 = .ok (.iconst 0, 1) := by decide +kernel
theorem dX2_swap_2 : decode cX2_swap 2 = .ok (.putfield 17, 3) := by decide +kernel
theorem dX2_swap_5 : decode cX2_swap 5 = .ok (.aload_n 0, 1) := by decide +kernel
theorem dX2_swap_6 : decode cX2_swap 6 = .ok (.iload_n 1, 1) := by decide +kernel
theorem dX2_swap_7 : decode cX2_swap 7 = .ok (.i2l, 1) := by decide +kernel
theorem dX2_swap_8 : decode cX2_swap 8 = .ok (.lconst 0, 1) := by decide +kernel
theorem dX2_swap_9 : decode cX2_swap 9 = .ok (.ldc2_w 43, 3) := by decide +kernel
theorem dX2_swap_12 : decode cX2_swap 12 = .ok (.invokestatic 23, 3) := by decide +kernel
theorem dX2_swap_15 : decode cX2_swap 15 = .ok (.ifCond .eq 15, 3) := by decide +kernel
theorem dX2_swap_18 : decode cX2_swap 18 = .ok (.iload_n 2, 1) := by decide +kernel
theorem dX2_swap_19 : decode cX2_swap 19 = .ok (.i2l, 1) := by decide +kernel
theorem dX2_swap_20 : decode cX2_swap 20 = .ok (.lconst 0, 1) := by decide +kernel
theorem dX2_swap_21 : decode cX2_swap 21 = .ok (.ldc2_w 43, 3) := by decide +kernel
theorem dX2_swap_24 : decode cX2_swap 24 = .ok (.invokestatic 23, 3) := by decide +kernel
theorem dX2_swap_27 : decode cX2_swap 27 = .ok (.ifCond .ne 7, 3) := by decide +kernel
theorem dX2_swap_30 : decode cX2_swap 30 = .ok (.iconst 1, 1) := by decide +kernel
theorem dX2_swap_31 : decode cX2_swap 31 = .ok (.goto 4, 3) := by decide +kernel
theorem dX2_swap_34 : decode cX2_swap 34 = .ok (.iconst 0, 1) := by decide +kernel
theorem dX2_swap_35 : decode cX2_swap 35 = .ok (.iconst 1, 1) := by decide +kernel
theorem dX2_swap_36 : decode cX2_swap 36 = .ok (.invokevirtual 39, 3) := by decide +kernel
theorem dX2_swap_39 : decode cX2_swap 39 = .ok (.ifCond .eq 4, 3) := by decide +kernel
theorem dX2_swap_42 : decode cX2_swap 42 = .ok (.return_, 1) := by decide +kernel
theorem dX2_swap_43 : decode cX2_swap 43 = .ok (.aload_n 0, 1) := by decide +kernel
theorem dX2_swap_44 : decode cX2_swap 44 = .ok (.getfield 9, 3) := by decide +kernel
theorem dX2_swap_47 : decode cX2_swap 47 = .ok (.iload_n 1, 1) := by decide +kernel
theorem dX2_swap_48 : decode cX2_swap 48 = .ok (.iaload, 1) := by decide +kernel
theorem dX2_swap_49 : decode cX2_swap 49 = .ok (.istore_n 3, 1) := by decide +kernel
theorem dX2_swap_50 : decode cX2_swap 50 = .ok (.aload_n 0, 1) := by decide +kernel
theorem dX2_swap_51 : decode cX2_swap 51 = .ok (.getfield 13, 3) := by decide +kernel
theorem dX2_swap_54 : decode cX2_swap 54 = .ok (.iload_n 1, 1) := by decide +kernel
theorem dX2_swap_55 : decode cX2_swap 55 = .ok (.laload, 1) := by decide +kernel
theorem dX2_swap_56 : decode cX2_swap 56 = .ok (.lstore 4, 2) := by decide +kernel
theorem dX2_swap_58 : decode cX2_swap 58 = .ok (.aload_n 0, 1) := by decide +kernel
theorem dX2_swap_59 : decode cX2_swap 59 = .ok (.getfield 9, 3) := by decide +kernel
theorem dX2_swap_62 : decode cX2_swap 62 = .ok (.iload_n 1, 1) := by decide +kernel
theorem dX2_swap_63 : decode cX2_swap 63 = .ok (.aload_n 0, 1) := by decide +kernel
theorem dX2_swap_64 : decode cX2_swap 64 = .ok (.getfield 9, 3) := by decide +kernel
theorem dX2_swap_67 : decode cX2_swap 67 = .ok (.iload_n 2, 1) := by decide +kernel
theorem dX2_swap_68 : decode cX2_swap 68 = .ok (.iaload, 1) := by decide +kernel
theorem dX2_swap_69 : decode cX2_swap 69 = .ok (.iastore, 1) := by decide +kernel
theorem dX2_swap_70 : decode cX2_swap 70 = .ok (.aload_n 0, 1) := by decide +kernel
theorem dX2_swap_71 : decode cX2_swap 71 = .ok (.getfield 13, 3) := by decide +kernel
theorem dX2_swap_74 : decode cX2_swap 74 = .ok (.iload_n 1, 1) := by decide +kernel
theorem dX2_swap_75 : decode cX2_swap 75 = .ok (.aload_n 0, 1) := by decide +kernel
theorem dX2_swap_76 : decode cX2_swap 76 = .ok (.getfield 13, 3) := by decide +kernel
theorem dX2_swap_79 : decode cX2_swap 79 = .ok (.iload_n 2, 1) := by decide +kernel
theorem dX2_swap_80 : decode cX2_swap 80 = .ok (.laload, 1) := by decide +kernel
theorem dX2_swap_81 : decode cX2_swap 81 = .ok (.lastore, 1) := by decide +kernel
theorem dX2_swap_82 : decode cX2_swap 82 = .ok (.aload_n 0, 1) := by decide +kernel
theorem dX2_swap_83 : decode cX2_swap 83 = .ok (.getfield 9, 3) := by decide +kernel
theorem dX2_swap_86 : decode cX2_swap 86 = .ok (.iload_n 2, 1) := by decide +kernel
theorem dX2_swap_87 : decode cX2_swap 87 = .ok (.iload_n 3, 1) := by decide +kernel
theorem dX2_swap_88 : decode cX2_swap 88 = .ok (.iastore, 1) := by decide +kernel
theorem dX2_swap_89 : decode cX2_swap 89 = .ok (.aload_n 0, 1) := by decide +kernel
theorem dX2_swap_90 : decode cX2_swap 90 = .ok (.getfield 13, 3) := by decide +kernel
theorem dX2_swap_93 : decode cX2_swap 93 = .ok (.iload_n 2, 1) := by decide +kernel
theorem dX2_swap_94 : decode cX2_swap 94 = .ok (.lload 4, 2) := by decide +kernel
theorem dX2_swap_96 : decode cX2_swap 96 = .ok (.lastore, 1) := by decide +kernel
theorem dX2_swap_97 : decode cX2_swap 97 = .ok (.return_, 1) := by decide +kernel
theorem dX2_made_0 : decode cX2_made 0 = .ok (.lload_n 3, 1) := by decide +kernel
theorem dX2_made_1 : decode cX2_made 1 = .ok (.lstore 5, 2) := by decide +kernel
theorem dX2_made_3 : decode cX2_made 3 = .ok (.iload_n 1, 1) := by decide +kernel
theorem dX2_made_4 : decode cX2_made 4 = .ok (.istore 7, 2) := by decide +kernel
theorem dX2_made_6 : decode cX2_made 6 = .ok (.iload 7, 2) := by decide +kernel
theorem dX2_made_8 : decode cX2_made 8 = .ok (.iload_n 2, 1) := by decide +kernel
theorem dX2_made_9 : decode cX2_made 9 = .ok (.if_icmp .ge 122, 3) := by decide +kernel
theorem dX2_made_12 : decode cX2_made 12 = .ok (.aload_n 0, 1) := by decide +kernel
theorem dX2_made_13 : decode cX2_made 13 = .ok (.getfield 9, 3) := by decide +kernel
theorem dX2_made_16 : decode cX2_made 16 = .ok (.iload 7, 2) := by decide +kernel
theorem dX2_made_18 : decode cX2_made 18 = .ok (.iaload, 1) := by decide +kernel
theorem dX2_made_19 : decode cX2_made 19 = .ok (.tableswitch 106 1 4 #[29, 44, 56, 81], 29) := by decide +kernel
theorem dX2_made_48 : decode cX2_made 48 = .ok (.lload 5, 2) := by decide +kernel
theorem dX2_made_50 : decode cX2_made 50 = .ok (.aload_n 0, 1) := by decide +kernel
theorem dX2_made_51 : decode cX2_made 51 = .ok (.getfield 13, 3) := by decide +kernel
theorem dX2_made_54 : decode cX2_made 54 = .ok (.iload 7, 2) := by decide +kernel
theorem dX2_made_56 : decode cX2_made 56 = .ok (.laload, 1) := by decide +kernel
theorem dX2_made_57 : decode cX2_made 57 = .ok (.ladd, 1) := by decide +kernel
theorem dX2_made_58 : decode cX2_made 58 = .ok (.lstore 5, 2) := by decide +kernel
theorem dX2_made_60 : decode cX2_made 60 = .ok (.goto 65, 3) := by decide +kernel
theorem dX2_made_63 : decode cX2_made 63 = .ok (.aload_n 0, 1) := by decide +kernel
theorem dX2_made_64 : decode cX2_made 64 = .ok (.getfield 13, 3) := by decide +kernel
theorem dX2_made_67 : decode cX2_made 67 = .ok (.iload 7, 2) := by decide +kernel
theorem dX2_made_69 : decode cX2_made 69 = .ok (.laload, 1) := by decide +kernel
theorem dX2_made_70 : decode cX2_made 70 = .ok (.lstore 5, 2) := by decide +kernel
theorem dX2_made_72 : decode cX2_made 72 = .ok (.goto 53, 3) := by decide +kernel
theorem dX2_made_75 : decode cX2_made 75 = .ok (.aload_n 0, 1) := by decide +kernel
theorem dX2_made_76 : decode cX2_made 76 = .ok (.getfield 13, 3) := by decide +kernel
theorem dX2_made_79 : decode cX2_made 79 = .ok (.iload 7, 2) := by decide +kernel
theorem dX2_made_81 : decode cX2_made 81 = .ok (.laload, 1) := by decide +kernel
theorem dX2_made_82 : decode cX2_made 82 = .ok (.lload 5, 2) := by decide +kernel
theorem dX2_made_84 : decode cX2_made 84 = .ok (.lcmp, 1) := by decide +kernel
theorem dX2_made_85 : decode cX2_made 85 = .ok (.ifCond .le 40, 3) := by decide +kernel
theorem dX2_made_88 : decode cX2_made 88 = .ok (.aload_n 0, 1) := by decide +kernel
theorem dX2_made_89 : decode cX2_made 89 = .ok (.getfield 13, 3) := by decide +kernel
theorem dX2_made_92 : decode cX2_made 92 = .ok (.iload 7, 2) := by decide +kernel
theorem dX2_made_94 : decode cX2_made 94 = .ok (.laload, 1) := by decide +kernel
theorem dX2_made_95 : decode cX2_made 95 = .ok (.lstore 5, 2) := by decide +kernel
theorem dX2_made_97 : decode cX2_made 97 = .ok (.goto 28, 3) := by decide +kernel
theorem dX2_made_100 : decode cX2_made 100 = .ok (.aload_n 0, 1) := by decide +kernel
theorem dX2_made_101 : decode cX2_made 101 = .ok (.getfield 13, 3) := by decide +kernel
theorem dX2_made_104 : decode cX2_made 104 = .ok (.iload 7, 2) := by decide +kernel
theorem dX2_made_106 : decode cX2_made 106 = .ok (.laload, 1) := by decide +kernel
theorem dX2_made_107 : decode cX2_made 107 = .ok (.lload 5, 2) := by decide +kernel
theorem dX2_made_109 : decode cX2_made 109 = .ok (.lcmp, 1) := by decide +kernel
theorem dX2_made_110 : decode cX2_made 110 = .ok (.ifCond .ge 15, 3) := by decide +kernel
theorem dX2_made_113 : decode cX2_made 113 = .ok (.aload_n 0, 1) := by decide +kernel
theorem dX2_made_114 : decode cX2_made 114 = .ok (.getfield 13, 3) := by decide +kernel
theorem dX2_made_117 : decode cX2_made 117 = .ok (.iload 7, 2) := by decide +kernel
theorem dX2_made_119 : decode cX2_made 119 = .ok (.laload, 1) := by decide +kernel
theorem dX2_made_120 : decode cX2_made 120 = .ok (.lstore 5, 2) := by decide +kernel
theorem dX2_made_122 : decode cX2_made 122 = .ok (.goto 3, 3) := by decide +kernel
theorem dX2_made_125 : decode cX2_made 125 = .ok (.iinc 7 1, 3) := by decide +kernel
theorem dX2_made_128 : decode cX2_made 128 = .ok (.goto (-122), 3) := by decide +kernel
theorem dX2_made_131 : decode cX2_made 131 = .ok (.lload 5, 2) := by decide +kernel
theorem dX2_made_133 : decode cX2_made 133 = .ok (.lreturn, 1) := by decide +kernel
set_option maxRecDepth 20000 in
theorem ggX2_fold_X2_isNumber : GoodIn wsX2_fold wsX2_isNumber := goodIn_r _ [5, 6, 7, 8, 9, 4, 10] (by decide +kernel) (by decide +kernel)
set_option maxRecDepth 20000 in
theorem gX2_fold_X2_isNumber : GoodIn wsX2_fold (va_wsS RX2 49 yX2_isNumber wsX2_isNumber) := goodIn_app (goodIn_of _ (by decide +kernel)) ggX2_fold_X2_isNumber
set_option maxRecDepth 20000 in
theorem ggX2_fold_X2_fails : GoodIn wsX2_fold wsX2_fails := goodIn_r _ [14, 1, 24, 25, 26] (by decide +kernel) (by decide +kernel)
set_option maxRecDepth 20000 in
theorem gX2_fold_X2_fails : GoodIn wsX2_fold (wsV RX2 39 RX2 yX2_fails wsX2_fails) := goodIn_app (goodIn_of _ (by decide +kernel)) ggX2_fold_X2_fails
set_option maxRecDepth 20000 in
theorem ggX2_fold_X2_isPart : GoodIn wsX2_fold wsX2_isPart := goodIn_r _ [17] (by decide +kernel) (by decide +kernel)
set_option maxRecDepth 20000 in
theorem gX2_fold_X2_isPart : GoodIn wsX2_fold (va_wsS RX2 45 yX2_isPart wsX2_isPart) := goodIn_app (goodIn_of _ (by decide +kernel)) ggX2_fold_X2_isPart
set_option maxRecDepth 20000 in
theorem ggX2_fold_X2_made : GoodIn wsX2_fold wsX2_made := goodIn_r _ [21, 22, 23, 24, 25, 26] (by decide +kernel) (by decide +kernel)
set_option maxRecDepth 20000 in
theorem gX2_fold_X2_made : GoodIn wsX2_fold (wsV RX2 53 RX2 yX2_made wsX2_made) := goodIn_app (goodIn_of _ (by decide +kernel)) ggX2_fold_X2_made
theorem dX2_fold_0 : decode cX2_fold 0 = .ok (.aload_n 0, 1) := by decide +kernel
theorem dX2_fold_1 : decode cX2_fold 1 = .ok (.iconst 0, 1) := by decide +kernel
theorem dX2_fold_2 : decode cX2_fold 2 = .ok (.putfield 17, 3) := by decide +kernel
theorem dX2_fold_5 : decode cX2_fold 5 = .ok (.aload_n 0, 1) := by decide +kernel
theorem dX2_fold_6 : decode cX2_fold 6 = .ok (.lload_n 3, 1) := by decide +kernel
theorem dX2_fold_7 : decode cX2_fold 7 = .ok (.invokestatic 49, 3) := by decide +kernel
theorem dX2_fold_10 : decode cX2_fold 10 = .ok (.ifCond .ne 7, 3) := by decide +kernel
theorem dX2_fold_13 : decode cX2_fold 13 = .ok (.iconst 1, 1) := by decide +kernel
theorem dX2_fold_14 : decode cX2_fold 14 = .ok (.goto 4, 3) := by decide +kernel
theorem dX2_fold_17 : decode cX2_fold 17 = .ok (.iconst 0, 1) := by decide +kernel
theorem dX2_fold_18 : decode cX2_fold 18 = .ok (.iconst 1, 1) := by decide +kernel
theorem dX2_fold_19 : decode cX2_fold 19 = .ok (.invokevirtual 39, 3) := by decide +kernel
theorem dX2_fold_22 : decode cX2_fold 22 = .ok (.ifCond .ne 24, 3) := by decide +kernel
theorem dX2_fold_25 : decode cX2_fold 25 = .ok (.aload_n 0, 1) := by decide +kernel
theorem dX2_fold_26 : decode cX2_fold 26 = .ok (.iload_n 1, 1) := by decide +kernel
theorem dX2_fold_27 : decode cX2_fold 27 = .ok (.iload_n 2, 1) := by decide +kernel
theorem dX2_fold_28 : decode cX2_fold 28 = .ok (.invokestatic 45, 3) := by decide +kernel
theorem dX2_fold_31 : decode cX2_fold 31 = .ok (.ifCond .ne 7, 3) := by decide +kernel
theorem dX2_fold_34 : decode cX2_fold 34 = .ok (.iconst 1, 1) := by decide +kernel
theorem dX2_fold_35 : decode cX2_fold 35 = .ok (.goto 4, 3) := by decide +kernel
theorem dX2_fold_38 : decode cX2_fold 38 = .ok (.iconst 0, 1) := by decide +kernel
theorem dX2_fold_39 : decode cX2_fold 39 = .ok (.iconst 2, 1) := by decide +kernel
theorem dX2_fold_40 : decode cX2_fold 40 = .ok (.invokevirtual 39, 3) := by decide +kernel
theorem dX2_fold_43 : decode cX2_fold 43 = .ok (.ifCond .eq 7, 3) := by decide +kernel
theorem dX2_fold_46 : decode cX2_fold 46 = .ok (.lconst 0, 1) := by decide +kernel
theorem dX2_fold_47 : decode cX2_fold 47 = .ok (.goto 10, 3) := by decide +kernel
theorem dX2_fold_50 : decode cX2_fold 50 = .ok (.aload_n 0, 1) := by decide +kernel
theorem dX2_fold_51 : decode cX2_fold 51 = .ok (.iload_n 1, 1) := by decide +kernel
theorem dX2_fold_52 : decode cX2_fold 52 = .ok (.iload_n 2, 1) := by decide +kernel
theorem dX2_fold_53 : decode cX2_fold 53 = .ok (.lload_n 3, 1) := by decide +kernel
theorem dX2_fold_54 : decode cX2_fold 54 = .ok (.invokevirtual 53, 3) := by decide +kernel
theorem dX2_fold_57 : decode cX2_fold 57 = .ok (.lreturn, 1) := by decide +kernel
set_option maxRecDepth 20000 in
theorem ggX2_again_X2_isNumber : GoodIn wsX2_again wsX2_isNumber := goodIn_r _ [6, 7, 8, 9, 10, 5, 11] (by decide +kernel) (by decide +kernel)
set_option maxRecDepth 20000 in
theorem gX2_again_X2_isNumber : GoodIn wsX2_again (va_wsS RX2 49 yX2_isNumber wsX2_isNumber) := goodIn_app (goodIn_of _ (by decide +kernel)) ggX2_again_X2_isNumber
set_option maxRecDepth 20000 in
theorem ggX2_again_X2_in : GoodIn wsX2_again wsX2_in := goodIn_r _ [11] (by decide +kernel) (by decide +kernel)
set_option maxRecDepth 20000 in
theorem gX2_again_X2_in : GoodIn wsX2_again (va_wsS RX2 23 yX2_in wsX2_in) := goodIn_app (goodIn_of _ (by decide +kernel)) ggX2_again_X2_in
set_option maxRecDepth 20000 in
theorem ggX2_again_X2_fails : GoodIn wsX2_again wsX2_fails := goodIn_r _ [15, 1, 25, 26, 27] (by decide +kernel) (by decide +kernel)
set_option maxRecDepth 20000 in
theorem gX2_again_X2_fails : GoodIn wsX2_again (wsV RX2 39 RX2 yX2_fails wsX2_fails) := goodIn_app (goodIn_of _ (by decide +kernel)) ggX2_again_X2_fails
set_option maxRecDepth 20000 in
theorem ggX2_again_X2_isPart : GoodIn wsX2_again wsX2_isPart := goodIn_r _ [18] (by decide +kernel) (by decide +kernel)
set_option maxRecDepth 20000 in
theorem gX2_again_X2_isPart : GoodIn wsX2_again (va_wsS RX2 45 yX2_isPart wsX2_isPart) := goodIn_app (goodIn_of _ (by decide +kernel)) ggX2_again_X2_isPart
set_option maxRecDepth 20000 in
theorem ggX2_again_X2_made : GoodIn wsX2_again wsX2_made := goodIn_r _ [22, 23, 24, 25, 26, 27] (by decide +kernel) (by decide +kernel)
set_option maxRecDepth 20000 in
theorem gX2_again_X2_made : GoodIn wsX2_again (wsV RX2 53 RX2 yX2_made wsX2_made) := goodIn_app (goodIn_of _ (by decide +kernel)) ggX2_again_X2_made
theorem dX2_again_0 : decode cX2_again 0 = .ok (.aload_n 0, 1) := by decide +kernel
theorem dX2_again_1 : decode cX2_again 1 = .ok (.iconst 0, 1) := by decide +kernel
theorem dX2_again_2 : decode cX2_again 2 = .ok (.putfield 17, 3) := by decide +kernel
theorem dX2_again_5 : decode cX2_again 5 = .ok (.aload_n 0, 1) := by decide +kernel
theorem dX2_again_6 : decode cX2_again 6 = .ok (.lload_n 3, 1) := by decide +kernel
theorem dX2_again_7 : decode cX2_again 7 = .ok (.invokestatic 49, 3) := by decide +kernel
theorem dX2_again_10 : decode cX2_again 10 = .ok (.ifCond .eq 16, 3) := by decide +kernel
theorem dX2_again_13 : decode cX2_again 13 = .ok (.iload 5, 2) := by decide +kernel
theorem dX2_again_15 : decode cX2_again 15 = .ok (.i2l, 1) := by decide +kernel
theorem dX2_again_16 : decode cX2_again 16 = .ok (.lconst 0, 1) := by decide +kernel
theorem dX2_again_17 : decode cX2_again 17 = .ok (.ldc2_w 57, 3) := by decide +kernel
theorem dX2_again_20 : decode cX2_again 20 = .ok (.invokestatic 23, 3) := by decide +kernel
theorem dX2_again_23 : decode cX2_again 23 = .ok (.ifCond .ne 7, 3) := by decide +kernel
theorem dX2_again_26 : decode cX2_again 26 = .ok (.iconst 1, 1) := by decide +kernel
theorem dX2_again_27 : decode cX2_again 27 = .ok (.goto 4, 3) := by decide +kernel
theorem dX2_again_30 : decode cX2_again 30 = .ok (.iconst 0, 1) := by decide +kernel
theorem dX2_again_31 : decode cX2_again 31 = .ok (.iconst 1, 1) := by decide +kernel
theorem dX2_again_32 : decode cX2_again 32 = .ok (.invokevirtual 39, 3) := by decide +kernel
theorem dX2_again_35 : decode cX2_again 35 = .ok (.ifCond .ne 24, 3) := by decide +kernel
theorem dX2_again_38 : decode cX2_again 38 = .ok (.aload_n 0, 1) := by decide +kernel
theorem dX2_again_39 : decode cX2_again 39 = .ok (.iload_n 1, 1) := by decide +kernel
theorem dX2_again_40 : decode cX2_again 40 = .ok (.iload_n 2, 1) := by decide +kernel
theorem dX2_again_41 : decode cX2_again 41 = .ok (.invokestatic 45, 3) := by decide +kernel
theorem dX2_again_44 : decode cX2_again 44 = .ok (.ifCond .ne 7, 3) := by decide +kernel
theorem dX2_again_47 : decode cX2_again 47 = .ok (.iconst 1, 1) := by decide +kernel
theorem dX2_again_48 : decode cX2_again 48 = .ok (.goto 4, 3) := by decide +kernel
theorem dX2_again_51 : decode cX2_again 51 = .ok (.iconst 0, 1) := by decide +kernel
theorem dX2_again_52 : decode cX2_again 52 = .ok (.iconst 2, 1) := by decide +kernel
theorem dX2_again_53 : decode cX2_again 53 = .ok (.invokevirtual 39, 3) := by decide +kernel
theorem dX2_again_56 : decode cX2_again 56 = .ok (.ifCond .eq 5, 3) := by decide +kernel
theorem dX2_again_59 : decode cX2_again 59 = .ok (.lconst 0, 1) := by decide +kernel
theorem dX2_again_60 : decode cX2_again 60 = .ok (.lreturn, 1) := by decide +kernel
theorem dX2_again_61 : decode cX2_again 61 = .ok (.lload_n 3, 1) := by decide +kernel
theorem dX2_again_62 : decode cX2_again 62 = .ok (.lstore 6, 2) := by decide +kernel
theorem dX2_again_64 : decode cX2_again 64 = .ok (.iconst 0, 1) := by decide +kernel
theorem dX2_again_65 : decode cX2_again 65 = .ok (.istore 8, 2) := by decide +kernel
theorem dX2_again_67 : decode cX2_again 67 = .ok (.iload 8, 2) := by decide +kernel
theorem dX2_again_69 : decode cX2_again 69 = .ok (.iload 5, 2) := by decide +kernel
theorem dX2_again_71 : decode cX2_again 71 = .ok (.if_icmp .ge 19, 3) := by decide +kernel
theorem dX2_again_74 : decode cX2_again 74 = .ok (.aload_n 0, 1) := by decide +kernel
theorem dX2_again_75 : decode cX2_again 75 = .ok (.iload_n 1, 1) := by decide +kernel
theorem dX2_again_76 : decode cX2_again 76 = .ok (.iload_n 2, 1) := by decide +kernel
theorem dX2_again_77 : decode cX2_again 77 = .ok (.lload 6, 2) := by decide +kernel
theorem dX2_again_79 : decode cX2_again 79 = .ok (.invokevirtual 53, 3) := by decide +kernel
theorem dX2_again_82 : decode cX2_again 82 = .ok (.lstore 6, 2) := by decide +kernel
theorem dX2_again_84 : decode cX2_again 84 = .ok (.iinc 8 1, 3) := by decide +kernel
theorem dX2_again_87 : decode cX2_again 87 = .ok (.goto (-20), 3) := by decide +kernel
theorem dX2_again_90 : decode cX2_again 90 = .ok (.lload 6, 2) := by decide +kernel
theorem dX2_again_92 : decode cX2_again 92 = .ok (.lreturn, 1) := by decide +kernel
set_option maxRecDepth 20000 in
theorem ggX2_ends_X2_made : GoodIn wsX2_ends wsX2_made := goodIn_r _ [6, 7, 8, 9, 10, 11] (by decide +kernel) (by decide +kernel)
set_option maxRecDepth 20000 in
theorem gX2_ends_X2_made : GoodIn wsX2_ends (wsV RX2 53 RX2 yX2_made wsX2_made) := goodIn_app (goodIn_of _ (by decide +kernel)) ggX2_ends_X2_made
theorem dX2_ends_0 : decode cX2_ends 0 = .ok (.aload_n 0, 1) := by decide +kernel
theorem dX2_ends_1 : decode cX2_ends 1 = .ok (.iload_n 1, 1) := by decide +kernel
theorem dX2_ends_2 : decode cX2_ends 2 = .ok (.iload_n 2, 1) := by decide +kernel
theorem dX2_ends_3 : decode cX2_ends 3 = .ok (.lload_n 3, 1) := by decide +kernel
theorem dX2_ends_4 : decode cX2_ends 4 = .ok (.invokevirtual 53, 3) := by decide +kernel
theorem dX2_ends_7 : decode cX2_ends 7 = .ok (.aload_n 0, 1) := by decide +kernel
theorem dX2_ends_8 : decode cX2_ends 8 = .ok (.iload_n 1, 1) := by decide +kernel
theorem dX2_ends_9 : decode cX2_ends 9 = .ok (.iload_n 2, 1) := by decide +kernel
theorem dX2_ends_10 : decode cX2_ends 10 = .ok (.ldc2_w 59, 3) := by decide +kernel
theorem dX2_ends_13 : decode cX2_ends 13 = .ok (.lload_n 3, 1) := by decide +kernel
theorem dX2_ends_14 : decode cX2_ends 14 = .ok (.lmul, 1) := by decide +kernel
theorem dX2_ends_15 : decode cX2_ends 15 = .ok (.invokevirtual 53, 3) := by decide +kernel
theorem dX2_ends_18 : decode cX2_ends 18 = .ok (.lcmp, 1) := by decide +kernel
theorem dX2_ends_19 : decode cX2_ends 19 = .ok (.ifCond .ne 7, 3) := by decide +kernel
theorem dX2_ends_22 : decode cX2_ends 22 = .ok (.iconst 1, 1) := by decide +kernel
theorem dX2_ends_23 : decode cX2_ends 23 = .ok (.goto 4, 3) := by decide +kernel
theorem dX2_ends_26 : decode cX2_ends 26 = .ok (.iconst 0, 1) := by decide +kernel
theorem dX2_ends_27 : decode cX2_ends 27 = .ok (.ireturn, 1) := by decide +kernel
set_option maxRecDepth 20000 in
theorem ggX2_least_X2_isPart : GoodIn wsX2_least wsX2_isPart := goodIn_r _ [6] (by decide +kernel) (by decide +kernel)
set_option maxRecDepth 20000 in
theorem gX2_least_X2_isPart : GoodIn wsX2_least (va_wsS RX2 45 yX2_isPart wsX2_isPart) := goodIn_app (goodIn_of _ (by decide +kernel)) ggX2_least_X2_isPart
set_option maxRecDepth 20000 in
theorem ggX2_least_X2_fails : GoodIn wsX2_least wsX2_fails := goodIn_r _ [10, 1, 22, 23, 24] (by decide +kernel) (by decide +kernel)
set_option maxRecDepth 20000 in
theorem gX2_least_X2_fails : GoodIn wsX2_least (wsV RX2 39 RX2 yX2_fails wsX2_fails) := goodIn_app (goodIn_of _ (by decide +kernel)) ggX2_least_X2_fails
set_option maxRecDepth 20000 in
theorem ggX2_least_X2_ends : GoodIn wsX2_least wsX2_ends := goodIn_r _ [14, 15, 16, 17, 18, 5, 19, 20, 21, 22, 23, 24] (by decide +kernel) (by decide +kernel)
set_option maxRecDepth 20000 in
theorem gX2_least_X2_ends : GoodIn wsX2_least (wsV RX2 63 RX2 yX2_ends wsX2_ends) := goodIn_app (goodIn_of _ (by decide +kernel)) ggX2_least_X2_ends
set_option maxRecDepth 20000 in
theorem ggX2_least_X2_made : GoodIn wsX2_least wsX2_made := goodIn_r _ [19, 20, 21, 22, 23, 24] (by decide +kernel) (by decide +kernel)
set_option maxRecDepth 20000 in
theorem gX2_least_X2_made : GoodIn wsX2_least (wsV RX2 53 RX2 yX2_made wsX2_made) := goodIn_app (goodIn_of _ (by decide +kernel)) ggX2_least_X2_made
theorem dX2_least_0 : decode cX2_least 0 = .ok (.aload_n 0, 1) := by decide +kernel
theorem dX2_least_1 : decode cX2_least 1 = .ok (.iconst 0, 1) := by decide +kernel
theorem dX2_least_2 : decode cX2_least 2 = .ok (.putfield 17, 3) := by decide +kernel
theorem dX2_least_5 : decode cX2_least 5 = .ok (.aload_n 0, 1) := by decide +kernel
theorem dX2_least_6 : decode cX2_least 6 = .ok (.iload_n 1, 1) := by decide +kernel
theorem dX2_least_7 : decode cX2_least 7 = .ok (.iload_n 2, 1) := by decide +kernel
theorem dX2_least_8 : decode cX2_least 8 = .ok (.invokestatic 45, 3) := by decide +kernel
theorem dX2_least_11 : decode cX2_least 11 = .ok (.ifCond .ne 7, 3) := by decide +kernel
theorem dX2_least_14 : decode cX2_least 14 = .ok (.iconst 1, 1) := by decide +kernel
theorem dX2_least_15 : decode cX2_least 15 = .ok (.goto 4, 3) := by decide +kernel
theorem dX2_least_18 : decode cX2_least 18 = .ok (.iconst 0, 1) := by decide +kernel
theorem dX2_least_19 : decode cX2_least 19 = .ok (.iconst 1, 1) := by decide +kernel
theorem dX2_least_20 : decode cX2_least 20 = .ok (.invokevirtual 39, 3) := by decide +kernel
theorem dX2_least_23 : decode cX2_least 23 = .ok (.ifCond .ne 28, 3) := by decide +kernel
theorem dX2_least_26 : decode cX2_least 26 = .ok (.aload_n 0, 1) := by decide +kernel
theorem dX2_least_27 : decode cX2_least 27 = .ok (.aload_n 0, 1) := by decide +kernel
theorem dX2_least_28 : decode cX2_least 28 = .ok (.iload_n 1, 1) := by decide +kernel
theorem dX2_least_29 : decode cX2_least 29 = .ok (.iload_n 2, 1) := by decide +kernel
theorem dX2_least_30 : decode cX2_least 30 = .ok (.ldc2_w 61, 3) := by decide +kernel
theorem dX2_least_33 : decode cX2_least 33 = .ok (.invokevirtual 63, 3) := by decide +kernel
theorem dX2_least_36 : decode cX2_least 36 = .ok (.ifCond .ne 7, 3) := by decide +kernel
theorem dX2_least_39 : decode cX2_least 39 = .ok (.iconst 1, 1) := by decide +kernel
theorem dX2_least_40 : decode cX2_least 40 = .ok (.goto 4, 3) := by decide +kernel
theorem dX2_least_43 : decode cX2_least 43 = .ok (.iconst 0, 1) := by decide +kernel
theorem dX2_least_44 : decode cX2_least 44 = .ok (.iconst 2, 1) := by decide +kernel
theorem dX2_least_45 : decode cX2_least 45 = .ok (.invokevirtual 39, 3) := by decide +kernel
theorem dX2_least_48 : decode cX2_least 48 = .ok (.ifCond .eq 7, 3) := by decide +kernel
theorem dX2_least_51 : decode cX2_least 51 = .ok (.lconst 0, 1) := by decide +kernel
theorem dX2_least_52 : decode cX2_least 52 = .ok (.goto 12, 3) := by decide +kernel
theorem dX2_least_55 : decode cX2_least 55 = .ok (.aload_n 0, 1) := by decide +kernel
theorem dX2_least_56 : decode cX2_least 56 = .ok (.iload_n 1, 1) := by decide +kernel
theorem dX2_least_57 : decode cX2_least 57 = .ok (.iload_n 2, 1) := by decide +kernel
theorem dX2_least_58 : decode cX2_least 58 = .ok (.ldc2_w 61, 3) := by decide +kernel
theorem dX2_least_61 : decode cX2_least 61 = .ok (.invokevirtual 53, 3) := by decide +kernel
theorem dX2_least_64 : decode cX2_least 64 = .ok (.lreturn, 1) := by decide +kernel
set_option maxRecDepth 20000 in
theorem ggX2_greatest_X2_isPart : GoodIn wsX2_greatest wsX2_isPart := goodIn_r _ [6] (by decide +kernel) (by decide +kernel)
set_option maxRecDepth 20000 in
theorem gX2_greatest_X2_isPart : GoodIn wsX2_greatest (va_wsS RX2 45 yX2_isPart wsX2_isPart) := goodIn_app (goodIn_of _ (by decide +kernel)) ggX2_greatest_X2_isPart
set_option maxRecDepth 20000 in
theorem ggX2_greatest_X2_fails : GoodIn wsX2_greatest wsX2_fails := goodIn_r _ [10, 1, 22, 23, 24] (by decide +kernel) (by decide +kernel)
set_option maxRecDepth 20000 in
theorem gX2_greatest_X2_fails : GoodIn wsX2_greatest (wsV RX2 39 RX2 yX2_fails wsX2_fails) := goodIn_app (goodIn_of _ (by decide +kernel)) ggX2_greatest_X2_fails
set_option maxRecDepth 20000 in
theorem ggX2_greatest_X2_ends : GoodIn wsX2_greatest wsX2_ends := goodIn_r _ [14, 15, 16, 17, 18, 5, 19, 20, 21, 22, 23, 24] (by decide +kernel) (by decide +kernel)
set_option maxRecDepth 20000 in
theorem gX2_greatest_X2_ends : GoodIn wsX2_greatest (wsV RX2 63 RX2 yX2_ends wsX2_ends) := goodIn_app (goodIn_of _ (by decide +kernel)) ggX2_greatest_X2_ends
set_option maxRecDepth 20000 in
theorem ggX2_greatest_X2_made : GoodIn wsX2_greatest wsX2_made := goodIn_r _ [19, 20, 21, 22, 23, 24] (by decide +kernel) (by decide +kernel)
set_option maxRecDepth 20000 in
theorem gX2_greatest_X2_made : GoodIn wsX2_greatest (wsV RX2 53 RX2 yX2_made wsX2_made) := goodIn_app (goodIn_of _ (by decide +kernel)) ggX2_greatest_X2_made
theorem dX2_greatest_0 : decode cX2_greatest 0 = .ok (.aload_n 0, 1) := by decide +kernel
theorem dX2_greatest_1 : decode cX2_greatest 1 = .ok (.iconst 0, 1) := by decide +kernel
theorem dX2_greatest_2 : decode cX2_greatest 2 = .ok (.putfield 17, 3) := by decide +kernel
theorem dX2_greatest_5 : decode cX2_greatest 5 = .ok (.aload_n 0, 1) := by decide +kernel
theorem dX2_greatest_6 : decode cX2_greatest 6 = .ok (.iload_n 1, 1) := by decide +kernel
theorem dX2_greatest_7 : decode cX2_greatest 7 = .ok (.iload_n 2, 1) := by decide +kernel
theorem dX2_greatest_8 : decode cX2_greatest 8 = .ok (.invokestatic 45, 3) := by decide +kernel
theorem dX2_greatest_11 : decode cX2_greatest 11 = .ok (.ifCond .ne 7, 3) := by decide +kernel
theorem dX2_greatest_14 : decode cX2_greatest 14 = .ok (.iconst 1, 1) := by decide +kernel
theorem dX2_greatest_15 : decode cX2_greatest 15 = .ok (.goto 4, 3) := by decide +kernel
theorem dX2_greatest_18 : decode cX2_greatest 18 = .ok (.iconst 0, 1) := by decide +kernel
theorem dX2_greatest_19 : decode cX2_greatest 19 = .ok (.iconst 1, 1) := by decide +kernel
theorem dX2_greatest_20 : decode cX2_greatest 20 = .ok (.invokevirtual 39, 3) := by decide +kernel
theorem dX2_greatest_23 : decode cX2_greatest 23 = .ok (.ifCond .ne 28, 3) := by decide +kernel
theorem dX2_greatest_26 : decode cX2_greatest 26 = .ok (.aload_n 0, 1) := by decide +kernel
theorem dX2_greatest_27 : decode cX2_greatest 27 = .ok (.aload_n 0, 1) := by decide +kernel
theorem dX2_greatest_28 : decode cX2_greatest 28 = .ok (.iload_n 1, 1) := by decide +kernel
theorem dX2_greatest_29 : decode cX2_greatest 29 = .ok (.iload_n 2, 1) := by decide +kernel
theorem dX2_greatest_30 : decode cX2_greatest 30 = .ok (.ldc2_w 67, 3) := by decide +kernel
theorem dX2_greatest_33 : decode cX2_greatest 33 = .ok (.invokevirtual 63, 3) := by decide +kernel
theorem dX2_greatest_36 : decode cX2_greatest 36 = .ok (.ifCond .ne 7, 3) := by decide +kernel
theorem dX2_greatest_39 : decode cX2_greatest 39 = .ok (.iconst 1, 1) := by decide +kernel
theorem dX2_greatest_40 : decode cX2_greatest 40 = .ok (.goto 4, 3) := by decide +kernel
theorem dX2_greatest_43 : decode cX2_greatest 43 = .ok (.iconst 0, 1) := by decide +kernel
theorem dX2_greatest_44 : decode cX2_greatest 44 = .ok (.iconst 2, 1) := by decide +kernel
theorem dX2_greatest_45 : decode cX2_greatest 45 = .ok (.invokevirtual 39, 3) := by decide +kernel
theorem dX2_greatest_48 : decode cX2_greatest 48 = .ok (.ifCond .eq 7, 3) := by decide +kernel
theorem dX2_greatest_51 : decode cX2_greatest 51 = .ok (.lconst 0, 1) := by decide +kernel
theorem dX2_greatest_52 : decode cX2_greatest 52 = .ok (.goto 12, 3) := by decide +kernel
theorem dX2_greatest_55 : decode cX2_greatest 55 = .ok (.aload_n 0, 1) := by decide +kernel
theorem dX2_greatest_56 : decode cX2_greatest 56 = .ok (.iload_n 1, 1) := by decide +kernel
theorem dX2_greatest_57 : decode cX2_greatest 57 = .ok (.iload_n 2, 1) := by decide +kernel
theorem dX2_greatest_58 : decode cX2_greatest 58 = .ok (.ldc2_w 67, 3) := by decide +kernel
theorem dX2_greatest_61 : decode cX2_greatest 61 = .ok (.invokevirtual 53, 3) := by decide +kernel
theorem dX2_greatest_64 : decode cX2_greatest 64 = .ok (.lreturn, 1) := by decide +kernel
set_option maxRecDepth 20000 in
theorem ggX2_fixed_X2_isPart : GoodIn wsX2_fixed wsX2_isPart := goodIn_r _ [7] (by decide +kernel) (by decide +kernel)
set_option maxRecDepth 20000 in
theorem gX2_fixed_X2_isPart : GoodIn wsX2_fixed (va_wsS RX2 45 yX2_isPart wsX2_isPart) := goodIn_app (goodIn_of _ (by decide +kernel)) ggX2_fixed_X2_isPart
set_option maxRecDepth 20000 in
theorem ggX2_fixed_X2_fails : GoodIn wsX2_fixed wsX2_fails := goodIn_r _ [11, 1, 23, 24, 25] (by decide +kernel) (by decide +kernel)
set_option maxRecDepth 20000 in
theorem gX2_fixed_X2_fails : GoodIn wsX2_fixed (wsV RX2 39 RX2 yX2_fails wsX2_fails) := goodIn_app (goodIn_of _ (by decide +kernel)) ggX2_fixed_X2_fails
set_option maxRecDepth 20000 in
theorem ggX2_fixed_X2_made : GoodIn wsX2_fixed wsX2_made := goodIn_r _ [15, 16, 17, 23, 24, 25] (by decide +kernel) (by decide +kernel)
set_option maxRecDepth 20000 in
theorem gX2_fixed_X2_made : GoodIn wsX2_fixed (wsV RX2 53 RX2 yX2_made wsX2_made) := goodIn_app (goodIn_of _ (by decide +kernel)) ggX2_fixed_X2_made
set_option maxRecDepth 20000 in
theorem ggX2_fixed_X2_ends : GoodIn wsX2_fixed wsX2_ends := goodIn_r _ [21, 22, 12, 13, 14, 6, 15, 16, 17, 23, 24, 25] (by decide +kernel) (by decide +kernel)
set_option maxRecDepth 20000 in
theorem gX2_fixed_X2_ends : GoodIn wsX2_fixed (wsV RX2 63 RX2 yX2_ends wsX2_ends) := goodIn_app (goodIn_of _ (by decide +kernel)) ggX2_fixed_X2_ends
theorem dX2_fixed_0 : decode cX2_fixed 0 = .ok (.aload_n 0, 1) := by decide +kernel
theorem dX2_fixed_1 : decode cX2_fixed 1 = .ok (.iconst 0, 1) := by decide +kernel
theorem dX2_fixed_2 : decode cX2_fixed 2 = .ok (.putfield 17, 3) := by decide +kernel
theorem dX2_fixed_5 : decode cX2_fixed 5 = .ok (.aload_n 0, 1) := by decide +kernel
theorem dX2_fixed_6 : decode cX2_fixed 6 = .ok (.iload_n 1, 1) := by decide +kernel
theorem dX2_fixed_7 : decode cX2_fixed 7 = .ok (.iload_n 2, 1) := by decide +kernel
theorem dX2_fixed_8 : decode cX2_fixed 8 = .ok (.invokestatic 45, 3) := by decide +kernel
theorem dX2_fixed_11 : decode cX2_fixed 11 = .ok (.ifCond .ne 7, 3) := by decide +kernel
theorem dX2_fixed_14 : decode cX2_fixed 14 = .ok (.iconst 1, 1) := by decide +kernel
theorem dX2_fixed_15 : decode cX2_fixed 15 = .ok (.goto 4, 3) := by decide +kernel
theorem dX2_fixed_18 : decode cX2_fixed 18 = .ok (.iconst 0, 1) := by decide +kernel
theorem dX2_fixed_19 : decode cX2_fixed 19 = .ok (.iconst 1, 1) := by decide +kernel
theorem dX2_fixed_20 : decode cX2_fixed 20 = .ok (.invokevirtual 39, 3) := by decide +kernel
theorem dX2_fixed_23 : decode cX2_fixed 23 = .ok (.ifCond .eq 5, 3) := by decide +kernel
theorem dX2_fixed_26 : decode cX2_fixed 26 = .ok (.lconst 0, 1) := by decide +kernel
theorem dX2_fixed_27 : decode cX2_fixed 27 = .ok (.lreturn, 1) := by decide +kernel
theorem dX2_fixed_28 : decode cX2_fixed 28 = .ok (.iload_n 3, 1) := by decide +kernel
theorem dX2_fixed_29 : decode cX2_fixed 29 = .ok (.ifCond .eq 9, 3) := by decide +kernel
theorem dX2_fixed_32 : decode cX2_fixed 32 = .ok (.ldc2_w 67, 3) := by decide +kernel
theorem dX2_fixed_35 : decode cX2_fixed 35 = .ok (.goto 6, 3) := by decide +kernel
theorem dX2_fixed_38 : decode cX2_fixed 38 = .ok (.ldc2_w 61, 3) := by decide +kernel
theorem dX2_fixed_41 : decode cX2_fixed 41 = .ok (.lstore 4, 2) := by decide +kernel
theorem dX2_fixed_43 : decode cX2_fixed 43 = .ok (.aload_n 0, 1) := by decide +kernel
theorem dX2_fixed_44 : decode cX2_fixed 44 = .ok (.aload_n 0, 1) := by decide +kernel
theorem dX2_fixed_45 : decode cX2_fixed 45 = .ok (.iload_n 1, 1) := by decide +kernel
theorem dX2_fixed_46 : decode cX2_fixed 46 = .ok (.iload_n 2, 1) := by decide +kernel
theorem dX2_fixed_47 : decode cX2_fixed 47 = .ok (.lload 4, 2) := by decide +kernel
theorem dX2_fixed_49 : decode cX2_fixed 49 = .ok (.invokevirtual 53, 3) := by decide +kernel
theorem dX2_fixed_52 : decode cX2_fixed 52 = .ok (.lload 4, 2) := by decide +kernel
theorem dX2_fixed_54 : decode cX2_fixed 54 = .ok (.lcmp, 1) := by decide +kernel
theorem dX2_fixed_55 : decode cX2_fixed 55 = .ok (.ifCond .ne 7, 3) := by decide +kernel
theorem dX2_fixed_58 : decode cX2_fixed 58 = .ok (.iconst 1, 1) := by decide +kernel
theorem dX2_fixed_59 : decode cX2_fixed 59 = .ok (.goto 4, 3) := by decide +kernel
theorem dX2_fixed_62 : decode cX2_fixed 62 = .ok (.iconst 0, 1) := by decide +kernel
theorem dX2_fixed_63 : decode cX2_fixed 63 = .ok (.iconst 2, 1) := by decide +kernel
theorem dX2_fixed_64 : decode cX2_fixed 64 = .ok (.invokevirtual 39, 3) := by decide +kernel
theorem dX2_fixed_67 : decode cX2_fixed 67 = .ok (.ifCond .eq 5, 3) := by decide +kernel
theorem dX2_fixed_70 : decode cX2_fixed 70 = .ok (.lconst 0, 1) := by decide +kernel
theorem dX2_fixed_71 : decode cX2_fixed 71 = .ok (.lreturn, 1) := by decide +kernel
theorem dX2_fixed_72 : decode cX2_fixed 72 = .ok (.iconst 0, 1) := by decide +kernel
theorem dX2_fixed_73 : decode cX2_fixed 73 = .ok (.istore 6, 2) := by decide +kernel
theorem dX2_fixed_75 : decode cX2_fixed 75 = .ok (.iload 6, 2) := by decide +kernel
theorem dX2_fixed_77 : decode cX2_fixed 77 = .ok (.iconst 2, 1) := by decide +kernel
theorem dX2_fixed_78 : decode cX2_fixed 78 = .ok (.if_icmp .ge 55, 3) := by decide +kernel
theorem dX2_fixed_81 : decode cX2_fixed 81 = .ok (.aload_n 0, 1) := by decide +kernel
theorem dX2_fixed_82 : decode cX2_fixed 82 = .ok (.iload_n 1, 1) := by decide +kernel
theorem dX2_fixed_83 : decode cX2_fixed 83 = .ok (.iload_n 2, 1) := by decide +kernel
theorem dX2_fixed_84 : decode cX2_fixed 84 = .ok (.lload 4, 2) := by decide +kernel
theorem dX2_fixed_86 : decode cX2_fixed 86 = .ok (.invokevirtual 63, 3) := by decide +kernel
theorem dX2_fixed_89 : decode cX2_fixed 89 = .ok (.ifCond .ne 6, 3) := by decide +kernel
theorem dX2_fixed_92 : decode cX2_fixed 92 = .ok (.goto 30, 3) := by decide +kernel
theorem dX2_fixed_95 : decode cX2_fixed 95 = .ok (.aload_n 0, 1) := by decide +kernel
theorem dX2_fixed_96 : decode cX2_fixed 96 = .ok (.iload_n 1, 1) := by decide +kernel
theorem dX2_fixed_97 : decode cX2_fixed 97 = .ok (.iload_n 2, 1) := by decide +kernel
theorem dX2_fixed_98 : decode cX2_fixed 98 = .ok (.lload 4, 2) := by decide +kernel
theorem dX2_fixed_100 : decode cX2_fixed 100 = .ok (.invokevirtual 53, 3) := by decide +kernel
theorem dX2_fixed_103 : decode cX2_fixed 103 = .ok (.lstore 7, 2) := by decide +kernel
theorem dX2_fixed_105 : decode cX2_fixed 105 = .ok (.aload_n 0, 1) := by decide +kernel
theorem dX2_fixed_106 : decode cX2_fixed 106 = .ok (.iload_n 1, 1) := by decide +kernel
theorem dX2_fixed_107 : decode cX2_fixed 107 = .ok (.iload_n 2, 1) := by decide +kernel
theorem dX2_fixed_108 : decode cX2_fixed 108 = .ok (.lload 7, 2) := by decide +kernel
theorem dX2_fixed_110 : decode cX2_fixed 110 = .ok (.invokevirtual 53, 3) := by decide +kernel
theorem dX2_fixed_113 : decode cX2_fixed 113 = .ok (.lload 7, 2) := by decide +kernel
theorem dX2_fixed_115 : decode cX2_fixed 115 = .ok (.lcmp, 1) := by decide +kernel
theorem dX2_fixed_116 : decode cX2_fixed 116 = .ok (.ifCond .ne 6, 3) := by decide +kernel
theorem dX2_fixed_119 : decode cX2_fixed 119 = .ok (.lload 7, 2) := by decide +kernel
theorem dX2_fixed_121 : decode cX2_fixed 121 = .ok (.lreturn, 1) := by decide +kernel
theorem dX2_fixed_122 : decode cX2_fixed 122 = .ok (.iinc 6 1, 3) := by decide +kernel
theorem dX2_fixed_125 : decode cX2_fixed 125 = .ok (.lload 4, 2) := by decide +kernel
theorem dX2_fixed_127 : decode cX2_fixed 127 = .ok (.lneg, 1) := by decide +kernel
theorem dX2_fixed_128 : decode cX2_fixed 128 = .ok (.lstore 4, 2) := by decide +kernel
theorem dX2_fixed_130 : decode cX2_fixed 130 = .ok (.goto (-55), 3) := by decide +kernel
theorem dX2_fixed_133 : decode cX2_fixed 133 = .ok (.aload_n 0, 1) := by decide +kernel
theorem dX2_fixed_134 : decode cX2_fixed 134 = .ok (.iconst 1, 1) := by decide +kernel
theorem dX2_fixed_135 : decode cX2_fixed 135 = .ok (.iconst 2, 1) := by decide +kernel
theorem dX2_fixed_136 : decode cX2_fixed 136 = .ok (.invokevirtual 39, 3) := by decide +kernel
theorem dX2_fixed_139 : decode cX2_fixed 139 = .ok (.pop, 1) := by decide +kernel
theorem dX2_fixed_140 : decode cX2_fixed 140 = .ok (.lconst 0, 1) := by decide +kernel
theorem dX2_fixed_141 : decode cX2_fixed 141 = .ok (.lreturn, 1) := by decide +kernel
set_option maxRecDepth 20000 in
theorem ggX2_about_X2_in : GoodIn wsX2_about wsX2_in := goodIn_r _ [9] (by decide +kernel) (by decide +kernel)
set_option maxRecDepth 20000 in
theorem gX2_about_X2_in : GoodIn wsX2_about (va_wsS RX2 23 yX2_in wsX2_in) := goodIn_app (goodIn_of _ (by decide +kernel)) ggX2_about_X2_in
set_option maxRecDepth 20000 in
theorem ggX2_about_X2_fails : GoodIn wsX2_about wsX2_fails := goodIn_r _ [13, 1, 22, 23, 24] (by decide +kernel) (by decide +kernel)
set_option maxRecDepth 20000 in
theorem gX2_about_X2_fails : GoodIn wsX2_about (wsV RX2 39 RX2 yX2_fails wsX2_fails) := goodIn_app (goodIn_of _ (by decide +kernel)) ggX2_about_X2_fails
set_option maxRecDepth 20000 in
theorem ggX2_about_X2_isPart : GoodIn wsX2_about wsX2_isPart := goodIn_r _ [16] (by decide +kernel) (by decide +kernel)
set_option maxRecDepth 20000 in
theorem gX2_about_X2_isPart : GoodIn wsX2_about (va_wsS RX2 45 yX2_isPart wsX2_isPart) := goodIn_app (goodIn_of _ (by decide +kernel)) ggX2_about_X2_isPart
set_option maxRecDepth 20000 in
theorem ggX2_about_X2_made : GoodIn wsX2_about wsX2_made := goodIn_r _ [20, 5, 21, 22, 23, 24] (by decide +kernel) (by decide +kernel)
set_option maxRecDepth 20000 in
theorem gX2_about_X2_made : GoodIn wsX2_about (wsV RX2 53 RX2 yX2_made wsX2_made) := goodIn_app (goodIn_of _ (by decide +kernel)) ggX2_about_X2_made
theorem dX2_about_0 : decode cX2_about 0 = .ok (.aload_n 0, 1) := by decide +kernel
theorem dX2_about_1 : decode cX2_about 1 = .ok (.iconst 0, 1) := by decide +kernel
theorem dX2_about_2 : decode cX2_about 2 = .ok (.putfield 17, 3) := by decide +kernel
theorem dX2_about_5 : decode cX2_about 5 = .ok (.aload_n 0, 1) := by decide +kernel
theorem dX2_about_6 : decode cX2_about 6 = .ok (.iload_n 3, 1) := by decide +kernel
theorem dX2_about_7 : decode cX2_about 7 = .ok (.i2l, 1) := by decide +kernel
theorem dX2_about_8 : decode cX2_about 8 = .ok (.lconst 0, 1) := by decide +kernel
theorem dX2_about_9 : decode cX2_about 9 = .ok (.ldc2_w 59, 3) := by decide +kernel
theorem dX2_about_12 : decode cX2_about 12 = .ok (.invokestatic 23, 3) := by decide +kernel
theorem dX2_about_15 : decode cX2_about 15 = .ok (.ifCond .ne 7, 3) := by decide +kernel
theorem dX2_about_18 : decode cX2_about 18 = .ok (.iconst 1, 1) := by decide +kernel
theorem dX2_about_19 : decode cX2_about 19 = .ok (.goto 4, 3) := by decide +kernel
theorem dX2_about_22 : decode cX2_about 22 = .ok (.iconst 0, 1) := by decide +kernel
theorem dX2_about_23 : decode cX2_about 23 = .ok (.iconst 1, 1) := by decide +kernel
theorem dX2_about_24 : decode cX2_about 24 = .ok (.invokevirtual 39, 3) := by decide +kernel
theorem dX2_about_27 : decode cX2_about 27 = .ok (.ifCond .ne 24, 3) := by decide +kernel
theorem dX2_about_30 : decode cX2_about 30 = .ok (.aload_n 0, 1) := by decide +kernel
theorem dX2_about_31 : decode cX2_about 31 = .ok (.iload_n 1, 1) := by decide +kernel
theorem dX2_about_32 : decode cX2_about 32 = .ok (.iload_n 2, 1) := by decide +kernel
theorem dX2_about_33 : decode cX2_about 33 = .ok (.invokestatic 45, 3) := by decide +kernel
theorem dX2_about_36 : decode cX2_about 36 = .ok (.ifCond .ne 7, 3) := by decide +kernel
theorem dX2_about_39 : decode cX2_about 39 = .ok (.iconst 1, 1) := by decide +kernel
theorem dX2_about_40 : decode cX2_about 40 = .ok (.goto 4, 3) := by decide +kernel
theorem dX2_about_43 : decode cX2_about 43 = .ok (.iconst 0, 1) := by decide +kernel
theorem dX2_about_44 : decode cX2_about 44 = .ok (.iconst 2, 1) := by decide +kernel
theorem dX2_about_45 : decode cX2_about 45 = .ok (.invokevirtual 39, 3) := by decide +kernel
theorem dX2_about_48 : decode cX2_about 48 = .ok (.ifCond .eq 5, 3) := by decide +kernel
theorem dX2_about_51 : decode cX2_about 51 = .ok (.iconst 0, 1) := by decide +kernel
theorem dX2_about_52 : decode cX2_about 52 = .ok (.ireturn, 1) := by decide +kernel
theorem dX2_about_53 : decode cX2_about 53 = .ok (.aload_n 0, 1) := by decide +kernel
theorem dX2_about_54 : decode cX2_about 54 = .ok (.iload_n 1, 1) := by decide +kernel
theorem dX2_about_55 : decode cX2_about 55 = .ok (.iload_n 2, 1) := by decide +kernel
theorem dX2_about_56 : decode cX2_about 56 = .ok (.ldc2_w 61, 3) := by decide +kernel
theorem dX2_about_59 : decode cX2_about 59 = .ok (.invokevirtual 53, 3) := by decide +kernel
theorem dX2_about_62 : decode cX2_about 62 = .ok (.lstore 4, 2) := by decide +kernel
theorem dX2_about_64 : decode cX2_about 64 = .ok (.aload_n 0, 1) := by decide +kernel
theorem dX2_about_65 : decode cX2_about 65 = .ok (.iload_n 1, 1) := by decide +kernel
theorem dX2_about_66 : decode cX2_about 66 = .ok (.iload_n 2, 1) := by decide +kernel
theorem dX2_about_67 : decode cX2_about 67 = .ok (.ldc2_w 67, 3) := by decide +kernel
theorem dX2_about_70 : decode cX2_about 70 = .ok (.invokevirtual 53, 3) := by decide +kernel
theorem dX2_about_73 : decode cX2_about 73 = .ok (.lstore 6, 2) := by decide +kernel
theorem dX2_about_75 : decode cX2_about 75 = .ok (.iload_n 3, 1) := by decide +kernel
theorem dX2_about_76 : decode cX2_about 76 = .ok (.ifCond .ne 17, 3) := by decide +kernel
theorem dX2_about_79 : decode cX2_about 79 = .ok (.lload 4, 2) := by decide +kernel
theorem dX2_about_81 : decode cX2_about 81 = .ok (.lload 6, 2) := by decide +kernel
theorem dX2_about_83 : decode cX2_about 83 = .ok (.lcmp, 1) := by decide +kernel
theorem dX2_about_84 : decode cX2_about 84 = .ok (.ifCond .ne 7, 3) := by decide +kernel
theorem dX2_about_87 : decode cX2_about 87 = .ok (.iconst 1, 1) := by decide +kernel
theorem dX2_about_88 : decode cX2_about 88 = .ok (.goto 4, 3) := by decide +kernel
theorem dX2_about_91 : decode cX2_about 91 = .ok (.iconst 0, 1) := by decide +kernel
theorem dX2_about_92 : decode cX2_about 92 = .ok (.ireturn, 1) := by decide +kernel
theorem dX2_about_93 : decode cX2_about 93 = .ok (.iload_n 3, 1) := by decide +kernel
theorem dX2_about_94 : decode cX2_about 94 = .ok (.iconst 2, 1) := by decide +kernel
theorem dX2_about_95 : decode cX2_about 95 = .ok (.if_icmp .ne 27, 3) := by decide +kernel
theorem dX2_about_98 : decode cX2_about 98 = .ok (.lload 4, 2) := by decide +kernel
theorem dX2_about_100 : decode cX2_about 100 = .ok (.ldc2_w 61, 3) := by decide +kernel
theorem dX2_about_103 : decode cX2_about 103 = .ok (.lcmp, 1) := by decide +kernel
theorem dX2_about_104 : decode cX2_about 104 = .ok (.ifCond .ne 16, 3) := by decide +kernel
theorem dX2_about_107 : decode cX2_about 107 = .ok (.lload 6, 2) := by decide +kernel
theorem dX2_about_109 : decode cX2_about 109 = .ok (.ldc2_w 67, 3) := by decide +kernel
theorem dX2_about_112 : decode cX2_about 112 = .ok (.lcmp, 1) := by decide +kernel
theorem dX2_about_113 : decode cX2_about 113 = .ok (.ifCond .ne 7, 3) := by decide +kernel
theorem dX2_about_116 : decode cX2_about 116 = .ok (.iconst 1, 1) := by decide +kernel
theorem dX2_about_117 : decode cX2_about 117 = .ok (.goto 4, 3) := by decide +kernel
theorem dX2_about_120 : decode cX2_about 120 = .ok (.iconst 0, 1) := by decide +kernel
theorem dX2_about_121 : decode cX2_about 121 = .ok (.ireturn, 1) := by decide +kernel
theorem dX2_about_122 : decode cX2_about 122 = .ok (.iconst 0, 1) := by decide +kernel
theorem dX2_about_123 : decode cX2_about 123 = .ok (.istore 8, 2) := by decide +kernel
theorem dX2_about_125 : decode cX2_about 125 = .ok (.iload_n 1, 1) := by decide +kernel
theorem dX2_about_126 : decode cX2_about 126 = .ok (.istore 9, 2) := by decide +kernel
theorem dX2_about_128 : decode cX2_about 128 = .ok (.iload 9, 2) := by decide +kernel
theorem dX2_about_130 : decode cX2_about 130 = .ok (.iload_n 2, 1) := by decide +kernel
theorem dX2_about_131 : decode cX2_about 131 = .ok (.if_icmp .ge 22, 3) := by decide +kernel
theorem dX2_about_134 : decode cX2_about 134 = .ok (.aload_n 0, 1) := by decide +kernel
theorem dX2_about_135 : decode cX2_about 135 = .ok (.getfield 9, 3) := by decide +kernel
theorem dX2_about_138 : decode cX2_about 138 = .ok (.iload 9, 2) := by decide +kernel
theorem dX2_about_140 : decode cX2_about 140 = .ok (.iaload, 1) := by decide +kernel
theorem dX2_about_141 : decode cX2_about 141 = .ok (.ifCond .eq 6, 3) := by decide +kernel
theorem dX2_about_144 : decode cX2_about 144 = .ok (.iinc 8 1, 3) := by decide +kernel
theorem dX2_about_147 : decode cX2_about 147 = .ok (.iinc 9 1, 3) := by decide +kernel
theorem dX2_about_150 : decode cX2_about 150 = .ok (.goto (-22), 3) := by decide +kernel
theorem dX2_about_153 : decode cX2_about 153 = .ok (.iload 8, 2) := by decide +kernel
theorem dX2_about_155 : decode cX2_about 155 = .ok (.ireturn, 1) := by decide +kernel
theorem dJ9_max_f86c9_0 : decode cJ9_max_f86c9 0 = .ok (.lload_n 0, 1) := by decide +kernel
theorem dJ9_max_f86c9_1 : decode cJ9_max_f86c9 1 = .ok (.lload_n 2, 1) := by decide +kernel
theorem dJ9_max_f86c9_2 : decode cJ9_max_f86c9 2 = .ok (.lcmp, 1) := by decide +kernel
theorem dJ9_max_f86c9_3 : decode cJ9_max_f86c9 3 = .ok (.ifCond .lt 7, 3) := by decide +kernel
theorem dJ9_max_f86c9_6 : decode cJ9_max_f86c9 6 = .ok (.lload_n 0, 1) := by decide +kernel
theorem dJ9_max_f86c9_7 : decode cJ9_max_f86c9 7 = .ok (.goto 4, 3) := by decide +kernel
theorem dJ9_max_f86c9_10 : decode cJ9_max_f86c9 10 = .ok (.lload_n 2, 1) := by decide +kernel
theorem dJ9_max_f86c9_11 : decode cJ9_max_f86c9 11 = .ok (.lreturn, 1) := by decide +kernel
theorem dJ9_min_f86c9_0 : decode cJ9_min_f86c9 0 = .ok (.lload_n 0, 1) := by decide +kernel
theorem dJ9_min_f86c9_1 : decode cJ9_min_f86c9 1 = .ok (.lload_n 2, 1) := by decide +kernel
theorem dJ9_min_f86c9_2 : decode cJ9_min_f86c9 2 = .ok (.lcmp, 1) := by decide +kernel
theorem dJ9_min_f86c9_3 : decode cJ9_min_f86c9 3 = .ok (.ifCond .gt 7, 3) := by decide +kernel
theorem dJ9_min_f86c9_6 : decode cJ9_min_f86c9 6 = .ok (.lload_n 0, 1) := by decide +kernel
theorem dJ9_min_f86c9_7 : decode cJ9_min_f86c9 7 = .ok (.goto 4, 3) := by decide +kernel
theorem dJ9_min_f86c9_10 : decode cJ9_min_f86c9 10 = .ok (.lload_n 2, 1) := by decide +kernel
theorem dJ9_min_f86c9_11 : decode cJ9_min_f86c9 11 = .ok (.lreturn, 1) := by decide +kernel
set_option maxRecDepth 20000 in
theorem ggL_set_X1_set : GoodIn wsL_set wsX1_set := goodIn_ca (goodIn_ca (goodIn_r _ [7, 8, 9, 10, 11, 6, 12, 13, 14, 15, 16, 17, 18, 19, 20, 21, 22, 23] (by decide +kernel) (by decide +kernel)) (goodIn_sub (fun _ h => List.mem_cons_of_mem _ (List.mem_append_left _ (List.mem_append_right _ h))) (by decide +kernel))) (goodIn_sub (fun _ h => List.mem_cons_of_mem _ (List.mem_append_right _ h)) (by decide +kernel))
set_option maxRecDepth 20000 in
theorem gL_set_X1_set : GoodIn wsL_set (wsV RL 7 RX1 yX1_set wsX1_set) := goodIn_app (goodIn_of _ (by decide +kernel)) ggL_set_X1_set
theorem dL_set_0 : decode cL_set 0 = .ok (.aload_n 0, 1) := by decide +kernel
theorem dL_set_1 : decode cL_set 1 = .ok (.iload_n 1, 1) := by decide +kernel
theorem dL_set_2 : decode cL_set 2 = .ok (.iload_n 2, 1) := by decide +kernel
theorem dL_set_3 : decode cL_set 3 = .ok (.lload_n 3, 1) := by decide +kernel
theorem dL_set_4 : decode cL_set 4 = .ok (.invokevirtual 7, 3) := by decide +kernel
theorem dL_set_7 : decode cL_set 7 = .ok (.goto 11, 3) := by decide +kernel
theorem dL_set_10 : decode cL_set 10 = .ok (.astore 5, 2) := by decide +kernel
theorem dL_set_12 : decode cL_set 12 = .ok (.iconst 1, 1) := by decide +kernel
theorem dL_set_13 : decode cL_set 13 = .ok (.ireturn, 1) := by decide +kernel
theorem dL_set_14 : decode cL_set 14 = .ok (.astore 5, 2) := by decide +kernel
theorem dL_set_16 : decode cL_set 16 = .ok (.iconst 2, 1) := by decide +kernel
theorem dL_set_17 : decode cL_set 17 = .ok (.ireturn, 1) := by decide +kernel
theorem dL_set_18 : decode cL_set 18 = .ok (.iconst 0, 1) := by decide +kernel
theorem dL_set_19 : decode cL_set 19 = .ok (.ireturn, 1) := by decide +kernel
set_option maxRecDepth 20000 in
theorem ggL_fill_X1_fill : GoodIn wsL_fill wsX1_fill := goodIn_ca (goodIn_ca (goodIn_r _ [7, 8, 9, 10, 11, 6, 12, 13, 14, 15, 16, 17, 18, 19, 20, 21, 22, 23] (by decide +kernel) (by decide +kernel)) (goodIn_sub (fun _ h => List.mem_cons_of_mem _ (List.mem_append_left _ (List.mem_append_right _ h))) (by decide +kernel))) (goodIn_sub (fun _ h => List.mem_cons_of_mem _ (List.mem_append_right _ h)) (by decide +kernel))
set_option maxRecDepth 20000 in
theorem gL_fill_X1_fill : GoodIn wsL_fill (wsV RL 17 RX1 yX1_fill wsX1_fill) := goodIn_app (goodIn_of _ (by decide +kernel)) ggL_fill_X1_fill
theorem dL_fill_0 : decode cL_fill 0 = .ok (.aload_n 0, 1) := by decide +kernel
theorem dL_fill_1 : decode cL_fill 1 = .ok (.iload_n 1, 1) := by decide +kernel
theorem dL_fill_2 : decode cL_fill 2 = .ok (.iload_n 2, 1) := by decide +kernel
theorem dL_fill_3 : decode cL_fill 3 = .ok (.iload_n 3, 1) := by decide +kernel
theorem dL_fill_4 : decode cL_fill 4 = .ok (.lload 4, 2) := by decide +kernel
theorem dL_fill_6 : decode cL_fill 6 = .ok (.invokevirtual 17, 3) := by decide +kernel
theorem dL_fill_9 : decode cL_fill 9 = .ok (.goto 11, 3) := by decide +kernel
theorem dL_fill_12 : decode cL_fill 12 = .ok (.astore 6, 2) := by decide +kernel
theorem dL_fill_14 : decode cL_fill 14 = .ok (.iconst 1, 1) := by decide +kernel
theorem dL_fill_15 : decode cL_fill 15 = .ok (.ireturn, 1) := by decide +kernel
theorem dL_fill_16 : decode cL_fill 16 = .ok (.astore 6, 2) := by decide +kernel
theorem dL_fill_18 : decode cL_fill 18 = .ok (.iconst 2, 1) := by decide +kernel
theorem dL_fill_19 : decode cL_fill 19 = .ok (.ireturn, 1) := by decide +kernel
theorem dL_fill_20 : decode cL_fill 20 = .ok (.iconst 0, 1) := by decide +kernel
theorem dL_fill_21 : decode cL_fill 21 = .ok (.ireturn, 1) := by decide +kernel
set_option maxRecDepth 20000 in
theorem ggL_swap_X1_swap : GoodIn wsL_swap wsX1_swap := goodIn_ca (goodIn_r _ [6, 7, 8, 9, 10, 5, 11, 12, 13, 14, 15] (by decide +kernel) (by decide +kernel)) (goodIn_sub (fun _ h => List.mem_cons_of_mem _ (List.mem_append_right _ h)) (by decide +kernel))
set_option maxRecDepth 20000 in
theorem gL_swap_X1_swap : GoodIn wsL_swap (wsV RL 21 RX1 yX1_swap wsX1_swap) := goodIn_app (goodIn_of _ (by decide +kernel)) ggL_swap_X1_swap
theorem dL_swap_0 : decode cL_swap 0 = .ok (.aload_n 0, 1) := by decide +kernel
theorem dL_swap_1 : decode cL_swap 1 = .ok (.iload_n 1, 1) := by decide +kernel
theorem dL_swap_2 : decode cL_swap 2 = .ok (.iload_n 2, 1) := by decide +kernel
theorem dL_swap_3 : decode cL_swap 3 = .ok (.invokevirtual 21, 3) := by decide +kernel
theorem dL_swap_6 : decode cL_swap 6 = .ok (.goto 6, 3) := by decide +kernel
theorem dL_swap_9 : decode cL_swap 9 = .ok (.astore_n 3, 1) := by decide +kernel
theorem dL_swap_10 : decode cL_swap 10 = .ok (.iconst 1, 1) := by decide +kernel
theorem dL_swap_11 : decode cL_swap 11 = .ok (.ireturn, 1) := by decide +kernel
theorem dL_swap_12 : decode cL_swap 12 = .ok (.iconst 0, 1) := by decide +kernel
theorem dL_swap_13 : decode cL_swap 13 = .ok (.ireturn, 1) := by decide +kernel
set_option maxRecDepth 20000 in
theorem ggL_fold_X1_fold : GoodIn wsL_fold wsX1_fold := goodIn_ca (goodIn_ca (goodIn_r _ [7, 8, 9, 6, 10, 11, 12, 13, 14, 15, 16, 17, 18, 19, 20, 21, 22, 23, 24, 25, 26, 27, 28, 29, 30, 31, 32, 33, 34, 35, 36, 37, 38, 39, 40, 41, 42, 43, 44, 45, 46, 47, 48, 49, 50, 51, 52, 53, 54, 55, 56, 57, 58, 59, 60, 61, 62, 63, 64, 65, 66, 67, 68, 69, 70, 71, 72] (by decide +kernel) (by decide +kernel)) (goodIn_sub (fun _ h => List.mem_cons_of_mem _ (List.mem_append_left _ (List.mem_append_right _ h))) (by decide +kernel))) (goodIn_sub (fun _ h => List.mem_cons_of_mem _ (List.mem_append_right _ h)) (by decide +kernel))
set_option maxRecDepth 20000 in
theorem gL_fold_X1_fold : GoodIn wsL_fold (wsV RL 25 RX1 yX1_fold wsX1_fold) := goodIn_app (goodIn_of _ (by decide +kernel)) ggL_fold_X1_fold
theorem dL_fold_0 : decode cL_fold 0 = .ok (.aload 5, 2) := by decide +kernel
theorem dL_fold_2 : decode cL_fold 2 = .ok (.iconst 0, 1) := by decide +kernel
theorem dL_fold_3 : decode cL_fold 3 = .ok (.aload_n 0, 1) := by decide +kernel
theorem dL_fold_4 : decode cL_fold 4 = .ok (.iload_n 1, 1) := by decide +kernel
theorem dL_fold_5 : decode cL_fold 5 = .ok (.iload_n 2, 1) := by decide +kernel
theorem dL_fold_6 : decode cL_fold 6 = .ok (.lload_n 3, 1) := by decide +kernel
theorem dL_fold_7 : decode cL_fold 7 = .ok (.invokevirtual 25, 3) := by decide +kernel
theorem dL_fold_10 : decode cL_fold 10 = .ok (.lastore, 1) := by decide +kernel
theorem dL_fold_11 : decode cL_fold 11 = .ok (.goto 11, 3) := by decide +kernel
theorem dL_fold_14 : decode cL_fold 14 = .ok (.astore 6, 2) := by decide +kernel
theorem dL_fold_16 : decode cL_fold 16 = .ok (.iconst 1, 1) := by decide +kernel
theorem dL_fold_17 : decode cL_fold 17 = .ok (.ireturn, 1) := by decide +kernel
theorem dL_fold_18 : decode cL_fold 18 = .ok (.astore 6, 2) := by decide +kernel
theorem dL_fold_20 : decode cL_fold 20 = .ok (.iconst 2, 1) := by decide +kernel
theorem dL_fold_21 : decode cL_fold 21 = .ok (.ireturn, 1) := by decide +kernel
theorem dL_fold_22 : decode cL_fold 22 = .ok (.iconst 0, 1) := by decide +kernel
theorem dL_fold_23 : decode cL_fold 23 = .ok (.ireturn, 1) := by decide +kernel
set_option maxRecDepth 20000 in
theorem ggL_again_X1_again : GoodIn wsL_again wsX1_again := goodIn_ca (goodIn_ca (goodIn_r _ [7, 8, 9, 6, 10, 11, 12, 13, 14, 15, 16, 17, 18, 19, 20, 21, 22, 23, 24, 25, 26, 27, 28, 29, 30, 31, 32, 33, 34, 35, 36, 37, 38, 39, 40, 41, 42, 43, 44, 45, 46, 47, 48, 49, 50, 51, 52, 53, 54, 55, 56, 57, 58, 59, 60, 61, 62, 63, 64, 65, 66, 67, 68, 69, 70, 71, 72, 73, 74, 75] (by decide +kernel) (by decide +kernel)) (goodIn_sub (fun _ h => List.mem_cons_of_mem _ (List.mem_append_left _ (List.mem_append_right _ h))) (by decide +kernel))) (goodIn_sub (fun _ h => List.mem_cons_of_mem _ (List.mem_append_right _ h)) (by decide +kernel))
set_option maxRecDepth 20000 in
theorem gL_again_X1_again : GoodIn wsL_again (wsV RL 29 RX1 yX1_again wsX1_again) := goodIn_app (goodIn_of _ (by decide +kernel)) ggL_again_X1_again
theorem dL_again_0 : decode cL_again 0 = .ok (.aload 6, 2) := by decide +kernel
theorem dL_again_2 : decode cL_again 2 = .ok (.iconst 0, 1) := by decide +kernel
theorem dL_again_3 : decode cL_again 3 = .ok (.aload_n 0, 1) := by decide +kernel
theorem dL_again_4 : decode cL_again 4 = .ok (.iload_n 1, 1) := by decide +kernel
theorem dL_again_5 : decode cL_again 5 = .ok (.iload_n 2, 1) := by decide +kernel
theorem dL_again_6 : decode cL_again 6 = .ok (.lload_n 3, 1) := by decide +kernel
theorem dL_again_7 : decode cL_again 7 = .ok (.iload 5, 2) := by decide +kernel
theorem dL_again_9 : decode cL_again 9 = .ok (.invokevirtual 29, 3) := by decide +kernel
theorem dL_again_12 : decode cL_again 12 = .ok (.lastore, 1) := by decide +kernel
theorem dL_again_13 : decode cL_again 13 = .ok (.goto 11, 3) := by decide +kernel
theorem dL_again_16 : decode cL_again 16 = .ok (.astore 7, 2) := by decide +kernel
theorem dL_again_18 : decode cL_again 18 = .ok (.iconst 1, 1) := by decide +kernel
theorem dL_again_19 : decode cL_again 19 = .ok (.ireturn, 1) := by decide +kernel
theorem dL_again_20 : decode cL_again 20 = .ok (.astore 7, 2) := by decide +kernel
theorem dL_again_22 : decode cL_again 22 = .ok (.iconst 2, 1) := by decide +kernel
theorem dL_again_23 : decode cL_again 23 = .ok (.ireturn, 1) := by decide +kernel
theorem dL_again_24 : decode cL_again 24 = .ok (.iconst 0, 1) := by decide +kernel
theorem dL_again_25 : decode cL_again 25 = .ok (.ireturn, 1) := by decide +kernel
set_option maxRecDepth 20000 in
theorem ggL_least_X1_least : GoodIn wsL_least wsX1_least := goodIn_ca (goodIn_ca (goodIn_r _ [7, 8, 9, 10, 11, 6, 12, 13, 14, 15, 16, 17, 18, 19, 20, 21, 22, 23, 24, 25, 26, 27, 28, 29, 30, 31, 32, 33, 34, 35, 36, 37, 38, 39, 40, 41, 42, 43, 44, 45, 46, 47, 48, 49, 50, 51, 52, 53, 54, 55, 56, 57, 58, 59, 60, 61, 62, 63] (by decide +kernel) (by decide +kernel)) (goodIn_sub (fun _ h => List.mem_cons_of_mem _ (List.mem_append_left _ (List.mem_append_right _ h))) (by decide +kernel))) (goodIn_sub (fun _ h => List.mem_cons_of_mem _ (List.mem_append_right _ h)) (by decide +kernel))
set_option maxRecDepth 20000 in
theorem gL_least_X1_least : GoodIn wsL_least (wsV RL 33 RX1 yX1_least wsX1_least) := goodIn_app (goodIn_of _ (by decide +kernel)) ggL_least_X1_least
theorem dL_least_0 : decode cL_least 0 = .ok (.aload_n 3, 1) := by decide +kernel
theorem dL_least_1 : decode cL_least 1 = .ok (.iconst 0, 1) := by decide +kernel
theorem dL_least_2 : decode cL_least 2 = .ok (.aload_n 0, 1) := by decide +kernel
theorem dL_least_3 : decode cL_least 3 = .ok (.iload_n 1, 1) := by decide +kernel
theorem dL_least_4 : decode cL_least 4 = .ok (.iload_n 2, 1) := by decide +kernel
theorem dL_least_5 : decode cL_least 5 = .ok (.invokevirtual 33, 3) := by decide +kernel
theorem dL_least_8 : decode cL_least 8 = .ok (.lastore, 1) := by decide +kernel
theorem dL_least_9 : decode cL_least 9 = .ok (.goto 11, 3) := by decide +kernel
theorem dL_least_12 : decode cL_least 12 = .ok (.astore 4, 2) := by decide +kernel
theorem dL_least_14 : decode cL_least 14 = .ok (.iconst 1, 1) := by decide +kernel
theorem dL_least_15 : decode cL_least 15 = .ok (.ireturn, 1) := by decide +kernel
theorem dL_least_16 : decode cL_least 16 = .ok (.astore 4, 2) := by decide +kernel
theorem dL_least_18 : decode cL_least 18 = .ok (.iconst 2, 1) := by decide +kernel
theorem dL_least_19 : decode cL_least 19 = .ok (.ireturn, 1) := by decide +kernel
theorem dL_least_20 : decode cL_least 20 = .ok (.iconst 0, 1) := by decide +kernel
theorem dL_least_21 : decode cL_least 21 = .ok (.ireturn, 1) := by decide +kernel
set_option maxRecDepth 20000 in
theorem ggL_greatest_X1_greatest : GoodIn wsL_greatest wsX1_greatest := goodIn_ca (goodIn_ca (goodIn_r _ [7, 8, 9, 10, 11, 6, 12, 13, 14, 15, 16, 17, 18, 19, 20, 21, 22, 23, 24, 25, 26, 27, 28, 29, 30, 31, 32, 33, 34, 35, 36, 37, 38, 39, 40, 41, 42, 43, 44, 45, 46, 47, 48, 49, 50, 51, 52, 53, 54, 55, 56, 57, 58, 59, 60, 61, 62, 63] (by decide +kernel) (by decide +kernel)) (goodIn_sub (fun _ h => List.mem_cons_of_mem _ (List.mem_append_left _ (List.mem_append_right _ h))) (by decide +kernel))) (goodIn_sub (fun _ h => List.mem_cons_of_mem _ (List.mem_append_right _ h)) (by decide +kernel))
set_option maxRecDepth 20000 in
theorem gL_greatest_X1_greatest : GoodIn wsL_greatest (wsV RL 39 RX1 yX1_greatest wsX1_greatest) := goodIn_app (goodIn_of _ (by decide +kernel)) ggL_greatest_X1_greatest
theorem dL_greatest_0 : decode cL_greatest 0 = .ok (.aload_n 3, 1) := by decide +kernel
theorem dL_greatest_1 : decode cL_greatest 1 = .ok (.iconst 0, 1) := by decide +kernel
theorem dL_greatest_2 : decode cL_greatest 2 = .ok (.aload_n 0, 1) := by decide +kernel
theorem dL_greatest_3 : decode cL_greatest 3 = .ok (.iload_n 1, 1) := by decide +kernel
theorem dL_greatest_4 : decode cL_greatest 4 = .ok (.iload_n 2, 1) := by decide +kernel
theorem dL_greatest_5 : decode cL_greatest 5 = .ok (.invokevirtual 39, 3) := by decide +kernel
theorem dL_greatest_8 : decode cL_greatest 8 = .ok (.lastore, 1) := by decide +kernel
theorem dL_greatest_9 : decode cL_greatest 9 = .ok (.goto 11, 3) := by decide +kernel
theorem dL_greatest_12 : decode cL_greatest 12 = .ok (.astore 4, 2) := by decide +kernel
theorem dL_greatest_14 : decode cL_greatest 14 = .ok (.iconst 1, 1) := by decide +kernel
theorem dL_greatest_15 : decode cL_greatest 15 = .ok (.ireturn, 1) := by decide +kernel
theorem dL_greatest_16 : decode cL_greatest 16 = .ok (.astore 4, 2) := by decide +kernel
theorem dL_greatest_18 : decode cL_greatest 18 = .ok (.iconst 2, 1) := by decide +kernel
theorem dL_greatest_19 : decode cL_greatest 19 = .ok (.ireturn, 1) := by decide +kernel
theorem dL_greatest_20 : decode cL_greatest 20 = .ok (.iconst 0, 1) := by decide +kernel
theorem dL_greatest_21 : decode cL_greatest 21 = .ok (.ireturn, 1) := by decide +kernel
set_option maxRecDepth 20000 in
theorem ggL_fixed_X1_fixed : GoodIn wsL_fixed wsX1_fixed := goodIn_ca (goodIn_ca (goodIn_r _ [7, 8, 9, 10, 11, 6, 12, 13, 14, 15, 16, 17, 18, 19, 20, 21, 22, 23, 24, 25, 26, 27, 28, 29, 30, 31, 32, 33, 34, 35, 36, 37, 38, 39, 40, 41, 42, 43, 44, 45, 46, 47, 48, 49, 50, 51, 52, 53, 54, 55, 56, 57, 58, 59, 60, 61, 62, 63, 64, 65, 66, 67] (by decide +kernel) (by decide +kernel)) (goodIn_sub (fun _ h => List.mem_cons_of_mem _ (List.mem_append_left _ (List.mem_append_right _ h))) (by decide +kernel))) (goodIn_sub (fun _ h => List.mem_cons_of_mem _ (List.mem_append_right _ h)) (by decide +kernel))
set_option maxRecDepth 20000 in
theorem gL_fixed_X1_fixed : GoodIn wsL_fixed (wsV RL 42 RX1 yX1_fixed wsX1_fixed) := goodIn_app (goodIn_of _ (by decide +kernel)) ggL_fixed_X1_fixed
theorem dL_fixed_0 : decode cL_fixed 0 = .ok (.aload 4, 2) := by decide +kernel
theorem dL_fixed_2 : decode cL_fixed 2 = .ok (.iconst 0, 1) := by decide +kernel
theorem dL_fixed_3 : decode cL_fixed 3 = .ok (.aload_n 0, 1) := by decide +kernel
theorem dL_fixed_4 : decode cL_fixed 4 = .ok (.iload_n 1, 1) := by decide +kernel
theorem dL_fixed_5 : decode cL_fixed 5 = .ok (.iload_n 2, 1) := by decide +kernel
theorem dL_fixed_6 : decode cL_fixed 6 = .ok (.iload_n 3, 1) := by decide +kernel
theorem dL_fixed_7 : decode cL_fixed 7 = .ok (.invokevirtual 42, 3) := by decide +kernel
theorem dL_fixed_10 : decode cL_fixed 10 = .ok (.lastore, 1) := by decide +kernel
theorem dL_fixed_11 : decode cL_fixed 11 = .ok (.goto 11, 3) := by decide +kernel
theorem dL_fixed_14 : decode cL_fixed 14 = .ok (.astore 5, 2) := by decide +kernel
theorem dL_fixed_16 : decode cL_fixed 16 = .ok (.iconst 1, 1) := by decide +kernel
theorem dL_fixed_17 : decode cL_fixed 17 = .ok (.ireturn, 1) := by decide +kernel
theorem dL_fixed_18 : decode cL_fixed 18 = .ok (.astore 5, 2) := by decide +kernel
theorem dL_fixed_20 : decode cL_fixed 20 = .ok (.iconst 2, 1) := by decide +kernel
theorem dL_fixed_21 : decode cL_fixed 21 = .ok (.ireturn, 1) := by decide +kernel
theorem dL_fixed_22 : decode cL_fixed 22 = .ok (.iconst 0, 1) := by decide +kernel
theorem dL_fixed_23 : decode cL_fixed 23 = .ok (.ireturn, 1) := by decide +kernel
set_option maxRecDepth 20000 in
theorem ggL_about_X1_about : GoodIn wsL_about wsX1_about := goodIn_ca (goodIn_ca (goodIn_r _ [7, 8, 9, 6, 10, 11, 12, 13, 14, 15, 16, 17, 18, 19, 20, 21, 22, 23, 24, 25, 26, 27, 28, 29, 30, 31, 32, 33, 34, 35, 36, 37, 38, 39, 40, 41, 42, 43, 44, 45, 46, 47, 48, 49, 50, 51, 52, 53, 54, 55, 56, 57, 58, 59, 60, 61, 62, 63, 64, 65, 66, 67, 68, 69, 70, 71, 72, 73, 74, 75, 76, 77, 78] (by decide +kernel) (by decide +kernel)) (goodIn_sub (fun _ h => List.mem_cons_of_mem _ (List.mem_append_left _ (List.mem_append_right _ h))) (by decide +kernel))) (goodIn_sub (fun _ h => List.mem_cons_of_mem _ (List.mem_append_right _ h)) (by decide +kernel))
set_option maxRecDepth 20000 in
theorem gL_about_X1_about : GoodIn wsL_about (wsV RL 46 RX1 yX1_about wsX1_about) := goodIn_app (goodIn_of _ (by decide +kernel)) ggL_about_X1_about
theorem dL_about_0 : decode cL_about 0 = .ok (.aload 4, 2) := by decide +kernel
theorem dL_about_2 : decode cL_about 2 = .ok (.iconst 0, 1) := by decide +kernel
theorem dL_about_3 : decode cL_about 3 = .ok (.aload_n 0, 1) := by decide +kernel
theorem dL_about_4 : decode cL_about 4 = .ok (.iload_n 1, 1) := by decide +kernel
theorem dL_about_5 : decode cL_about 5 = .ok (.iload_n 2, 1) := by decide +kernel
theorem dL_about_6 : decode cL_about 6 = .ok (.iload_n 3, 1) := by decide +kernel
theorem dL_about_7 : decode cL_about 7 = .ok (.invokevirtual 46, 3) := by decide +kernel
theorem dL_about_10 : decode cL_about 10 = .ok (.i2l, 1) := by decide +kernel
theorem dL_about_11 : decode cL_about 11 = .ok (.lastore, 1) := by decide +kernel
theorem dL_about_12 : decode cL_about 12 = .ok (.goto 11, 3) := by decide +kernel
theorem dL_about_15 : decode cL_about 15 = .ok (.astore 5, 2) := by decide +kernel
theorem dL_about_17 : decode cL_about 17 = .ok (.iconst 1, 1) := by decide +kernel
theorem dL_about_18 : decode cL_about 18 = .ok (.ireturn, 1) := by decide +kernel
theorem dL_about_19 : decode cL_about 19 = .ok (.astore 5, 2) := by decide +kernel
theorem dL_about_21 : decode cL_about 21 = .ok (.iconst 2, 1) := by decide +kernel
theorem dL_about_22 : decode cL_about 22 = .ok (.ireturn, 1) := by decide +kernel
theorem dL_about_23 : decode cL_about 23 = .ok (.iconst 0, 1) := by decide +kernel
theorem dL_about_24 : decode cL_about 24 = .ok (.ireturn, 1) := by decide +kernel
set_option maxRecDepth 20000 in
theorem ggL_law_X1_init : GoodIn wsL_law wsX1_init := goodIn_r _ [10, 11, 12, 13, 14, 15, 6, 16, 251, 252] (by decide +kernel) (by decide +kernel)
set_option maxRecDepth 20000 in
theorem gL_law_X1_init : GoodIn wsL_law (wsX1_init) := ggL_law_X1_init
set_option maxRecDepth 20000 in
theorem ggL_law_X2_init : GoodIn wsL_law wsX2_init := goodIn_r _ [19, 20, 12, 13, 14, 21, 6, 22, 253, 254, 255] (by decide +kernel) (by decide +kernel)
set_option maxRecDepth 20000 in
theorem gL_law_X2_init : GoodIn wsL_law (wsX2_init) := ggL_law_X2_init
set_option maxRecDepth 20000 in
theorem ggL_law_L_set : GoodIn wsL_law wsL_set := goodIn_ca (goodIn_ca (goodIn_r _ [26, 27, 28, 29, 30, 31, 2, 32, 15, 16, 33, 34, 35, 36, 37, 38, 39, 40, 41, 42, 43, 44, 251, 252] (by decide +kernel) (by decide +kernel)) (goodIn_sub (fun _ h => List.mem_append_left _ (List.mem_append_left _ (List.mem_append_right _ h))) (by decide +kernel))) (goodIn_sub (fun _ h => List.mem_append_left _ (List.mem_append_right _ h)) (by decide +kernel))
set_option maxRecDepth 20000 in
theorem gL_law_L_set : GoodIn wsL_law (va_wsS RL 56 yL_set wsL_set) := goodIn_app (goodIn_of _ (by decide +kernel)) ggL_law_L_set
set_option maxRecDepth 20000 in
theorem ggL_law_X2_set : GoodIn wsL_law wsX2_set := goodIn_r _ [48, 49, 50, 21, 22, 51, 52, 5, 53, 54, 55, 56, 57, 58, 59, 60, 61, 62, 63, 253, 254, 255] (by decide +kernel) (by decide +kernel)
set_option maxRecDepth 20000 in
theorem gL_law_X2_set : GoodIn wsL_law (wsV RL 61 RX2 yX2_set wsX2_set) := goodIn_app (goodIn_of _ (by decide +kernel)) ggL_law_X2_set
set_option maxRecDepth 20000 in
theorem ggL_law_X2_thrown : GoodIn wsL_law wsX2_thrown := goodIn_r _ [67, 49, 253, 254, 255] (by decide +kernel) (by decide +kernel)
set_option maxRecDepth 20000 in
theorem gL_law_X2_thrown : GoodIn wsL_law (wsV RL 62 RX2 yX2_thrown wsX2_thrown) := goodIn_app (goodIn_of _ (by decide +kernel)) ggL_law_X2_thrown
set_option maxRecDepth 20000 in
theorem ggL_law_L_fill : GoodIn wsL_law wsL_fill := goodIn_ca (goodIn_ca (goodIn_r _ [70, 27, 28, 71, 72, 73, 2, 74, 15, 16, 33, 34, 35, 36, 37, 38, 39, 75, 76, 77, 43, 44, 251, 252] (by decide +kernel) (by decide +kernel)) (goodIn_sub (fun _ h => List.mem_append_left _ (List.mem_append_left _ (List.mem_append_right _ h))) (by decide +kernel))) (goodIn_sub (fun _ h => List.mem_append_left _ (List.mem_append_right _ h)) (by decide +kernel))
set_option maxRecDepth 20000 in
theorem gL_law_L_fill : GoodIn wsL_law (va_wsS RL 66 yL_fill wsL_fill) := goodIn_app (goodIn_of _ (by decide +kernel)) ggL_law_L_fill
set_option maxRecDepth 20000 in
theorem ggL_law_X2_fill : GoodIn wsL_law wsX2_fill := goodIn_r _ [81, 49, 21, 22, 51, 52, 5, 53, 54, 55, 56, 57, 58, 59, 60, 61, 62, 63, 82, 83, 84, 253, 254, 255] (by decide +kernel) (by decide +kernel)
set_option maxRecDepth 20000 in
theorem gL_law_X2_fill : GoodIn wsL_law (wsV RL 69 RX2 yX2_fill wsX2_fill) := goodIn_app (goodIn_of _ (by decide +kernel)) ggL_law_X2_fill
set_option maxRecDepth 20000 in
theorem ggL_law_L_swap : GoodIn wsL_law wsL_swap := goodIn_ca (goodIn_r _ [87, 28, 88, 89, 90, 2, 91, 15, 16, 40, 41, 42, 43, 44, 251, 252] (by decide +kernel) (by decide +kernel)) (goodIn_sub (fun _ h => List.mem_append_left _ (List.mem_append_right _ h)) (by decide +kernel))
set_option maxRecDepth 20000 in
theorem gL_law_L_swap : GoodIn wsL_law (va_wsS RL 70 yL_swap wsL_swap) := goodIn_app (goodIn_of _ (by decide +kernel)) ggL_law_L_swap
set_option maxRecDepth 20000 in
theorem ggL_law_X2_swap : GoodIn wsL_law wsX2_swap := goodIn_r _ [95, 49, 50, 21, 22, 57, 58, 5, 59, 60, 61, 62, 63, 253, 254, 255] (by decide +kernel) (by decide +kernel)
set_option maxRecDepth 20000 in
theorem gL_law_X2_swap : GoodIn wsL_law (wsV RL 73 RX2 yX2_swap wsX2_swap) := goodIn_app (goodIn_of _ (by decide +kernel)) ggL_law_X2_swap
set_option maxRecDepth 20000 in
theorem ggL_law_L_fold : GoodIn wsL_law wsL_fold := goodIn_ca (goodIn_ca (goodIn_r _ [98, 27, 28, 99, 100, 101, 2, 102, 103, 104, 105, 36, 37, 106, 107, 75, 76, 77, 43, 44, 108, 109, 110, 111, 112, 113, 114, 15, 16, 115, 116, 117, 12, 13, 118, 119, 120, 121, 122, 123, 124, 125, 126, 127, 128, 129, 130, 131, 132, 133, 134, 135, 136, 137, 138, 139, 140, 141, 142, 143, 144, 145, 146, 147, 148, 149, 256, 257, 258, 259, 260, 251, 252] (by decide +kernel) (by decide +kernel)) (goodIn_sub (fun _ h => List.mem_append_left _ (List.mem_append_left _ (List.mem_append_right _ h))) (by decide +kernel))) (goodIn_sub (fun _ h => List.mem_append_left _ (List.mem_append_right _ h)) (by decide +kernel))
set_option maxRecDepth 20000 in
theorem gL_law_L_fold : GoodIn wsL_law (va_wsS RL 74 yL_fold wsL_fold) := goodIn_app (goodIn_of _ (by decide +kernel)) ggL_law_L_fold
set_option maxRecDepth 20000 in
theorem ggL_law_X2_fold : GoodIn wsL_law wsX2_fold := goodIn_r _ [153, 49, 154, 155, 5, 156, 157, 158, 57, 58, 59, 60, 61, 62, 63, 82, 83, 84, 159, 160, 161, 162, 21, 22, 253, 254, 255] (by decide +kernel) (by decide +kernel)
set_option maxRecDepth 20000 in
theorem gL_law_X2_fold : GoodIn wsL_law (wsV RL 77 RX2 yX2_fold wsX2_fold) := goodIn_app (goodIn_of _ (by decide +kernel)) ggL_law_X2_fold
set_option maxRecDepth 20000 in
theorem ggL_law_L_again : GoodIn wsL_law wsL_again := goodIn_ca (goodIn_ca (goodIn_r _ [165, 27, 28, 166, 167, 168, 2, 169, 103, 104, 105, 36, 37, 106, 107, 170, 171, 172, 75, 76, 77, 43, 44, 108, 109, 110, 111, 112, 113, 114, 15, 16, 115, 116, 117, 12, 13, 118, 119, 120, 121, 122, 123, 124, 125, 126, 127, 128, 129, 130, 131, 132, 133, 134, 135, 136, 137, 138, 139, 140, 141, 142, 143, 144, 145, 146, 147, 148, 149, 256, 257, 258, 259, 260, 251, 252] (by decide +kernel) (by decide +kernel)) (goodIn_sub (fun _ h => List.mem_append_left _ (List.mem_append_left _ (List.mem_append_right _ h))) (by decide +kernel))) (goodIn_sub (fun _ h => List.mem_append_left _ (List.mem_append_right _ h)) (by decide +kernel))
set_option maxRecDepth 20000 in
theorem gL_law_L_again : GoodIn wsL_law (va_wsS RL 78 yL_again wsL_again) := goodIn_app (goodIn_of _ (by decide +kernel)) ggL_law_L_again
set_option maxRecDepth 20000 in
theorem ggL_law_X2_again : GoodIn wsL_law wsX2_again := goodIn_r _ [176, 49, 177, 154, 155, 5, 156, 157, 158, 57, 58, 59, 60, 61, 62, 63, 82, 83, 84, 159, 160, 161, 162, 21, 22, 253, 254, 255] (by decide +kernel) (by decide +kernel)
set_option maxRecDepth 20000 in
theorem gL_law_X2_again : GoodIn wsL_law (wsV RL 81 RX2 yX2_again wsX2_again) := goodIn_app (goodIn_of _ (by decide +kernel)) ggL_law_X2_again
set_option maxRecDepth 20000 in
theorem ggL_law_L_least : GoodIn wsL_law wsL_least := goodIn_ca (goodIn_ca (goodIn_r _ [180, 28, 181, 182, 183, 184, 2, 185, 186, 187, 75, 76, 77, 43, 44, 108, 109, 110, 111, 112, 113, 114, 15, 16, 115, 116, 117, 12, 13, 118, 119, 120, 121, 122, 123, 124, 125, 126, 127, 128, 129, 130, 131, 132, 133, 134, 135, 136, 137, 138, 139, 140, 141, 142, 143, 144, 145, 256, 257, 258, 259, 260, 251, 252] (by decide +kernel) (by decide +kernel)) (goodIn_sub (fun _ h => List.mem_append_right _ h) (by decide +kernel))) (goodIn_sub (fun _ h => List.mem_append_left _ (List.mem_append_right _ h)) (by decide +kernel))
set_option maxRecDepth 20000 in
theorem gL_law_L_least : GoodIn wsL_law (va_wsS RL 82 yL_least wsL_least) := goodIn_app (goodIn_of _ (by decide +kernel)) ggL_law_L_least
set_option maxRecDepth 20000 in
theorem ggL_law_X2_least : GoodIn wsL_law wsX2_least := goodIn_r _ [191, 49, 192, 82, 83, 5, 84, 60, 61, 62, 63, 193, 194, 195, 196, 197, 159, 160, 161, 162, 21, 22, 253, 254, 255] (by decide +kernel) (by decide +kernel)
set_option maxRecDepth 20000 in
theorem gL_law_X2_least : GoodIn wsL_law (wsV RL 85 RX2 yX2_least wsX2_least) := goodIn_app (goodIn_of _ (by decide +kernel)) ggL_law_X2_least
set_option maxRecDepth 20000 in
theorem ggL_law_L_greatest : GoodIn wsL_law wsL_greatest := goodIn_ca (goodIn_ca (goodIn_r _ [200, 28, 181, 201, 202, 203, 2, 204, 186, 187, 75, 76, 77, 43, 44, 108, 109, 110, 111, 112, 113, 114, 15, 16, 115, 116, 117, 12, 13, 118, 119, 120, 121, 122, 123, 124, 125, 126, 127, 128, 129, 130, 131, 132, 133, 134, 135, 136, 137, 138, 139, 140, 141, 142, 143, 144, 145, 256, 257, 258, 259, 260, 251, 252] (by decide +kernel) (by decide +kernel)) (goodIn_sub (fun _ h => List.mem_append_right _ h) (by decide +kernel))) (goodIn_sub (fun _ h => List.mem_append_left _ (List.mem_append_right _ h)) (by decide +kernel))
set_option maxRecDepth 20000 in
theorem gL_law_L_greatest : GoodIn wsL_law (va_wsS RL 86 yL_greatest wsL_greatest) := goodIn_app (goodIn_of _ (by decide +kernel)) ggL_law_L_greatest
set_option maxRecDepth 20000 in
theorem ggL_law_X2_greatest : GoodIn wsL_law wsX2_greatest := goodIn_r _ [208, 49, 209, 82, 83, 5, 84, 60, 61, 62, 63, 193, 194, 195, 196, 197, 159, 160, 161, 162, 21, 22, 253, 254, 255] (by decide +kernel) (by decide +kernel)
set_option maxRecDepth 20000 in
theorem gL_law_X2_greatest : GoodIn wsL_law (wsV RL 88 RX2 yX2_greatest wsX2_greatest) := goodIn_app (goodIn_of _ (by decide +kernel)) ggL_law_X2_greatest
set_option maxRecDepth 20000 in
theorem ggL_law_L_fixed : GoodIn wsL_law wsL_fixed := goodIn_ca (goodIn_ca (goodIn_r _ [212, 28, 181, 213, 214, 215, 2, 216, 186, 187, 75, 76, 77, 43, 44, 108, 109, 110, 111, 112, 113, 114, 15, 16, 115, 116, 117, 12, 13, 118, 119, 120, 121, 122, 123, 124, 125, 126, 127, 128, 129, 130, 131, 132, 133, 134, 135, 136, 137, 138, 139, 140, 141, 142, 143, 144, 145, 217, 218, 219, 220, 256, 257, 258, 259, 260, 251, 252] (by decide +kernel) (by decide +kernel)) (goodIn_sub (fun _ h => List.mem_append_right _ h) (by decide +kernel))) (goodIn_sub (fun _ h => List.mem_append_left _ (List.mem_append_right _ h)) (by decide +kernel))
set_option maxRecDepth 20000 in
theorem gL_law_L_fixed : GoodIn wsL_law (va_wsS RL 89 yL_fixed wsL_fixed) := goodIn_app (goodIn_of _ (by decide +kernel)) ggL_law_L_fixed
set_option maxRecDepth 20000 in
theorem ggL_law_X2_fixed : GoodIn wsL_law wsX2_fixed := goodIn_r _ [224, 49, 209, 192, 82, 83, 5, 84, 60, 61, 62, 63, 159, 160, 161, 162, 21, 22, 193, 194, 195, 196, 197, 253, 254, 255] (by decide +kernel) (by decide +kernel)
set_option maxRecDepth 20000 in
theorem gL_law_X2_fixed : GoodIn wsL_law (wsV RL 92 RX2 yX2_fixed wsX2_fixed) := goodIn_app (goodIn_of _ (by decide +kernel)) ggL_law_X2_fixed
set_option maxRecDepth 20000 in
theorem ggL_law_L_about : GoodIn wsL_law wsL_about := goodIn_ca (goodIn_ca (goodIn_r _ [227, 27, 28, 228, 229, 230, 2, 231, 232, 233, 234, 36, 37, 75, 76, 77, 43, 44, 235, 236, 237, 238, 15, 108, 109, 110, 111, 112, 113, 114, 16, 115, 116, 117, 12, 13, 118, 119, 120, 121, 122, 123, 124, 125, 126, 127, 128, 129, 130, 131, 132, 133, 134, 135, 136, 137, 138, 139, 140, 141, 142, 143, 144, 145, 239, 240, 241, 242, 243, 244, 245, 246, 251, 252, 256, 257, 258, 259, 260] (by decide +kernel) (by decide +kernel)) (goodIn_sub (fun _ h => List.mem_append_left _ (List.mem_append_left _ (List.mem_append_right _ h))) (by decide +kernel))) (goodIn_sub (fun _ h => List.mem_append_left _ (List.mem_append_right _ h)) (by decide +kernel))
set_option maxRecDepth 20000 in
theorem gL_law_L_about : GoodIn wsL_law (va_wsS RL 93 yL_about wsL_about) := goodIn_app (goodIn_of _ (by decide +kernel)) ggL_law_L_about
set_option maxRecDepth 20000 in
theorem ggL_law_X2_about : GoodIn wsL_law wsX2_about := goodIn_r _ [250, 49, 197, 192, 209, 21, 57, 58, 5, 59, 60, 61, 62, 63, 82, 83, 84, 159, 160, 161, 162, 22, 253, 254, 255] (by decide +kernel) (by decide +kernel)
set_option maxRecDepth 20000 in
theorem gL_law_X2_about : GoodIn wsL_law (wsV RL 96 RX2 yX2_about wsX2_about) := goodIn_app (goodIn_of _ (by decide +kernel)) ggL_law_X2_about
abbrev vwCl : List vw_C := [(RX0, TX0, 5), (RX1, TX1, 2), (RX2, TX2, 3)]
end
section
theorem dL_law_0 : decode cL_law 0 = .ok (.new 8, 3) := by decide +kernel
theorem dL_law_3 : decode cL_law 3 = .ok (.dup, 1) := by decide +kernel
theorem dL_law_4 : decode cL_law 4 = .ok (.invokespecial 50, 3) := by decide +kernel
theorem dL_law_7 : decode cL_law 7 = .ok (.astore_n 1, 1) := by decide +kernel
theorem dL_law_8 : decode cL_law 8 = .ok (.new 51, 3) := by decide +kernel
theorem dL_law_11 : decode cL_law 11 = .ok (.dup, 1) := by decide +kernel
theorem dL_law_12 : decode cL_law 12 = .ok (.invokespecial 53, 3) := by decide +kernel
theorem dL_law_15 : decode cL_law 15 = .ok (.astore_n 2, 1) := by decide +kernel
theorem dL_law_16 : decode cL_law 16 = .ok (.iconst 1, 1) := by decide +kernel
theorem dL_law_17 : decode cL_law 17 = .ok (.newarray .long, 2) := by decide +kernel
theorem dL_law_19 : decode cL_law 19 = .ok (.astore_n 3, 1) := by decide +kernel
theorem dL_law_20 : decode cL_law 20 = .ok (.iconst 0, 1) := by decide +kernel
theorem dL_law_21 : decode cL_law 21 = .ok (.istore 4, 2) := by decide +kernel
theorem dL_law_23 : decode cL_law 23 = .ok (.iload 4, 2) := by decide +kernel
theorem dL_law_25 : decode cL_law 25 = .ok (.aload_n 0, 1) := by decide +kernel
theorem dL_law_26 : decode cL_law 26 = .ok (.arraylength, 1) := by decide +kernel
theorem dL_law_27 : decode cL_law 27 = .ok (.bipush 6, 2) := by decide +kernel
theorem dL_law_29 : decode cL_law 29 = .ok (.isub, 1) := by decide +kernel
theorem dL_law_30 : decode cL_law 30 = .ok (.if_icmp .gt 855, 3) := by decide +kernel
theorem dL_law_33 : decode cL_law 33 = .ok (.aload_n 0, 1) := by decide +kernel
theorem dL_law_34 : decode cL_law 34 = .ok (.iload 4, 2) := by decide +kernel
theorem dL_law_36 : decode cL_law 36 = .ok (.iaload, 1) := by decide +kernel
theorem dL_law_37 : decode cL_law 37 = .ok (.bipush 15, 2) := by decide +kernel
theorem dL_law_39 : decode cL_law 39 = .ok (.iand, 1) := by decide +kernel
theorem dL_law_40 : decode cL_law 40 = .ok (.tableswitch 839 0 8 #[52, 144, 248, 296, 407, 530, 597, 664, 759], 52) := by decide +kernel
theorem dL_law_92 : decode cL_law 92 = .ok (.aload_n 1, 1) := by decide +kernel
theorem dL_law_93 : decode cL_law 93 = .ok (.aload_n 0, 1) := by decide +kernel
theorem dL_law_94 : decode cL_law 94 = .ok (.iload 4, 2) := by decide +kernel
theorem dL_law_96 : decode cL_law 96 = .ok (.iconst 1, 1) := by decide +kernel
theorem dL_law_97 : decode cL_law 97 = .ok (.iadd, 1) := by decide +kernel
theorem dL_law_98 : decode cL_law 98 = .ok (.iaload, 1) := by decide +kernel
theorem dL_law_99 : decode cL_law 99 = .ok (.aload_n 0, 1) := by decide +kernel
theorem dL_law_100 : decode cL_law 100 = .ok (.iload 4, 2) := by decide +kernel
theorem dL_law_102 : decode cL_law 102 = .ok (.iconst 2, 1) := by decide +kernel
theorem dL_law_103 : decode cL_law 103 = .ok (.iadd, 1) := by decide +kernel
theorem dL_law_104 : decode cL_law 104 = .ok (.iaload, 1) := by decide +kernel
theorem dL_law_105 : decode cL_law 105 = .ok (.aload_n 0, 1) := by decide +kernel
theorem dL_law_106 : decode cL_law 106 = .ok (.iload 4, 2) := by decide +kernel
theorem dL_law_108 : decode cL_law 108 = .ok (.iconst 3, 1) := by decide +kernel
theorem dL_law_109 : decode cL_law 109 = .ok (.iadd, 1) := by decide +kernel
theorem dL_law_110 : decode cL_law 110 = .ok (.iaload, 1) := by decide +kernel
theorem dL_law_111 : decode cL_law 111 = .ok (.i2l, 1) := by decide +kernel
theorem dL_law_112 : decode cL_law 112 = .ok (.bipush 32, 2) := by decide +kernel
theorem dL_law_114 : decode cL_law 114 = .ok (.lshl, 1) := by decide +kernel
theorem dL_law_115 : decode cL_law 115 = .ok (.aload_n 0, 1) := by decide +kernel
theorem dL_law_116 : decode cL_law 116 = .ok (.iload 4, 2) := by decide +kernel
theorem dL_law_118 : decode cL_law 118 = .ok (.iconst 4, 1) := by decide +kernel
theorem dL_law_119 : decode cL_law 119 = .ok (.iadd, 1) := by decide +kernel
theorem dL_law_120 : decode cL_law 120 = .ok (.iaload, 1) := by decide +kernel
theorem dL_law_121 : decode cL_law 121 = .ok (.i2l, 1) := by decide +kernel
theorem dL_law_122 : decode cL_law 122 = .ok (.ldc2_w 54, 3) := by decide +kernel
theorem dL_law_125 : decode cL_law 125 = .ok (.land, 1) := by decide +kernel
theorem dL_law_126 : decode cL_law 126 = .ok (.lor, 1) := by decide +kernel
theorem dL_law_127 : decode cL_law 127 = .ok (.invokestatic 56, 3) := by decide +kernel
theorem dL_law_130 : decode cL_law 130 = .ok (.istore 5, 2) := by decide +kernel
theorem dL_law_132 : decode cL_law 132 = .ok (.aload_n 2, 1) := by decide +kernel
theorem dL_law_133 : decode cL_law 133 = .ok (.aload_n 0, 1) := by decide +kernel
theorem dL_law_134 : decode cL_law 134 = .ok (.iload 4, 2) := by decide +kernel
theorem dL_law_136 : decode cL_law 136 = .ok (.iconst 1, 1) := by decide +kernel
theorem dL_law_137 : decode cL_law 137 = .ok (.iadd, 1) := by decide +kernel
theorem dL_law_138 : decode cL_law 138 = .ok (.iaload, 1) := by decide +kernel
theorem dL_law_139 : decode cL_law 139 = .ok (.aload_n 0, 1) := by decide +kernel
theorem dL_law_140 : decode cL_law 140 = .ok (.iload 4, 2) := by decide +kernel
theorem dL_law_142 : decode cL_law 142 = .ok (.iconst 2, 1) := by decide +kernel
theorem dL_law_143 : decode cL_law 143 = .ok (.iadd, 1) := by decide +kernel
theorem dL_law_144 : decode cL_law 144 = .ok (.iaload, 1) := by decide +kernel
theorem dL_law_145 : decode cL_law 145 = .ok (.aload_n 0, 1) := by decide +kernel
theorem dL_law_146 : decode cL_law 146 = .ok (.iload 4, 2) := by decide +kernel
theorem dL_law_148 : decode cL_law 148 = .ok (.iconst 3, 1) := by decide +kernel
theorem dL_law_149 : decode cL_law 149 = .ok (.iadd, 1) := by decide +kernel
theorem dL_law_150 : decode cL_law 150 = .ok (.iaload, 1) := by decide +kernel
theorem dL_law_151 : decode cL_law 151 = .ok (.i2l, 1) := by decide +kernel
theorem dL_law_152 : decode cL_law 152 = .ok (.bipush 32, 2) := by decide +kernel
theorem dL_law_154 : decode cL_law 154 = .ok (.lshl, 1) := by decide +kernel
theorem dL_law_155 : decode cL_law 155 = .ok (.aload_n 0, 1) := by decide +kernel
theorem dL_law_156 : decode cL_law 156 = .ok (.iload 4, 2) := by decide +kernel
theorem dL_law_158 : decode cL_law 158 = .ok (.iconst 4, 1) := by decide +kernel
theorem dL_law_159 : decode cL_law 159 = .ok (.iadd, 1) := by decide +kernel
theorem dL_law_160 : decode cL_law 160 = .ok (.iaload, 1) := by decide +kernel
theorem dL_law_161 : decode cL_law 161 = .ok (.i2l, 1) := by decide +kernel
theorem dL_law_162 : decode cL_law 162 = .ok (.ldc2_w 54, 3) := by decide +kernel
theorem dL_law_165 : decode cL_law 165 = .ok (.land, 1) := by decide +kernel
theorem dL_law_166 : decode cL_law 166 = .ok (.lor, 1) := by decide +kernel
theorem dL_law_167 : decode cL_law 167 = .ok (.invokevirtual 61, 3) := by decide +kernel
theorem dL_law_170 : decode cL_law 170 = .ok (.aload_n 2, 1) := by decide +kernel
theorem dL_law_171 : decode cL_law 171 = .ok (.invokevirtual 62, 3) := by decide +kernel
theorem dL_law_174 : decode cL_law 174 = .ok (.iload 5, 2) := by decide +kernel
theorem dL_law_176 : decode cL_law 176 = .ok (.if_icmp .eq 5, 3) := by decide +kernel
theorem dL_law_179 : decode cL_law 179 = .ok (.iconst 0, 1) := by decide +kernel
theorem dL_law_180 : decode cL_law 180 = .ok (.ireturn, 1) := by decide +kernel
theorem dL_law_181 : decode cL_law 181 = .ok (.goto 698, 3) := by decide +kernel
theorem dL_law_184 : decode cL_law 184 = .ok (.aload_n 1, 1) := by decide +kernel
theorem dL_law_185 : decode cL_law 185 = .ok (.aload_n 0, 1) := by decide +kernel
theorem dL_law_186 : decode cL_law 186 = .ok (.iload 4, 2) := by decide +kernel
theorem dL_law_188 : decode cL_law 188 = .ok (.iconst 1, 1) := by decide +kernel
theorem dL_law_189 : decode cL_law 189 = .ok (.iadd, 1) := by decide +kernel
theorem dL_law_190 : decode cL_law 190 = .ok (.iaload, 1) := by decide +kernel
theorem dL_law_191 : decode cL_law 191 = .ok (.aload_n 0, 1) := by decide +kernel
theorem dL_law_192 : decode cL_law 192 = .ok (.iload 4, 2) := by decide +kernel
theorem dL_law_194 : decode cL_law 194 = .ok (.iconst 2, 1) := by decide +kernel
theorem dL_law_195 : decode cL_law 195 = .ok (.iadd, 1) := by decide +kernel
theorem dL_law_196 : decode cL_law 196 = .ok (.iaload, 1) := by decide +kernel
theorem dL_law_197 : decode cL_law 197 = .ok (.aload_n 0, 1) := by decide +kernel
theorem dL_law_198 : decode cL_law 198 = .ok (.iload 4, 2) := by decide +kernel
theorem dL_law_200 : decode cL_law 200 = .ok (.iconst 3, 1) := by decide +kernel
theorem dL_law_201 : decode cL_law 201 = .ok (.iadd, 1) := by decide +kernel
theorem dL_law_202 : decode cL_law 202 = .ok (.iaload, 1) := by decide +kernel
theorem dL_law_203 : decode cL_law 203 = .ok (.aload_n 0, 1) := by decide +kernel
theorem dL_law_204 : decode cL_law 204 = .ok (.iload 4, 2) := by decide +kernel
theorem dL_law_206 : decode cL_law 206 = .ok (.iconst 4, 1) := by decide +kernel
theorem dL_law_207 : decode cL_law 207 = .ok (.iadd, 1) := by decide +kernel
theorem dL_law_208 : decode cL_law 208 = .ok (.iaload, 1) := by decide +kernel
theorem dL_law_209 : decode cL_law 209 = .ok (.i2l, 1) := by decide +kernel
theorem dL_law_210 : decode cL_law 210 = .ok (.bipush 32, 2) := by decide +kernel
theorem dL_law_212 : decode cL_law 212 = .ok (.lshl, 1) := by decide +kernel
theorem dL_law_213 : decode cL_law 213 = .ok (.aload_n 0, 1) := by decide +kernel
theorem dL_law_214 : decode cL_law 214 = .ok (.iload 4, 2) := by decide +kernel
theorem dL_law_216 : decode cL_law 216 = .ok (.iconst 5, 1) := by decide +kernel
theorem dL_law_217 : decode cL_law 217 = .ok (.iadd, 1) := by decide +kernel
theorem dL_law_218 : decode cL_law 218 = .ok (.iaload, 1) := by decide +kernel
theorem dL_law_219 : decode cL_law 219 = .ok (.i2l, 1) := by decide +kernel
theorem dL_law_220 : decode cL_law 220 = .ok (.ldc2_w 54, 3) := by decide +kernel
theorem dL_law_223 : decode cL_law 223 = .ok (.land, 1) := by decide +kernel
theorem dL_law_224 : decode cL_law 224 = .ok (.lor, 1) := by decide +kernel
theorem dL_law_225 : decode cL_law 225 = .ok (.invokestatic 66, 3) := by decide +kernel
theorem dL_law_228 : decode cL_law 228 = .ok (.istore 5, 2) := by decide +kernel
theorem dL_law_230 : decode cL_law 230 = .ok (.aload_n 2, 1) := by decide +kernel
theorem dL_law_231 : decode cL_law 231 = .ok (.aload_n 0, 1) := by decide +kernel
theorem dL_law_232 : decode cL_law 232 = .ok (.iload 4, 2) := by decide +kernel
theorem dL_law_234 : decode cL_law 234 = .ok (.iconst 1, 1) := by decide +kernel
theorem dL_law_235 : decode cL_law 235 = .ok (.iadd, 1) := by decide +kernel
theorem dL_law_236 : decode cL_law 236 = .ok (.iaload, 1) := by decide +kernel
theorem dL_law_237 : decode cL_law 237 = .ok (.aload_n 0, 1) := by decide +kernel
theorem dL_law_238 : decode cL_law 238 = .ok (.iload 4, 2) := by decide +kernel
theorem dL_law_240 : decode cL_law 240 = .ok (.iconst 2, 1) := by decide +kernel
theorem dL_law_241 : decode cL_law 241 = .ok (.iadd, 1) := by decide +kernel
theorem dL_law_242 : decode cL_law 242 = .ok (.iaload, 1) := by decide +kernel
theorem dL_law_243 : decode cL_law 243 = .ok (.aload_n 0, 1) := by decide +kernel
theorem dL_law_244 : decode cL_law 244 = .ok (.iload 4, 2) := by decide +kernel
theorem dL_law_246 : decode cL_law 246 = .ok (.iconst 3, 1) := by decide +kernel
theorem dL_law_247 : decode cL_law 247 = .ok (.iadd, 1) := by decide +kernel
theorem dL_law_248 : decode cL_law 248 = .ok (.iaload, 1) := by decide +kernel
theorem dL_law_249 : decode cL_law 249 = .ok (.aload_n 0, 1) := by decide +kernel
theorem dL_law_250 : decode cL_law 250 = .ok (.iload 4, 2) := by decide +kernel
theorem dL_law_252 : decode cL_law 252 = .ok (.iconst 4, 1) := by decide +kernel
theorem dL_law_253 : decode cL_law 253 = .ok (.iadd, 1) := by decide +kernel
theorem dL_law_254 : decode cL_law 254 = .ok (.iaload, 1) := by decide +kernel
theorem dL_law_255 : decode cL_law 255 = .ok (.i2l, 1) := by decide +kernel
theorem dL_law_256 : decode cL_law 256 = .ok (.bipush 32, 2) := by decide +kernel
theorem dL_law_258 : decode cL_law 258 = .ok (.lshl, 1) := by decide +kernel
theorem dL_law_259 : decode cL_law 259 = .ok (.aload_n 0, 1) := by decide +kernel
theorem dL_law_260 : decode cL_law 260 = .ok (.iload 4, 2) := by decide +kernel
theorem dL_law_262 : decode cL_law 262 = .ok (.iconst 5, 1) := by decide +kernel
theorem dL_law_263 : decode cL_law 263 = .ok (.iadd, 1) := by decide +kernel
theorem dL_law_264 : decode cL_law 264 = .ok (.iaload, 1) := by decide +kernel
theorem dL_law_265 : decode cL_law 265 = .ok (.i2l, 1) := by decide +kernel
theorem dL_law_266 : decode cL_law 266 = .ok (.ldc2_w 54, 3) := by decide +kernel
theorem dL_law_269 : decode cL_law 269 = .ok (.land, 1) := by decide +kernel
theorem dL_law_270 : decode cL_law 270 = .ok (.lor, 1) := by decide +kernel
theorem dL_law_271 : decode cL_law 271 = .ok (.invokevirtual 69, 3) := by decide +kernel
theorem dL_law_274 : decode cL_law 274 = .ok (.aload_n 2, 1) := by decide +kernel
theorem dL_law_275 : decode cL_law 275 = .ok (.invokevirtual 62, 3) := by decide +kernel
theorem dL_law_278 : decode cL_law 278 = .ok (.iload 5, 2) := by decide +kernel
theorem dL_law_280 : decode cL_law 280 = .ok (.if_icmp .eq 5, 3) := by decide +kernel
theorem dL_law_283 : decode cL_law 283 = .ok (.iconst 0, 1) := by decide +kernel
theorem dL_law_284 : decode cL_law 284 = .ok (.ireturn, 1) := by decide +kernel
theorem dL_law_285 : decode cL_law 285 = .ok (.goto 594, 3) := by decide +kernel
theorem dL_law_288 : decode cL_law 288 = .ok (.aload_n 1, 1) := by decide +kernel
theorem dL_law_289 : decode cL_law 289 = .ok (.aload_n 0, 1) := by decide +kernel
theorem dL_law_290 : decode cL_law 290 = .ok (.iload 4, 2) := by decide +kernel
theorem dL_law_292 : decode cL_law 292 = .ok (.iconst 1, 1) := by decide +kernel
theorem dL_law_293 : decode cL_law 293 = .ok (.iadd, 1) := by decide +kernel
theorem dL_law_294 : decode cL_law 294 = .ok (.iaload, 1) := by decide +kernel
theorem dL_law_295 : decode cL_law 295 = .ok (.aload_n 0, 1) := by decide +kernel
theorem dL_law_296 : decode cL_law 296 = .ok (.iload 4, 2) := by decide +kernel
theorem dL_law_298 : decode cL_law 298 = .ok (.iconst 2, 1) := by decide +kernel
theorem dL_law_299 : decode cL_law 299 = .ok (.iadd, 1) := by decide +kernel
theorem dL_law_300 : decode cL_law 300 = .ok (.iaload, 1) := by decide +kernel
theorem dL_law_301 : decode cL_law 301 = .ok (.invokestatic 70, 3) := by decide +kernel
theorem dL_law_304 : decode cL_law 304 = .ok (.istore 5, 2) := by decide +kernel
theorem dL_law_306 : decode cL_law 306 = .ok (.aload_n 2, 1) := by decide +kernel
theorem dL_law_307 : decode cL_law 307 = .ok (.aload_n 0, 1) := by decide +kernel
theorem dL_law_308 : decode cL_law 308 = .ok (.iload 4, 2) := by decide +kernel
theorem dL_law_310 : decode cL_law 310 = .ok (.iconst 1, 1) := by decide +kernel
theorem dL_law_311 : decode cL_law 311 = .ok (.iadd, 1) := by decide +kernel
theorem dL_law_312 : decode cL_law 312 = .ok (.iaload, 1) := by decide +kernel
theorem dL_law_313 : decode cL_law 313 = .ok (.aload_n 0, 1) := by decide +kernel
theorem dL_law_314 : decode cL_law 314 = .ok (.iload 4, 2) := by decide +kernel
theorem dL_law_316 : decode cL_law 316 = .ok (.iconst 2, 1) := by decide +kernel
theorem dL_law_317 : decode cL_law 317 = .ok (.iadd, 1) := by decide +kernel
theorem dL_law_318 : decode cL_law 318 = .ok (.iaload, 1) := by decide +kernel
theorem dL_law_319 : decode cL_law 319 = .ok (.invokevirtual 73, 3) := by decide +kernel
theorem dL_law_322 : decode cL_law 322 = .ok (.aload_n 2, 1) := by decide +kernel
theorem dL_law_323 : decode cL_law 323 = .ok (.invokevirtual 62, 3) := by decide +kernel
theorem dL_law_326 : decode cL_law 326 = .ok (.iload 5, 2) := by decide +kernel
theorem dL_law_328 : decode cL_law 328 = .ok (.if_icmp .eq 5, 3) := by decide +kernel
theorem dL_law_331 : decode cL_law 331 = .ok (.iconst 0, 1) := by decide +kernel
theorem dL_law_332 : decode cL_law 332 = .ok (.ireturn, 1) := by decide +kernel
theorem dL_law_333 : decode cL_law 333 = .ok (.goto 546, 3) := by decide +kernel
theorem dL_law_336 : decode cL_law 336 = .ok (.aload_n 1, 1) := by decide +kernel
theorem dL_law_337 : decode cL_law 337 = .ok (.aload_n 0, 1) := by decide +kernel
theorem dL_law_338 : decode cL_law 338 = .ok (.iload 4, 2) := by decide +kernel
theorem dL_law_340 : decode cL_law 340 = .ok (.iconst 1, 1) := by decide +kernel
theorem dL_law_341 : decode cL_law 341 = .ok (.iadd, 1) := by decide +kernel
theorem dL_law_342 : decode cL_law 342 = .ok (.iaload, 1) := by decide +kernel
theorem dL_law_343 : decode cL_law 343 = .ok (.aload_n 0, 1) := by decide +kernel
theorem dL_law_344 : decode cL_law 344 = .ok (.iload 4, 2) := by decide +kernel
theorem dL_law_346 : decode cL_law 346 = .ok (.iconst 2, 1) := by decide +kernel
theorem dL_law_347 : decode cL_law 347 = .ok (.iadd, 1) := by decide +kernel
theorem dL_law_348 : decode cL_law 348 = .ok (.iaload, 1) := by decide +kernel
theorem dL_law_349 : decode cL_law 349 = .ok (.aload_n 0, 1) := by decide +kernel
theorem dL_law_350 : decode cL_law 350 = .ok (.iload 4, 2) := by decide +kernel
theorem dL_law_352 : decode cL_law 352 = .ok (.iconst 3, 1) := by decide +kernel
theorem dL_law_353 : decode cL_law 353 = .ok (.iadd, 1) := by decide +kernel
theorem dL_law_354 : decode cL_law 354 = .ok (.iaload, 1) := by decide +kernel
theorem dL_law_355 : decode cL_law 355 = .ok (.i2l, 1) := by decide +kernel
theorem dL_law_356 : decode cL_law 356 = .ok (.bipush 32, 2) := by decide +kernel
theorem dL_law_358 : decode cL_law 358 = .ok (.lshl, 1) := by decide +kernel
theorem dL_law_359 : decode cL_law 359 = .ok (.aload_n 0, 1) := by decide +kernel
theorem dL_law_360 : decode cL_law 360 = .ok (.iload 4, 2) := by decide +kernel
theorem dL_law_362 : decode cL_law 362 = .ok (.iconst 4, 1) := by decide +kernel
theorem dL_law_363 : decode cL_law 363 = .ok (.iadd, 1) := by decide +kernel
theorem dL_law_364 : decode cL_law 364 = .ok (.iaload, 1) := by decide +kernel
theorem dL_law_365 : decode cL_law 365 = .ok (.i2l, 1) := by decide +kernel
theorem dL_law_366 : decode cL_law 366 = .ok (.ldc2_w 54, 3) := by decide +kernel
theorem dL_law_369 : decode cL_law 369 = .ok (.land, 1) := by decide +kernel
theorem dL_law_370 : decode cL_law 370 = .ok (.lor, 1) := by decide +kernel
theorem dL_law_371 : decode cL_law 371 = .ok (.aload_n 3, 1) := by decide +kernel
theorem dL_law_372 : decode cL_law 372 = .ok (.invokestatic 74, 3) := by decide +kernel
theorem dL_law_375 : decode cL_law 375 = .ok (.istore 5, 2) := by decide +kernel
theorem dL_law_377 : decode cL_law 377 = .ok (.aload_n 2, 1) := by decide +kernel
theorem dL_law_378 : decode cL_law 378 = .ok (.aload_n 0, 1) := by decide +kernel
theorem dL_law_379 : decode cL_law 379 = .ok (.iload 4, 2) := by decide +kernel
theorem dL_law_381 : decode cL_law 381 = .ok (.iconst 1, 1) := by decide +kernel
theorem dL_law_382 : decode cL_law 382 = .ok (.iadd, 1) := by decide +kernel
theorem dL_law_383 : decode cL_law 383 = .ok (.iaload, 1) := by decide +kernel
theorem dL_law_384 : decode cL_law 384 = .ok (.aload_n 0, 1) := by decide +kernel
theorem dL_law_385 : decode cL_law 385 = .ok (.iload 4, 2) := by decide +kernel
theorem dL_law_387 : decode cL_law 387 = .ok (.iconst 2, 1) := by decide +kernel
theorem dL_law_388 : decode cL_law 388 = .ok (.iadd, 1) := by decide +kernel
theorem dL_law_389 : decode cL_law 389 = .ok (.iaload, 1) := by decide +kernel
theorem dL_law_390 : decode cL_law 390 = .ok (.aload_n 0, 1) := by decide +kernel
theorem dL_law_391 : decode cL_law 391 = .ok (.iload 4, 2) := by decide +kernel
theorem dL_law_393 : decode cL_law 393 = .ok (.iconst 3, 1) := by decide +kernel
theorem dL_law_394 : decode cL_law 394 = .ok (.iadd, 1) := by decide +kernel
theorem dL_law_395 : decode cL_law 395 = .ok (.iaload, 1) := by decide +kernel
theorem dL_law_396 : decode cL_law 396 = .ok (.i2l, 1) := by decide +kernel
theorem dL_law_397 : decode cL_law 397 = .ok (.bipush 32, 2) := by decide +kernel
theorem dL_law_399 : decode cL_law 399 = .ok (.lshl, 1) := by decide +kernel
theorem dL_law_400 : decode cL_law 400 = .ok (.aload_n 0, 1) := by decide +kernel
theorem dL_law_401 : decode cL_law 401 = .ok (.iload 4, 2) := by decide +kernel
theorem dL_law_403 : decode cL_law 403 = .ok (.iconst 4, 1) := by decide +kernel
theorem dL_law_404 : decode cL_law 404 = .ok (.iadd, 1) := by decide +kernel
theorem dL_law_405 : decode cL_law 405 = .ok (.iaload, 1) := by decide +kernel
theorem dL_law_406 : decode cL_law 406 = .ok (.i2l, 1) := by decide +kernel
theorem dL_law_407 : decode cL_law 407 = .ok (.ldc2_w 54, 3) := by decide +kernel
theorem dL_law_410 : decode cL_law 410 = .ok (.land, 1) := by decide +kernel
theorem dL_law_411 : decode cL_law 411 = .ok (.lor, 1) := by decide +kernel
theorem dL_law_412 : decode cL_law 412 = .ok (.invokevirtual 77, 3) := by decide +kernel
theorem dL_law_415 : decode cL_law 415 = .ok (.lstore 6, 2) := by decide +kernel
theorem dL_law_417 : decode cL_law 417 = .ok (.aload_n 2, 1) := by decide +kernel
theorem dL_law_418 : decode cL_law 418 = .ok (.invokevirtual 62, 3) := by decide +kernel
theorem dL_law_421 : decode cL_law 421 = .ok (.iload 5, 2) := by decide +kernel
theorem dL_law_423 : decode cL_law 423 = .ok (.if_icmp .eq 5, 3) := by decide +kernel
theorem dL_law_426 : decode cL_law 426 = .ok (.iconst 0, 1) := by decide +kernel
theorem dL_law_427 : decode cL_law 427 = .ok (.ireturn, 1) := by decide +kernel
theorem dL_law_428 : decode cL_law 428 = .ok (.iload 5, 2) := by decide +kernel
theorem dL_law_430 : decode cL_law 430 = .ok (.ifCond .ne 14, 3) := by decide +kernel
theorem dL_law_433 : decode cL_law 433 = .ok (.aload_n 3, 1) := by decide +kernel
theorem dL_law_434 : decode cL_law 434 = .ok (.iconst 0, 1) := by decide +kernel
theorem dL_law_435 : decode cL_law 435 = .ok (.laload, 1) := by decide +kernel
theorem dL_law_436 : decode cL_law 436 = .ok (.lload 6, 2) := by decide +kernel
theorem dL_law_438 : decode cL_law 438 = .ok (.lcmp, 1) := by decide +kernel
theorem dL_law_439 : decode cL_law 439 = .ok (.ifCond .eq 5, 3) := by decide +kernel
theorem dL_law_442 : decode cL_law 442 = .ok (.iconst 0, 1) := by decide +kernel
theorem dL_law_443 : decode cL_law 443 = .ok (.ireturn, 1) := by decide +kernel
theorem dL_law_444 : decode cL_law 444 = .ok (.goto 435, 3) := by decide +kernel
theorem dL_law_447 : decode cL_law 447 = .ok (.aload_n 1, 1) := by decide +kernel
theorem dL_law_448 : decode cL_law 448 = .ok (.aload_n 0, 1) := by decide +kernel
theorem dL_law_449 : decode cL_law 449 = .ok (.iload 4, 2) := by decide +kernel
theorem dL_law_451 : decode cL_law 451 = .ok (.iconst 1, 1) := by decide +kernel
theorem dL_law_452 : decode cL_law 452 = .ok (.iadd, 1) := by decide +kernel
theorem dL_law_453 : decode cL_law 453 = .ok (.iaload, 1) := by decide +kernel
theorem dL_law_454 : decode cL_law 454 = .ok (.aload_n 0, 1) := by decide +kernel
theorem dL_law_455 : decode cL_law 455 = .ok (.iload 4, 2) := by decide +kernel
theorem dL_law_457 : decode cL_law 457 = .ok (.iconst 2, 1) := by decide +kernel
theorem dL_law_458 : decode cL_law 458 = .ok (.iadd, 1) := by decide +kernel
theorem dL_law_459 : decode cL_law 459 = .ok (.iaload, 1) := by decide +kernel
theorem dL_law_460 : decode cL_law 460 = .ok (.aload_n 0, 1) := by decide +kernel
theorem dL_law_461 : decode cL_law 461 = .ok (.iload 4, 2) := by decide +kernel
theorem dL_law_463 : decode cL_law 463 = .ok (.iconst 3, 1) := by decide +kernel
theorem dL_law_464 : decode cL_law 464 = .ok (.iadd, 1) := by decide +kernel
theorem dL_law_465 : decode cL_law 465 = .ok (.iaload, 1) := by decide +kernel
theorem dL_law_466 : decode cL_law 466 = .ok (.i2l, 1) := by decide +kernel
theorem dL_law_467 : decode cL_law 467 = .ok (.bipush 32, 2) := by decide +kernel
theorem dL_law_469 : decode cL_law 469 = .ok (.lshl, 1) := by decide +kernel
theorem dL_law_470 : decode cL_law 470 = .ok (.aload_n 0, 1) := by decide +kernel
theorem dL_law_471 : decode cL_law 471 = .ok (.iload 4, 2) := by decide +kernel
theorem dL_law_473 : decode cL_law 473 = .ok (.iconst 4, 1) := by decide +kernel
theorem dL_law_474 : decode cL_law 474 = .ok (.iadd, 1) := by decide +kernel
theorem dL_law_475 : decode cL_law 475 = .ok (.iaload, 1) := by decide +kernel
theorem dL_law_476 : decode cL_law 476 = .ok (.i2l, 1) := by decide +kernel
theorem dL_law_477 : decode cL_law 477 = .ok (.ldc2_w 54, 3) := by decide +kernel
theorem dL_law_480 : decode cL_law 480 = .ok (.land, 1) := by decide +kernel
theorem dL_law_481 : decode cL_law 481 = .ok (.lor, 1) := by decide +kernel
theorem dL_law_482 : decode cL_law 482 = .ok (.aload_n 0, 1) := by decide +kernel
theorem dL_law_483 : decode cL_law 483 = .ok (.iload 4, 2) := by decide +kernel
theorem dL_law_485 : decode cL_law 485 = .ok (.iconst 5, 1) := by decide +kernel
theorem dL_law_486 : decode cL_law 486 = .ok (.iadd, 1) := by decide +kernel
theorem dL_law_487 : decode cL_law 487 = .ok (.iaload, 1) := by decide +kernel
theorem dL_law_488 : decode cL_law 488 = .ok (.aload_n 3, 1) := by decide +kernel
theorem dL_law_489 : decode cL_law 489 = .ok (.invokestatic 78, 3) := by decide +kernel
theorem dL_law_492 : decode cL_law 492 = .ok (.istore 5, 2) := by decide +kernel
theorem dL_law_494 : decode cL_law 494 = .ok (.aload_n 2, 1) := by decide +kernel
theorem dL_law_495 : decode cL_law 495 = .ok (.aload_n 0, 1) := by decide +kernel
theorem dL_law_496 : decode cL_law 496 = .ok (.iload 4, 2) := by decide +kernel
theorem dL_law_498 : decode cL_law 498 = .ok (.iconst 1, 1) := by decide +kernel
theorem dL_law_499 : decode cL_law 499 = .ok (.iadd, 1) := by decide +kernel
theorem dL_law_500 : decode cL_law 500 = .ok (.iaload, 1) := by decide +kernel
theorem dL_law_501 : decode cL_law 501 = .ok (.aload_n 0, 1) := by decide +kernel
theorem dL_law_502 : decode cL_law 502 = .ok (.iload 4, 2) := by decide +kernel
theorem dL_law_504 : decode cL_law 504 = .ok (.iconst 2, 1) := by decide +kernel
theorem dL_law_505 : decode cL_law 505 = .ok (.iadd, 1) := by decide +kernel
theorem dL_law_506 : decode cL_law 506 = .ok (.iaload, 1) := by decide +kernel
theorem dL_law_507 : decode cL_law 507 = .ok (.aload_n 0, 1) := by decide +kernel
theorem dL_law_508 : decode cL_law 508 = .ok (.iload 4, 2) := by decide +kernel
theorem dL_law_510 : decode cL_law 510 = .ok (.iconst 3, 1) := by decide +kernel
theorem dL_law_511 : decode cL_law 511 = .ok (.iadd, 1) := by decide +kernel
theorem dL_law_512 : decode cL_law 512 = .ok (.iaload, 1) := by decide +kernel
theorem dL_law_513 : decode cL_law 513 = .ok (.i2l, 1) := by decide +kernel
theorem dL_law_514 : decode cL_law 514 = .ok (.bipush 32, 2) := by decide +kernel
theorem dL_law_516 : decode cL_law 516 = .ok (.lshl, 1) := by decide +kernel
theorem dL_law_517 : decode cL_law 517 = .ok (.aload_n 0, 1) := by decide +kernel
theorem dL_law_518 : decode cL_law 518 = .ok (.iload 4, 2) := by decide +kernel
theorem dL_law_520 : decode cL_law 520 = .ok (.iconst 4, 1) := by decide +kernel
theorem dL_law_521 : decode cL_law 521 = .ok (.iadd, 1) := by decide +kernel
theorem dL_law_522 : decode cL_law 522 = .ok (.iaload, 1) := by decide +kernel
theorem dL_law_523 : decode cL_law 523 = .ok (.i2l, 1) := by decide +kernel
theorem dL_law_524 : decode cL_law 524 = .ok (.ldc2_w 54, 3) := by decide +kernel
theorem dL_law_527 : decode cL_law 527 = .ok (.land, 1) := by decide +kernel
theorem dL_law_528 : decode cL_law 528 = .ok (.lor, 1) := by decide +kernel
theorem dL_law_529 : decode cL_law 529 = .ok (.aload_n 0, 1) := by decide +kernel
theorem dL_law_530 : decode cL_law 530 = .ok (.iload 4, 2) := by decide +kernel
theorem dL_law_532 : decode cL_law 532 = .ok (.iconst 5, 1) := by decide +kernel
theorem dL_law_533 : decode cL_law 533 = .ok (.iadd, 1) := by decide +kernel
theorem dL_law_534 : decode cL_law 534 = .ok (.iaload, 1) := by decide +kernel
theorem dL_law_535 : decode cL_law 535 = .ok (.invokevirtual 81, 3) := by decide +kernel
theorem dL_law_538 : decode cL_law 538 = .ok (.lstore 6, 2) := by decide +kernel
theorem dL_law_540 : decode cL_law 540 = .ok (.aload_n 2, 1) := by decide +kernel
theorem dL_law_541 : decode cL_law 541 = .ok (.invokevirtual 62, 3) := by decide +kernel
theorem dL_law_544 : decode cL_law 544 = .ok (.iload 5, 2) := by decide +kernel
theorem dL_law_546 : decode cL_law 546 = .ok (.if_icmp .eq 5, 3) := by decide +kernel
theorem dL_law_549 : decode cL_law 549 = .ok (.iconst 0, 1) := by decide +kernel
theorem dL_law_550 : decode cL_law 550 = .ok (.ireturn, 1) := by decide +kernel
theorem dL_law_551 : decode cL_law 551 = .ok (.iload 5, 2) := by decide +kernel
theorem dL_law_553 : decode cL_law 553 = .ok (.ifCond .ne 14, 3) := by decide +kernel
theorem dL_law_556 : decode cL_law 556 = .ok (.aload_n 3, 1) := by decide +kernel
theorem dL_law_557 : decode cL_law 557 = .ok (.iconst 0, 1) := by decide +kernel
theorem dL_law_558 : decode cL_law 558 = .ok (.laload, 1) := by decide +kernel
theorem dL_law_559 : decode cL_law 559 = .ok (.lload 6, 2) := by decide +kernel
theorem dL_law_561 : decode cL_law 561 = .ok (.lcmp, 1) := by decide +kernel
theorem dL_law_562 : decode cL_law 562 = .ok (.ifCond .eq 5, 3) := by decide +kernel
theorem dL_law_565 : decode cL_law 565 = .ok (.iconst 0, 1) := by decide +kernel
theorem dL_law_566 : decode cL_law 566 = .ok (.ireturn, 1) := by decide +kernel
theorem dL_law_567 : decode cL_law 567 = .ok (.goto 312, 3) := by decide +kernel
theorem dL_law_570 : decode cL_law 570 = .ok (.aload_n 1, 1) := by decide +kernel
theorem dL_law_571 : decode cL_law 571 = .ok (.aload_n 0, 1) := by decide +kernel
theorem dL_law_572 : decode cL_law 572 = .ok (.iload 4, 2) := by decide +kernel
theorem dL_law_574 : decode cL_law 574 = .ok (.iconst 1, 1) := by decide +kernel
theorem dL_law_575 : decode cL_law 575 = .ok (.iadd, 1) := by decide +kernel
theorem dL_law_576 : decode cL_law 576 = .ok (.iaload, 1) := by decide +kernel
theorem dL_law_577 : decode cL_law 577 = .ok (.aload_n 0, 1) := by decide +kernel
theorem dL_law_578 : decode cL_law 578 = .ok (.iload 4, 2) := by decide +kernel
theorem dL_law_580 : decode cL_law 580 = .ok (.iconst 2, 1) := by decide +kernel
theorem dL_law_581 : decode cL_law 581 = .ok (.iadd, 1) := by decide +kernel
theorem dL_law_582 : decode cL_law 582 = .ok (.iaload, 1) := by decide +kernel
theorem dL_law_583 : decode cL_law 583 = .ok (.aload_n 3, 1) := by decide +kernel
theorem dL_law_584 : decode cL_law 584 = .ok (.invokestatic 82, 3) := by decide +kernel
theorem dL_law_587 : decode cL_law 587 = .ok (.istore 5, 2) := by decide +kernel
theorem dL_law_589 : decode cL_law 589 = .ok (.aload_n 2, 1) := by decide +kernel
theorem dL_law_590 : decode cL_law 590 = .ok (.aload_n 0, 1) := by decide +kernel
theorem dL_law_591 : decode cL_law 591 = .ok (.iload 4, 2) := by decide +kernel
theorem dL_law_593 : decode cL_law 593 = .ok (.iconst 1, 1) := by decide +kernel
theorem dL_law_594 : decode cL_law 594 = .ok (.iadd, 1) := by decide +kernel
theorem dL_law_595 : decode cL_law 595 = .ok (.iaload, 1) := by decide +kernel
theorem dL_law_596 : decode cL_law 596 = .ok (.aload_n 0, 1) := by decide +kernel
theorem dL_law_597 : decode cL_law 597 = .ok (.iload 4, 2) := by decide +kernel
theorem dL_law_599 : decode cL_law 599 = .ok (.iconst 2, 1) := by decide +kernel
theorem dL_law_600 : decode cL_law 600 = .ok (.iadd, 1) := by decide +kernel
theorem dL_law_601 : decode cL_law 601 = .ok (.iaload, 1) := by decide +kernel
theorem dL_law_602 : decode cL_law 602 = .ok (.invokevirtual 85, 3) := by decide +kernel
theorem dL_law_605 : decode cL_law 605 = .ok (.lstore 6, 2) := by decide +kernel
theorem dL_law_607 : decode cL_law 607 = .ok (.aload_n 2, 1) := by decide +kernel
theorem dL_law_608 : decode cL_law 608 = .ok (.invokevirtual 62, 3) := by decide +kernel
theorem dL_law_611 : decode cL_law 611 = .ok (.iload 5, 2) := by decide +kernel
theorem dL_law_613 : decode cL_law 613 = .ok (.if_icmp .eq 5, 3) := by decide +kernel
theorem dL_law_616 : decode cL_law 616 = .ok (.iconst 0, 1) := by decide +kernel
theorem dL_law_617 : decode cL_law 617 = .ok (.ireturn, 1) := by decide +kernel
theorem dL_law_618 : decode cL_law 618 = .ok (.iload 5, 2) := by decide +kernel
theorem dL_law_620 : decode cL_law 620 = .ok (.ifCond .ne 14, 3) := by decide +kernel
theorem dL_law_623 : decode cL_law 623 = .ok (.aload_n 3, 1) := by decide +kernel
theorem dL_law_624 : decode cL_law 624 = .ok (.iconst 0, 1) := by decide +kernel
theorem dL_law_625 : decode cL_law 625 = .ok (.laload, 1) := by decide +kernel
theorem dL_law_626 : decode cL_law 626 = .ok (.lload 6, 2) := by decide +kernel
theorem dL_law_628 : decode cL_law 628 = .ok (.lcmp, 1) := by decide +kernel
theorem dL_law_629 : decode cL_law 629 = .ok (.ifCond .eq 5, 3) := by decide +kernel
theorem dL_law_632 : decode cL_law 632 = .ok (.iconst 0, 1) := by decide +kernel
theorem dL_law_633 : decode cL_law 633 = .ok (.ireturn, 1) := by decide +kernel
theorem dL_law_634 : decode cL_law 634 = .ok (.goto 245, 3) := by decide +kernel
theorem dL_law_637 : decode cL_law 637 = .ok (.aload_n 1, 1) := by decide +kernel
theorem dL_law_638 : decode cL_law 638 = .ok (.aload_n 0, 1) := by decide +kernel
theorem dL_law_639 : decode cL_law 639 = .ok (.iload 4, 2) := by decide +kernel
theorem dL_law_641 : decode cL_law 641 = .ok (.iconst 1, 1) := by decide +kernel
theorem dL_law_642 : decode cL_law 642 = .ok (.iadd, 1) := by decide +kernel
theorem dL_law_643 : decode cL_law 643 = .ok (.iaload, 1) := by decide +kernel
theorem dL_law_644 : decode cL_law 644 = .ok (.aload_n 0, 1) := by decide +kernel
theorem dL_law_645 : decode cL_law 645 = .ok (.iload 4, 2) := by decide +kernel
theorem dL_law_647 : decode cL_law 647 = .ok (.iconst 2, 1) := by decide +kernel
theorem dL_law_648 : decode cL_law 648 = .ok (.iadd, 1) := by decide +kernel
theorem dL_law_649 : decode cL_law 649 = .ok (.iaload, 1) := by decide +kernel
theorem dL_law_650 : decode cL_law 650 = .ok (.aload_n 3, 1) := by decide +kernel
theorem dL_law_651 : decode cL_law 651 = .ok (.invokestatic 86, 3) := by decide +kernel
theorem dL_law_654 : decode cL_law 654 = .ok (.istore 5, 2) := by decide +kernel
theorem dL_law_656 : decode cL_law 656 = .ok (.aload_n 2, 1) := by decide +kernel
theorem dL_law_657 : decode cL_law 657 = .ok (.aload_n 0, 1) := by decide +kernel
theorem dL_law_658 : decode cL_law 658 = .ok (.iload 4, 2) := by decide +kernel
theorem dL_law_660 : decode cL_law 660 = .ok (.iconst 1, 1) := by decide +kernel
theorem dL_law_661 : decode cL_law 661 = .ok (.iadd, 1) := by decide +kernel
theorem dL_law_662 : decode cL_law 662 = .ok (.iaload, 1) := by decide +kernel
theorem dL_law_663 : decode cL_law 663 = .ok (.aload_n 0, 1) := by decide +kernel
theorem dL_law_664 : decode cL_law 664 = .ok (.iload 4, 2) := by decide +kernel
theorem dL_law_666 : decode cL_law 666 = .ok (.iconst 2, 1) := by decide +kernel
theorem dL_law_667 : decode cL_law 667 = .ok (.iadd, 1) := by decide +kernel
theorem dL_law_668 : decode cL_law 668 = .ok (.iaload, 1) := by decide +kernel
theorem dL_law_669 : decode cL_law 669 = .ok (.invokevirtual 88, 3) := by decide +kernel
theorem dL_law_672 : decode cL_law 672 = .ok (.lstore 6, 2) := by decide +kernel
theorem dL_law_674 : decode cL_law 674 = .ok (.aload_n 2, 1) := by decide +kernel
theorem dL_law_675 : decode cL_law 675 = .ok (.invokevirtual 62, 3) := by decide +kernel
theorem dL_law_678 : decode cL_law 678 = .ok (.iload 5, 2) := by decide +kernel
theorem dL_law_680 : decode cL_law 680 = .ok (.if_icmp .eq 5, 3) := by decide +kernel
theorem dL_law_683 : decode cL_law 683 = .ok (.iconst 0, 1) := by decide +kernel
theorem dL_law_684 : decode cL_law 684 = .ok (.ireturn, 1) := by decide +kernel
theorem dL_law_685 : decode cL_law 685 = .ok (.iload 5, 2) := by decide +kernel
theorem dL_law_687 : decode cL_law 687 = .ok (.ifCond .ne 14, 3) := by decide +kernel
theorem dL_law_690 : decode cL_law 690 = .ok (.aload_n 3, 1) := by decide +kernel
theorem dL_law_691 : decode cL_law 691 = .ok (.iconst 0, 1) := by decide +kernel
theorem dL_law_692 : decode cL_law 692 = .ok (.laload, 1) := by decide +kernel
theorem dL_law_693 : decode cL_law 693 = .ok (.lload 6, 2) := by decide +kernel
theorem dL_law_695 : decode cL_law 695 = .ok (.lcmp, 1) := by decide +kernel
theorem dL_law_696 : decode cL_law 696 = .ok (.ifCond .eq 5, 3) := by decide +kernel
theorem dL_law_699 : decode cL_law 699 = .ok (.iconst 0, 1) := by decide +kernel
theorem dL_law_700 : decode cL_law 700 = .ok (.ireturn, 1) := by decide +kernel
theorem dL_law_701 : decode cL_law 701 = .ok (.goto 178, 3) := by decide +kernel
theorem dL_law_704 : decode cL_law 704 = .ok (.aload_n 1, 1) := by decide +kernel
theorem dL_law_705 : decode cL_law 705 = .ok (.aload_n 0, 1) := by decide +kernel
theorem dL_law_706 : decode cL_law 706 = .ok (.iload 4, 2) := by decide +kernel
theorem dL_law_708 : decode cL_law 708 = .ok (.iconst 1, 1) := by decide +kernel
theorem dL_law_709 : decode cL_law 709 = .ok (.iadd, 1) := by decide +kernel
theorem dL_law_710 : decode cL_law 710 = .ok (.iaload, 1) := by decide +kernel
theorem dL_law_711 : decode cL_law 711 = .ok (.aload_n 0, 1) := by decide +kernel
theorem dL_law_712 : decode cL_law 712 = .ok (.iload 4, 2) := by decide +kernel
theorem dL_law_714 : decode cL_law 714 = .ok (.iconst 2, 1) := by decide +kernel
theorem dL_law_715 : decode cL_law 715 = .ok (.iadd, 1) := by decide +kernel
theorem dL_law_716 : decode cL_law 716 = .ok (.iaload, 1) := by decide +kernel
theorem dL_law_717 : decode cL_law 717 = .ok (.aload_n 0, 1) := by decide +kernel
theorem dL_law_718 : decode cL_law 718 = .ok (.iload 4, 2) := by decide +kernel
theorem dL_law_720 : decode cL_law 720 = .ok (.iconst 3, 1) := by decide +kernel
theorem dL_law_721 : decode cL_law 721 = .ok (.iadd, 1) := by decide +kernel
theorem dL_law_722 : decode cL_law 722 = .ok (.iaload, 1) := by decide +kernel
theorem dL_law_723 : decode cL_law 723 = .ok (.ifCond .eq 7, 3) := by decide +kernel
theorem dL_law_726 : decode cL_law 726 = .ok (.iconst 1, 1) := by decide +kernel
theorem dL_law_727 : decode cL_law 727 = .ok (.goto 4, 3) := by decide +kernel
theorem dL_law_730 : decode cL_law 730 = .ok (.iconst 0, 1) := by decide +kernel
theorem dL_law_731 : decode cL_law 731 = .ok (.aload_n 3, 1) := by decide +kernel
theorem dL_law_732 : decode cL_law 732 = .ok (.invokestatic 89, 3) := by decide +kernel
theorem dL_law_735 : decode cL_law 735 = .ok (.istore 5, 2) := by decide +kernel
theorem dL_law_737 : decode cL_law 737 = .ok (.aload_n 2, 1) := by decide +kernel
theorem dL_law_738 : decode cL_law 738 = .ok (.aload_n 0, 1) := by decide +kernel
theorem dL_law_739 : decode cL_law 739 = .ok (.iload 4, 2) := by decide +kernel
theorem dL_law_741 : decode cL_law 741 = .ok (.iconst 1, 1) := by decide +kernel
theorem dL_law_742 : decode cL_law 742 = .ok (.iadd, 1) := by decide +kernel
theorem dL_law_743 : decode cL_law 743 = .ok (.iaload, 1) := by decide +kernel
theorem dL_law_744 : decode cL_law 744 = .ok (.aload_n 0, 1) := by decide +kernel
theorem dL_law_745 : decode cL_law 745 = .ok (.iload 4, 2) := by decide +kernel
theorem dL_law_747 : decode cL_law 747 = .ok (.iconst 2, 1) := by decide +kernel
theorem dL_law_748 : decode cL_law 748 = .ok (.iadd, 1) := by decide +kernel
theorem dL_law_749 : decode cL_law 749 = .ok (.iaload, 1) := by decide +kernel
theorem dL_law_750 : decode cL_law 750 = .ok (.aload_n 0, 1) := by decide +kernel
theorem dL_law_751 : decode cL_law 751 = .ok (.iload 4, 2) := by decide +kernel
theorem dL_law_753 : decode cL_law 753 = .ok (.iconst 3, 1) := by decide +kernel
theorem dL_law_754 : decode cL_law 754 = .ok (.iadd, 1) := by decide +kernel
theorem dL_law_755 : decode cL_law 755 = .ok (.iaload, 1) := by decide +kernel
theorem dL_law_756 : decode cL_law 756 = .ok (.ifCond .eq 7, 3) := by decide +kernel
theorem dL_law_759 : decode cL_law 759 = .ok (.iconst 1, 1) := by decide +kernel
theorem dL_law_760 : decode cL_law 760 = .ok (.goto 4, 3) := by decide +kernel
theorem dL_law_763 : decode cL_law 763 = .ok (.iconst 0, 1) := by decide +kernel
theorem dL_law_764 : decode cL_law 764 = .ok (.invokevirtual 92, 3) := by decide +kernel
theorem dL_law_767 : decode cL_law 767 = .ok (.lstore 6, 2) := by decide +kernel
theorem dL_law_769 : decode cL_law 769 = .ok (.aload_n 2, 1) := by decide +kernel
theorem dL_law_770 : decode cL_law 770 = .ok (.invokevirtual 62, 3) := by decide +kernel
theorem dL_law_773 : decode cL_law 773 = .ok (.iload 5, 2) := by decide +kernel
theorem dL_law_775 : decode cL_law 775 = .ok (.if_icmp .eq 5, 3) := by decide +kernel
theorem dL_law_778 : decode cL_law 778 = .ok (.iconst 0, 1) := by decide +kernel
theorem dL_law_779 : decode cL_law 779 = .ok (.ireturn, 1) := by decide +kernel
theorem dL_law_780 : decode cL_law 780 = .ok (.iload 5, 2) := by decide +kernel
theorem dL_law_782 : decode cL_law 782 = .ok (.ifCond .ne 14, 3) := by decide +kernel
theorem dL_law_785 : decode cL_law 785 = .ok (.aload_n 3, 1) := by decide +kernel
theorem dL_law_786 : decode cL_law 786 = .ok (.iconst 0, 1) := by decide +kernel
theorem dL_law_787 : decode cL_law 787 = .ok (.laload, 1) := by decide +kernel
theorem dL_law_788 : decode cL_law 788 = .ok (.lload 6, 2) := by decide +kernel
theorem dL_law_790 : decode cL_law 790 = .ok (.lcmp, 1) := by decide +kernel
theorem dL_law_791 : decode cL_law 791 = .ok (.ifCond .eq 5, 3) := by decide +kernel
theorem dL_law_794 : decode cL_law 794 = .ok (.iconst 0, 1) := by decide +kernel
theorem dL_law_795 : decode cL_law 795 = .ok (.ireturn, 1) := by decide +kernel
theorem dL_law_796 : decode cL_law 796 = .ok (.goto 83, 3) := by decide +kernel
theorem dL_law_799 : decode cL_law 799 = .ok (.aload_n 1, 1) := by decide +kernel
theorem dL_law_800 : decode cL_law 800 = .ok (.aload_n 0, 1) := by decide +kernel
theorem dL_law_801 : decode cL_law 801 = .ok (.iload 4, 2) := by decide +kernel
theorem dL_law_803 : decode cL_law 803 = .ok (.iconst 1, 1) := by decide +kernel
theorem dL_law_804 : decode cL_law 804 = .ok (.iadd, 1) := by decide +kernel
theorem dL_law_805 : decode cL_law 805 = .ok (.iaload, 1) := by decide +kernel
theorem dL_law_806 : decode cL_law 806 = .ok (.aload_n 0, 1) := by decide +kernel
theorem dL_law_807 : decode cL_law 807 = .ok (.iload 4, 2) := by decide +kernel
theorem dL_law_809 : decode cL_law 809 = .ok (.iconst 2, 1) := by decide +kernel
theorem dL_law_810 : decode cL_law 810 = .ok (.iadd, 1) := by decide +kernel
theorem dL_law_811 : decode cL_law 811 = .ok (.iaload, 1) := by decide +kernel
theorem dL_law_812 : decode cL_law 812 = .ok (.aload_n 0, 1) := by decide +kernel
theorem dL_law_813 : decode cL_law 813 = .ok (.iload 4, 2) := by decide +kernel
theorem dL_law_815 : decode cL_law 815 = .ok (.iconst 3, 1) := by decide +kernel
theorem dL_law_816 : decode cL_law 816 = .ok (.iadd, 1) := by decide +kernel
theorem dL_law_817 : decode cL_law 817 = .ok (.iaload, 1) := by decide +kernel
theorem dL_law_818 : decode cL_law 818 = .ok (.aload_n 3, 1) := by decide +kernel
theorem dL_law_819 : decode cL_law 819 = .ok (.invokestatic 93, 3) := by decide +kernel
theorem dL_law_822 : decode cL_law 822 = .ok (.istore 5, 2) := by decide +kernel
theorem dL_law_824 : decode cL_law 824 = .ok (.aload_n 2, 1) := by decide +kernel
theorem dL_law_825 : decode cL_law 825 = .ok (.aload_n 0, 1) := by decide +kernel
theorem dL_law_826 : decode cL_law 826 = .ok (.iload 4, 2) := by decide +kernel
theorem dL_law_828 : decode cL_law 828 = .ok (.iconst 1, 1) := by decide +kernel
theorem dL_law_829 : decode cL_law 829 = .ok (.iadd, 1) := by decide +kernel
theorem dL_law_830 : decode cL_law 830 = .ok (.iaload, 1) := by decide +kernel
theorem dL_law_831 : decode cL_law 831 = .ok (.aload_n 0, 1) := by decide +kernel
theorem dL_law_832 : decode cL_law 832 = .ok (.iload 4, 2) := by decide +kernel
theorem dL_law_834 : decode cL_law 834 = .ok (.iconst 2, 1) := by decide +kernel
theorem dL_law_835 : decode cL_law 835 = .ok (.iadd, 1) := by decide +kernel
theorem dL_law_836 : decode cL_law 836 = .ok (.iaload, 1) := by decide +kernel
theorem dL_law_837 : decode cL_law 837 = .ok (.aload_n 0, 1) := by decide +kernel
theorem dL_law_838 : decode cL_law 838 = .ok (.iload 4, 2) := by decide +kernel
theorem dL_law_840 : decode cL_law 840 = .ok (.iconst 3, 1) := by decide +kernel
theorem dL_law_841 : decode cL_law 841 = .ok (.iadd, 1) := by decide +kernel
theorem dL_law_842 : decode cL_law 842 = .ok (.iaload, 1) := by decide +kernel
theorem dL_law_843 : decode cL_law 843 = .ok (.invokevirtual 96, 3) := by decide +kernel
theorem dL_law_846 : decode cL_law 846 = .ok (.istore 6, 2) := by decide +kernel
theorem dL_law_848 : decode cL_law 848 = .ok (.aload_n 2, 1) := by decide +kernel
theorem dL_law_849 : decode cL_law 849 = .ok (.invokevirtual 62, 3) := by decide +kernel
theorem dL_law_852 : decode cL_law 852 = .ok (.iload 5, 2) := by decide +kernel
theorem dL_law_854 : decode cL_law 854 = .ok (.if_icmp .eq 5, 3) := by decide +kernel
theorem dL_law_857 : decode cL_law 857 = .ok (.iconst 0, 1) := by decide +kernel
theorem dL_law_858 : decode cL_law 858 = .ok (.ireturn, 1) := by decide +kernel
theorem dL_law_859 : decode cL_law 859 = .ok (.iload 5, 2) := by decide +kernel
theorem dL_law_861 : decode cL_law 861 = .ok (.ifCond .ne 15, 3) := by decide +kernel
theorem dL_law_864 : decode cL_law 864 = .ok (.aload_n 3, 1) := by decide +kernel
theorem dL_law_865 : decode cL_law 865 = .ok (.iconst 0, 1) := by decide +kernel
theorem dL_law_866 : decode cL_law 866 = .ok (.laload, 1) := by decide +kernel
theorem dL_law_867 : decode cL_law 867 = .ok (.iload 6, 2) := by decide +kernel
theorem dL_law_869 : decode cL_law 869 = .ok (.i2l, 1) := by decide +kernel
theorem dL_law_870 : decode cL_law 870 = .ok (.lcmp, 1) := by decide +kernel
theorem dL_law_871 : decode cL_law 871 = .ok (.ifCond .eq 5, 3) := by decide +kernel
theorem dL_law_874 : decode cL_law 874 = .ok (.iconst 0, 1) := by decide +kernel
theorem dL_law_875 : decode cL_law 875 = .ok (.ireturn, 1) := by decide +kernel
theorem dL_law_876 : decode cL_law 876 = .ok (.goto 3, 3) := by decide +kernel
theorem dL_law_879 : decode cL_law 879 = .ok (.iinc 4 6, 3) := by decide +kernel
theorem dL_law_882 : decode cL_law 882 = .ok (.goto (-859), 3) := by decide +kernel
theorem dL_law_885 : decode cL_law 885 = .ok (.iconst 1, 1) := by decide +kernel
theorem dL_law_886 : decode cL_law 886 = .ok (.ireturn, 1) := by decide +kernel
end
section
/-! ===== what the class and the reference are, as numbers and functions ===== -/
/-- an Effect: shift, hasLow, low, hasHigh, high -/
abbrev Ef : Type := Int64 × Int32 × Int64 × Int32 × Int64
def e_mx (x y : Int64) : Int64 := if y < x then x else y
def e_mn (x y : Int64) : Int64 := if y < x then y else x
def e_0 : Ef := (0, 0, 0, 0, 0)
def e_add (v : Int64) (E : Ef) : Ef := (E.1 + v, E.2.1, E.2.2.1 + v, E.2.2.2.1, E.2.2.2.2 + v)
def e_gr (v : Int64) (E : Ef) : Ef := (E.1, 1, if E.2.1 = 0 then v else e_mx E.2.2.1 v, E.2.2.2.1, e_mx E.2.2.2.2 v)
def e_ls (v : Int64) (E : Ef) : Ef := (E.1, E.2.1, e_mn E.2.2.1 v, 1, if E.2.2.2.1 = 0 then v else e_mn E.2.2.2.2 v)
def e_th (k : Int32) (v : Int64) (E : Ef) : Ef := if k = 1 then e_add v E else if k = 2 then e_ls v (e_gr v E) else if k = 3 then e_gr v E else if k = 4 then e_ls v E else E
def e_cl (E : Ef) (n : Int64) : Int64 := if ¬ E.2.1 = 0 ∧ n < E.2.2.1 then E.2.2.1 else n
def e_on (E : Ef) (x : Int64) : Int64 := if ¬ E.2.2.2.1 = 0 ∧ E.2.2.2.2 < e_cl E (x + E.1) then E.2.2.2.2 else e_cl E (x + E.1)
def e_of (kf : Nat → Int32) (vf : Nat → Int64) (a : Nat) : Nat → Ef
  | 0 => e_0
  | n + 1 => e_th (kf (a + n)) (vf (a + n)) (e_of kf vf a n)
def e_it (E : Ef) (x : Int64) : Nat → Int64
  | 0 => x
  | k + 1 => e_on E (e_it E x k)
/-- staysAtHigh, isSameOfAll, leavesEachItself -/
def e_st (E : Ef) (w : Int32) : Int32 := if E.1 = 0 then w else if 0 < E.1 then 1 else 0
def e_sa (E : Ef) : Int32 := if ¬ E.2.1 = 0 ∧ ¬ E.2.2.2.1 = 0 ∧ E.2.2.1 = E.2.2.2.2 then 1 else 0
def e_id (E : Ef) : Int32 := if E.1 = 0 ∧ E.2.1 = 0 ∧ E.2.2.2.1 = 0 then 1 else 0
/-- the reference -/
def m_ap (k : Int32) (v y : Int64) : Int64 := if k = 1 then y + v else if k = 2 then v else if k = 3 then (if y < v then v else y) else if k = 4 then (if v < y then v else y) else y
def m_of (kf : Nat → Int32) (vf : Nat → Int64) (a : Nat) (x : Int64) : Nat → Int64
  | 0 => x
  | n + 1 => m_ap (kf (a + n)) (vf (a + n)) (m_of kf vf a x n)
def m_it (kf : Nat → Int32) (vf : Nat → Int64) (a n : Nat) (x : Int64) : Nat → Int64
  | 0 => x
  | k + 1 => m_of kf vf a (m_it kf vf a n x k) n
/-- rules that are not of kind 0 -/
def c_of (kf : Nat → Int32) (a : Nat) : Nat → Int32
  | 0 => 0
  | n + 1 => if kf (a + n) = 0 then c_of kf a n else c_of kf a n + 1
def f_fi {α : Type} (f : Nat → α) (a n : Nat) (x : α) : Nat → α := fun j => if a ≤ j ∧ j < a + n then x else f j
/-- what is asked of the arguments -/
abbrev okR (k : Int32) (v : Int64) : Prop := ¬ k < 0 ∧ ¬ 4 < k ∧ ¬ v < -1000000000 ∧ ¬ 1000000000 < v
abbrev okP (k : Int32) : Prop := ¬ k < 0 ∧ k < 256
abbrev okW (f t : Int32) : Prop := ¬ f < 0 ∧ ¬ t < f ∧ ¬ 256 < t
abbrev okX (x : Int64) : Prop := ¬ x < -1000000000000 ∧ ¬ 1000000000000 < x
abbrev okN (n : Int32) : Prop := ¬ n < 0 ∧ ¬ 1000 < n
abbrev okQ (w : Int32) : Prop := ¬ w < 0 ∧ ¬ 2 < w
abbrev ln (f t : Int32) : Nat := t.toNatClampNeg - f.toNatClampNeg
abbrev eW (kf : Nat → Int32) (vf : Nat → Int64) (f t : Int32) : Ef := e_of kf vf f.toNatClampNeg (ln f t)
abbrev mW (kf : Nat → Int32) (vf : Nat → Int64) (f t : Int32) (x : Int64) : Int64 := m_of kf vf f.toNatClampNeg x (ln f t)
/-! ===== long compares ===== -/
theorem lq_lt {x y : Int64} : lg_cmp x y < 0 ↔ x < y := by
  unfold lg_cmp
  by_cases h1 : y < x
  · have : ¬ x < y := fun h => by have a := Int64.lt_iff_toInt_lt.mp h; have b := Int64.lt_iff_toInt_lt.mp h1; omega
    simp [h1, this]
  · by_cases h2 : x = y
    · subst h2; simp [h1]
    · have : x < y := by
        rw [Int64.lt_iff_toInt_lt] at h1 ⊢
        have : x.toInt ≠ y.toInt := fun h => h2 (Int64.toInt_inj.mp h)
        omega
      simp [h1, h2, this]
theorem lq_gt {x y : Int64} : 0 < lg_cmp x y ↔ y < x := by
  unfold lg_cmp
  by_cases h1 : y < x
  · simp [h1]
  · by_cases h2 : x = y
    · subst h2; simp [h1]
    · simp [h1, h2]
theorem lq_eq {x y : Int64} : lg_cmp x y = 0 ↔ x = y := by
  unfold lg_cmp
  by_cases h1 : y < x
  · have : ¬ x = y := fun h => by subst h; have a := Int64.lt_iff_toInt_lt.mp h1; omega
    simp [h1, this]
  · by_cases h2 : x = y
    · simp [h1, h2]
    · simp [h1, h2]
theorem lq_ne {x y : Int64} : lg_cmp x y = 0 ↔ x = y := lq_eq
theorem lq_i {a b : Int32} : a ≤ b ↔ ¬ b < a := by rw [Int32.le_iff_toInt_le, Int32.lt_iff_toInt_lt]; omega
theorem lq_ge {x y : Int64} : 0 ≤ lg_cmp x y ↔ ¬ x < y := by rw [lq_i, lq_lt]
theorem lq_le {x y : Int64} : lg_cmp x y ≤ 0 ↔ ¬ y < x := by rw [lq_i, lq_gt]
section MX
variable {p : Program} {l : Launch} {e : Env} {R : Room} {s : State} {m : MethodId} {args : Array Value} {below : List Frame} {meth : Method} {c : Code} {H : Heap} {locs : List Loc} {cells slots : Nat} {Q : State → Prop}
theorem lv_mx {pc : Nat} {ls : Array Slot} {rest : List Value} {x y : Int64} (k : W p l e R s m args below meth c H locs cells slots Q (F0 m pc ls (.long (e_mx x y) :: rest))) : W p l e R s m args below meth c H locs cells slots Q (F0 m pc ls (.long (if y < x then x else y) :: rest)) := k
theorem lv_mn {pc : Nat} {ls : Array Slot} {rest : List Value} {x y : Int64} (k : W p l e R s m args below meth c H locs cells slots Q (F0 m pc ls (.long (e_mn x y) :: rest))) : W p l e R s m args below meth c H locs cells slots Q (F0 m pc ls (.long (if y < x then y else x) :: rest)) := k
end MX
/-! ===== what every method of the class may lean on, beside its words ===== -/
abbrev IAE : String := "java/lang/IllegalArgumentException"
abbrev IOB : String := "java/lang/IndexOutOfBoundsException"
abbrev UOE : String := "java/lang/UnsupportedOperationException"
abbrev ups : List String := ["java/lang/RuntimeException", "java/lang/Exception"]
def yD (C : String) : MethodName := ⟨C, "<init>", "(Ljava/lang/String;)V"⟩
/-- words on the tables that are not carried by a method's list: nest mates, classes that can be cast -/
def ev_ws : List Cond := [.fieldLinkNest RX1 46 "FoldRow$Effect" "hasLow" "Z" "FoldRow", .fieldLinkNest RX1 57 "FoldRow$Effect" "low" "J" "FoldRow", .fieldLinkNest RX1 61 "FoldRow$Effect" "hasHigh" "Z" "FoldRow", .fieldLinkNest RX1 66 "FoldRow$Effect" "high" "J" "FoldRow", .methodLinkNest RX1 89 yX0_init "FoldRow", .castable IAE IAE, .castable IOB IOB, .castable UOE UOE, .declares (yD "java/lang/RuntimeException"), .declares (yD "java/lang/Exception"), .declares (yD "java/lang/Throwable")]
/-- the texts of the class, by their entries -/
def ev_tx : List (Nat × String) := [(52, "there are ever lesser numbers"), (64, "there are ever greater numbers"), (73, "no number stays, or there is no last one"), (95, "no such kind"), (102, "v is out of range"), (108, "x is out of range"), (110, "n is out of range"), (112, "no such question"), (116, "no such rule"), (119, "no such part")]
def ev (U : State) : Prop := (∀ w ∈ ev_ws, va_Nw w U) ∧ (∀ q ∈ ev_tx, ∃ a, vk_R RX1 q.1 q.2 a U) ∧ va_Nc IOB IAE U ∧ va_Nc UOE IOB U
theorem ev_tabs : ∀ w ∈ ev_ws, w.onTables = true := by decide +kernel
theorem ev.same {u U : State} (h : u.vm = U.vm) (hE : ev u) : ev U := by
  refine ⟨fun w hw => va_Nw.same (ev_tabs w hw) h (hE.1 w hw), fun q hq => ?_, ?_, ?_⟩
  · obtain ⟨a, ha⟩ := hE.2.1 q hq; exact ⟨a, vk_R.same h.symm ha⟩
  · exact va_Nc.moved (by rw [h]; exact Vm.Alike.refl _) hE.2.2.1
  · exact va_Nc.moved (by rw [h]; exact Vm.Alike.refl _) hE.2.2.2
theorem ev.warm {s U : State} (hE : ev s) (hW : s.WarmedH U.vm) : ev U := by
  refine ⟨?_, fun q hq => ?_, va_Nc.moved hW.alike hE.2.2.1, va_Nc.moved hW.alike hE.2.2.2⟩
  · have h := hE.1
    simp only [ev_ws, List.forall_mem_cons] at h ⊢
    obtain ⟨h1, h2, h3, h4, h5, h6, h7, h8, h9, h10, h11, -⟩ := h
    exact ⟨va_Nw.warmF hW h1, va_Nw.warmF hW h2, va_Nw.warmF hW h3, va_Nw.warmF hW h4, va_Nw.warmM hW h5, va_Nw.warmC hW h6, va_Nw.warmC hW h7, va_Nw.warmC hW h8, va_Nw.warmD hW h9, va_Nw.warmD hW h10, va_Nw.warmD hW h11, fun _ h => absurd h List.not_mem_nil⟩
  · obtain ⟨a, ha⟩ := hE.2.1 q hq; exact ⟨a, vk_R.warm hW ha⟩
theorem ev_n46 {U : State} (h : ev U) : va_Nw (.fieldLinkNest RX1 46 "FoldRow$Effect" "hasLow" "Z" "FoldRow") U := h.1 _ (by decide +kernel)
theorem ev_n57 {U : State} (h : ev U) : va_Nw (.fieldLinkNest RX1 57 "FoldRow$Effect" "low" "J" "FoldRow") U := h.1 _ (by decide +kernel)
theorem ev_n61 {U : State} (h : ev U) : va_Nw (.fieldLinkNest RX1 61 "FoldRow$Effect" "hasHigh" "Z" "FoldRow") U := h.1 _ (by decide +kernel)
theorem ev_n66 {U : State} (h : ev U) : va_Nw (.fieldLinkNest RX1 66 "FoldRow$Effect" "high" "J" "FoldRow") U := h.1 _ (by decide +kernel)
theorem ev_m89 {U : State} (h : ev U) : va_Nw (.methodLinkNest RX1 89 yX0_init "FoldRow") U := h.1 _ (by decide +kernel)
theorem ev_ciae {U : State} (h : ev U) : va_Nw (.castable IAE IAE) U := h.1 _ (by decide +kernel)
theorem ev_ciob {U : State} (h : ev U) : va_Nw (.castable IOB IOB) U := h.1 _ (by decide +kernel)
theorem ev_cuoe {U : State} (h : ev U) : va_Nw (.castable UOE UOE) U := h.1 _ (by decide +kernel)
theorem ev_s52 {U : State} (h : ev U) : ∃ a, vk_R RX1 52 "there are ever lesser numbers" a U := h.2.1 (52, "there are ever lesser numbers") (by decide +kernel)
theorem ev_s64 {U : State} (h : ev U) : ∃ a, vk_R RX1 64 "there are ever greater numbers" a U := h.2.1 (64, "there are ever greater numbers") (by decide +kernel)
theorem ev_s73 {U : State} (h : ev U) : ∃ a, vk_R RX1 73 "no number stays, or there is no last one" a U := h.2.1 (73, "no number stays, or there is no last one") (by decide +kernel)
theorem ev_s95 {U : State} (h : ev U) : ∃ a, vk_R RX1 95 "no such kind" a U := h.2.1 (95, "no such kind") (by decide +kernel)
theorem ev_s102 {U : State} (h : ev U) : ∃ a, vk_R RX1 102 "v is out of range" a U := h.2.1 (102, "v is out of range") (by decide +kernel)
theorem ev_s108 {U : State} (h : ev U) : ∃ a, vk_R RX1 108 "x is out of range" a U := h.2.1 (108, "x is out of range") (by decide +kernel)
theorem ev_s110 {U : State} (h : ev U) : ∃ a, vk_R RX1 110 "n is out of range" a U := h.2.1 (110, "n is out of range") (by decide +kernel)
theorem ev_s112 {U : State} (h : ev U) : ∃ a, vk_R RX1 112 "no such question" a U := h.2.1 (112, "no such question") (by decide +kernel)
theorem ev_s116 {U : State} (h : ev U) : ∃ a, vk_R RX1 116 "no such rule" a U := h.2.1 (116, "no such rule") (by decide +kernel)
theorem ev_s119 {U : State} (h : ev U) : ∃ a, vk_R RX1 119 "no such part" a U := h.2.1 (119, "no such part") (by decide +kernel)
theorem ev_at_iae {args : Array Value} {s : State} (h : ∀ w ∈ (vx_atS RX1 97 IAE ups).filter goodWord, w.before args s = true) (hE : ev s) : ∀ w ∈ vx_atS RX1 97 IAE ups, w.before args s = true := vx_hat (L := vx_atS RX1 97 IAE ups) (B := [.castable IAE IAE, .declares (yD "java/lang/RuntimeException"), .declares (yD "java/lang/Exception"), .declares (yD "java/lang/Throwable")]) h (by decide +kernel) (vx_c (va_Nw.use rfl (ev_ciae hE)) (vx_c (va_Nw.use rfl (hE.1 _ (by decide +kernel))) (vx_c (va_Nw.use rfl (hE.1 _ (by decide +kernel))) (vx_c (va_Nw.use rfl (hE.1 _ (by decide +kernel))) vx_n))))
theorem ev_at_iob {args : Array Value} {s : State} (h : ∀ w ∈ (vx_atS RX1 118 IOB ups).filter goodWord, w.before args s = true) (hE : ev s) : ∀ w ∈ vx_atS RX1 118 IOB ups, w.before args s = true := vx_hat (L := vx_atS RX1 118 IOB ups) (B := [.castable IOB IOB, .declares (yD "java/lang/RuntimeException"), .declares (yD "java/lang/Exception"), .declares (yD "java/lang/Throwable")]) h (by decide +kernel) (vx_c (va_Nw.use rfl (ev_ciob hE)) (vx_c (va_Nw.use rfl (hE.1 _ (by decide +kernel))) (vx_c (va_Nw.use rfl (hE.1 _ (by decide +kernel))) (vx_c (va_Nw.use rfl (hE.1 _ (by decide +kernel))) vx_n))))
theorem ev_at_uoe {args : Array Value} {s : State} (h : ∀ w ∈ (vx_atS RX1 54 UOE ups).filter goodWord, w.before args s = true) (hE : ev s) : ∀ w ∈ vx_atS RX1 54 UOE ups, w.before args s = true := vx_hat (L := vx_atS RX1 54 UOE ups) (B := [.castable UOE UOE, .declares (yD "java/lang/RuntimeException"), .declares (yD "java/lang/Exception"), .declares (yD "java/lang/Throwable")]) h (by decide +kernel) (vx_c (va_Nw.use rfl (ev_cuoe hE)) (vx_c (va_Nw.use rfl (hE.1 _ (by decide +kernel))) (vx_c (va_Nw.use rfl (hE.1 _ (by decide +kernel))) (vx_c (va_Nw.use rfl (hE.1 _ (by decide +kernel))) vx_n))))
theorem ev_ot_iae : ∀ w ∈ Cond.classLink RX1 93 IAE :: Cond.initialized IAE :: vx_atS RX1 97 IAE ups, vx_ot w = true := by decide +kernel
theorem ev_ot_iob : ∀ w ∈ Cond.classLink RX1 114 IOB :: Cond.initialized IOB :: vx_atS RX1 118 IOB ups, vx_ot w = true := by decide +kernel
theorem ev_ot_uoe : ∀ w ∈ Cond.classLink RX1 50 UOE :: Cond.initialized UOE :: vx_atS RX1 54 UOE ups, vx_ot w = true := by decide +kernel
/-- the two statics of Throwable that a throw reads -/
def ez (A : Nat → Prop) (U : State) (H : Heap) : Prop := vx_Zq Bundle.tN "UNASSIGNED_STACK" Bundle.steD A U H ∧ vx_Zq Bundle.tN "SUPPRESSED_SENTINEL" Bundle.listD A U H
theorem ez.moved {A : Nat → Prop} {u U : State} {H : Heap} (h : ez A u H) (hvm : u.vm.Alike U.vm) : ez A U H := ⟨vx_Zq.moved hvm h.1, vx_Zq.moved hvm h.2⟩
theorem ez.kept {A : Nat → Prop} {U : State} {H H1 : Heap} (h : ez A U H) (hq : ∀ a : Nat, a < H.size → ¬ A a → H1[a]? = H[a]?) : ez A U H1 := ⟨h.1.kept hq, h.2.kept hq⟩
theorem ez.narrow {A B : Nat → Prop} {U : State} {H : Heap} (h : ez A U H) (hAB : ∀ q, B q → A q) : ez B U H := ⟨h.1.narrow hAB, h.2.narrow hAB⟩
end
section
/-! ===== FoldRow$Effect: its methods, one contract each ===== -/
theorem sw_1_4 {x : Int32} (h1 : ¬ x = 1) (h2 : ¬ x = 2) (h3 : ¬ x = 3) (h4 : ¬ x = 4) : x.toInt < 1 ∨ 4 < x.toInt := by
  have a1 := lv_neT h1 (a := 1) rfl
  have a2 := lv_neT h2 (a := 2) rfl
  have a3 := lv_neT h3 (a := 3) rfl
  have a4 := lv_neT h4 (a := 4) rfl
  omega
set_option maxRecDepth 20000 in
theorem kX0_init_0 : (.methodLink RX0 3 objectInit : Cond) ∈ wsX0_init := by decide +kernel
set_option maxRecDepth 20000 in
theorem kX0_init_1 : (.instanceMethod objectInit : Cond) ∈ wsX0_init := by decide +kernel
set_option maxRecDepth 20000 in
theorem kX0_init_2 : (.code objectInit ⟨#[0xb1]⟩ 1 none : Cond) ∈ wsX0_init := by decide +kernel
set_option maxRecDepth 20000 in
theorem kX0_init_3 : ∀ w ∈ wsX00, w ∈ wsX0_init := by decide +kernel
set_option maxRecDepth 20000 in
theorem kX0_init_4 : (.fieldLink RX0 9 "FoldRow$Effect" "shift" "J" : Cond) ∈ wsX0_init := by decide +kernel
set_option maxRecDepth 20000 in
theorem kX0_init_5 : (.fieldLink RX0 15 "FoldRow$Effect" "hasLow" "Z" : Cond) ∈ wsX0_init := by decide +kernel
set_option maxRecDepth 20000 in
theorem kX0_init_6 : (.fieldLink RX0 19 "FoldRow$Effect" "low" "J" : Cond) ∈ wsX0_init := by decide +kernel
set_option maxRecDepth 20000 in
theorem kX0_init_7 : (.fieldLink RX0 22 "FoldRow$Effect" "hasHigh" "Z" : Cond) ∈ wsX0_init := by decide +kernel
set_option maxRecDepth 20000 in
theorem kX0_init_8 : (.fieldLink RX0 25 "FoldRow$Effect" "high" "J" : Cond) ∈ wsX0_init := by decide +kernel
set_option maxHeartbeats 4000000 in
set_option maxRecDepth 100000 in
/-- Effect(): all is 0 -/
theorem qX0_init (l : Launch) (dC : Nat → ClassId) (dI : Nat → Nat → Nat) (sz : Nat) (h0 : Nat)  : Met l yX0_init wsX0_init ({ frames := 1, cells := 0, slots := 0, locals := 12 }) (va_Pc [.ref h0] (fun U => U.heap.size = sz ∧ va_P (dC, dI) vwCl [(h0, .inr (0, [.long 0, .int 0, .long 0, .int 0, .long 0]))] U.heap ∧ va_K (dC, dI) vwCl [] U ∧ va_D (fun _ => True) [(h0, .inr (0, [.long 0, .int 0, .long 0, .int 0, .long 0]))])) (va_Qv (fun (u : Ef) => u = e_0) (fun (u : Ef) (t9 : State) => va_P (dC, dI) vwCl [(h0, .inr (0, [.long u.1, .int u.2.1, .long u.2.2.1, .int u.2.2.2.1, .long u.2.2.2.2]))] t9.heap ∧ va_K (dC, dI) vwCl [] t9 ∧ va_D (va_A [(h0, .inr (0, [.long 0, .int 0, .long 0, .int 0, .long 0]))] sz) [(h0, .inr (0, [.long u.1, .int u.2.1, .long u.2.2.1, .int u.2.2.2.1, .long u.2.2.2.2]))]) (va_A [(h0, .inr (0, [.long 0, .int 0, .long 0, .int 0, .long 0]))] sz)) 0 0 (va_A [(h0, .inr (0, [.long 0, .int 0, .long 0, .int 0, .long 0]))] sz) := by
  refine Met.ofW (cc := cX0_init) (maxL := 1) (ret := none) (by decide) rfl ?_
  intro p e s m args below meth c s₁ B hml hv
  obtain ⟨rfl, hsz, hP, hK, hD0⟩ := hv
  have hx := B.exec
  have hb := B.bytes
  have hr := B.returns
  have hts := atoms_spec (ws := wsX0_init) B.pre
  have hown : s.vm.findClass RX0 = some m.cls := findClass_of_methodNamed B.named
  have hlocks := B.notSynchronized
  have hin : meth.name = "<init>" := (name_of_methodNamed B.named B.method).1
  subst hsz
  have hD := hD0.self (sz := s.heap.size)
  generalize hAe : va_A [(h0, .inr (0, [.long 0, .int 0, .long 0, .int 0, .long 0]))] s.heap.size = A at hD ⊢
  have hA : ∀ q : Nat, s.heap.size ≤ q → A q := fun q h => by rw [← hAe]; exact Or.inr h
  have hS : va_S A s.heap s.heap [] := va_S.rf
  have hP : va_P (dC, dI) vwCl [(h0, .inr (0, [.long 0, .int 0, .long 0, .int 0, .long 0]))] s.heap := hP
  have hl := lv_entry ([.ref h0]) (n := 1) (Nat.le_of_ble_eq_true rfl)
  rw [lg_entry_eq]
  generalize (lg_sl ([.ref h0]) ++ List.replicate (1 - (lg_sl ([.ref h0])).length) Slot.unset).toArray = ls at hl ⊢
  have hl : lv_has ls 1 [(0, .ref h0)] := hl
  refine lv_aload_n hx hb dX0_init_0 rfl (lv_at hl 0 rfl) ?_
  refine W.objInit hx hb hown (hts (.methodLink RX0 3 objectInit) kX0_init_0) (hts (.instanceMethod objectInit) kX0_init_1) (hts (.code objectInit ⟨#[0xb1]⟩ 1 none) kX0_init_2) rfl (by rw [hml]; exact hl.1) rfl dX0_init_1 (Nat.le_of_ble_eq_true rfl) (Nat.le_of_ble_eq_true rfl) ?_
  refine W.eq (g2 := F0 m 4 ls []) rfl ?_
  refine lv_aload_n hx hb dX0_init_4 rfl (lv_at hl 0 rfl) ?_
  refine lv_lconst (v := 0) hx hb dX0_init_5 (by decide) ?_
  refine va_put (D := (dC, dI)) (ci := 0) (v := .long 0) (ty := .long) (C := RX0) (T := TX0) (N := 5) hx hb hts kX0_init_3 tyX0 tyX0_ok nmX0 hown hK hP hD hS 0 rfl rfl 0 (by decide) (hts (.fieldLink RX0 9 "FoldRow$Effect" "shift" "J") kX0_init_4) (fun _ h9 => h9) rfl (by decide +kernel) rfl rfl (Nat.le_of_ble_eq_true rfl) dX0_init_6 (fun H locs hP hD hS => ?_)
  have hP : va_P (dC, dI) vwCl [(h0, .inr (0, [.long 0, .int 0, .long 0, .int 0, .long 0]))] H := hP
  have hD : va_D A [(h0, .inr (0, [.long 0, .int 0, .long 0, .int 0, .long 0]))] := hD
  refine lv_aload_n hx hb dX0_init_9 rfl (lv_at hl 0 rfl) ?_
  refine lv_iconst (v := 0) hx hb dX0_init_10 (by decide) ?_
  refine va_put (D := (dC, dI)) (ci := 0) (v := .int 0) (ty := .boolean) (C := RX0) (T := TX0) (N := 5) hx hb hts kX0_init_3 tyX0 tyX0_ok nmX0 hown hK hP hD hS 0 rfl rfl 1 (by decide) (hts (.fieldLink RX0 15 "FoldRow$Effect" "hasLow" "Z") kX0_init_5) (fun _ h9 => h9) rfl (by decide +kernel) rfl rfl (Nat.le_of_ble_eq_true rfl) dX0_init_11 (fun H locs hP hD hS => ?_)
  have hP : va_P (dC, dI) vwCl [(h0, .inr (0, [.long 0, .int 0, .long 0, .int 0, .long 0]))] H := hP
  have hD : va_D A [(h0, .inr (0, [.long 0, .int 0, .long 0, .int 0, .long 0]))] := hD
  refine lv_aload_n hx hb dX0_init_14 rfl (lv_at hl 0 rfl) ?_
  refine lv_lconst (v := 0) hx hb dX0_init_15 (by decide) ?_
  refine va_put (D := (dC, dI)) (ci := 0) (v := .long 0) (ty := .long) (C := RX0) (T := TX0) (N := 5) hx hb hts kX0_init_3 tyX0 tyX0_ok nmX0 hown hK hP hD hS 0 rfl rfl 2 (by decide) (hts (.fieldLink RX0 19 "FoldRow$Effect" "low" "J") kX0_init_6) (fun _ h9 => h9) rfl (by decide +kernel) rfl rfl (Nat.le_of_ble_eq_true rfl) dX0_init_16 (fun H locs hP hD hS => ?_)
  have hP : va_P (dC, dI) vwCl [(h0, .inr (0, [.long 0, .int 0, .long 0, .int 0, .long 0]))] H := hP
  have hD : va_D A [(h0, .inr (0, [.long 0, .int 0, .long 0, .int 0, .long 0]))] := hD
  refine lv_aload_n hx hb dX0_init_19 rfl (lv_at hl 0 rfl) ?_
  refine lv_iconst (v := 0) hx hb dX0_init_20 (by decide) ?_
  refine va_put (D := (dC, dI)) (ci := 0) (v := .int 0) (ty := .boolean) (C := RX0) (T := TX0) (N := 5) hx hb hts kX0_init_3 tyX0 tyX0_ok nmX0 hown hK hP hD hS 0 rfl rfl 3 (by decide) (hts (.fieldLink RX0 22 "FoldRow$Effect" "hasHigh" "Z") kX0_init_7) (fun _ h9 => h9) rfl (by decide +kernel) rfl rfl (Nat.le_of_ble_eq_true rfl) dX0_init_21 (fun H locs hP hD hS => ?_)
  have hP : va_P (dC, dI) vwCl [(h0, .inr (0, [.long 0, .int 0, .long 0, .int 0, .long 0]))] H := hP
  have hD : va_D A [(h0, .inr (0, [.long 0, .int 0, .long 0, .int 0, .long 0]))] := hD
  refine lv_aload_n hx hb dX0_init_24 rfl (lv_at hl 0 rfl) ?_
  refine lv_lconst (v := 0) hx hb dX0_init_25 (by decide) ?_
  refine va_put (D := (dC, dI)) (ci := 0) (v := .long 0) (ty := .long) (C := RX0) (T := TX0) (N := 5) hx hb hts kX0_init_3 tyX0 tyX0_ok nmX0 hown hK hP hD hS 0 rfl rfl 4 (by decide) (hts (.fieldLink RX0 25 "FoldRow$Effect" "high" "J") kX0_init_8) (fun _ h9 => h9) rfl (by decide +kernel) rfl rfl (Nat.le_of_ble_eq_true rfl) dX0_init_26 (fun H locs hP hD hS => ?_)
  have hP : va_P (dC, dI) vwCl [(h0, .inr (0, [.long 0, .int 0, .long 0, .int 0, .long 0]))] H := hP
  have hD : va_D A [(h0, .inr (0, [.long 0, .int 0, .long 0, .int 0, .long 0]))] := hD
  have hP9 := hP.sub (ws' := [(h0, .inr (0, [.long 0, .int 0, .long 0, .int 0, .long 0]))]) [0] rfl
  have hD9 := hD.sub (ws' := [(h0, .inr (0, [.long 0, .int 0, .long 0, .int 0, .long 0]))]) [0] (by decide) rfl
  have hK9 := hK.sub (tys' := []) [] rfl
  refine W.widen (k := 0) (n := 0) (Nat.le_of_ble_eq_true rfl) (Nat.le_of_ble_eq_true rfl) ?_
  exact W.vret hx hb hr (fun t9 ht hW => ⟨⟨(0, 0, 0, 0, 0), rfl, rfl, by rw [ht]; exact hP9, va_K.moved hW.alike hK9, hD9⟩, hS.F ht⟩) hS.2.2 dX0_init_29

set_option maxRecDepth 20000 in
theorem kX0_thenAdd_0 : ∀ w ∈ wsX00, w ∈ wsX0_thenAdd := by decide +kernel
set_option maxRecDepth 20000 in
theorem kX0_thenAdd_1 : (.fieldLink RX0 9 "FoldRow$Effect" "shift" "J" : Cond) ∈ wsX0_thenAdd := by decide +kernel
set_option maxRecDepth 20000 in
theorem kX0_thenAdd_2 : (.fieldLink RX0 19 "FoldRow$Effect" "low" "J" : Cond) ∈ wsX0_thenAdd := by decide +kernel
set_option maxRecDepth 20000 in
theorem kX0_thenAdd_3 : (.fieldLink RX0 25 "FoldRow$Effect" "high" "J" : Cond) ∈ wsX0_thenAdd := by decide +kernel
set_option maxHeartbeats 4000000 in
set_option maxRecDepth 100000 in
theorem qX0_thenAdd (l : Launch) (dC : Nat → ClassId) (dI : Nat → Nat → Nat) (sz : Nat) (h0 : Nat) (E : Ef) (v : Int64)  : Met l yX0_thenAdd wsX0_thenAdd ({ frames := 0, cells := 0, slots := 0, locals := 0 }) (va_Pc [.ref h0, .long v] (fun U => U.heap.size = sz ∧ va_P (dC, dI) vwCl [(h0, .inr (0, [.long E.1, .int E.2.1, .long E.2.2.1, .int E.2.2.2.1, .long E.2.2.2.2]))] U.heap ∧ va_K (dC, dI) vwCl [] U ∧ va_D (fun _ => True) [(h0, .inr (0, [.long E.1, .int E.2.1, .long E.2.2.1, .int E.2.2.2.1, .long E.2.2.2.2]))])) (va_Qv (fun (u : Ef) => u = e_add v E) (fun (u : Ef) (t9 : State) => va_P (dC, dI) vwCl [(h0, .inr (0, [.long u.1, .int u.2.1, .long u.2.2.1, .int u.2.2.2.1, .long u.2.2.2.2]))] t9.heap ∧ va_K (dC, dI) vwCl [] t9 ∧ va_D (va_A [(h0, .inr (0, [.long E.1, .int E.2.1, .long E.2.2.1, .int E.2.2.2.1, .long E.2.2.2.2]))] sz) [(h0, .inr (0, [.long u.1, .int u.2.1, .long u.2.2.1, .int u.2.2.2.1, .long u.2.2.2.2]))]) (va_A [(h0, .inr (0, [.long E.1, .int E.2.1, .long E.2.2.1, .int E.2.2.2.1, .long E.2.2.2.2]))] sz)) 0 0 (va_A [(h0, .inr (0, [.long E.1, .int E.2.1, .long E.2.2.1, .int E.2.2.2.1, .long E.2.2.2.2]))] sz) := by
  refine Met.ofW (cc := cX0_thenAdd) (maxL := 3) (ret := none) (by decide) rfl ?_
  intro p e s m args below meth c s₁ B hml hv
  obtain ⟨rfl, hsz, hP, hK, hD0⟩ := hv
  have hx := B.exec
  have hb := B.bytes
  have hr := B.returns
  have hts := atoms_spec (ws := wsX0_thenAdd) B.pre
  have hown : s.vm.findClass RX0 = some m.cls := findClass_of_methodNamed B.named
  have hlocks := B.notSynchronized
  subst hsz
  have hD := hD0.self (sz := s.heap.size)
  generalize hAe : va_A [(h0, .inr (0, [.long E.1, .int E.2.1, .long E.2.2.1, .int E.2.2.2.1, .long E.2.2.2.2]))] s.heap.size = A at hD ⊢
  have hA : ∀ q : Nat, s.heap.size ≤ q → A q := fun q h => by rw [← hAe]; exact Or.inr h
  have hS : va_S A s.heap s.heap [] := va_S.rf
  have hP : va_P (dC, dI) vwCl [(h0, .inr (0, [.long E.1, .int E.2.1, .long E.2.2.1, .int E.2.2.2.1, .long E.2.2.2.2]))] s.heap := hP
  have hl := lv_entry ([.ref h0, .long v]) (n := 3) (Nat.le_of_ble_eq_true rfl)
  rw [lg_entry_eq]
  generalize (lg_sl ([.ref h0, .long v]) ++ List.replicate (3 - (lg_sl ([.ref h0, .long v])).length) Slot.unset).toArray = ls at hl ⊢
  have hl : lv_has ls 3 [(0, .ref h0), (1, .long v)] := hl
  refine lv_aload_n hx hb dX0_thenAdd_0 rfl (lv_at hl 0 rfl) ?_
  refine lv_dup hx hb dX0_thenAdd_1 rfl ?_
  refine va_get (D := (dC, dI)) (ci := 0) (v := .long E.1) (C := RX0) (T := TX0) (N := 5) hx hb hts kX0_thenAdd_0 hown hK hP 0 rfl rfl 0 (by decide) (hts (.fieldLink RX0 9 "FoldRow$Effect" "shift" "J") kX0_thenAdd_1) (fun _ h9 => h9) rfl dX0_thenAdd_2 ?_
  refine lv_lload_n hx hb dX0_thenAdd_5 rfl (lv_at hl 1 rfl) ?_
  refine lv_ladd hx hb dX0_thenAdd_6 ?_
  refine lv_topl (fun v_1 ev_1 => ?_)
  refine va_put (D := (dC, dI)) (ci := 0) (v := .long v_1) (ty := .long) (C := RX0) (T := TX0) (N := 5) hx hb hts kX0_thenAdd_0 tyX0 tyX0_ok nmX0 hown hK hP hD hS 0 rfl rfl 0 (by decide) (hts (.fieldLink RX0 9 "FoldRow$Effect" "shift" "J") kX0_thenAdd_1) (fun _ h9 => h9) rfl (by decide +kernel) rfl rfl (Nat.le_of_ble_eq_true rfl) dX0_thenAdd_7 (fun H locs hP hD hS => ?_)
  have hP : va_P (dC, dI) vwCl [(h0, .inr (0, [.long v_1, .int E.2.1, .long E.2.2.1, .int E.2.2.2.1, .long E.2.2.2.2]))] H := hP
  have hD : va_D A [(h0, .inr (0, [.long v_1, .int E.2.1, .long E.2.2.1, .int E.2.2.2.1, .long E.2.2.2.2]))] := hD
  refine lv_aload_n hx hb dX0_thenAdd_10 rfl (lv_at hl 0 rfl) ?_
  refine lv_dup hx hb dX0_thenAdd_11 rfl ?_
  refine va_get (D := (dC, dI)) (ci := 0) (v := .long E.2.2.1) (C := RX0) (T := TX0) (N := 5) hx hb hts kX0_thenAdd_0 hown hK hP 0 rfl rfl 2 (by decide) (hts (.fieldLink RX0 19 "FoldRow$Effect" "low" "J") kX0_thenAdd_2) (fun _ h9 => h9) rfl dX0_thenAdd_12 ?_
  refine lv_lload_n hx hb dX0_thenAdd_15 rfl (lv_at hl 1 rfl) ?_
  refine lv_ladd hx hb dX0_thenAdd_16 ?_
  refine lv_topl (fun v_2 ev_2 => ?_)
  refine va_put (D := (dC, dI)) (ci := 0) (v := .long v_2) (ty := .long) (C := RX0) (T := TX0) (N := 5) hx hb hts kX0_thenAdd_0 tyX0 tyX0_ok nmX0 hown hK hP hD hS 0 rfl rfl 2 (by decide) (hts (.fieldLink RX0 19 "FoldRow$Effect" "low" "J") kX0_thenAdd_2) (fun _ h9 => h9) rfl (by decide +kernel) rfl rfl (Nat.le_of_ble_eq_true rfl) dX0_thenAdd_17 (fun H locs hP hD hS => ?_)
  have hP : va_P (dC, dI) vwCl [(h0, .inr (0, [.long v_1, .int E.2.1, .long v_2, .int E.2.2.2.1, .long E.2.2.2.2]))] H := hP
  have hD : va_D A [(h0, .inr (0, [.long v_1, .int E.2.1, .long v_2, .int E.2.2.2.1, .long E.2.2.2.2]))] := hD
  refine lv_aload_n hx hb dX0_thenAdd_20 rfl (lv_at hl 0 rfl) ?_
  refine lv_dup hx hb dX0_thenAdd_21 rfl ?_
  refine va_get (D := (dC, dI)) (ci := 0) (v := .long E.2.2.2.2) (C := RX0) (T := TX0) (N := 5) hx hb hts kX0_thenAdd_0 hown hK hP 0 rfl rfl 4 (by decide) (hts (.fieldLink RX0 25 "FoldRow$Effect" "high" "J") kX0_thenAdd_3) (fun _ h9 => h9) rfl dX0_thenAdd_22 ?_
  refine lv_lload_n hx hb dX0_thenAdd_25 rfl (lv_at hl 1 rfl) ?_
  refine lv_ladd hx hb dX0_thenAdd_26 ?_
  refine lv_topl (fun v_3 ev_3 => ?_)
  refine va_put (D := (dC, dI)) (ci := 0) (v := .long v_3) (ty := .long) (C := RX0) (T := TX0) (N := 5) hx hb hts kX0_thenAdd_0 tyX0 tyX0_ok nmX0 hown hK hP hD hS 0 rfl rfl 4 (by decide) (hts (.fieldLink RX0 25 "FoldRow$Effect" "high" "J") kX0_thenAdd_3) (fun _ h9 => h9) rfl (by decide +kernel) rfl rfl (Nat.le_of_ble_eq_true rfl) dX0_thenAdd_27 (fun H locs hP hD hS => ?_)
  have hP : va_P (dC, dI) vwCl [(h0, .inr (0, [.long v_1, .int E.2.1, .long v_2, .int E.2.2.2.1, .long v_3]))] H := hP
  have hD : va_D A [(h0, .inr (0, [.long v_1, .int E.2.1, .long v_2, .int E.2.2.2.1, .long v_3]))] := hD
  have hP9 := hP.sub (ws' := [(h0, .inr (0, [.long v_1, .int E.2.1, .long v_2, .int E.2.2.2.1, .long v_3]))]) [0] rfl
  have hD9 := hD.sub (ws' := [(h0, .inr (0, [.long v_1, .int E.2.1, .long v_2, .int E.2.2.2.1, .long v_3]))]) [0] (by decide) rfl
  have hK9 := hK.sub (tys' := []) [] rfl
  refine W.widen (k := 0) (n := 0) (Nat.le_of_ble_eq_true rfl) (Nat.le_of_ble_eq_true rfl) ?_
  exact W.vret hx hb hr (fun t9 ht hW => ⟨⟨(v_1, E.2.1, v_2, E.2.2.2.1, v_3), rfl, by first | (simp [e_add, ev_1, ev_2, ev_3]; done) | (simp [e_add, ← ev_1, ← ev_2, ← ev_3]; done) | grind [e_add], by rw [ht]; exact hP9, va_K.moved hW.alike hK9, hD9⟩, hS.F ht⟩) hS.2.2 dX0_thenAdd_30

set_option maxRecDepth 20000 in
theorem kX0_thenGreater_0 : ∀ w ∈ wsX00, w ∈ wsX0_thenGreater := by decide +kernel
set_option maxRecDepth 20000 in
theorem kX0_thenGreater_1 : (.fieldLink RX0 15 "FoldRow$Effect" "hasLow" "Z" : Cond) ∈ wsX0_thenGreater := by decide +kernel
set_option maxRecDepth 20000 in
theorem kX0_thenGreater_2 : (.fieldLink RX0 19 "FoldRow$Effect" "low" "J" : Cond) ∈ wsX0_thenGreater := by decide +kernel
set_option maxRecDepth 20000 in
theorem kX0_thenGreater_3 : (.fieldLink RX0 25 "FoldRow$Effect" "high" "J" : Cond) ∈ wsX0_thenGreater := by decide +kernel
set_option maxRecDepth 20000 in
theorem kX0_thenGreater_4 : (.methodLink RX0 38 Lib.MathLoose.max_long.x : Cond) ∈ wsX0_thenGreater := by decide +kernel
set_option maxRecDepth 20000 in
theorem kX0_thenGreater_5 : (.static Lib.MathLoose.max_long.x : Cond) ∈ wsX0_thenGreater := by decide +kernel
set_option maxRecDepth 20000 in
theorem kX0_thenGreater_6 : (.initialized "java/lang/Math" : Cond) ∈ wsX0_thenGreater := by decide +kernel
set_option maxRecDepth 20000 in
theorem kX0_thenGreater_7 : (.code Lib.MathLoose.max_long.x Lib.MathLoose.max_long.code 4 (some .long) : Cond) ∈ wsX0_thenGreater := by decide +kernel
set_option maxHeartbeats 4000000 in
set_option maxRecDepth 100000 in
theorem qX0_thenGreater (l : Launch) (dC : Nat → ClassId) (dI : Nat → Nat → Nat) (sz : Nat) (h0 : Nat) (E : Ef) (v : Int64)  : Met l yX0_thenGreater wsX0_thenGreater ({ frames := 1, cells := 0, slots := 0, locals := 32 }) (va_Pc [.ref h0, .long v] (fun U => U.heap.size = sz ∧ va_P (dC, dI) vwCl [(h0, .inr (0, [.long E.1, .int E.2.1, .long E.2.2.1, .int E.2.2.2.1, .long E.2.2.2.2]))] U.heap ∧ va_K (dC, dI) vwCl [] U ∧ va_D (fun _ => True) [(h0, .inr (0, [.long E.1, .int E.2.1, .long E.2.2.1, .int E.2.2.2.1, .long E.2.2.2.2]))])) (va_Qv (fun (u : Ef) => u = e_gr v E) (fun (u : Ef) (t9 : State) => va_P (dC, dI) vwCl [(h0, .inr (0, [.long u.1, .int u.2.1, .long u.2.2.1, .int u.2.2.2.1, .long u.2.2.2.2]))] t9.heap ∧ va_K (dC, dI) vwCl [] t9 ∧ va_D (va_A [(h0, .inr (0, [.long E.1, .int E.2.1, .long E.2.2.1, .int E.2.2.2.1, .long E.2.2.2.2]))] sz) [(h0, .inr (0, [.long u.1, .int u.2.1, .long u.2.2.1, .int u.2.2.2.1, .long u.2.2.2.2]))]) (va_A [(h0, .inr (0, [.long E.1, .int E.2.1, .long E.2.2.1, .int E.2.2.2.1, .long E.2.2.2.2]))] sz)) 0 0 (va_A [(h0, .inr (0, [.long E.1, .int E.2.1, .long E.2.2.1, .int E.2.2.2.1, .long E.2.2.2.2]))] sz) := by
  refine Met.ofW (cc := cX0_thenGreater) (maxL := 3) (ret := none) (by decide) rfl ?_
  intro p e s m args below meth c s₁ B hml hv
  obtain ⟨rfl, hsz, hP, hK, hD0⟩ := hv
  have hx := B.exec
  have hb := B.bytes
  have hr := B.returns
  have hts := atoms_spec (ws := wsX0_thenGreater) B.pre
  have hown : s.vm.findClass RX0 = some m.cls := findClass_of_methodNamed B.named
  have hlocks := B.notSynchronized
  subst hsz
  have hD := hD0.self (sz := s.heap.size)
  generalize hAe : va_A [(h0, .inr (0, [.long E.1, .int E.2.1, .long E.2.2.1, .int E.2.2.2.1, .long E.2.2.2.2]))] s.heap.size = A at hD ⊢
  have hA : ∀ q : Nat, s.heap.size ≤ q → A q := fun q h => by rw [← hAe]; exact Or.inr h
  have hS : va_S A s.heap s.heap [] := va_S.rf
  have hP : va_P (dC, dI) vwCl [(h0, .inr (0, [.long E.1, .int E.2.1, .long E.2.2.1, .int E.2.2.2.1, .long E.2.2.2.2]))] s.heap := hP
  have hl := lv_entry ([.ref h0, .long v]) (n := 3) (Nat.le_of_ble_eq_true rfl)
  rw [lg_entry_eq]
  generalize (lg_sl ([.ref h0, .long v]) ++ List.replicate (3 - (lg_sl ([.ref h0, .long v])).length) Slot.unset).toArray = ls at hl ⊢
  have hl : lv_has ls 3 [(0, .ref h0), (1, .long v)] := hl
  refine lv_aload_n hx hb dX0_thenGreater_0 rfl (lv_at hl 0 rfl) ?_
  refine lv_aload_n hx hb dX0_thenGreater_1 rfl (lv_at hl 0 rfl) ?_
  refine va_get (D := (dC, dI)) (ci := 0) (v := .int E.2.1) (C := RX0) (T := TX0) (N := 5) hx hb hts kX0_thenGreater_0 hown hK hP 0 rfl rfl 1 (by decide) (hts (.fieldLink RX0 15 "FoldRow$Effect" "hasLow" "Z") kX0_thenGreater_1) (fun _ h9 => h9) rfl dX0_thenGreater_2 ?_
  refine lv_if_eq (tgt := 19) hx hb dX0_thenGreater_5 (by decide) (fun c_1 => ?_) (fun c_1 => ?_)
  · refine lv_lload_n hx hb dX0_thenGreater_19 rfl (lv_at hl 1 rfl) ?_
    refine va_put (D := (dC, dI)) (ci := 0) (v := .long v) (ty := .long) (C := RX0) (T := TX0) (N := 5) hx hb hts kX0_thenGreater_0 tyX0 tyX0_ok nmX0 hown hK hP hD hS 0 rfl rfl 2 (by decide) (hts (.fieldLink RX0 19 "FoldRow$Effect" "low" "J") kX0_thenGreater_2) (fun _ h9 => h9) rfl (by decide +kernel) rfl rfl (Nat.le_of_ble_eq_true rfl) dX0_thenGreater_20 (fun H locs hP hD hS => ?_)
    have hP : va_P (dC, dI) vwCl [(h0, .inr (0, [.long E.1, .int E.2.1, .long v, .int E.2.2.2.1, .long E.2.2.2.2]))] H := hP
    have hD : va_D A [(h0, .inr (0, [.long E.1, .int E.2.1, .long v, .int E.2.2.2.1, .long E.2.2.2.2]))] := hD
    refine lv_aload_n hx hb dX0_thenGreater_23 rfl (lv_at hl 0 rfl) ?_
    refine lv_iconst (v := 1) hx hb dX0_thenGreater_24 (by decide) ?_
    refine va_put (D := (dC, dI)) (ci := 0) (v := .int 1) (ty := .boolean) (C := RX0) (T := TX0) (N := 5) hx hb hts kX0_thenGreater_0 tyX0 tyX0_ok nmX0 hown hK hP hD hS 0 rfl rfl 1 (by decide) (hts (.fieldLink RX0 15 "FoldRow$Effect" "hasLow" "Z") kX0_thenGreater_1) (fun _ h9 => h9) rfl (by decide +kernel) rfl rfl (Nat.le_of_ble_eq_true rfl) dX0_thenGreater_25 (fun H locs hP hD hS => ?_)
    have hP : va_P (dC, dI) vwCl [(h0, .inr (0, [.long E.1, .int 1, .long v, .int E.2.2.2.1, .long E.2.2.2.2]))] H := hP
    have hD : va_D A [(h0, .inr (0, [.long E.1, .int 1, .long v, .int E.2.2.2.1, .long E.2.2.2.2]))] := hD
    refine lv_aload_n hx hb dX0_thenGreater_28 rfl (lv_at hl 0 rfl) ?_
    refine lv_aload_n hx hb dX0_thenGreater_29 rfl (lv_at hl 0 rfl) ?_
    refine va_get (D := (dC, dI)) (ci := 0) (v := .long E.2.2.2.2) (C := RX0) (T := TX0) (N := 5) hx hb hts kX0_thenGreater_0 hown hK hP 0 rfl rfl 4 (by decide) (hts (.fieldLink RX0 25 "FoldRow$Effect" "high" "J") kX0_thenGreater_3) (fun _ h9 => h9) rfl dX0_thenGreater_30 ?_
    refine lv_lload_n hx hb dX0_thenGreater_33 rfl (lv_at hl 1 rfl) ?_
    refine va_mmax_long hx hb (by rw [hml]; exact hl.1.symm) hown (hts (.methodLink RX0 38 Lib.MathLoose.max_long.x) kX0_thenGreater_4) (hts (.static Lib.MathLoose.max_long.x) kX0_thenGreater_5) (hts (.initialized "java/lang/Math") kX0_thenGreater_6) (hts (.code Lib.MathLoose.max_long.x Lib.MathLoose.max_long.code 4 (some .long)) kX0_thenGreater_7) (Nat.le_of_ble_eq_true rfl) (Nat.le_of_ble_eq_true rfl) (Nat.zero_le _) (Nat.zero_le _) dX0_thenGreater_34 ?_
    refine lv_mx ?_
    refine lv_topl (fun v_2 ev_2 => ?_)
    refine va_put (D := (dC, dI)) (ci := 0) (v := .long v_2) (ty := .long) (C := RX0) (T := TX0) (N := 5) hx hb hts kX0_thenGreater_0 tyX0 tyX0_ok nmX0 hown hK hP hD hS 0 rfl rfl 4 (by decide) (hts (.fieldLink RX0 25 "FoldRow$Effect" "high" "J") kX0_thenGreater_3) (fun _ h9 => h9) rfl (by decide +kernel) rfl rfl (Nat.le_of_ble_eq_true rfl) dX0_thenGreater_37 (fun H locs hP hD hS => ?_)
    have hP : va_P (dC, dI) vwCl [(h0, .inr (0, [.long E.1, .int 1, .long v, .int E.2.2.2.1, .long v_2]))] H := hP
    have hD : va_D A [(h0, .inr (0, [.long E.1, .int 1, .long v, .int E.2.2.2.1, .long v_2]))] := hD
    have hP9 := hP.sub (ws' := [(h0, .inr (0, [.long E.1, .int 1, .long v, .int E.2.2.2.1, .long v_2]))]) [0] rfl
    have hD9 := hD.sub (ws' := [(h0, .inr (0, [.long E.1, .int 1, .long v, .int E.2.2.2.1, .long v_2]))]) [0] (by decide) rfl
    have hK9 := hK.sub (tys' := []) [] rfl
    refine W.widen (k := 0) (n := 0) (Nat.le_of_ble_eq_true rfl) (Nat.le_of_ble_eq_true rfl) ?_
    exact W.vret hx hb hr (fun t9 ht hW => ⟨⟨(E.1, 1, v, E.2.2.2.1, v_2), rfl, by first | (simp [e_gr, c_1, ev_2]; done) | (simp [e_gr, ← ev_2, c_1]; done) | grind [e_gr], by rw [ht]; exact hP9, va_K.moved hW.alike hK9, hD9⟩, hS.F ht⟩) hS.2.2 dX0_thenGreater_40
  · refine lv_aload_n hx hb dX0_thenGreater_8 rfl (lv_at hl 0 rfl) ?_
    refine va_get (D := (dC, dI)) (ci := 0) (v := .long E.2.2.1) (C := RX0) (T := TX0) (N := 5) hx hb hts kX0_thenGreater_0 hown hK hP 0 rfl rfl 2 (by decide) (hts (.fieldLink RX0 19 "FoldRow$Effect" "low" "J") kX0_thenGreater_2) (fun _ h9 => h9) rfl dX0_thenGreater_9 ?_
    refine lv_lload_n hx hb dX0_thenGreater_12 rfl (lv_at hl 1 rfl) ?_
    refine va_mmax_long hx hb (by rw [hml]; exact hl.1.symm) hown (hts (.methodLink RX0 38 Lib.MathLoose.max_long.x) kX0_thenGreater_4) (hts (.static Lib.MathLoose.max_long.x) kX0_thenGreater_5) (hts (.initialized "java/lang/Math") kX0_thenGreater_6) (hts (.code Lib.MathLoose.max_long.x Lib.MathLoose.max_long.code 4 (some .long)) kX0_thenGreater_7) (Nat.le_of_ble_eq_true rfl) (Nat.le_of_ble_eq_true rfl) (Nat.zero_le _) (Nat.zero_le _) dX0_thenGreater_13 ?_
    refine lv_mx ?_
    refine lv_topl (fun v_3 ev_3 => ?_)
    refine lv_goto (tgt := 20) hx hb dX0_thenGreater_16 (by decide) ?_
    refine va_put (D := (dC, dI)) (ci := 0) (v := .long v_3) (ty := .long) (C := RX0) (T := TX0) (N := 5) hx hb hts kX0_thenGreater_0 tyX0 tyX0_ok nmX0 hown hK hP hD hS 0 rfl rfl 2 (by decide) (hts (.fieldLink RX0 19 "FoldRow$Effect" "low" "J") kX0_thenGreater_2) (fun _ h9 => h9) rfl (by decide +kernel) rfl rfl (Nat.le_of_ble_eq_true rfl) dX0_thenGreater_20 (fun H locs hP hD hS => ?_)
    have hP : va_P (dC, dI) vwCl [(h0, .inr (0, [.long E.1, .int E.2.1, .long v_3, .int E.2.2.2.1, .long E.2.2.2.2]))] H := hP
    have hD : va_D A [(h0, .inr (0, [.long E.1, .int E.2.1, .long v_3, .int E.2.2.2.1, .long E.2.2.2.2]))] := hD
    refine lv_aload_n hx hb dX0_thenGreater_23 rfl (lv_at hl 0 rfl) ?_
    refine lv_iconst (v := 1) hx hb dX0_thenGreater_24 (by decide) ?_
    refine va_put (D := (dC, dI)) (ci := 0) (v := .int 1) (ty := .boolean) (C := RX0) (T := TX0) (N := 5) hx hb hts kX0_thenGreater_0 tyX0 tyX0_ok nmX0 hown hK hP hD hS 0 rfl rfl 1 (by decide) (hts (.fieldLink RX0 15 "FoldRow$Effect" "hasLow" "Z") kX0_thenGreater_1) (fun _ h9 => h9) rfl (by decide +kernel) rfl rfl (Nat.le_of_ble_eq_true rfl) dX0_thenGreater_25 (fun H locs hP hD hS => ?_)
    have hP : va_P (dC, dI) vwCl [(h0, .inr (0, [.long E.1, .int 1, .long v_3, .int E.2.2.2.1, .long E.2.2.2.2]))] H := hP
    have hD : va_D A [(h0, .inr (0, [.long E.1, .int 1, .long v_3, .int E.2.2.2.1, .long E.2.2.2.2]))] := hD
    refine lv_aload_n hx hb dX0_thenGreater_28 rfl (lv_at hl 0 rfl) ?_
    refine lv_aload_n hx hb dX0_thenGreater_29 rfl (lv_at hl 0 rfl) ?_
    refine va_get (D := (dC, dI)) (ci := 0) (v := .long E.2.2.2.2) (C := RX0) (T := TX0) (N := 5) hx hb hts kX0_thenGreater_0 hown hK hP 0 rfl rfl 4 (by decide) (hts (.fieldLink RX0 25 "FoldRow$Effect" "high" "J") kX0_thenGreater_3) (fun _ h9 => h9) rfl dX0_thenGreater_30 ?_
    refine lv_lload_n hx hb dX0_thenGreater_33 rfl (lv_at hl 1 rfl) ?_
    refine va_mmax_long hx hb (by rw [hml]; exact hl.1.symm) hown (hts (.methodLink RX0 38 Lib.MathLoose.max_long.x) kX0_thenGreater_4) (hts (.static Lib.MathLoose.max_long.x) kX0_thenGreater_5) (hts (.initialized "java/lang/Math") kX0_thenGreater_6) (hts (.code Lib.MathLoose.max_long.x Lib.MathLoose.max_long.code 4 (some .long)) kX0_thenGreater_7) (Nat.le_of_ble_eq_true rfl) (Nat.le_of_ble_eq_true rfl) (Nat.zero_le _) (Nat.zero_le _) dX0_thenGreater_34 ?_
    refine lv_mx ?_
    refine lv_topl (fun v_4 ev_4 => ?_)
    refine va_put (D := (dC, dI)) (ci := 0) (v := .long v_4) (ty := .long) (C := RX0) (T := TX0) (N := 5) hx hb hts kX0_thenGreater_0 tyX0 tyX0_ok nmX0 hown hK hP hD hS 0 rfl rfl 4 (by decide) (hts (.fieldLink RX0 25 "FoldRow$Effect" "high" "J") kX0_thenGreater_3) (fun _ h9 => h9) rfl (by decide +kernel) rfl rfl (Nat.le_of_ble_eq_true rfl) dX0_thenGreater_37 (fun H locs hP hD hS => ?_)
    have hP : va_P (dC, dI) vwCl [(h0, .inr (0, [.long E.1, .int 1, .long v_3, .int E.2.2.2.1, .long v_4]))] H := hP
    have hD : va_D A [(h0, .inr (0, [.long E.1, .int 1, .long v_3, .int E.2.2.2.1, .long v_4]))] := hD
    have hP9 := hP.sub (ws' := [(h0, .inr (0, [.long E.1, .int 1, .long v_3, .int E.2.2.2.1, .long v_4]))]) [0] rfl
    have hD9 := hD.sub (ws' := [(h0, .inr (0, [.long E.1, .int 1, .long v_3, .int E.2.2.2.1, .long v_4]))]) [0] (by decide) rfl
    have hK9 := hK.sub (tys' := []) [] rfl
    refine W.widen (k := 0) (n := 0) (Nat.le_of_ble_eq_true rfl) (Nat.le_of_ble_eq_true rfl) ?_
    exact W.vret hx hb hr (fun t9 ht hW => ⟨⟨(E.1, 1, v_3, E.2.2.2.1, v_4), rfl, by first | (simp [e_gr, c_1, ev_3, ev_4]; done) | (simp [e_gr, ← ev_3, ← ev_4, c_1]; done) | grind [e_gr], by rw [ht]; exact hP9, va_K.moved hW.alike hK9, hD9⟩, hS.F ht⟩) hS.2.2 dX0_thenGreater_40

set_option maxRecDepth 20000 in
theorem kX0_thenLesser_0 : ∀ w ∈ wsX00, w ∈ wsX0_thenLesser := by decide +kernel
set_option maxRecDepth 20000 in
theorem kX0_thenLesser_1 : (.fieldLink RX0 22 "FoldRow$Effect" "hasHigh" "Z" : Cond) ∈ wsX0_thenLesser := by decide +kernel
set_option maxRecDepth 20000 in
theorem kX0_thenLesser_2 : (.fieldLink RX0 25 "FoldRow$Effect" "high" "J" : Cond) ∈ wsX0_thenLesser := by decide +kernel
set_option maxRecDepth 20000 in
theorem kX0_thenLesser_3 : (.fieldLink RX0 19 "FoldRow$Effect" "low" "J" : Cond) ∈ wsX0_thenLesser := by decide +kernel
set_option maxRecDepth 20000 in
theorem kX0_thenLesser_4 : (.methodLink RX0 44 Lib.MathLoose.min_long.x : Cond) ∈ wsX0_thenLesser := by decide +kernel
set_option maxRecDepth 20000 in
theorem kX0_thenLesser_5 : (.static Lib.MathLoose.min_long.x : Cond) ∈ wsX0_thenLesser := by decide +kernel
set_option maxRecDepth 20000 in
theorem kX0_thenLesser_6 : (.initialized "java/lang/Math" : Cond) ∈ wsX0_thenLesser := by decide +kernel
set_option maxRecDepth 20000 in
theorem kX0_thenLesser_7 : (.code Lib.MathLoose.min_long.x Lib.MathLoose.min_long.code 4 (some .long) : Cond) ∈ wsX0_thenLesser := by decide +kernel
set_option maxHeartbeats 4000000 in
set_option maxRecDepth 100000 in
theorem qX0_thenLesser (l : Launch) (dC : Nat → ClassId) (dI : Nat → Nat → Nat) (sz : Nat) (h0 : Nat) (E : Ef) (v : Int64)  : Met l yX0_thenLesser wsX0_thenLesser ({ frames := 1, cells := 0, slots := 0, locals := 32 }) (va_Pc [.ref h0, .long v] (fun U => U.heap.size = sz ∧ va_P (dC, dI) vwCl [(h0, .inr (0, [.long E.1, .int E.2.1, .long E.2.2.1, .int E.2.2.2.1, .long E.2.2.2.2]))] U.heap ∧ va_K (dC, dI) vwCl [] U ∧ va_D (fun _ => True) [(h0, .inr (0, [.long E.1, .int E.2.1, .long E.2.2.1, .int E.2.2.2.1, .long E.2.2.2.2]))])) (va_Qv (fun (u : Ef) => u = e_ls v E) (fun (u : Ef) (t9 : State) => va_P (dC, dI) vwCl [(h0, .inr (0, [.long u.1, .int u.2.1, .long u.2.2.1, .int u.2.2.2.1, .long u.2.2.2.2]))] t9.heap ∧ va_K (dC, dI) vwCl [] t9 ∧ va_D (va_A [(h0, .inr (0, [.long E.1, .int E.2.1, .long E.2.2.1, .int E.2.2.2.1, .long E.2.2.2.2]))] sz) [(h0, .inr (0, [.long u.1, .int u.2.1, .long u.2.2.1, .int u.2.2.2.1, .long u.2.2.2.2]))]) (va_A [(h0, .inr (0, [.long E.1, .int E.2.1, .long E.2.2.1, .int E.2.2.2.1, .long E.2.2.2.2]))] sz)) 0 0 (va_A [(h0, .inr (0, [.long E.1, .int E.2.1, .long E.2.2.1, .int E.2.2.2.1, .long E.2.2.2.2]))] sz) := by
  refine Met.ofW (cc := cX0_thenLesser) (maxL := 3) (ret := none) (by decide) rfl ?_
  intro p e s m args below meth c s₁ B hml hv
  obtain ⟨rfl, hsz, hP, hK, hD0⟩ := hv
  have hx := B.exec
  have hb := B.bytes
  have hr := B.returns
  have hts := atoms_spec (ws := wsX0_thenLesser) B.pre
  have hown : s.vm.findClass RX0 = some m.cls := findClass_of_methodNamed B.named
  have hlocks := B.notSynchronized
  subst hsz
  have hD := hD0.self (sz := s.heap.size)
  generalize hAe : va_A [(h0, .inr (0, [.long E.1, .int E.2.1, .long E.2.2.1, .int E.2.2.2.1, .long E.2.2.2.2]))] s.heap.size = A at hD ⊢
  have hA : ∀ q : Nat, s.heap.size ≤ q → A q := fun q h => by rw [← hAe]; exact Or.inr h
  have hS : va_S A s.heap s.heap [] := va_S.rf
  have hP : va_P (dC, dI) vwCl [(h0, .inr (0, [.long E.1, .int E.2.1, .long E.2.2.1, .int E.2.2.2.1, .long E.2.2.2.2]))] s.heap := hP
  have hl := lv_entry ([.ref h0, .long v]) (n := 3) (Nat.le_of_ble_eq_true rfl)
  rw [lg_entry_eq]
  generalize (lg_sl ([.ref h0, .long v]) ++ List.replicate (3 - (lg_sl ([.ref h0, .long v])).length) Slot.unset).toArray = ls at hl ⊢
  have hl : lv_has ls 3 [(0, .ref h0), (1, .long v)] := hl
  refine lv_aload_n hx hb dX0_thenLesser_0 rfl (lv_at hl 0 rfl) ?_
  refine lv_aload_n hx hb dX0_thenLesser_1 rfl (lv_at hl 0 rfl) ?_
  refine va_get (D := (dC, dI)) (ci := 0) (v := .int E.2.2.2.1) (C := RX0) (T := TX0) (N := 5) hx hb hts kX0_thenLesser_0 hown hK hP 0 rfl rfl 3 (by decide) (hts (.fieldLink RX0 22 "FoldRow$Effect" "hasHigh" "Z") kX0_thenLesser_1) (fun _ h9 => h9) rfl dX0_thenLesser_2 ?_
  refine lv_if_eq (tgt := 19) hx hb dX0_thenLesser_5 (by decide) (fun c_1 => ?_) (fun c_1 => ?_)
  · refine lv_lload_n hx hb dX0_thenLesser_19 rfl (lv_at hl 1 rfl) ?_
    refine va_put (D := (dC, dI)) (ci := 0) (v := .long v) (ty := .long) (C := RX0) (T := TX0) (N := 5) hx hb hts kX0_thenLesser_0 tyX0 tyX0_ok nmX0 hown hK hP hD hS 0 rfl rfl 4 (by decide) (hts (.fieldLink RX0 25 "FoldRow$Effect" "high" "J") kX0_thenLesser_2) (fun _ h9 => h9) rfl (by decide +kernel) rfl rfl (Nat.le_of_ble_eq_true rfl) dX0_thenLesser_20 (fun H locs hP hD hS => ?_)
    have hP : va_P (dC, dI) vwCl [(h0, .inr (0, [.long E.1, .int E.2.1, .long E.2.2.1, .int E.2.2.2.1, .long v]))] H := hP
    have hD : va_D A [(h0, .inr (0, [.long E.1, .int E.2.1, .long E.2.2.1, .int E.2.2.2.1, .long v]))] := hD
    refine lv_aload_n hx hb dX0_thenLesser_23 rfl (lv_at hl 0 rfl) ?_
    refine lv_iconst (v := 1) hx hb dX0_thenLesser_24 (by decide) ?_
    refine va_put (D := (dC, dI)) (ci := 0) (v := .int 1) (ty := .boolean) (C := RX0) (T := TX0) (N := 5) hx hb hts kX0_thenLesser_0 tyX0 tyX0_ok nmX0 hown hK hP hD hS 0 rfl rfl 3 (by decide) (hts (.fieldLink RX0 22 "FoldRow$Effect" "hasHigh" "Z") kX0_thenLesser_1) (fun _ h9 => h9) rfl (by decide +kernel) rfl rfl (Nat.le_of_ble_eq_true rfl) dX0_thenLesser_25 (fun H locs hP hD hS => ?_)
    have hP : va_P (dC, dI) vwCl [(h0, .inr (0, [.long E.1, .int E.2.1, .long E.2.2.1, .int 1, .long v]))] H := hP
    have hD : va_D A [(h0, .inr (0, [.long E.1, .int E.2.1, .long E.2.2.1, .int 1, .long v]))] := hD
    refine lv_aload_n hx hb dX0_thenLesser_28 rfl (lv_at hl 0 rfl) ?_
    refine lv_aload_n hx hb dX0_thenLesser_29 rfl (lv_at hl 0 rfl) ?_
    refine va_get (D := (dC, dI)) (ci := 0) (v := .long E.2.2.1) (C := RX0) (T := TX0) (N := 5) hx hb hts kX0_thenLesser_0 hown hK hP 0 rfl rfl 2 (by decide) (hts (.fieldLink RX0 19 "FoldRow$Effect" "low" "J") kX0_thenLesser_3) (fun _ h9 => h9) rfl dX0_thenLesser_30 ?_
    refine lv_lload_n hx hb dX0_thenLesser_33 rfl (lv_at hl 1 rfl) ?_
    refine va_mmin_long hx hb (by rw [hml]; exact hl.1.symm) hown (hts (.methodLink RX0 44 Lib.MathLoose.min_long.x) kX0_thenLesser_4) (hts (.static Lib.MathLoose.min_long.x) kX0_thenLesser_5) (hts (.initialized "java/lang/Math") kX0_thenLesser_6) (hts (.code Lib.MathLoose.min_long.x Lib.MathLoose.min_long.code 4 (some .long)) kX0_thenLesser_7) (Nat.le_of_ble_eq_true rfl) (Nat.le_of_ble_eq_true rfl) (Nat.zero_le _) (Nat.zero_le _) dX0_thenLesser_34 ?_
    refine lv_mn ?_
    refine lv_topl (fun v_2 ev_2 => ?_)
    refine va_put (D := (dC, dI)) (ci := 0) (v := .long v_2) (ty := .long) (C := RX0) (T := TX0) (N := 5) hx hb hts kX0_thenLesser_0 tyX0 tyX0_ok nmX0 hown hK hP hD hS 0 rfl rfl 2 (by decide) (hts (.fieldLink RX0 19 "FoldRow$Effect" "low" "J") kX0_thenLesser_3) (fun _ h9 => h9) rfl (by decide +kernel) rfl rfl (Nat.le_of_ble_eq_true rfl) dX0_thenLesser_37 (fun H locs hP hD hS => ?_)
    have hP : va_P (dC, dI) vwCl [(h0, .inr (0, [.long E.1, .int E.2.1, .long v_2, .int 1, .long v]))] H := hP
    have hD : va_D A [(h0, .inr (0, [.long E.1, .int E.2.1, .long v_2, .int 1, .long v]))] := hD
    have hP9 := hP.sub (ws' := [(h0, .inr (0, [.long E.1, .int E.2.1, .long v_2, .int 1, .long v]))]) [0] rfl
    have hD9 := hD.sub (ws' := [(h0, .inr (0, [.long E.1, .int E.2.1, .long v_2, .int 1, .long v]))]) [0] (by decide) rfl
    have hK9 := hK.sub (tys' := []) [] rfl
    refine W.widen (k := 0) (n := 0) (Nat.le_of_ble_eq_true rfl) (Nat.le_of_ble_eq_true rfl) ?_
    exact W.vret hx hb hr (fun t9 ht hW => ⟨⟨(E.1, E.2.1, v_2, 1, v), rfl, by first | (simp [e_ls, c_1, ev_2]; done) | (simp [e_ls, ← ev_2, c_1]; done) | grind [e_ls], by rw [ht]; exact hP9, va_K.moved hW.alike hK9, hD9⟩, hS.F ht⟩) hS.2.2 dX0_thenLesser_40
  · refine lv_aload_n hx hb dX0_thenLesser_8 rfl (lv_at hl 0 rfl) ?_
    refine va_get (D := (dC, dI)) (ci := 0) (v := .long E.2.2.2.2) (C := RX0) (T := TX0) (N := 5) hx hb hts kX0_thenLesser_0 hown hK hP 0 rfl rfl 4 (by decide) (hts (.fieldLink RX0 25 "FoldRow$Effect" "high" "J") kX0_thenLesser_2) (fun _ h9 => h9) rfl dX0_thenLesser_9 ?_
    refine lv_lload_n hx hb dX0_thenLesser_12 rfl (lv_at hl 1 rfl) ?_
    refine va_mmin_long hx hb (by rw [hml]; exact hl.1.symm) hown (hts (.methodLink RX0 44 Lib.MathLoose.min_long.x) kX0_thenLesser_4) (hts (.static Lib.MathLoose.min_long.x) kX0_thenLesser_5) (hts (.initialized "java/lang/Math") kX0_thenLesser_6) (hts (.code Lib.MathLoose.min_long.x Lib.MathLoose.min_long.code 4 (some .long)) kX0_thenLesser_7) (Nat.le_of_ble_eq_true rfl) (Nat.le_of_ble_eq_true rfl) (Nat.zero_le _) (Nat.zero_le _) dX0_thenLesser_13 ?_
    refine lv_mn ?_
    refine lv_topl (fun v_3 ev_3 => ?_)
    refine lv_goto (tgt := 20) hx hb dX0_thenLesser_16 (by decide) ?_
    refine va_put (D := (dC, dI)) (ci := 0) (v := .long v_3) (ty := .long) (C := RX0) (T := TX0) (N := 5) hx hb hts kX0_thenLesser_0 tyX0 tyX0_ok nmX0 hown hK hP hD hS 0 rfl rfl 4 (by decide) (hts (.fieldLink RX0 25 "FoldRow$Effect" "high" "J") kX0_thenLesser_2) (fun _ h9 => h9) rfl (by decide +kernel) rfl rfl (Nat.le_of_ble_eq_true rfl) dX0_thenLesser_20 (fun H locs hP hD hS => ?_)
    have hP : va_P (dC, dI) vwCl [(h0, .inr (0, [.long E.1, .int E.2.1, .long E.2.2.1, .int E.2.2.2.1, .long v_3]))] H := hP
    have hD : va_D A [(h0, .inr (0, [.long E.1, .int E.2.1, .long E.2.2.1, .int E.2.2.2.1, .long v_3]))] := hD
    refine lv_aload_n hx hb dX0_thenLesser_23 rfl (lv_at hl 0 rfl) ?_
    refine lv_iconst (v := 1) hx hb dX0_thenLesser_24 (by decide) ?_
    refine va_put (D := (dC, dI)) (ci := 0) (v := .int 1) (ty := .boolean) (C := RX0) (T := TX0) (N := 5) hx hb hts kX0_thenLesser_0 tyX0 tyX0_ok nmX0 hown hK hP hD hS 0 rfl rfl 3 (by decide) (hts (.fieldLink RX0 22 "FoldRow$Effect" "hasHigh" "Z") kX0_thenLesser_1) (fun _ h9 => h9) rfl (by decide +kernel) rfl rfl (Nat.le_of_ble_eq_true rfl) dX0_thenLesser_25 (fun H locs hP hD hS => ?_)
    have hP : va_P (dC, dI) vwCl [(h0, .inr (0, [.long E.1, .int E.2.1, .long E.2.2.1, .int 1, .long v_3]))] H := hP
    have hD : va_D A [(h0, .inr (0, [.long E.1, .int E.2.1, .long E.2.2.1, .int 1, .long v_3]))] := hD
    refine lv_aload_n hx hb dX0_thenLesser_28 rfl (lv_at hl 0 rfl) ?_
    refine lv_aload_n hx hb dX0_thenLesser_29 rfl (lv_at hl 0 rfl) ?_
    refine va_get (D := (dC, dI)) (ci := 0) (v := .long E.2.2.1) (C := RX0) (T := TX0) (N := 5) hx hb hts kX0_thenLesser_0 hown hK hP 0 rfl rfl 2 (by decide) (hts (.fieldLink RX0 19 "FoldRow$Effect" "low" "J") kX0_thenLesser_3) (fun _ h9 => h9) rfl dX0_thenLesser_30 ?_
    refine lv_lload_n hx hb dX0_thenLesser_33 rfl (lv_at hl 1 rfl) ?_
    refine va_mmin_long hx hb (by rw [hml]; exact hl.1.symm) hown (hts (.methodLink RX0 44 Lib.MathLoose.min_long.x) kX0_thenLesser_4) (hts (.static Lib.MathLoose.min_long.x) kX0_thenLesser_5) (hts (.initialized "java/lang/Math") kX0_thenLesser_6) (hts (.code Lib.MathLoose.min_long.x Lib.MathLoose.min_long.code 4 (some .long)) kX0_thenLesser_7) (Nat.le_of_ble_eq_true rfl) (Nat.le_of_ble_eq_true rfl) (Nat.zero_le _) (Nat.zero_le _) dX0_thenLesser_34 ?_
    refine lv_mn ?_
    refine lv_topl (fun v_4 ev_4 => ?_)
    refine va_put (D := (dC, dI)) (ci := 0) (v := .long v_4) (ty := .long) (C := RX0) (T := TX0) (N := 5) hx hb hts kX0_thenLesser_0 tyX0 tyX0_ok nmX0 hown hK hP hD hS 0 rfl rfl 2 (by decide) (hts (.fieldLink RX0 19 "FoldRow$Effect" "low" "J") kX0_thenLesser_3) (fun _ h9 => h9) rfl (by decide +kernel) rfl rfl (Nat.le_of_ble_eq_true rfl) dX0_thenLesser_37 (fun H locs hP hD hS => ?_)
    have hP : va_P (dC, dI) vwCl [(h0, .inr (0, [.long E.1, .int E.2.1, .long v_4, .int 1, .long v_3]))] H := hP
    have hD : va_D A [(h0, .inr (0, [.long E.1, .int E.2.1, .long v_4, .int 1, .long v_3]))] := hD
    have hP9 := hP.sub (ws' := [(h0, .inr (0, [.long E.1, .int E.2.1, .long v_4, .int 1, .long v_3]))]) [0] rfl
    have hD9 := hD.sub (ws' := [(h0, .inr (0, [.long E.1, .int E.2.1, .long v_4, .int 1, .long v_3]))]) [0] (by decide) rfl
    have hK9 := hK.sub (tys' := []) [] rfl
    refine W.widen (k := 0) (n := 0) (Nat.le_of_ble_eq_true rfl) (Nat.le_of_ble_eq_true rfl) ?_
    exact W.vret hx hb hr (fun t9 ht hW => ⟨⟨(E.1, E.2.1, v_4, 1, v_3), rfl, by first | (simp [e_ls, c_1, ev_3, ev_4]; done) | (simp [e_ls, ← ev_3, ← ev_4, c_1]; done) | grind [e_ls], by rw [ht]; exact hP9, va_K.moved hW.alike hK9, hD9⟩, hS.F ht⟩) hS.2.2 dX0_thenLesser_40

set_option maxHeartbeats 4000000 in
set_option maxRecDepth 100000 in
theorem qX0_then (l : Launch) (dC : Nat → ClassId) (dI : Nat → Nat → Nat) (sz : Nat) (h0 : Nat) (E : Ef) (k : Int32) (v : Int64)  : Met l yX0_then wsX0_then ({ frames := 2, cells := 0, slots := 0, locals := 60 }) (va_Pc [.ref h0, .int k, .long v] (fun U => U.heap.size = sz ∧ va_P (dC, dI) vwCl [(h0, .inr (0, [.long E.1, .int E.2.1, .long E.2.2.1, .int E.2.2.2.1, .long E.2.2.2.2]))] U.heap ∧ va_K (dC, dI) vwCl [] U ∧ va_D (fun _ => True) [(h0, .inr (0, [.long E.1, .int E.2.1, .long E.2.2.1, .int E.2.2.2.1, .long E.2.2.2.2]))])) (va_Qv (fun (u : Ef) => u = e_th k v E) (fun (u : Ef) (t9 : State) => va_P (dC, dI) vwCl [(h0, .inr (0, [.long u.1, .int u.2.1, .long u.2.2.1, .int u.2.2.2.1, .long u.2.2.2.2]))] t9.heap ∧ va_K (dC, dI) vwCl [] t9 ∧ va_D (va_A [(h0, .inr (0, [.long E.1, .int E.2.1, .long E.2.2.1, .int E.2.2.2.1, .long E.2.2.2.2]))] sz) [(h0, .inr (0, [.long u.1, .int u.2.1, .long u.2.2.1, .int u.2.2.2.1, .long u.2.2.2.2]))]) (va_A [(h0, .inr (0, [.long E.1, .int E.2.1, .long E.2.2.1, .int E.2.2.2.1, .long E.2.2.2.2]))] sz)) 0 0 (va_A [(h0, .inr (0, [.long E.1, .int E.2.1, .long E.2.2.1, .int E.2.2.2.1, .long E.2.2.2.2]))] sz) := by
  refine Met.ofW (cc := cX0_then) (maxL := 4) (ret := none) (by decide) rfl ?_
  intro p e s m args below meth c s₁ B hml hv
  obtain ⟨rfl, hsz, hP, hK, hD0⟩ := hv
  have hx := B.exec
  have hb := B.bytes
  have hr := B.returns
  have hts := atoms_spec (ws := wsX0_then) B.pre
  have hown : s.vm.findClass RX0 = some m.cls := findClass_of_methodNamed B.named
  have hlocks := B.notSynchronized
  subst hsz
  have hD := hD0.self (sz := s.heap.size)
  generalize hAe : va_A [(h0, .inr (0, [.long E.1, .int E.2.1, .long E.2.2.1, .int E.2.2.2.1, .long E.2.2.2.2]))] s.heap.size = A at hD ⊢
  have hA : ∀ q : Nat, s.heap.size ≤ q → A q := fun q h => by rw [← hAe]; exact Or.inr h
  have hS : va_S A s.heap s.heap [] := va_S.rf
  have hP : va_P (dC, dI) vwCl [(h0, .inr (0, [.long E.1, .int E.2.1, .long E.2.2.1, .int E.2.2.2.1, .long E.2.2.2.2]))] s.heap := hP
  have hl := lv_entry ([.ref h0, .int k, .long v]) (n := 4) (Nat.le_of_ble_eq_true rfl)
  rw [lg_entry_eq]
  generalize (lg_sl ([.ref h0, .int k, .long v]) ++ List.replicate (4 - (lg_sl ([.ref h0, .int k, .long v])).length) Slot.unset).toArray = ls at hl ⊢
  have hl : lv_has ls 4 [(0, .ref h0), (1, .int k), (2, .long v)] := hl
  refine lv_iload_n hx hb dX0_then_0 rfl (lv_at hl 1 rfl) ?_
  by_cases c_1 : k = 1
  · refine lv_tableIn (off := 31) (tgt := 32) hx hb dX0_then_1 (by rw [c_1]; decide) (by rw [c_1]; decide) (by rw [c_1]; rfl) (by decide) ?_
    refine lv_aload_n hx hb dX0_then_32 rfl (lv_at hl 0 rfl) ?_
    refine lv_lload_n hx hb dX0_then_33 rfl (lv_at hl 2 rfl) ?_
    have hPc := hP.sub (ws' := [(h0, .inr (0, [.long E.1, .int E.2.1, .long E.2.2.1, .int E.2.2.2.1, .long E.2.2.2.2]))]) [0] rfl
    have hDc := hD.sub (ws' := [(h0, .inr (0, [.long E.1, .int E.2.1, .long E.2.2.1, .int E.2.2.2.1, .long E.2.2.2.2]))]) [0] (by decide) rfl
    have hKc := hK.sub (tys' := []) [] rfl
    have hFc := va_free (wc := [(h0, .inr (0, [.long E.1, .int E.2.1, .long E.2.2.1, .int E.2.2.2.1, .long E.2.2.2.2]))]) hD hS hA [0] rfl
    refine va_callv (va_runV (As := [.long v]) (rest := []) ⟨hx, hb, hml, hown, hts⟩ (qX0_thenAdd l dC dI s.heap.size h0 E v) (cwV 1 hts gX0_then_X0_thenAdd rfl rfl rfl (by decide +kernel) ⟨Nat.le_of_ble_eq_true rfl, Nat.le_of_ble_eq_true rfl⟩) ⟨fun a U g mk q => by obtain ⟨q0, q1, qP, qK, qD⟩ := q; exact ⟨q0, q1, qP, va_K.moved (u := U) (U := U.calling g mk a) (Vm.Alike.refl U.vm) qK, qD⟩, va_recv hKc hPc (ci := 0) (q0 := 0) rfl rfl, fun U hU hW => ⟨rfl, by rw [hU], by rw [hU]; exact hPc, va_K.moved hW.alike hKc, hDc.weaken (fun _ _ _ _ => trivial)⟩⟩ rfl rfl hl.1 rfl (lv_room (Nat.le_of_ble_eq_true rfl)) dX0_then_34 ⟨Nat.le_of_ble_eq_true rfl, Nat.le_of_ble_eq_true rfl⟩) hS (fun q _ h => hFc q h) hFc (fun u t9 H1 locs ht hvm hw hB hz1 hk1 hS => ?_)
    obtain ⟨hP1, hK1, hD1⟩ := hB
    rw [ht] at hP1
    obtain rfl := hw
    have hK1 := va_K.moved hvm.symm hK1
    obtain ⟨hP, hD⟩ := va_join (wr := []) (w1 := [(h0, .inr (0, [.long ((e_add v E).1), .int ((e_add v E).2.1), .long ((e_add v E).2.2.1), .int ((e_add v E).2.2.2.1), .long ((e_add v E).2.2.2.2)]))]) hP hD [0] [] rfl rfl (by decide) (by decide) hk1 hFc hP1 hD1
    have hK := (hK.sub (tys' := []) [] rfl).app hK1
    generalize H1 = H at hP hS ⊢
    have hP : va_P (dC, dI) vwCl [(h0, .inr (0, [.long ((e_add v E).1), .int ((e_add v E).2.1), .long ((e_add v E).2.2.1), .int ((e_add v E).2.2.2.1), .long ((e_add v E).2.2.2.2)]))] H := hP
    have hD : va_D A [(h0, .inr (0, [.long ((e_add v E).1), .int ((e_add v E).2.1), .long ((e_add v E).2.2.1), .int ((e_add v E).2.2.2.1), .long ((e_add v E).2.2.2.2)]))] := hD
    have hK : va_K (dC, dI) vwCl [] s := hK
    refine W.widen (k := 0) (n := 0) (Nat.le_of_ble_eq_true rfl) (Nat.le_of_ble_eq_true rfl) ?_
    refine lv_goto (tgt := 69) hx hb dX0_then_37 (by decide) ?_
    have hP9 := hP.sub (ws' := [(h0, .inr (0, [.long ((e_add v E).1), .int ((e_add v E).2.1), .long ((e_add v E).2.2.1), .int ((e_add v E).2.2.2.1), .long ((e_add v E).2.2.2.2)]))]) [0] rfl
    have hD9 := hD.sub (ws' := [(h0, .inr (0, [.long ((e_add v E).1), .int ((e_add v E).2.1), .long ((e_add v E).2.2.1), .int ((e_add v E).2.2.2.1), .long ((e_add v E).2.2.2.2)]))]) [0] (by decide) rfl
    have hK9 := hK.sub (tys' := []) [] rfl
    refine W.widen (k := 0) (n := 0) (Nat.le_of_ble_eq_true rfl) (Nat.le_of_ble_eq_true rfl) ?_
    exact W.vret hx hb hr (fun t9 ht hW => ⟨⟨(e_add v E), rfl, by first | (simp [e_th, c_1]; done) | (simp [e_th, c_1]; done) | grind [e_th], by rw [ht]; exact hP9, va_K.moved hW.alike hK9, hD9⟩, hS.F ht⟩) hS.2.2 dX0_then_69
  by_cases c_4 : k = 2
  · refine lv_tableIn (off := 39) (tgt := 40) hx hb dX0_then_1 (by rw [c_4]; decide) (by rw [c_4]; decide) (by rw [c_4]; rfl) (by decide) ?_
    refine lv_aload_n hx hb dX0_then_40 rfl (lv_at hl 0 rfl) ?_
    refine lv_lload_n hx hb dX0_then_41 rfl (lv_at hl 2 rfl) ?_
    have hPc := hP.sub (ws' := [(h0, .inr (0, [.long E.1, .int E.2.1, .long E.2.2.1, .int E.2.2.2.1, .long E.2.2.2.2]))]) [0] rfl
    have hDc := hD.sub (ws' := [(h0, .inr (0, [.long E.1, .int E.2.1, .long E.2.2.1, .int E.2.2.2.1, .long E.2.2.2.2]))]) [0] (by decide) rfl
    have hKc := hK.sub (tys' := []) [] rfl
    have hFc := va_free (wc := [(h0, .inr (0, [.long E.1, .int E.2.1, .long E.2.2.1, .int E.2.2.2.1, .long E.2.2.2.2]))]) hD hS hA [0] rfl
    refine va_callv (va_runV (As := [.long v]) (rest := []) ⟨hx, hb, hml, hown, hts⟩ (qX0_thenGreater l dC dI s.heap.size h0 E v) (cwV 1 hts gX0_then_X0_thenGreater rfl rfl rfl (by decide +kernel) ⟨Nat.le_of_ble_eq_true rfl, Nat.le_of_ble_eq_true rfl⟩) ⟨fun a U g mk q => by obtain ⟨q0, q1, qP, qK, qD⟩ := q; exact ⟨q0, q1, qP, va_K.moved (u := U) (U := U.calling g mk a) (Vm.Alike.refl U.vm) qK, qD⟩, va_recv hKc hPc (ci := 0) (q0 := 0) rfl rfl, fun U hU hW => ⟨rfl, by rw [hU], by rw [hU]; exact hPc, va_K.moved hW.alike hKc, hDc.weaken (fun _ _ _ _ => trivial)⟩⟩ rfl rfl hl.1 rfl (lv_room (Nat.le_of_ble_eq_true rfl)) dX0_then_42 ⟨Nat.le_of_ble_eq_true rfl, Nat.le_of_ble_eq_true rfl⟩) hS (fun q _ h => hFc q h) hFc (fun u t9 H1 locs ht hvm hw hB hz1 hk1 hS => ?_)
    obtain ⟨hP1, hK1, hD1⟩ := hB
    rw [ht] at hP1
    obtain rfl := hw
    have hK1 := va_K.moved hvm.symm hK1
    obtain ⟨hP, hD⟩ := va_join (wr := []) (w1 := [(h0, .inr (0, [.long ((e_gr v E).1), .int ((e_gr v E).2.1), .long ((e_gr v E).2.2.1), .int ((e_gr v E).2.2.2.1), .long ((e_gr v E).2.2.2.2)]))]) hP hD [0] [] rfl rfl (by decide) (by decide) hk1 hFc hP1 hD1
    have hK := (hK.sub (tys' := []) [] rfl).app hK1
    generalize H1 = H at hP hS ⊢
    have hP : va_P (dC, dI) vwCl [(h0, .inr (0, [.long ((e_gr v E).1), .int ((e_gr v E).2.1), .long ((e_gr v E).2.2.1), .int ((e_gr v E).2.2.2.1), .long ((e_gr v E).2.2.2.2)]))] H := hP
    have hD : va_D A [(h0, .inr (0, [.long ((e_gr v E).1), .int ((e_gr v E).2.1), .long ((e_gr v E).2.2.1), .int ((e_gr v E).2.2.2.1), .long ((e_gr v E).2.2.2.2)]))] := hD
    have hK : va_K (dC, dI) vwCl [] s := hK
    refine W.widen (k := 0) (n := 0) (Nat.le_of_ble_eq_true rfl) (Nat.le_of_ble_eq_true rfl) ?_
    refine lv_aload_n hx hb dX0_then_45 rfl (lv_at hl 0 rfl) ?_
    refine lv_lload_n hx hb dX0_then_46 rfl (lv_at hl 2 rfl) ?_
    have hPc := hP.sub (ws' := [(h0, .inr (0, [.long ((e_gr v E).1), .int ((e_gr v E).2.1), .long ((e_gr v E).2.2.1), .int ((e_gr v E).2.2.2.1), .long ((e_gr v E).2.2.2.2)]))]) [0] rfl
    have hDc := hD.sub (ws' := [(h0, .inr (0, [.long ((e_gr v E).1), .int ((e_gr v E).2.1), .long ((e_gr v E).2.2.1), .int ((e_gr v E).2.2.2.1), .long ((e_gr v E).2.2.2.2)]))]) [0] (by decide) rfl
    have hKc := hK.sub (tys' := []) [] rfl
    have hFc := va_free (wc := [(h0, .inr (0, [.long ((e_gr v E).1), .int ((e_gr v E).2.1), .long ((e_gr v E).2.2.1), .int ((e_gr v E).2.2.2.1), .long ((e_gr v E).2.2.2.2)]))]) hD hS hA [0] rfl
    refine va_callv (va_runV (As := [.long v]) (rest := []) ⟨hx, hb, hml, hown, hts⟩ (qX0_thenLesser l dC dI H.size h0 (e_gr v E) v) (cwV 1 hts gX0_then_X0_thenLesser rfl rfl rfl (by decide +kernel) ⟨Nat.le_of_ble_eq_true rfl, Nat.le_of_ble_eq_true rfl⟩) ⟨fun a U g mk q => by obtain ⟨q0, q1, qP, qK, qD⟩ := q; exact ⟨q0, q1, qP, va_K.moved (u := U) (U := U.calling g mk a) (Vm.Alike.refl U.vm) qK, qD⟩, va_recv hKc hPc (ci := 0) (q0 := 0) rfl rfl, fun U hU hW => ⟨rfl, by rw [hU], by rw [hU]; exact hPc, va_K.moved hW.alike hKc, hDc.weaken (fun _ _ _ _ => trivial)⟩⟩ rfl rfl hl.1 rfl (lv_room (Nat.le_of_ble_eq_true rfl)) dX0_then_47 ⟨Nat.le_of_ble_eq_true rfl, Nat.le_of_ble_eq_true rfl⟩) hS (fun q _ h => hFc q h) hFc (fun u t9 H1 locs ht hvm hw hB hz1 hk1 hS => ?_)
    obtain ⟨hP1, hK1, hD1⟩ := hB
    rw [ht] at hP1
    obtain rfl := hw
    have hK1 := va_K.moved hvm.symm hK1
    obtain ⟨hP, hD⟩ := va_join (wr := []) (w1 := [(h0, .inr (0, [.long ((e_ls v (e_gr v E)).1), .int ((e_ls v (e_gr v E)).2.1), .long ((e_ls v (e_gr v E)).2.2.1), .int ((e_ls v (e_gr v E)).2.2.2.1), .long ((e_ls v (e_gr v E)).2.2.2.2)]))]) hP hD [0] [] rfl rfl (by decide) (by decide) hk1 hFc hP1 hD1
    have hK := (hK.sub (tys' := []) [] rfl).app hK1
    generalize H1 = H at hP hS ⊢
    have hP : va_P (dC, dI) vwCl [(h0, .inr (0, [.long ((e_ls v (e_gr v E)).1), .int ((e_ls v (e_gr v E)).2.1), .long ((e_ls v (e_gr v E)).2.2.1), .int ((e_ls v (e_gr v E)).2.2.2.1), .long ((e_ls v (e_gr v E)).2.2.2.2)]))] H := hP
    have hD : va_D A [(h0, .inr (0, [.long ((e_ls v (e_gr v E)).1), .int ((e_ls v (e_gr v E)).2.1), .long ((e_ls v (e_gr v E)).2.2.1), .int ((e_ls v (e_gr v E)).2.2.2.1), .long ((e_ls v (e_gr v E)).2.2.2.2)]))] := hD
    have hK : va_K (dC, dI) vwCl [] s := hK
    refine W.widen (k := 0) (n := 0) (Nat.le_of_ble_eq_true rfl) (Nat.le_of_ble_eq_true rfl) ?_
    refine lv_goto (tgt := 69) hx hb dX0_then_50 (by decide) ?_
    have hP9 := hP.sub (ws' := [(h0, .inr (0, [.long ((e_ls v (e_gr v E)).1), .int ((e_ls v (e_gr v E)).2.1), .long ((e_ls v (e_gr v E)).2.2.1), .int ((e_ls v (e_gr v E)).2.2.2.1), .long ((e_ls v (e_gr v E)).2.2.2.2)]))]) [0] rfl
    have hD9 := hD.sub (ws' := [(h0, .inr (0, [.long ((e_ls v (e_gr v E)).1), .int ((e_ls v (e_gr v E)).2.1), .long ((e_ls v (e_gr v E)).2.2.1), .int ((e_ls v (e_gr v E)).2.2.2.1), .long ((e_ls v (e_gr v E)).2.2.2.2)]))]) [0] (by decide) rfl
    have hK9 := hK.sub (tys' := []) [] rfl
    refine W.widen (k := 0) (n := 0) (Nat.le_of_ble_eq_true rfl) (Nat.le_of_ble_eq_true rfl) ?_
    exact W.vret hx hb hr (fun t9 ht hW => ⟨⟨(e_ls v (e_gr v E)), rfl, by first | (simp [e_th, c_4]; done) | (simp [e_th, c_4]; done) | grind [e_th], by rw [ht]; exact hP9, va_K.moved hW.alike hK9, hD9⟩, hS.F ht⟩) hS.2.2 dX0_then_69
  by_cases c_9 : k = 3
  · refine lv_tableIn (off := 52) (tgt := 53) hx hb dX0_then_1 (by rw [c_9]; decide) (by rw [c_9]; decide) (by rw [c_9]; rfl) (by decide) ?_
    refine lv_aload_n hx hb dX0_then_53 rfl (lv_at hl 0 rfl) ?_
    refine lv_lload_n hx hb dX0_then_54 rfl (lv_at hl 2 rfl) ?_
    have hPc := hP.sub (ws' := [(h0, .inr (0, [.long E.1, .int E.2.1, .long E.2.2.1, .int E.2.2.2.1, .long E.2.2.2.2]))]) [0] rfl
    have hDc := hD.sub (ws' := [(h0, .inr (0, [.long E.1, .int E.2.1, .long E.2.2.1, .int E.2.2.2.1, .long E.2.2.2.2]))]) [0] (by decide) rfl
    have hKc := hK.sub (tys' := []) [] rfl
    have hFc := va_free (wc := [(h0, .inr (0, [.long E.1, .int E.2.1, .long E.2.2.1, .int E.2.2.2.1, .long E.2.2.2.2]))]) hD hS hA [0] rfl
    refine va_callv (va_runV (As := [.long v]) (rest := []) ⟨hx, hb, hml, hown, hts⟩ (qX0_thenGreater l dC dI s.heap.size h0 E v) (cwV 1 hts gX0_then_X0_thenGreater rfl rfl rfl (by decide +kernel) ⟨Nat.le_of_ble_eq_true rfl, Nat.le_of_ble_eq_true rfl⟩) ⟨fun a U g mk q => by obtain ⟨q0, q1, qP, qK, qD⟩ := q; exact ⟨q0, q1, qP, va_K.moved (u := U) (U := U.calling g mk a) (Vm.Alike.refl U.vm) qK, qD⟩, va_recv hKc hPc (ci := 0) (q0 := 0) rfl rfl, fun U hU hW => ⟨rfl, by rw [hU], by rw [hU]; exact hPc, va_K.moved hW.alike hKc, hDc.weaken (fun _ _ _ _ => trivial)⟩⟩ rfl rfl hl.1 rfl (lv_room (Nat.le_of_ble_eq_true rfl)) dX0_then_55 ⟨Nat.le_of_ble_eq_true rfl, Nat.le_of_ble_eq_true rfl⟩) hS (fun q _ h => hFc q h) hFc (fun u t9 H1 locs ht hvm hw hB hz1 hk1 hS => ?_)
    obtain ⟨hP1, hK1, hD1⟩ := hB
    rw [ht] at hP1
    obtain rfl := hw
    have hK1 := va_K.moved hvm.symm hK1
    obtain ⟨hP, hD⟩ := va_join (wr := []) (w1 := [(h0, .inr (0, [.long ((e_gr v E).1), .int ((e_gr v E).2.1), .long ((e_gr v E).2.2.1), .int ((e_gr v E).2.2.2.1), .long ((e_gr v E).2.2.2.2)]))]) hP hD [0] [] rfl rfl (by decide) (by decide) hk1 hFc hP1 hD1
    have hK := (hK.sub (tys' := []) [] rfl).app hK1
    generalize H1 = H at hP hS ⊢
    have hP : va_P (dC, dI) vwCl [(h0, .inr (0, [.long ((e_gr v E).1), .int ((e_gr v E).2.1), .long ((e_gr v E).2.2.1), .int ((e_gr v E).2.2.2.1), .long ((e_gr v E).2.2.2.2)]))] H := hP
    have hD : va_D A [(h0, .inr (0, [.long ((e_gr v E).1), .int ((e_gr v E).2.1), .long ((e_gr v E).2.2.1), .int ((e_gr v E).2.2.2.1), .long ((e_gr v E).2.2.2.2)]))] := hD
    have hK : va_K (dC, dI) vwCl [] s := hK
    refine W.widen (k := 0) (n := 0) (Nat.le_of_ble_eq_true rfl) (Nat.le_of_ble_eq_true rfl) ?_
    refine lv_goto (tgt := 69) hx hb dX0_then_58 (by decide) ?_
    have hP9 := hP.sub (ws' := [(h0, .inr (0, [.long ((e_gr v E).1), .int ((e_gr v E).2.1), .long ((e_gr v E).2.2.1), .int ((e_gr v E).2.2.2.1), .long ((e_gr v E).2.2.2.2)]))]) [0] rfl
    have hD9 := hD.sub (ws' := [(h0, .inr (0, [.long ((e_gr v E).1), .int ((e_gr v E).2.1), .long ((e_gr v E).2.2.1), .int ((e_gr v E).2.2.2.1), .long ((e_gr v E).2.2.2.2)]))]) [0] (by decide) rfl
    have hK9 := hK.sub (tys' := []) [] rfl
    refine W.widen (k := 0) (n := 0) (Nat.le_of_ble_eq_true rfl) (Nat.le_of_ble_eq_true rfl) ?_
    exact W.vret hx hb hr (fun t9 ht hW => ⟨⟨(e_gr v E), rfl, by first | (simp [e_th, c_9]; done) | (simp [e_th, c_9]; done) | grind [e_th], by rw [ht]; exact hP9, va_K.moved hW.alike hK9, hD9⟩, hS.F ht⟩) hS.2.2 dX0_then_69
  by_cases c_12 : k = 4
  · refine lv_tableIn (off := 60) (tgt := 61) hx hb dX0_then_1 (by rw [c_12]; decide) (by rw [c_12]; decide) (by rw [c_12]; rfl) (by decide) ?_
    refine lv_aload_n hx hb dX0_then_61 rfl (lv_at hl 0 rfl) ?_
    refine lv_lload_n hx hb dX0_then_62 rfl (lv_at hl 2 rfl) ?_
    have hPc := hP.sub (ws' := [(h0, .inr (0, [.long E.1, .int E.2.1, .long E.2.2.1, .int E.2.2.2.1, .long E.2.2.2.2]))]) [0] rfl
    have hDc := hD.sub (ws' := [(h0, .inr (0, [.long E.1, .int E.2.1, .long E.2.2.1, .int E.2.2.2.1, .long E.2.2.2.2]))]) [0] (by decide) rfl
    have hKc := hK.sub (tys' := []) [] rfl
    have hFc := va_free (wc := [(h0, .inr (0, [.long E.1, .int E.2.1, .long E.2.2.1, .int E.2.2.2.1, .long E.2.2.2.2]))]) hD hS hA [0] rfl
    refine va_callv (va_runV (As := [.long v]) (rest := []) ⟨hx, hb, hml, hown, hts⟩ (qX0_thenLesser l dC dI s.heap.size h0 E v) (cwV 1 hts gX0_then_X0_thenLesser rfl rfl rfl (by decide +kernel) ⟨Nat.le_of_ble_eq_true rfl, Nat.le_of_ble_eq_true rfl⟩) ⟨fun a U g mk q => by obtain ⟨q0, q1, qP, qK, qD⟩ := q; exact ⟨q0, q1, qP, va_K.moved (u := U) (U := U.calling g mk a) (Vm.Alike.refl U.vm) qK, qD⟩, va_recv hKc hPc (ci := 0) (q0 := 0) rfl rfl, fun U hU hW => ⟨rfl, by rw [hU], by rw [hU]; exact hPc, va_K.moved hW.alike hKc, hDc.weaken (fun _ _ _ _ => trivial)⟩⟩ rfl rfl hl.1 rfl (lv_room (Nat.le_of_ble_eq_true rfl)) dX0_then_63 ⟨Nat.le_of_ble_eq_true rfl, Nat.le_of_ble_eq_true rfl⟩) hS (fun q _ h => hFc q h) hFc (fun u t9 H1 locs ht hvm hw hB hz1 hk1 hS => ?_)
    obtain ⟨hP1, hK1, hD1⟩ := hB
    rw [ht] at hP1
    obtain rfl := hw
    have hK1 := va_K.moved hvm.symm hK1
    obtain ⟨hP, hD⟩ := va_join (wr := []) (w1 := [(h0, .inr (0, [.long ((e_ls v E).1), .int ((e_ls v E).2.1), .long ((e_ls v E).2.2.1), .int ((e_ls v E).2.2.2.1), .long ((e_ls v E).2.2.2.2)]))]) hP hD [0] [] rfl rfl (by decide) (by decide) hk1 hFc hP1 hD1
    have hK := (hK.sub (tys' := []) [] rfl).app hK1
    generalize H1 = H at hP hS ⊢
    have hP : va_P (dC, dI) vwCl [(h0, .inr (0, [.long ((e_ls v E).1), .int ((e_ls v E).2.1), .long ((e_ls v E).2.2.1), .int ((e_ls v E).2.2.2.1), .long ((e_ls v E).2.2.2.2)]))] H := hP
    have hD : va_D A [(h0, .inr (0, [.long ((e_ls v E).1), .int ((e_ls v E).2.1), .long ((e_ls v E).2.2.1), .int ((e_ls v E).2.2.2.1), .long ((e_ls v E).2.2.2.2)]))] := hD
    have hK : va_K (dC, dI) vwCl [] s := hK
    refine W.widen (k := 0) (n := 0) (Nat.le_of_ble_eq_true rfl) (Nat.le_of_ble_eq_true rfl) ?_
    refine lv_goto (tgt := 69) hx hb dX0_then_66 (by decide) ?_
    have hP9 := hP.sub (ws' := [(h0, .inr (0, [.long ((e_ls v E).1), .int ((e_ls v E).2.1), .long ((e_ls v E).2.2.1), .int ((e_ls v E).2.2.2.1), .long ((e_ls v E).2.2.2.2)]))]) [0] rfl
    have hD9 := hD.sub (ws' := [(h0, .inr (0, [.long ((e_ls v E).1), .int ((e_ls v E).2.1), .long ((e_ls v E).2.2.1), .int ((e_ls v E).2.2.2.1), .long ((e_ls v E).2.2.2.2)]))]) [0] (by decide) rfl
    have hK9 := hK.sub (tys' := []) [] rfl
    refine W.widen (k := 0) (n := 0) (Nat.le_of_ble_eq_true rfl) (Nat.le_of_ble_eq_true rfl) ?_
    exact W.vret hx hb hr (fun t9 ht hW => ⟨⟨(e_ls v E), rfl, by first | (simp [e_th, c_12]; done) | (simp [e_th, c_12]; done) | grind [e_th], by rw [ht]; exact hP9, va_K.moved hW.alike hK9, hD9⟩, hS.F ht⟩) hS.2.2 dX0_then_69
  have hsw : k.toInt < 1 ∨ 4 < k.toInt := sw_1_4 c_1 c_4 c_9 c_12
  refine lv_tableOut (tgt := 69) hx hb dX0_then_1 hsw (by decide) ?_
  have hP9 := hP.sub (ws' := [(h0, .inr (0, [.long E.1, .int E.2.1, .long E.2.2.1, .int E.2.2.2.1, .long E.2.2.2.2]))]) [0] rfl
  have hD9 := hD.sub (ws' := [(h0, .inr (0, [.long E.1, .int E.2.1, .long E.2.2.1, .int E.2.2.2.1, .long E.2.2.2.2]))]) [0] (by decide) rfl
  have hK9 := hK.sub (tys' := []) [] rfl
  refine W.widen (k := 0) (n := 0) (Nat.le_of_ble_eq_true rfl) (Nat.le_of_ble_eq_true rfl) ?_
  exact W.vret hx hb hr (fun t9 ht hW => ⟨⟨E, rfl, by first | (simp [e_th, c_1, c_4, c_9, c_12]; done) | (simp [e_th, c_1, c_4, c_9, c_12]; done) | grind [e_th], by rw [ht]; exact hP9, va_K.moved hW.alike hK9, hD9⟩, hS.F ht⟩) hS.2.2 dX0_then_69

set_option maxRecDepth 20000 in
theorem kX0_on_0 : ∀ w ∈ wsX00, w ∈ wsX0_on := by decide +kernel
set_option maxRecDepth 20000 in
theorem kX0_on_1 : (.fieldLink RX0 9 "FoldRow$Effect" "shift" "J" : Cond) ∈ wsX0_on := by decide +kernel
set_option maxRecDepth 20000 in
theorem kX0_on_2 : (.fieldLink RX0 15 "FoldRow$Effect" "hasLow" "Z" : Cond) ∈ wsX0_on := by decide +kernel
set_option maxRecDepth 20000 in
theorem kX0_on_3 : (.fieldLink RX0 22 "FoldRow$Effect" "hasHigh" "Z" : Cond) ∈ wsX0_on := by decide +kernel
set_option maxRecDepth 20000 in
theorem kX0_on_4 : (.fieldLink RX0 25 "FoldRow$Effect" "high" "J" : Cond) ∈ wsX0_on := by decide +kernel
set_option maxRecDepth 20000 in
theorem kX0_on_5 : (.fieldLink RX0 19 "FoldRow$Effect" "low" "J" : Cond) ∈ wsX0_on := by decide +kernel
set_option maxHeartbeats 4000000 in
set_option maxRecDepth 100000 in
theorem qX0_on (l : Launch) (dC : Nat → ClassId) (dI : Nat → Nat → Nat) (sz : Nat) (h0 : Nat) (E : Ef) (x : Int64)  : Met l yX0_on wsX0_on ({ frames := 0, cells := 0, slots := 0, locals := 0 }) (va_Pc [.ref h0, .long x] (fun U => U.heap.size = sz ∧ va_P (dC, dI) vwCl [(h0, .inr (0, [.long E.1, .int E.2.1, .long E.2.2.1, .int E.2.2.2.1, .long E.2.2.2.2]))] U.heap ∧ va_K (dC, dI) vwCl [] U ∧ va_D (fun _ => True) [(h0, .inr (0, [.long E.1, .int E.2.1, .long E.2.2.1, .int E.2.2.2.1, .long E.2.2.2.2]))])) (va_Ql (fun (r : Int64) (u : Unit) => (r = e_on E x)) (fun (u : Unit) (t9 : State) => va_P (dC, dI) vwCl [(h0, .inr (0, [.long E.1, .int E.2.1, .long E.2.2.1, .int E.2.2.2.1, .long E.2.2.2.2]))] t9.heap ∧ va_K (dC, dI) vwCl [] t9 ∧ va_D (va_A [(h0, .inr (0, [.long E.1, .int E.2.1, .long E.2.2.1, .int E.2.2.2.1, .long E.2.2.2.2]))] sz) [(h0, .inr (0, [.long E.1, .int E.2.1, .long E.2.2.1, .int E.2.2.2.1, .long E.2.2.2.2]))]) (va_A [(h0, .inr (0, [.long E.1, .int E.2.1, .long E.2.2.1, .int E.2.2.2.1, .long E.2.2.2.2]))] sz)) 0 0 (va_A [(h0, .inr (0, [.long E.1, .int E.2.1, .long E.2.2.1, .int E.2.2.2.1, .long E.2.2.2.2]))] sz) := by
  refine Met.ofW (cc := cX0_on) (maxL := 5) (ret := (some .long)) (by decide) rfl ?_
  intro p e s m args below meth c s₁ B hml hv
  obtain ⟨rfl, hsz, hP, hK, hD0⟩ := hv
  have hx := B.exec
  have hb := B.bytes
  have hr := B.returns
  have hts := atoms_spec (ws := wsX0_on) B.pre
  have hown : s.vm.findClass RX0 = some m.cls := findClass_of_methodNamed B.named
  have hlocks := B.notSynchronized
  subst hsz
  have hD := hD0.self (sz := s.heap.size)
  generalize hAe : va_A [(h0, .inr (0, [.long E.1, .int E.2.1, .long E.2.2.1, .int E.2.2.2.1, .long E.2.2.2.2]))] s.heap.size = A at hD ⊢
  have hA : ∀ q : Nat, s.heap.size ≤ q → A q := fun q h => by rw [← hAe]; exact Or.inr h
  have hS : va_S A s.heap s.heap [] := va_S.rf
  have hP : va_P (dC, dI) vwCl [(h0, .inr (0, [.long E.1, .int E.2.1, .long E.2.2.1, .int E.2.2.2.1, .long E.2.2.2.2]))] s.heap := hP
  have hl := lv_entry ([.ref h0, .long x]) (n := 5) (Nat.le_of_ble_eq_true rfl)
  rw [lg_entry_eq]
  generalize (lg_sl ([.ref h0, .long x]) ++ List.replicate (5 - (lg_sl ([.ref h0, .long x])).length) Slot.unset).toArray = ls at hl ⊢
  have hl : lv_has ls 5 [(0, .ref h0), (1, .long x)] := hl
  refine lv_lload_n hx hb dX0_on_0 rfl (lv_at hl 1 rfl) ?_
  refine lv_aload_n hx hb dX0_on_1 rfl (lv_at hl 0 rfl) ?_
  refine va_get (D := (dC, dI)) (ci := 0) (v := .long E.1) (C := RX0) (T := TX0) (N := 5) hx hb hts kX0_on_0 hown hK hP 0 rfl rfl 0 (by decide) (hts (.fieldLink RX0 9 "FoldRow$Effect" "shift" "J") kX0_on_1) (fun _ h9 => h9) rfl dX0_on_2 ?_
  refine lv_ladd hx hb dX0_on_5 ?_
  refine lv_topl (fun v_1 ev_1 => ?_)
  refine lv_lstore_n (lv' := [(3, .long v_1), (0, .ref h0), (1, .long x)]) hx hb dX0_on_6 rfl hl (by decide) rfl (fun ls hl => ?_)
  refine lv_aload_n hx hb dX0_on_7 rfl (lv_at hl 1 rfl) ?_
  refine va_get (D := (dC, dI)) (ci := 0) (v := .int E.2.1) (C := RX0) (T := TX0) (N := 5) hx hb hts kX0_on_0 hown hK hP 0 rfl rfl 1 (by decide) (hts (.fieldLink RX0 15 "FoldRow$Effect" "hasLow" "Z") kX0_on_2) (fun _ h9 => h9) rfl dX0_on_8 ?_
  refine lv_if_eq (tgt := 28) hx hb dX0_on_11 (by decide) (fun c_2 => ?_) (fun c_2 => ?_)
  · refine lv_aload_n hx hb dX0_on_28 rfl (lv_at hl 1 rfl) ?_
    refine va_get (D := (dC, dI)) (ci := 0) (v := .int E.2.2.2.1) (C := RX0) (T := TX0) (N := 5) hx hb hts kX0_on_0 hown hK hP 0 rfl rfl 3 (by decide) (hts (.fieldLink RX0 22 "FoldRow$Effect" "hasHigh" "Z") kX0_on_3) (fun _ h9 => h9) rfl dX0_on_29 ?_
    refine lv_if_eq (tgt := 49) hx hb dX0_on_32 (by decide) (fun c_3 => ?_) (fun c_3 => ?_)
    · refine lv_lload_n hx hb dX0_on_49 rfl (lv_at hl 0 rfl) ?_
      have hP9 := hP.sub (ws' := [(h0, .inr (0, [.long E.1, .int E.2.1, .long E.2.2.1, .int E.2.2.2.1, .long E.2.2.2.2]))]) [0] rfl
      have hD9 := hD.sub (ws' := [(h0, .inr (0, [.long E.1, .int E.2.1, .long E.2.2.1, .int E.2.2.2.1, .long E.2.2.2.2]))]) [0] (by decide) rfl
      have hK9 := hK.sub (tys' := []) [] rfl
      refine W.widen (k := 0) (n := 0) (Nat.le_of_ble_eq_true rfl) (Nat.le_of_ble_eq_true rfl) ?_
      exact W.lret (v := v_1) hx hb hr (fun t9 ht hW => ⟨⟨v_1, (), rfl, by first | (simp [e_on, e_cl, ev_1, c_2, c_3]; done) | (simp [e_on, e_cl, ← ev_1, c_2, c_3]; done) | grind [e_on, e_cl], by rw [ht]; exact hP9, va_K.moved hW.alike hK9, hD9⟩, hS.F ht⟩) hS.2.2 dX0_on_50
    · refine lv_lload_n hx hb dX0_on_35 rfl (lv_at hl 0 rfl) ?_
      refine lv_aload_n hx hb dX0_on_36 rfl (lv_at hl 1 rfl) ?_
      refine va_get (D := (dC, dI)) (ci := 0) (v := .long E.2.2.2.2) (C := RX0) (T := TX0) (N := 5) hx hb hts kX0_on_0 hown hK hP 0 rfl rfl 4 (by decide) (hts (.fieldLink RX0 25 "FoldRow$Effect" "high" "J") kX0_on_4) (fun _ h9 => h9) rfl dX0_on_37 ?_
      refine W.lcmp hx hb dX0_on_40 ?_
      refine lv_if_le (tgt := 49) hx hb dX0_on_41 (by decide) (fun c_4 => ?_) (fun c_4 => ?_)
      · simp only [lq_le] at c_4
        refine lv_lload_n hx hb dX0_on_49 rfl (lv_at hl 0 rfl) ?_
        have hP9 := hP.sub (ws' := [(h0, .inr (0, [.long E.1, .int E.2.1, .long E.2.2.1, .int E.2.2.2.1, .long E.2.2.2.2]))]) [0] rfl
        have hD9 := hD.sub (ws' := [(h0, .inr (0, [.long E.1, .int E.2.1, .long E.2.2.1, .int E.2.2.2.1, .long E.2.2.2.2]))]) [0] (by decide) rfl
        have hK9 := hK.sub (tys' := []) [] rfl
        refine W.widen (k := 0) (n := 0) (Nat.le_of_ble_eq_true rfl) (Nat.le_of_ble_eq_true rfl) ?_
        exact W.lret (v := v_1) hx hb hr (fun t9 ht hW => ⟨⟨v_1, (), rfl, by first | (simp [e_on, e_cl, ev_1, c_2, c_3, c_4]; done) | (simp [e_on, e_cl, ← ev_1, c_2, c_3, c_4]; done) | grind [e_on, e_cl], by rw [ht]; exact hP9, va_K.moved hW.alike hK9, hD9⟩, hS.F ht⟩) hS.2.2 dX0_on_50
      · simp only [lq_le] at c_4
        refine lv_aload_n hx hb dX0_on_44 rfl (lv_at hl 1 rfl) ?_
        refine va_get (D := (dC, dI)) (ci := 0) (v := .long E.2.2.2.2) (C := RX0) (T := TX0) (N := 5) hx hb hts kX0_on_0 hown hK hP 0 rfl rfl 4 (by decide) (hts (.fieldLink RX0 25 "FoldRow$Effect" "high" "J") kX0_on_4) (fun _ h9 => h9) rfl dX0_on_45 ?_
        refine lv_lstore_n (lv' := [(3, .long E.2.2.2.2), (0, .ref h0), (1, .long x)]) hx hb dX0_on_48 rfl hl (by decide) rfl (fun ls hl => ?_)
        refine lv_lload_n hx hb dX0_on_49 rfl (lv_at hl 0 rfl) ?_
        have hP9 := hP.sub (ws' := [(h0, .inr (0, [.long E.1, .int E.2.1, .long E.2.2.1, .int E.2.2.2.1, .long E.2.2.2.2]))]) [0] rfl
        have hD9 := hD.sub (ws' := [(h0, .inr (0, [.long E.1, .int E.2.1, .long E.2.2.1, .int E.2.2.2.1, .long E.2.2.2.2]))]) [0] (by decide) rfl
        have hK9 := hK.sub (tys' := []) [] rfl
        refine W.widen (k := 0) (n := 0) (Nat.le_of_ble_eq_true rfl) (Nat.le_of_ble_eq_true rfl) ?_
        exact W.lret (v := E.2.2.2.2) hx hb hr (fun t9 ht hW => ⟨⟨E.2.2.2.2, (), rfl, by first | (simp [e_on, e_cl, ev_1, c_2, c_3, c_4]; done) | (simp [e_on, e_cl, ← ev_1, c_2, c_3, c_4]; done) | grind [e_on, e_cl], by rw [ht]; exact hP9, va_K.moved hW.alike hK9, hD9⟩, hS.F ht⟩) hS.2.2 dX0_on_50
  · refine lv_lload_n hx hb dX0_on_14 rfl (lv_at hl 0 rfl) ?_
    refine lv_aload_n hx hb dX0_on_15 rfl (lv_at hl 1 rfl) ?_
    refine va_get (D := (dC, dI)) (ci := 0) (v := .long E.2.2.1) (C := RX0) (T := TX0) (N := 5) hx hb hts kX0_on_0 hown hK hP 0 rfl rfl 2 (by decide) (hts (.fieldLink RX0 19 "FoldRow$Effect" "low" "J") kX0_on_5) (fun _ h9 => h9) rfl dX0_on_16 ?_
    refine W.lcmp hx hb dX0_on_19 ?_
    refine lv_if_ge (tgt := 28) hx hb dX0_on_20 (by decide) (fun c_5 => ?_) (fun c_5 => ?_)
    · simp only [lq_ge] at c_5
      refine lv_aload_n hx hb dX0_on_28 rfl (lv_at hl 1 rfl) ?_
      refine va_get (D := (dC, dI)) (ci := 0) (v := .int E.2.2.2.1) (C := RX0) (T := TX0) (N := 5) hx hb hts kX0_on_0 hown hK hP 0 rfl rfl 3 (by decide) (hts (.fieldLink RX0 22 "FoldRow$Effect" "hasHigh" "Z") kX0_on_3) (fun _ h9 => h9) rfl dX0_on_29 ?_
      refine lv_if_eq (tgt := 49) hx hb dX0_on_32 (by decide) (fun c_6 => ?_) (fun c_6 => ?_)
      · refine lv_lload_n hx hb dX0_on_49 rfl (lv_at hl 0 rfl) ?_
        have hP9 := hP.sub (ws' := [(h0, .inr (0, [.long E.1, .int E.2.1, .long E.2.2.1, .int E.2.2.2.1, .long E.2.2.2.2]))]) [0] rfl
        have hD9 := hD.sub (ws' := [(h0, .inr (0, [.long E.1, .int E.2.1, .long E.2.2.1, .int E.2.2.2.1, .long E.2.2.2.2]))]) [0] (by decide) rfl
        have hK9 := hK.sub (tys' := []) [] rfl
        refine W.widen (k := 0) (n := 0) (Nat.le_of_ble_eq_true rfl) (Nat.le_of_ble_eq_true rfl) ?_
        exact W.lret (v := v_1) hx hb hr (fun t9 ht hW => ⟨⟨v_1, (), rfl, by first | (simp [e_on, e_cl, ev_1, c_2, c_5, c_6]; done) | (simp [e_on, e_cl, ← ev_1, c_2, c_5, c_6]; done) | grind [e_on, e_cl], by rw [ht]; exact hP9, va_K.moved hW.alike hK9, hD9⟩, hS.F ht⟩) hS.2.2 dX0_on_50
      · refine lv_lload_n hx hb dX0_on_35 rfl (lv_at hl 0 rfl) ?_
        refine lv_aload_n hx hb dX0_on_36 rfl (lv_at hl 1 rfl) ?_
        refine va_get (D := (dC, dI)) (ci := 0) (v := .long E.2.2.2.2) (C := RX0) (T := TX0) (N := 5) hx hb hts kX0_on_0 hown hK hP 0 rfl rfl 4 (by decide) (hts (.fieldLink RX0 25 "FoldRow$Effect" "high" "J") kX0_on_4) (fun _ h9 => h9) rfl dX0_on_37 ?_
        refine W.lcmp hx hb dX0_on_40 ?_
        refine lv_if_le (tgt := 49) hx hb dX0_on_41 (by decide) (fun c_7 => ?_) (fun c_7 => ?_)
        · simp only [lq_le] at c_7
          refine lv_lload_n hx hb dX0_on_49 rfl (lv_at hl 0 rfl) ?_
          have hP9 := hP.sub (ws' := [(h0, .inr (0, [.long E.1, .int E.2.1, .long E.2.2.1, .int E.2.2.2.1, .long E.2.2.2.2]))]) [0] rfl
          have hD9 := hD.sub (ws' := [(h0, .inr (0, [.long E.1, .int E.2.1, .long E.2.2.1, .int E.2.2.2.1, .long E.2.2.2.2]))]) [0] (by decide) rfl
          have hK9 := hK.sub (tys' := []) [] rfl
          refine W.widen (k := 0) (n := 0) (Nat.le_of_ble_eq_true rfl) (Nat.le_of_ble_eq_true rfl) ?_
          exact W.lret (v := v_1) hx hb hr (fun t9 ht hW => ⟨⟨v_1, (), rfl, by first | (simp [e_on, e_cl, ev_1, c_2, c_5, c_6, c_7]; done) | (simp [e_on, e_cl, ← ev_1, c_2, c_5, c_6, c_7]; done) | grind [e_on, e_cl], by rw [ht]; exact hP9, va_K.moved hW.alike hK9, hD9⟩, hS.F ht⟩) hS.2.2 dX0_on_50
        · simp only [lq_le] at c_7
          refine lv_aload_n hx hb dX0_on_44 rfl (lv_at hl 1 rfl) ?_
          refine va_get (D := (dC, dI)) (ci := 0) (v := .long E.2.2.2.2) (C := RX0) (T := TX0) (N := 5) hx hb hts kX0_on_0 hown hK hP 0 rfl rfl 4 (by decide) (hts (.fieldLink RX0 25 "FoldRow$Effect" "high" "J") kX0_on_4) (fun _ h9 => h9) rfl dX0_on_45 ?_
          refine lv_lstore_n (lv' := [(3, .long E.2.2.2.2), (0, .ref h0), (1, .long x)]) hx hb dX0_on_48 rfl hl (by decide) rfl (fun ls hl => ?_)
          refine lv_lload_n hx hb dX0_on_49 rfl (lv_at hl 0 rfl) ?_
          have hP9 := hP.sub (ws' := [(h0, .inr (0, [.long E.1, .int E.2.1, .long E.2.2.1, .int E.2.2.2.1, .long E.2.2.2.2]))]) [0] rfl
          have hD9 := hD.sub (ws' := [(h0, .inr (0, [.long E.1, .int E.2.1, .long E.2.2.1, .int E.2.2.2.1, .long E.2.2.2.2]))]) [0] (by decide) rfl
          have hK9 := hK.sub (tys' := []) [] rfl
          refine W.widen (k := 0) (n := 0) (Nat.le_of_ble_eq_true rfl) (Nat.le_of_ble_eq_true rfl) ?_
          exact W.lret (v := E.2.2.2.2) hx hb hr (fun t9 ht hW => ⟨⟨E.2.2.2.2, (), rfl, by first | (simp [e_on, e_cl, ev_1, c_2, c_5, c_6, c_7]; done) | (simp [e_on, e_cl, ← ev_1, c_2, c_5, c_6, c_7]; done) | grind [e_on, e_cl], by rw [ht]; exact hP9, va_K.moved hW.alike hK9, hD9⟩, hS.F ht⟩) hS.2.2 dX0_on_50
    · simp only [lq_ge] at c_5
      refine lv_aload_n hx hb dX0_on_23 rfl (lv_at hl 1 rfl) ?_
      refine va_get (D := (dC, dI)) (ci := 0) (v := .long E.2.2.1) (C := RX0) (T := TX0) (N := 5) hx hb hts kX0_on_0 hown hK hP 0 rfl rfl 2 (by decide) (hts (.fieldLink RX0 19 "FoldRow$Effect" "low" "J") kX0_on_5) (fun _ h9 => h9) rfl dX0_on_24 ?_
      refine lv_lstore_n (lv' := [(3, .long E.2.2.1), (0, .ref h0), (1, .long x)]) hx hb dX0_on_27 rfl hl (by decide) rfl (fun ls hl => ?_)
      refine lv_aload_n hx hb dX0_on_28 rfl (lv_at hl 1 rfl) ?_
      refine va_get (D := (dC, dI)) (ci := 0) (v := .int E.2.2.2.1) (C := RX0) (T := TX0) (N := 5) hx hb hts kX0_on_0 hown hK hP 0 rfl rfl 3 (by decide) (hts (.fieldLink RX0 22 "FoldRow$Effect" "hasHigh" "Z") kX0_on_3) (fun _ h9 => h9) rfl dX0_on_29 ?_
      refine lv_if_eq (tgt := 49) hx hb dX0_on_32 (by decide) (fun c_8 => ?_) (fun c_8 => ?_)
      · refine lv_lload_n hx hb dX0_on_49 rfl (lv_at hl 0 rfl) ?_
        have hP9 := hP.sub (ws' := [(h0, .inr (0, [.long E.1, .int E.2.1, .long E.2.2.1, .int E.2.2.2.1, .long E.2.2.2.2]))]) [0] rfl
        have hD9 := hD.sub (ws' := [(h0, .inr (0, [.long E.1, .int E.2.1, .long E.2.2.1, .int E.2.2.2.1, .long E.2.2.2.2]))]) [0] (by decide) rfl
        have hK9 := hK.sub (tys' := []) [] rfl
        refine W.widen (k := 0) (n := 0) (Nat.le_of_ble_eq_true rfl) (Nat.le_of_ble_eq_true rfl) ?_
        exact W.lret (v := E.2.2.1) hx hb hr (fun t9 ht hW => ⟨⟨E.2.2.1, (), rfl, by first | (simp [e_on, e_cl, ev_1, c_2, c_5, c_8]; done) | (simp [e_on, e_cl, ← ev_1, c_2, c_5, c_8]; done) | grind [e_on, e_cl], by rw [ht]; exact hP9, va_K.moved hW.alike hK9, hD9⟩, hS.F ht⟩) hS.2.2 dX0_on_50
      · refine lv_lload_n hx hb dX0_on_35 rfl (lv_at hl 0 rfl) ?_
        refine lv_aload_n hx hb dX0_on_36 rfl (lv_at hl 1 rfl) ?_
        refine va_get (D := (dC, dI)) (ci := 0) (v := .long E.2.2.2.2) (C := RX0) (T := TX0) (N := 5) hx hb hts kX0_on_0 hown hK hP 0 rfl rfl 4 (by decide) (hts (.fieldLink RX0 25 "FoldRow$Effect" "high" "J") kX0_on_4) (fun _ h9 => h9) rfl dX0_on_37 ?_
        refine W.lcmp hx hb dX0_on_40 ?_
        refine lv_if_le (tgt := 49) hx hb dX0_on_41 (by decide) (fun c_9 => ?_) (fun c_9 => ?_)
        · simp only [lq_le] at c_9
          refine lv_lload_n hx hb dX0_on_49 rfl (lv_at hl 0 rfl) ?_
          have hP9 := hP.sub (ws' := [(h0, .inr (0, [.long E.1, .int E.2.1, .long E.2.2.1, .int E.2.2.2.1, .long E.2.2.2.2]))]) [0] rfl
          have hD9 := hD.sub (ws' := [(h0, .inr (0, [.long E.1, .int E.2.1, .long E.2.2.1, .int E.2.2.2.1, .long E.2.2.2.2]))]) [0] (by decide) rfl
          have hK9 := hK.sub (tys' := []) [] rfl
          refine W.widen (k := 0) (n := 0) (Nat.le_of_ble_eq_true rfl) (Nat.le_of_ble_eq_true rfl) ?_
          exact W.lret (v := E.2.2.1) hx hb hr (fun t9 ht hW => ⟨⟨E.2.2.1, (), rfl, by first | (simp [e_on, e_cl, ev_1, c_2, c_5, c_8, c_9]; done) | (simp [e_on, e_cl, ← ev_1, c_2, c_5, c_8, c_9]; done) | grind [e_on, e_cl], by rw [ht]; exact hP9, va_K.moved hW.alike hK9, hD9⟩, hS.F ht⟩) hS.2.2 dX0_on_50
        · simp only [lq_le] at c_9
          refine lv_aload_n hx hb dX0_on_44 rfl (lv_at hl 1 rfl) ?_
          refine va_get (D := (dC, dI)) (ci := 0) (v := .long E.2.2.2.2) (C := RX0) (T := TX0) (N := 5) hx hb hts kX0_on_0 hown hK hP 0 rfl rfl 4 (by decide) (hts (.fieldLink RX0 25 "FoldRow$Effect" "high" "J") kX0_on_4) (fun _ h9 => h9) rfl dX0_on_45 ?_
          refine lv_lstore_n (lv' := [(3, .long E.2.2.2.2), (0, .ref h0), (1, .long x)]) hx hb dX0_on_48 rfl hl (by decide) rfl (fun ls hl => ?_)
          refine lv_lload_n hx hb dX0_on_49 rfl (lv_at hl 0 rfl) ?_
          have hP9 := hP.sub (ws' := [(h0, .inr (0, [.long E.1, .int E.2.1, .long E.2.2.1, .int E.2.2.2.1, .long E.2.2.2.2]))]) [0] rfl
          have hD9 := hD.sub (ws' := [(h0, .inr (0, [.long E.1, .int E.2.1, .long E.2.2.1, .int E.2.2.2.1, .long E.2.2.2.2]))]) [0] (by decide) rfl
          have hK9 := hK.sub (tys' := []) [] rfl
          refine W.widen (k := 0) (n := 0) (Nat.le_of_ble_eq_true rfl) (Nat.le_of_ble_eq_true rfl) ?_
          exact W.lret (v := E.2.2.2.2) hx hb hr (fun t9 ht hW => ⟨⟨E.2.2.2.2, (), rfl, by first | (simp [e_on, e_cl, ev_1, c_2, c_5, c_8, c_9]; done) | (simp [e_on, e_cl, ← ev_1, c_2, c_5, c_8, c_9]; done) | grind [e_on, e_cl], by rw [ht]; exact hP9, va_K.moved hW.alike hK9, hD9⟩, hS.F ht⟩) hS.2.2 dX0_on_50

set_option maxRecDepth 20000 in
theorem kX0_staysAtHigh_0 : ∀ w ∈ wsX00, w ∈ wsX0_staysAtHigh := by decide +kernel
set_option maxRecDepth 20000 in
theorem kX0_staysAtHigh_1 : (.fieldLink RX0 9 "FoldRow$Effect" "shift" "J" : Cond) ∈ wsX0_staysAtHigh := by decide +kernel
set_option maxHeartbeats 4000000 in
set_option maxRecDepth 100000 in
theorem qX0_staysAtHigh (l : Launch) (dC : Nat → ClassId) (dI : Nat → Nat → Nat) (sz : Nat) (h0 : Nat) (E : Ef) (w : Int32) (hwb : w = 0 ∨ w = 1) : Met l yX0_staysAtHigh wsX0_staysAtHigh ({ frames := 0, cells := 0, slots := 0, locals := 0 }) (va_Pc [.ref h0, .int w] (fun U => U.heap.size = sz ∧ va_P (dC, dI) vwCl [(h0, .inr (0, [.long E.1, .int E.2.1, .long E.2.2.1, .int E.2.2.2.1, .long E.2.2.2.2]))] U.heap ∧ va_K (dC, dI) vwCl [] U ∧ va_D (fun _ => True) [(h0, .inr (0, [.long E.1, .int E.2.1, .long E.2.2.1, .int E.2.2.2.1, .long E.2.2.2.2]))])) (va_Qi (fun (r : Int32) (u : Unit) => (r = e_st E w)) (fun (u : Unit) (t9 : State) => va_P (dC, dI) vwCl [(h0, .inr (0, [.long E.1, .int E.2.1, .long E.2.2.1, .int E.2.2.2.1, .long E.2.2.2.2]))] t9.heap ∧ va_K (dC, dI) vwCl [] t9 ∧ va_D (va_A [(h0, .inr (0, [.long E.1, .int E.2.1, .long E.2.2.1, .int E.2.2.2.1, .long E.2.2.2.2]))] sz) [(h0, .inr (0, [.long E.1, .int E.2.1, .long E.2.2.1, .int E.2.2.2.1, .long E.2.2.2.2]))]) (va_A [(h0, .inr (0, [.long E.1, .int E.2.1, .long E.2.2.1, .int E.2.2.2.1, .long E.2.2.2.2]))] sz)) 0 0 (va_A [(h0, .inr (0, [.long E.1, .int E.2.1, .long E.2.2.1, .int E.2.2.2.1, .long E.2.2.2.2]))] sz) := by
  refine Met.ofW (cc := cX0_staysAtHigh) (maxL := 2) (ret := (some .boolean)) (by decide) rfl ?_
  intro p e s m args below meth c s₁ B hml hv
  obtain ⟨rfl, hsz, hP, hK, hD0⟩ := hv
  have hx := B.exec
  have hb := B.bytes
  have hr := B.returns
  have hts := atoms_spec (ws := wsX0_staysAtHigh) B.pre
  have hown : s.vm.findClass RX0 = some m.cls := findClass_of_methodNamed B.named
  have hlocks := B.notSynchronized
  subst hsz
  have hD := hD0.self (sz := s.heap.size)
  generalize hAe : va_A [(h0, .inr (0, [.long E.1, .int E.2.1, .long E.2.2.1, .int E.2.2.2.1, .long E.2.2.2.2]))] s.heap.size = A at hD ⊢
  have hA : ∀ q : Nat, s.heap.size ≤ q → A q := fun q h => by rw [← hAe]; exact Or.inr h
  have hS : va_S A s.heap s.heap [] := va_S.rf
  have hP : va_P (dC, dI) vwCl [(h0, .inr (0, [.long E.1, .int E.2.1, .long E.2.2.1, .int E.2.2.2.1, .long E.2.2.2.2]))] s.heap := hP
  have hl := lv_entry ([.ref h0, .int w]) (n := 2) (Nat.le_of_ble_eq_true rfl)
  rw [lg_entry_eq]
  generalize (lg_sl ([.ref h0, .int w]) ++ List.replicate (2 - (lg_sl ([.ref h0, .int w])).length) Slot.unset).toArray = ls at hl ⊢
  have hl : lv_has ls 2 [(0, .ref h0), (1, .int w)] := hl
  refine lv_aload_n hx hb dX0_staysAtHigh_0 rfl (lv_at hl 0 rfl) ?_
  refine va_get (D := (dC, dI)) (ci := 0) (v := .long E.1) (C := RX0) (T := TX0) (N := 5) hx hb hts kX0_staysAtHigh_0 hown hK hP 0 rfl rfl 0 (by decide) (hts (.fieldLink RX0 9 "FoldRow$Effect" "shift" "J") kX0_staysAtHigh_1) (fun _ h9 => h9) rfl dX0_staysAtHigh_1 ?_
  refine lv_lconst (v := 0) hx hb dX0_staysAtHigh_4 (by decide) ?_
  refine W.lcmp hx hb dX0_staysAtHigh_5 ?_
  refine lv_if_ne (tgt := 13) hx hb dX0_staysAtHigh_6 (by decide) (fun c_1 => ?_) (fun c_1 => ?_)
  · simp only [lq_ne] at c_1
    refine lv_aload_n hx hb dX0_staysAtHigh_13 rfl (lv_at hl 0 rfl) ?_
    refine va_get (D := (dC, dI)) (ci := 0) (v := .long E.1) (C := RX0) (T := TX0) (N := 5) hx hb hts kX0_staysAtHigh_0 hown hK hP 0 rfl rfl 0 (by decide) (hts (.fieldLink RX0 9 "FoldRow$Effect" "shift" "J") kX0_staysAtHigh_1) (fun _ h9 => h9) rfl dX0_staysAtHigh_14 ?_
    refine lv_lconst (v := 0) hx hb dX0_staysAtHigh_17 (by decide) ?_
    refine W.lcmp hx hb dX0_staysAtHigh_18 ?_
    refine lv_if_le (tgt := 26) hx hb dX0_staysAtHigh_19 (by decide) (fun c_2 => ?_) (fun c_2 => ?_)
    · simp only [lq_le] at c_2
      refine lv_iconst (v := 0) hx hb dX0_staysAtHigh_26 (by decide) ?_
      have hP9 := hP.sub (ws' := [(h0, .inr (0, [.long E.1, .int E.2.1, .long E.2.2.1, .int E.2.2.2.1, .long E.2.2.2.2]))]) [0] rfl
      have hD9 := hD.sub (ws' := [(h0, .inr (0, [.long E.1, .int E.2.1, .long E.2.2.1, .int E.2.2.2.1, .long E.2.2.2.2]))]) [0] (by decide) rfl
      have hK9 := hK.sub (tys' := []) [] rfl
      refine W.widen (k := 0) (n := 0) (Nat.le_of_ble_eq_true rfl) (Nat.le_of_ble_eq_true rfl) ?_
      exact W.zret (v := 0) hx hb hr rfl (fun t9 ht hW => ⟨⟨0, (), rfl, by first | (simp [e_st, c_1, c_2]; done) | (simp [e_st, c_1, c_2]; done) | grind [e_st], by rw [ht]; exact hP9, va_K.moved hW.alike hK9, hD9⟩, hS.F ht⟩) hS.2.2 dX0_staysAtHigh_27
    · simp only [lq_le] at c_2
      refine lv_iconst (v := 1) hx hb dX0_staysAtHigh_22 (by decide) ?_
      refine lv_goto (tgt := 27) hx hb dX0_staysAtHigh_23 (by decide) ?_
      have hP9 := hP.sub (ws' := [(h0, .inr (0, [.long E.1, .int E.2.1, .long E.2.2.1, .int E.2.2.2.1, .long E.2.2.2.2]))]) [0] rfl
      have hD9 := hD.sub (ws' := [(h0, .inr (0, [.long E.1, .int E.2.1, .long E.2.2.1, .int E.2.2.2.1, .long E.2.2.2.2]))]) [0] (by decide) rfl
      have hK9 := hK.sub (tys' := []) [] rfl
      refine W.widen (k := 0) (n := 0) (Nat.le_of_ble_eq_true rfl) (Nat.le_of_ble_eq_true rfl) ?_
      exact W.zret (v := 1) hx hb hr rfl (fun t9 ht hW => ⟨⟨1, (), rfl, by first | (simp [e_st, c_1, c_2]; done) | (simp [e_st, c_1, c_2]; done) | grind [e_st], by rw [ht]; exact hP9, va_K.moved hW.alike hK9, hD9⟩, hS.F ht⟩) hS.2.2 dX0_staysAtHigh_27
  · simp only [lq_ne] at c_1
    refine lv_iload_n hx hb dX0_staysAtHigh_9 rfl (lv_at hl 1 rfl) ?_
    refine lv_goto (tgt := 27) hx hb dX0_staysAtHigh_10 (by decide) ?_
    have hP9 := hP.sub (ws' := [(h0, .inr (0, [.long E.1, .int E.2.1, .long E.2.2.1, .int E.2.2.2.1, .long E.2.2.2.2]))]) [0] rfl
    have hD9 := hD.sub (ws' := [(h0, .inr (0, [.long E.1, .int E.2.1, .long E.2.2.1, .int E.2.2.2.1, .long E.2.2.2.2]))]) [0] (by decide) rfl
    have hK9 := hK.sub (tys' := []) [] rfl
    refine W.widen (k := 0) (n := 0) (Nat.le_of_ble_eq_true rfl) (Nat.le_of_ble_eq_true rfl) ?_
    exact W.zret (v := w) hx hb hr (by rcases hwb with h | h <;> rw [h] <;> rfl) (fun t9 ht hW => ⟨⟨w, (), rfl, by first | (simp [e_st, c_1]; done) | (simp [e_st, c_1]; done) | grind [e_st], by rw [ht]; exact hP9, va_K.moved hW.alike hK9, hD9⟩, hS.F ht⟩) hS.2.2 dX0_staysAtHigh_27

set_option maxRecDepth 20000 in
theorem kX0_isSameOfAll_0 : ∀ w ∈ wsX00, w ∈ wsX0_isSameOfAll := by decide +kernel
set_option maxRecDepth 20000 in
theorem kX0_isSameOfAll_1 : (.fieldLink RX0 15 "FoldRow$Effect" "hasLow" "Z" : Cond) ∈ wsX0_isSameOfAll := by decide +kernel
set_option maxRecDepth 20000 in
theorem kX0_isSameOfAll_2 : (.fieldLink RX0 22 "FoldRow$Effect" "hasHigh" "Z" : Cond) ∈ wsX0_isSameOfAll := by decide +kernel
set_option maxRecDepth 20000 in
theorem kX0_isSameOfAll_3 : (.fieldLink RX0 19 "FoldRow$Effect" "low" "J" : Cond) ∈ wsX0_isSameOfAll := by decide +kernel
set_option maxRecDepth 20000 in
theorem kX0_isSameOfAll_4 : (.fieldLink RX0 25 "FoldRow$Effect" "high" "J" : Cond) ∈ wsX0_isSameOfAll := by decide +kernel
set_option maxHeartbeats 4000000 in
set_option maxRecDepth 100000 in
theorem qX0_isSameOfAll (l : Launch) (dC : Nat → ClassId) (dI : Nat → Nat → Nat) (sz : Nat) (h0 : Nat) (E : Ef)  : Met l yX0_isSameOfAll wsX0_isSameOfAll ({ frames := 0, cells := 0, slots := 0, locals := 0 }) (va_Pc [.ref h0] (fun U => U.heap.size = sz ∧ va_P (dC, dI) vwCl [(h0, .inr (0, [.long E.1, .int E.2.1, .long E.2.2.1, .int E.2.2.2.1, .long E.2.2.2.2]))] U.heap ∧ va_K (dC, dI) vwCl [] U ∧ va_D (fun _ => True) [(h0, .inr (0, [.long E.1, .int E.2.1, .long E.2.2.1, .int E.2.2.2.1, .long E.2.2.2.2]))])) (va_Qi (fun (r : Int32) (u : Unit) => (r = e_sa E)) (fun (u : Unit) (t9 : State) => va_P (dC, dI) vwCl [(h0, .inr (0, [.long E.1, .int E.2.1, .long E.2.2.1, .int E.2.2.2.1, .long E.2.2.2.2]))] t9.heap ∧ va_K (dC, dI) vwCl [] t9 ∧ va_D (va_A [(h0, .inr (0, [.long E.1, .int E.2.1, .long E.2.2.1, .int E.2.2.2.1, .long E.2.2.2.2]))] sz) [(h0, .inr (0, [.long E.1, .int E.2.1, .long E.2.2.1, .int E.2.2.2.1, .long E.2.2.2.2]))]) (va_A [(h0, .inr (0, [.long E.1, .int E.2.1, .long E.2.2.1, .int E.2.2.2.1, .long E.2.2.2.2]))] sz)) 0 0 (va_A [(h0, .inr (0, [.long E.1, .int E.2.1, .long E.2.2.1, .int E.2.2.2.1, .long E.2.2.2.2]))] sz) := by
  refine Met.ofW (cc := cX0_isSameOfAll) (maxL := 1) (ret := (some .boolean)) (by decide) rfl ?_
  intro p e s m args below meth c s₁ B hml hv
  obtain ⟨rfl, hsz, hP, hK, hD0⟩ := hv
  have hx := B.exec
  have hb := B.bytes
  have hr := B.returns
  have hts := atoms_spec (ws := wsX0_isSameOfAll) B.pre
  have hown : s.vm.findClass RX0 = some m.cls := findClass_of_methodNamed B.named
  have hlocks := B.notSynchronized
  subst hsz
  have hD := hD0.self (sz := s.heap.size)
  generalize hAe : va_A [(h0, .inr (0, [.long E.1, .int E.2.1, .long E.2.2.1, .int E.2.2.2.1, .long E.2.2.2.2]))] s.heap.size = A at hD ⊢
  have hA : ∀ q : Nat, s.heap.size ≤ q → A q := fun q h => by rw [← hAe]; exact Or.inr h
  have hS : va_S A s.heap s.heap [] := va_S.rf
  have hP : va_P (dC, dI) vwCl [(h0, .inr (0, [.long E.1, .int E.2.1, .long E.2.2.1, .int E.2.2.2.1, .long E.2.2.2.2]))] s.heap := hP
  have hl := lv_entry ([.ref h0]) (n := 1) (Nat.le_of_ble_eq_true rfl)
  rw [lg_entry_eq]
  generalize (lg_sl ([.ref h0]) ++ List.replicate (1 - (lg_sl ([.ref h0])).length) Slot.unset).toArray = ls at hl ⊢
  have hl : lv_has ls 1 [(0, .ref h0)] := hl
  refine lv_aload_n hx hb dX0_isSameOfAll_0 rfl (lv_at hl 0 rfl) ?_
  refine va_get (D := (dC, dI)) (ci := 0) (v := .int E.2.1) (C := RX0) (T := TX0) (N := 5) hx hb hts kX0_isSameOfAll_0 hown hK hP 0 rfl rfl 1 (by decide) (hts (.fieldLink RX0 15 "FoldRow$Effect" "hasLow" "Z") kX0_isSameOfAll_1) (fun _ h9 => h9) rfl dX0_isSameOfAll_1 ?_
  refine lv_if_eq (tgt := 30) hx hb dX0_isSameOfAll_4 (by decide) (fun c_1 => ?_) (fun c_1 => ?_)
  · refine lv_iconst (v := 0) hx hb dX0_isSameOfAll_30 (by decide) ?_
    have hP9 := hP.sub (ws' := [(h0, .inr (0, [.long E.1, .int E.2.1, .long E.2.2.1, .int E.2.2.2.1, .long E.2.2.2.2]))]) [0] rfl
    have hD9 := hD.sub (ws' := [(h0, .inr (0, [.long E.1, .int E.2.1, .long E.2.2.1, .int E.2.2.2.1, .long E.2.2.2.2]))]) [0] (by decide) rfl
    have hK9 := hK.sub (tys' := []) [] rfl
    refine W.widen (k := 0) (n := 0) (Nat.le_of_ble_eq_true rfl) (Nat.le_of_ble_eq_true rfl) ?_
    exact W.zret (v := 0) hx hb hr rfl (fun t9 ht hW => ⟨⟨0, (), rfl, by first | (simp [e_sa, c_1]; done) | (simp [e_sa, c_1]; done) | grind [e_sa], by rw [ht]; exact hP9, va_K.moved hW.alike hK9, hD9⟩, hS.F ht⟩) hS.2.2 dX0_isSameOfAll_31
  · refine lv_aload_n hx hb dX0_isSameOfAll_7 rfl (lv_at hl 0 rfl) ?_
    refine va_get (D := (dC, dI)) (ci := 0) (v := .int E.2.2.2.1) (C := RX0) (T := TX0) (N := 5) hx hb hts kX0_isSameOfAll_0 hown hK hP 0 rfl rfl 3 (by decide) (hts (.fieldLink RX0 22 "FoldRow$Effect" "hasHigh" "Z") kX0_isSameOfAll_2) (fun _ h9 => h9) rfl dX0_isSameOfAll_8 ?_
    refine lv_if_eq (tgt := 30) hx hb dX0_isSameOfAll_11 (by decide) (fun c_2 => ?_) (fun c_2 => ?_)
    · refine lv_iconst (v := 0) hx hb dX0_isSameOfAll_30 (by decide) ?_
      have hP9 := hP.sub (ws' := [(h0, .inr (0, [.long E.1, .int E.2.1, .long E.2.2.1, .int E.2.2.2.1, .long E.2.2.2.2]))]) [0] rfl
      have hD9 := hD.sub (ws' := [(h0, .inr (0, [.long E.1, .int E.2.1, .long E.2.2.1, .int E.2.2.2.1, .long E.2.2.2.2]))]) [0] (by decide) rfl
      have hK9 := hK.sub (tys' := []) [] rfl
      refine W.widen (k := 0) (n := 0) (Nat.le_of_ble_eq_true rfl) (Nat.le_of_ble_eq_true rfl) ?_
      exact W.zret (v := 0) hx hb hr rfl (fun t9 ht hW => ⟨⟨0, (), rfl, by first | (simp [e_sa, c_1, c_2]; done) | (simp [e_sa, c_1, c_2]; done) | grind [e_sa], by rw [ht]; exact hP9, va_K.moved hW.alike hK9, hD9⟩, hS.F ht⟩) hS.2.2 dX0_isSameOfAll_31
    · refine lv_aload_n hx hb dX0_isSameOfAll_14 rfl (lv_at hl 0 rfl) ?_
      refine va_get (D := (dC, dI)) (ci := 0) (v := .long E.2.2.1) (C := RX0) (T := TX0) (N := 5) hx hb hts kX0_isSameOfAll_0 hown hK hP 0 rfl rfl 2 (by decide) (hts (.fieldLink RX0 19 "FoldRow$Effect" "low" "J") kX0_isSameOfAll_3) (fun _ h9 => h9) rfl dX0_isSameOfAll_15 ?_
      refine lv_aload_n hx hb dX0_isSameOfAll_18 rfl (lv_at hl 0 rfl) ?_
      refine va_get (D := (dC, dI)) (ci := 0) (v := .long E.2.2.2.2) (C := RX0) (T := TX0) (N := 5) hx hb hts kX0_isSameOfAll_0 hown hK hP 0 rfl rfl 4 (by decide) (hts (.fieldLink RX0 25 "FoldRow$Effect" "high" "J") kX0_isSameOfAll_4) (fun _ h9 => h9) rfl dX0_isSameOfAll_19 ?_
      refine W.lcmp hx hb dX0_isSameOfAll_22 ?_
      refine lv_if_ne (tgt := 30) hx hb dX0_isSameOfAll_23 (by decide) (fun c_3 => ?_) (fun c_3 => ?_)
      · simp only [lq_ne] at c_3
        refine lv_iconst (v := 0) hx hb dX0_isSameOfAll_30 (by decide) ?_
        have hP9 := hP.sub (ws' := [(h0, .inr (0, [.long E.1, .int E.2.1, .long E.2.2.1, .int E.2.2.2.1, .long E.2.2.2.2]))]) [0] rfl
        have hD9 := hD.sub (ws' := [(h0, .inr (0, [.long E.1, .int E.2.1, .long E.2.2.1, .int E.2.2.2.1, .long E.2.2.2.2]))]) [0] (by decide) rfl
        have hK9 := hK.sub (tys' := []) [] rfl
        refine W.widen (k := 0) (n := 0) (Nat.le_of_ble_eq_true rfl) (Nat.le_of_ble_eq_true rfl) ?_
        exact W.zret (v := 0) hx hb hr rfl (fun t9 ht hW => ⟨⟨0, (), rfl, by first | (simp [e_sa, c_1, c_2, c_3]; done) | (simp [e_sa, c_1, c_2, c_3]; done) | grind [e_sa], by rw [ht]; exact hP9, va_K.moved hW.alike hK9, hD9⟩, hS.F ht⟩) hS.2.2 dX0_isSameOfAll_31
      · simp only [lq_ne] at c_3
        refine lv_iconst (v := 1) hx hb dX0_isSameOfAll_26 (by decide) ?_
        refine lv_goto (tgt := 31) hx hb dX0_isSameOfAll_27 (by decide) ?_
        have hP9 := hP.sub (ws' := [(h0, .inr (0, [.long E.1, .int E.2.1, .long E.2.2.1, .int E.2.2.2.1, .long E.2.2.2.2]))]) [0] rfl
        have hD9 := hD.sub (ws' := [(h0, .inr (0, [.long E.1, .int E.2.1, .long E.2.2.1, .int E.2.2.2.1, .long E.2.2.2.2]))]) [0] (by decide) rfl
        have hK9 := hK.sub (tys' := []) [] rfl
        refine W.widen (k := 0) (n := 0) (Nat.le_of_ble_eq_true rfl) (Nat.le_of_ble_eq_true rfl) ?_
        exact W.zret (v := 1) hx hb hr rfl (fun t9 ht hW => ⟨⟨1, (), rfl, by first | (simp [e_sa, c_1, c_2, c_3]; done) | (simp [e_sa, c_1, c_2, c_3]; done) | grind [e_sa], by rw [ht]; exact hP9, va_K.moved hW.alike hK9, hD9⟩, hS.F ht⟩) hS.2.2 dX0_isSameOfAll_31

set_option maxRecDepth 20000 in
theorem kX0_leavesEachItself_0 : ∀ w ∈ wsX00, w ∈ wsX0_leavesEachItself := by decide +kernel
set_option maxRecDepth 20000 in
theorem kX0_leavesEachItself_1 : (.fieldLink RX0 9 "FoldRow$Effect" "shift" "J" : Cond) ∈ wsX0_leavesEachItself := by decide +kernel
set_option maxRecDepth 20000 in
theorem kX0_leavesEachItself_2 : (.fieldLink RX0 15 "FoldRow$Effect" "hasLow" "Z" : Cond) ∈ wsX0_leavesEachItself := by decide +kernel
set_option maxRecDepth 20000 in
theorem kX0_leavesEachItself_3 : (.fieldLink RX0 22 "FoldRow$Effect" "hasHigh" "Z" : Cond) ∈ wsX0_leavesEachItself := by decide +kernel
set_option maxHeartbeats 4000000 in
set_option maxRecDepth 100000 in
theorem qX0_leavesEachItself (l : Launch) (dC : Nat → ClassId) (dI : Nat → Nat → Nat) (sz : Nat) (h0 : Nat) (E : Ef)  : Met l yX0_leavesEachItself wsX0_leavesEachItself ({ frames := 0, cells := 0, slots := 0, locals := 0 }) (va_Pc [.ref h0] (fun U => U.heap.size = sz ∧ va_P (dC, dI) vwCl [(h0, .inr (0, [.long E.1, .int E.2.1, .long E.2.2.1, .int E.2.2.2.1, .long E.2.2.2.2]))] U.heap ∧ va_K (dC, dI) vwCl [] U ∧ va_D (fun _ => True) [(h0, .inr (0, [.long E.1, .int E.2.1, .long E.2.2.1, .int E.2.2.2.1, .long E.2.2.2.2]))])) (va_Qi (fun (r : Int32) (u : Unit) => (r = e_id E)) (fun (u : Unit) (t9 : State) => va_P (dC, dI) vwCl [(h0, .inr (0, [.long E.1, .int E.2.1, .long E.2.2.1, .int E.2.2.2.1, .long E.2.2.2.2]))] t9.heap ∧ va_K (dC, dI) vwCl [] t9 ∧ va_D (va_A [(h0, .inr (0, [.long E.1, .int E.2.1, .long E.2.2.1, .int E.2.2.2.1, .long E.2.2.2.2]))] sz) [(h0, .inr (0, [.long E.1, .int E.2.1, .long E.2.2.1, .int E.2.2.2.1, .long E.2.2.2.2]))]) (va_A [(h0, .inr (0, [.long E.1, .int E.2.1, .long E.2.2.1, .int E.2.2.2.1, .long E.2.2.2.2]))] sz)) 0 0 (va_A [(h0, .inr (0, [.long E.1, .int E.2.1, .long E.2.2.1, .int E.2.2.2.1, .long E.2.2.2.2]))] sz) := by
  refine Met.ofW (cc := cX0_leavesEachItself) (maxL := 1) (ret := (some .boolean)) (by decide) rfl ?_
  intro p e s m args below meth c s₁ B hml hv
  obtain ⟨rfl, hsz, hP, hK, hD0⟩ := hv
  have hx := B.exec
  have hb := B.bytes
  have hr := B.returns
  have hts := atoms_spec (ws := wsX0_leavesEachItself) B.pre
  have hown : s.vm.findClass RX0 = some m.cls := findClass_of_methodNamed B.named
  have hlocks := B.notSynchronized
  subst hsz
  have hD := hD0.self (sz := s.heap.size)
  generalize hAe : va_A [(h0, .inr (0, [.long E.1, .int E.2.1, .long E.2.2.1, .int E.2.2.2.1, .long E.2.2.2.2]))] s.heap.size = A at hD ⊢
  have hA : ∀ q : Nat, s.heap.size ≤ q → A q := fun q h => by rw [← hAe]; exact Or.inr h
  have hS : va_S A s.heap s.heap [] := va_S.rf
  have hP : va_P (dC, dI) vwCl [(h0, .inr (0, [.long E.1, .int E.2.1, .long E.2.2.1, .int E.2.2.2.1, .long E.2.2.2.2]))] s.heap := hP
  have hl := lv_entry ([.ref h0]) (n := 1) (Nat.le_of_ble_eq_true rfl)
  rw [lg_entry_eq]
  generalize (lg_sl ([.ref h0]) ++ List.replicate (1 - (lg_sl ([.ref h0])).length) Slot.unset).toArray = ls at hl ⊢
  have hl : lv_has ls 1 [(0, .ref h0)] := hl
  refine lv_aload_n hx hb dX0_leavesEachItself_0 rfl (lv_at hl 0 rfl) ?_
  refine va_get (D := (dC, dI)) (ci := 0) (v := .long E.1) (C := RX0) (T := TX0) (N := 5) hx hb hts kX0_leavesEachItself_0 hown hK hP 0 rfl rfl 0 (by decide) (hts (.fieldLink RX0 9 "FoldRow$Effect" "shift" "J") kX0_leavesEachItself_1) (fun _ h9 => h9) rfl dX0_leavesEachItself_1 ?_
  refine lv_lconst (v := 0) hx hb dX0_leavesEachItself_4 (by decide) ?_
  refine W.lcmp hx hb dX0_leavesEachItself_5 ?_
  refine lv_if_ne (tgt := 27) hx hb dX0_leavesEachItself_6 (by decide) (fun c_1 => ?_) (fun c_1 => ?_)
  · simp only [lq_ne] at c_1
    refine lv_iconst (v := 0) hx hb dX0_leavesEachItself_27 (by decide) ?_
    have hP9 := hP.sub (ws' := [(h0, .inr (0, [.long E.1, .int E.2.1, .long E.2.2.1, .int E.2.2.2.1, .long E.2.2.2.2]))]) [0] rfl
    have hD9 := hD.sub (ws' := [(h0, .inr (0, [.long E.1, .int E.2.1, .long E.2.2.1, .int E.2.2.2.1, .long E.2.2.2.2]))]) [0] (by decide) rfl
    have hK9 := hK.sub (tys' := []) [] rfl
    refine W.widen (k := 0) (n := 0) (Nat.le_of_ble_eq_true rfl) (Nat.le_of_ble_eq_true rfl) ?_
    exact W.zret (v := 0) hx hb hr rfl (fun t9 ht hW => ⟨⟨0, (), rfl, by first | (simp [e_id, c_1]; done) | (simp [e_id, c_1]; done) | grind [e_id], by rw [ht]; exact hP9, va_K.moved hW.alike hK9, hD9⟩, hS.F ht⟩) hS.2.2 dX0_leavesEachItself_28
  · simp only [lq_ne] at c_1
    refine lv_aload_n hx hb dX0_leavesEachItself_9 rfl (lv_at hl 0 rfl) ?_
    refine va_get (D := (dC, dI)) (ci := 0) (v := .int E.2.1) (C := RX0) (T := TX0) (N := 5) hx hb hts kX0_leavesEachItself_0 hown hK hP 0 rfl rfl 1 (by decide) (hts (.fieldLink RX0 15 "FoldRow$Effect" "hasLow" "Z") kX0_leavesEachItself_2) (fun _ h9 => h9) rfl dX0_leavesEachItself_10 ?_
    refine lv_if_ne (tgt := 27) hx hb dX0_leavesEachItself_13 (by decide) (fun c_2 => ?_) (fun c_2 => ?_)
    · refine lv_iconst (v := 0) hx hb dX0_leavesEachItself_27 (by decide) ?_
      have hP9 := hP.sub (ws' := [(h0, .inr (0, [.long E.1, .int E.2.1, .long E.2.2.1, .int E.2.2.2.1, .long E.2.2.2.2]))]) [0] rfl
      have hD9 := hD.sub (ws' := [(h0, .inr (0, [.long E.1, .int E.2.1, .long E.2.2.1, .int E.2.2.2.1, .long E.2.2.2.2]))]) [0] (by decide) rfl
      have hK9 := hK.sub (tys' := []) [] rfl
      refine W.widen (k := 0) (n := 0) (Nat.le_of_ble_eq_true rfl) (Nat.le_of_ble_eq_true rfl) ?_
      exact W.zret (v := 0) hx hb hr rfl (fun t9 ht hW => ⟨⟨0, (), rfl, by first | (simp [e_id, c_1, c_2]; done) | (simp [e_id, c_1, c_2]; done) | grind [e_id], by rw [ht]; exact hP9, va_K.moved hW.alike hK9, hD9⟩, hS.F ht⟩) hS.2.2 dX0_leavesEachItself_28
    · refine lv_aload_n hx hb dX0_leavesEachItself_16 rfl (lv_at hl 0 rfl) ?_
      refine va_get (D := (dC, dI)) (ci := 0) (v := .int E.2.2.2.1) (C := RX0) (T := TX0) (N := 5) hx hb hts kX0_leavesEachItself_0 hown hK hP 0 rfl rfl 3 (by decide) (hts (.fieldLink RX0 22 "FoldRow$Effect" "hasHigh" "Z") kX0_leavesEachItself_3) (fun _ h9 => h9) rfl dX0_leavesEachItself_17 ?_
      refine lv_if_ne (tgt := 27) hx hb dX0_leavesEachItself_20 (by decide) (fun c_3 => ?_) (fun c_3 => ?_)
      · refine lv_iconst (v := 0) hx hb dX0_leavesEachItself_27 (by decide) ?_
        have hP9 := hP.sub (ws' := [(h0, .inr (0, [.long E.1, .int E.2.1, .long E.2.2.1, .int E.2.2.2.1, .long E.2.2.2.2]))]) [0] rfl
        have hD9 := hD.sub (ws' := [(h0, .inr (0, [.long E.1, .int E.2.1, .long E.2.2.1, .int E.2.2.2.1, .long E.2.2.2.2]))]) [0] (by decide) rfl
        have hK9 := hK.sub (tys' := []) [] rfl
        refine W.widen (k := 0) (n := 0) (Nat.le_of_ble_eq_true rfl) (Nat.le_of_ble_eq_true rfl) ?_
        exact W.zret (v := 0) hx hb hr rfl (fun t9 ht hW => ⟨⟨0, (), rfl, by first | (simp [e_id, c_1, c_2, c_3]; done) | (simp [e_id, c_1, c_2, c_3]; done) | grind [e_id], by rw [ht]; exact hP9, va_K.moved hW.alike hK9, hD9⟩, hS.F ht⟩) hS.2.2 dX0_leavesEachItself_28
      · refine lv_iconst (v := 1) hx hb dX0_leavesEachItself_23 (by decide) ?_
        refine lv_goto (tgt := 28) hx hb dX0_leavesEachItself_24 (by decide) ?_
        have hP9 := hP.sub (ws' := [(h0, .inr (0, [.long E.1, .int E.2.1, .long E.2.2.1, .int E.2.2.2.1, .long E.2.2.2.2]))]) [0] rfl
        have hD9 := hD.sub (ws' := [(h0, .inr (0, [.long E.1, .int E.2.1, .long E.2.2.1, .int E.2.2.2.1, .long E.2.2.2.2]))]) [0] (by decide) rfl
        have hK9 := hK.sub (tys' := []) [] rfl
        refine W.widen (k := 0) (n := 0) (Nat.le_of_ble_eq_true rfl) (Nat.le_of_ble_eq_true rfl) ?_
        exact W.zret (v := 1) hx hb hr rfl (fun t9 ht hW => ⟨⟨1, (), rfl, by first | (simp [e_id, c_1, c_2, c_3]; done) | (simp [e_id, c_1, c_2, c_3]; done) | grind [e_id], by rw [ht]; exact hP9, va_K.moved hW.alike hK9, hD9⟩, hS.F ht⟩) hS.2.2 dX0_leavesEachItself_28
end
section
/-! ===== the answers, as numbers; loops; places ===== -/
def m_f (is er co : Int32) : Int32 := if ¬ is = 0 ∧ er = 0 then co else er
def s_c (k kind : Int32) (v : Int64) : Int32 := if okR kind v then (if okP k then 0 else 2) else 1
def s_k (kf : Nat → Int32) (k kind : Int32) (v : Int64) : Nat → Int32 := if okR kind v ∧ okP k then upd kf k.toNatClampNeg kind else kf
def s_v (vf : Nat → Int64) (k kind : Int32) (v : Int64) : Nat → Int64 := if okR kind v ∧ okP k then vp_updL vf k.toNatClampNeg v else vf
def f_c (f t kind : Int32) (v : Int64) : Int32 := if okR kind v then (if okW f t then 0 else 2) else 1
def f_k (kf : Nat → Int32) (f t kind : Int32) (v : Int64) : Nat → Int32 := if okR kind v ∧ okW f t then f_fi kf f.toNatClampNeg (ln f t) kind else kf
def f_v (vf : Nat → Int64) (f t kind : Int32) (v : Int64) : Nat → Int64 := if okR kind v ∧ okW f t then f_fi vf f.toNatClampNeg (ln f t) v else vf
def w_c (j k : Int32) : Int32 := if okP j ∧ okP k then 0 else 1
def w_k (kf : Nat → Int32) (j k : Int32) : Nat → Int32 := if okP j ∧ okP k then upd (upd kf j.toNatClampNeg (kf k.toNatClampNeg)) k.toNatClampNeg (kf j.toNatClampNeg) else kf
def w_v (vf : Nat → Int64) (j k : Int32) : Nat → Int64 := if okP j ∧ okP k then vp_updL (vp_updL vf j.toNatClampNeg (vf k.toNatClampNeg)) k.toNatClampNeg (vf j.toNatClampNeg) else vf
def o_c (f t : Int32) (x : Int64) : Int32 := if okX x then (if okW f t then 0 else 2) else 1
def a_c (f t : Int32) (x : Int64) (n : Int32) : Int32 := if okX x ∧ okN n then (if okW f t then 0 else 2) else 1
abbrev FAR : Int64 := 1000000000000000
abbrev m_en (kf : Nat → Int32) (vf : Nat → Int64) (f t : Int32) (x : Int64) : Prop := mW kf vf f t x = mW kf vf f t (2 * x)
def l_c (kf : Nat → Int32) (vf : Nat → Int64) (f t : Int32) (x : Int64) : Int32 := if okW f t then (if m_en kf vf f t x then 0 else 2) else 1
abbrev x_t (kf : Nat → Int32) (vf : Nat → Int64) (f t : Int32) (x : Int64) : Prop := m_en kf vf f t x ∧ mW kf vf f t (mW kf vf f t x) = mW kf vf f t x
def x_c (kf : Nat → Int32) (vf : Nat → Int64) (f t : Int32) (x : Int64) : Int32 := if okW f t then (if mW kf vf f t x = x then 2 else if x_t kf vf f t x then 0 else if x_t kf vf f t (-x) then 0 else 2) else 1
def x_v (kf : Nat → Int32) (vf : Nat → Int64) (f t : Int32) (x : Int64) : Int64 := if x_t kf vf f t x then mW kf vf f t x else mW kf vf f t (-x)
def x_f (h : Int32) : Int64 := if h = 0 then -1000000000000000 else 1000000000000000
def b_c (f t w : Int32) : Int32 := if okQ w then (if okW f t then 0 else 2) else 1
def b_v (kf : Nat → Int32) (vf : Nat → Int64) (f t w : Int32) : Int32 := if w = 0 then (if mW kf vf f t (-1000000000000000) = mW kf vf f t 1000000000000000 then 1 else 0) else if w = 2 then (if mW kf vf f t (-1000000000000000) = -1000000000000000 ∧ mW kf vf f t 1000000000000000 = 1000000000000000 then 1 else 0) else c_of kf f.toNatClampNeg (ln f t)
theorem b01 {P : Prop} [Decidable P] : (if P then (1 : Int32) else 0) = 0 ↔ ¬ P := by by_cases h : P <;> simp [h]
theorem in_P {k : Int32} (h : okP k) : vp_in k 256 := by
  rw [vp_in_iff]
  obtain ⟨h1, h2⟩ := h
  rw [Int32.lt_iff_toInt_lt] at h1 h2
  have e0 : (0 : Int32).toInt = 0 := rfl
  have e1 : (256 : Int32).toInt = 256 := rfl
  omega
theorem w64 {a b : Int32} : a.toInt64 < b.toInt64 ↔ a < b := by rw [Int64.lt_iff_toInt_lt, Int32.lt_iff_toInt_lt, Int32.toInt_toInt64, Int32.toInt_toInt64]
theorem w64_0 {a : Int32} : a.toInt64 < 0 ↔ a < 0 := w64 (b := 0)
theorem w64_4 {a : Int32} : 4 < a.toInt64 ↔ 4 < a := w64 (a := 4)
theorem w64_255 {a : Int32} : 255 < a.toInt64 ↔ ¬ a < 256 := by
  rw [show (255 : Int64) = (255 : Int32).toInt64 from rfl, w64, Int32.lt_iff_toInt_lt, Int32.lt_iff_toInt_lt]
  have e0 : (255 : Int32).toInt = 255 := rfl
  have e1 : (256 : Int32).toInt = 256 := rfl
  omega
theorem w64_1000 {a : Int32} : 1000 < a.toInt64 ↔ 1000 < a := w64 (a := 1000)
theorem w64_2 {a : Int32} : 2 < a.toInt64 ↔ 2 < a := w64 (a := 2)
theorem okW_nat {f t : Int32} (h : okW f t) : ∃ a n : Nat, a + n ≤ 256 ∧ f = nI a ∧ t = nI (a + n) ∧ f.toNatClampNeg = a ∧ ln f t = n := by
  obtain ⟨h1, h2, h3⟩ := h
  obtain ⟨a, ha, rfl⟩ := nI_of h1
  have h4 : ¬ t < 0 := by
    rw [Int32.lt_iff_toInt_lt] at h1 h2 ⊢
    have e0 : (0 : Int32).toInt = 0 := rfl
    omega
  obtain ⟨b, hb, rfl⟩ := nI_of h4
  rw [nI_ltI hb ha] at h2
  rw [show (256 : Int32) = nI 256 from rfl, nI_ltI (by omega) hb] at h3
  refine ⟨a, b - a, by omega, rfl, by rw [show a + (b - a) = b by omega], nI_clamp ha, ?_⟩
  show (nI b).toNatClampNeg - (nI a).toNatClampNeg = b - a
  rw [nI_clamp ha, nI_clamp hb]
theorem lp_ge {a j n : Nat} (ha : a + n ≤ 256) (hj : j ≤ n) (h : nI (a + n) ≤ nI (a + j)) : j = n := by
  rw [nI_leI (by omega) (by omega)] at h; omega
theorem lp_lt {a j n : Nat} (ha : a + n ≤ 256) (hj : j ≤ n) (h : ¬ nI (a + n) ≤ nI (a + j)) : j < n := by
  rw [nI_leI (by omega) (by omega)] at h; omega
theorem f_fi0 {α : Type} (f : Nat → α) (a : Nat) (x : α) : f_fi f a 0 x = f := by
  funext j; unfold f_fi; rw [if_neg (by omega)]
theorem f_fiI (f : Nat → Int32) (a n : Nat) (x : Int32) : upd (f_fi f a n x) (a + n) x = f_fi f a (n + 1) x := by
  funext j
  by_cases h : j = a + n
  · subst h; rw [pk_us]; unfold f_fi; rw [if_pos (by omega)]
  · rw [pk_un h]; unfold f_fi
    by_cases h1 : a ≤ j ∧ j < a + n
    · rw [if_pos h1, if_pos (by omega)]
    · rw [if_neg h1, if_neg (by omega)]
theorem f_fiL (f : Nat → Int64) (a n : Nat) (x : Int64) : vp_updL (f_fi f a n x) (a + n) x = f_fi f a (n + 1) x := by
  funext j
  by_cases h : j = a + n
  · subst h; rw [pk_uLs]; unfold f_fi; rw [if_pos (by omega)]
  · rw [pk_uLn h]; unfold f_fi
    by_cases h1 : a ≤ j ∧ j < a + n
    · rw [if_pos h1, if_pos (by omega)]
    · rw [if_neg h1, if_neg (by omega)]
section LPW
variable {p : Program} {l : Launch} {e : Env} {R : Room} {s : State} {m : MethodId} {args : Array Value} {below : List Frame} {meth : Method} {c : Code} {cells slots : Nat} {Q : State → Prop}
/-- a loop that counts up to N -/
theorem lp_up {α : Type} {N pc : Nat} (I : Nat → α → Heap → List Loc → Array Slot → Prop)
    (hs : ∀ (j : Nat) (a : α) (H : Heap) (locs : List Loc) (ls : Array Slot), j ≤ N → I j a H locs ls → (j < N → ∀ (a' : α) (H' : Heap) (locs' : List Loc) (ls' : Array Slot), I (j + 1) a' H' locs' ls' → W p l e R s m args below meth c H' locs' cells slots Q (F0 m pc ls' [])) → W p l e R s m args below meth c H locs cells slots Q (F0 m pc ls []))
    (a : α) (H : Heap) (locs : List Loc) (ls : Array Slot) (h0 : I 0 a H locs ls) : W p l e R s m args below meth c H locs cells slots Q (F0 m pc ls []) := by
  have key : ∀ (d j : Nat) (a : α) (H : Heap) (locs : List Loc) (ls : Array Slot), N - j = d → j ≤ N → I j a H locs ls → W p l e R s m args below meth c H locs cells slots Q (F0 m pc ls []) := by
    intro d
    induction d with
    | zero => intro j a H locs ls hd hj hI; exact hs j a H locs ls hj hI (fun h => absurd h (by omega))
    | succ d ih => intro j a H locs ls hd hj hI; exact hs j a H locs ls hj hI (fun h a' H' locs' ls' hI' => ih (j + 1) a' H' locs' ls' (by omega) h hI')
  exact key N 0 a H locs ls (by omega) (Nat.zero_le N) h0
end LPW
theorem nn_256 : ¬ (256 : Int32) < 0 := by decide
theorem nc_256 : (256 : Int32).toNatClampNeg = 256 := by decide
theorem nn_1 : ¬ (1 : Int32) < 0 := by decide
theorem nc_1 : (1 : Int32).toNatClampNeg = 1 := by decide
theorem nb_int : 256 * componentBytes .int ≤ 536870912 := by decide
theorem nb_long : 256 * componentBytes .long ≤ 536870912 := by decide
theorem nb1_long : 1 * componentBytes .long ≤ 536870912 := by decide
theorem okN_nat {n : Int32} (h : okN n) : ∃ q : Nat, q ≤ 1000 ∧ n = nI q ∧ n.toNatClampNeg = q := by
  obtain ⟨h1, h2⟩ := h
  obtain ⟨a, ha, rfl⟩ := nI_of h1
  rw [show (1000 : Int32) = nI 1000 from rfl, nI_ltI (by omega) ha] at h2
  exact ⟨a, by omega, rfl, nI_clamp ha⟩
theorem lp_ge0 {j n : Nat} (hn : n ≤ 1000) (hj : j ≤ n) (h : nI n ≤ nI j) : j = n := by
  rw [nI_leI (by omega) (by omega)] at h; omega
theorem lp_lt0 {j n : Nat} (hn : n ≤ 1000) (hj : j ≤ n) (h : ¬ nI n ≤ nI j) : j < n := by
  rw [nI_leI (by omega) (by omega)] at h; omega
def e_fo (E : Ef) (w : Int32) : Int32 := if e_st E w = 0 then E.2.1 else E.2.2.2.1
def e_fv (E : Ef) (w : Int32) : Int64 := if e_st E w = 0 then E.2.2.1 else E.2.2.2.2
def e_ab (kf : Nat → Int32) (vf : Nat → Int64) (f t w : Int32) : Int32 := if w = 1 then c_of kf f.toNatClampNeg (ln f t) else if w = 0 then e_sa (eW kf vf f t) else e_id (eW kf vf f t)
end
section
set_option maxRecDepth 20000 in
theorem kX1_init_0 : (.methodLink RX1 1 objectInit : Cond) ∈ wsX1_init := by decide +kernel
set_option maxRecDepth 20000 in
theorem kX1_init_1 : (.instanceMethod objectInit : Cond) ∈ wsX1_init := by decide +kernel
set_option maxRecDepth 20000 in
theorem kX1_init_2 : (.code objectInit ⟨#[0xb1]⟩ 1 none : Cond) ∈ wsX1_init := by decide +kernel
set_option maxRecDepth 20000 in
theorem kX1_init_3 : (.arrayClass .int : Cond) ∈ wsX1_init := by decide +kernel
set_option maxRecDepth 20000 in
theorem kX1_init_4 : ∀ w ∈ wsX10, w ∈ wsX1_init := by decide +kernel
set_option maxRecDepth 20000 in
theorem kX1_init_5 : (.fieldLink RX1 9 "FoldRow" "kinds" "[I" : Cond) ∈ wsX1_init := by decide +kernel
set_option maxRecDepth 20000 in
theorem kX1_init_6 : (.arrayClass .long : Cond) ∈ wsX1_init := by decide +kernel
set_option maxRecDepth 20000 in
theorem kX1_init_7 : (.fieldLink RX1 13 "FoldRow" "values" "[J" : Cond) ∈ wsX1_init := by decide +kernel
set_option maxHeartbeats 4000000 in
set_option maxRecDepth 100000 in
theorem qX1_init (l : Launch) (dC : Nat → ClassId) (dI : Nat → Nat → Nat) (sz : Nat) (h0 : Nat)  : Met l yX1_init wsX1_init ({ frames := 1, cells := 2, slots := 512, locals := 12 }) (va_Pc [.ref h0] (fun U => U.heap.size = sz ∧ va_P (dC, dI) vwCl [(h0, .inr (1, [.null, .null]))] U.heap ∧ va_K (dC, dI) vwCl [] U ∧ va_D (fun _ => True) [(h0, .inr (1, [.null, .null]))])) (va_Qv (fun (u : Unit) => True) (fun (u : Unit) (t9 : State) => ∃ (a b : Nat) (cI cJ : ClassId), va_P (dC, dI) vwCl [(h0, .inr (1, [.ref a, .ref b])), (a, .inl (cI, 256, .inl (fun _ => 0))), (b, .inl (cJ, 256, .inr (.inl (fun _ => 0))))] t9.heap ∧ va_K (dC, dI) vwCl [(cI, .int), (cJ, .long)] t9 ∧ va_D (va_A [(h0, .inr (1, [.null, .null]))] sz) [(h0, .inr (1, [.ref a, .ref b])), (a, .inl (cI, 256, .inl (fun _ => 0))), (b, .inl (cJ, 256, .inr (.inl (fun _ => 0))))]) (va_A [(h0, .inr (1, [.null, .null]))] sz)) 2 512 (va_A [(h0, .inr (1, [.null, .null]))] sz) := by
  refine Met.ofW (cc := cX1_init) (maxL := 1) (ret := none) (by decide) rfl ?_
  intro p e s m args below meth c s₁ B hml hv
  obtain ⟨rfl, hsz, hP, hK, hD0⟩ := hv
  have hx := B.exec
  have hb := B.bytes
  have hr := B.returns
  have hts := atoms_spec (ws := wsX1_init) B.pre
  have hown : s.vm.findClass RX1 = some m.cls := findClass_of_methodNamed B.named
  have hlocks := B.notSynchronized
  have hin : meth.name = "<init>" := (name_of_methodNamed B.named B.method).1
  subst hsz
  have hD := hD0.self (sz := s.heap.size)
  generalize hAe : va_A [(h0, .inr (1, [.null, .null]))] s.heap.size = A at hD ⊢
  have hA : ∀ q : Nat, s.heap.size ≤ q → A q := fun q h => by rw [← hAe]; exact Or.inr h
  have hS : va_S A s.heap s.heap [] := va_S.rf
  have hP : va_P (dC, dI) vwCl [(h0, .inr (1, [.null, .null]))] s.heap := hP
  have hl := lv_entry ([.ref h0]) (n := 1) (Nat.le_of_ble_eq_true rfl)
  rw [lg_entry_eq]
  generalize (lg_sl ([.ref h0]) ++ List.replicate (1 - (lg_sl ([.ref h0])).length) Slot.unset).toArray = ls at hl ⊢
  have hl : lv_has ls 1 [(0, .ref h0)] := hl
  refine lv_aload_n hx hb dX1_init_0 rfl (lv_at hl 0 rfl) ?_
  refine W.objInit hx hb hown (hts (.methodLink RX1 1 objectInit) kX1_init_0) (hts (.instanceMethod objectInit) kX1_init_1) (hts (.code objectInit ⟨#[0xb1]⟩ 1 none) kX1_init_2) rfl (by rw [hml]; exact hl.1) rfl dX1_init_1 (Nat.le_of_ble_eq_true rfl) (Nat.le_of_ble_eq_true rfl) ?_
  refine W.eq (g2 := F0 m 4 ls []) rfl ?_
  refine lv_aload_n hx hb dX1_init_4 rfl (lv_at hl 0 rfl) ?_
  refine lv_sipush (v := 256) hx hb dX1_init_5 (by decide) ?_
  refine va_newa (atype := .int) (n := 256) (ty := .int) (N' := 256) (a0 := (256, .inl (fun _ => 0))) hx hb (hts (.arrayClass .int) kX1_init_3) rfl hK hP hD hS hA (fun _ => rfl) nn_256 nc_256 nb_int (Nat.le_of_ble_eq_true rfl) (Nat.le_of_ble_eq_true rfl) dX1_init_8 (fun a_1 k_2 H hK hP hD hS => ?_)
  have hP : va_P (dC, dI) vwCl [(h0, .inr (1, [.null, .null])), (a_1, .inl (k_2, 256, .inl (fun _ => 0)))] H := hP
  have hD : va_D A [(h0, .inr (1, [.null, .null])), (a_1, .inl (k_2, 256, .inl (fun _ => 0)))] := hD
  have hK : va_K (dC, dI) vwCl [(k_2, .int)] s := hK
  refine W.widen (k := 1) (n := 256) (Nat.le_of_ble_eq_true rfl) (Nat.le_of_ble_eq_true rfl) ?_
  refine va_putF (D := (dC, dI)) (ci := 1) (v := .ref a_1) (ty := .array .int) (C := RX1) (T := TX1) (N := 2) hx hb hts kX1_init_4 tyX1 tyX1_ok nmX1 hown hK hP hD hS 0 rfl rfl 0 (by decide) (hts (.fieldLink RX1 9 "FoldRow" "kinds" "[I") kX1_init_5) (fun _ h9 => h9) rfl hin rfl (by decide +kernel) rfl rfl (Nat.le_of_ble_eq_true rfl) dX1_init_10 (fun H locs hP hD hS => ?_)
  have hP : va_P (dC, dI) vwCl [(h0, .inr (1, [.ref a_1, .null])), (a_1, .inl (k_2, 256, .inl (fun _ => 0)))] H := hP
  have hD : va_D A [(h0, .inr (1, [.ref a_1, .null])), (a_1, .inl (k_2, 256, .inl (fun _ => 0)))] := hD
  refine lv_aload_n hx hb dX1_init_13 rfl (lv_at hl 0 rfl) ?_
  refine lv_sipush (v := 256) hx hb dX1_init_14 (by decide) ?_
  refine va_newa (atype := .long) (n := 256) (ty := .long) (N' := 256) (a0 := (256, .inr (.inl (fun _ => 0)))) hx hb (hts (.arrayClass .long) kX1_init_6) rfl hK hP hD hS hA (fun _ => rfl) nn_256 nc_256 nb_long (Nat.le_of_ble_eq_true rfl) (Nat.le_of_ble_eq_true rfl) dX1_init_17 (fun a_3 k_4 H hK hP hD hS => ?_)
  have hP : va_P (dC, dI) vwCl [(h0, .inr (1, [.ref a_1, .null])), (a_1, .inl (k_2, 256, .inl (fun _ => 0))), (a_3, .inl (k_4, 256, .inr (.inl (fun _ => 0))))] H := hP
  have hD : va_D A [(h0, .inr (1, [.ref a_1, .null])), (a_1, .inl (k_2, 256, .inl (fun _ => 0))), (a_3, .inl (k_4, 256, .inr (.inl (fun _ => 0))))] := hD
  have hK : va_K (dC, dI) vwCl [(k_2, .int), (k_4, .long)] s := hK
  refine W.widen (k := 2) (n := 512) (Nat.le_of_ble_eq_true rfl) (Nat.le_of_ble_eq_true rfl) ?_
  refine va_putF (D := (dC, dI)) (ci := 1) (v := .ref a_3) (ty := .array .long) (C := RX1) (T := TX1) (N := 2) hx hb hts kX1_init_4 tyX1 tyX1_ok nmX1 hown hK hP hD hS 0 rfl rfl 1 (by decide) (hts (.fieldLink RX1 13 "FoldRow" "values" "[J") kX1_init_7) (fun _ h9 => h9) rfl hin rfl (by decide +kernel) rfl rfl (Nat.le_of_ble_eq_true rfl) dX1_init_19 (fun H locs hP hD hS => ?_)
  have hP : va_P (dC, dI) vwCl [(h0, .inr (1, [.ref a_1, .ref a_3])), (a_1, .inl (k_2, 256, .inl (fun _ => 0))), (a_3, .inl (k_4, 256, .inr (.inl (fun _ => 0))))] H := hP
  have hD : va_D A [(h0, .inr (1, [.ref a_1, .ref a_3])), (a_1, .inl (k_2, 256, .inl (fun _ => 0))), (a_3, .inl (k_4, 256, .inr (.inl (fun _ => 0))))] := hD
  have hP9 := hP.sub (ws' := [(h0, .inr (1, [.ref a_1, .ref a_3])), (a_1, .inl (k_2, 256, .inl (fun _ => 0))), (a_3, .inl (k_4, 256, .inr (.inl (fun _ => 0))))]) [0, 1, 2] rfl
  have hD9 := hD.sub (ws' := [(h0, .inr (1, [.ref a_1, .ref a_3])), (a_1, .inl (k_2, 256, .inl (fun _ => 0))), (a_3, .inl (k_4, 256, .inr (.inl (fun _ => 0))))]) [0, 1, 2] (by decide) rfl
  have hK9 := hK.sub (tys' := [(k_2, .int), (k_4, .long)]) [0, 1] rfl
  refine W.widen (k := 2) (n := 512) (Nat.le_of_ble_eq_true rfl) (Nat.le_of_ble_eq_true rfl) ?_
  exact W.vret hx hb hr (fun t9 ht hW => ⟨⟨(), rfl, trivial, a_1, a_3, k_2, k_4, by rw [ht]; exact hP9, va_K.moved hW.alike hK9, hD9⟩, hS.F ht⟩) hS.2.2 dX1_init_22

set_option maxRecDepth 20000 in
theorem kX1_checkRule_0 : (.classLink RX1 93 "java/lang/IllegalArgumentException" : Cond) ∈ wsX1_checkRule := by decide +kernel
set_option maxRecDepth 20000 in
theorem kX1_checkRule_1 : (.initialized "java/lang/IllegalArgumentException" : Cond) ∈ wsX1_checkRule := by decide +kernel
set_option maxRecDepth 20000 in
theorem kX1_checkRule_2 : ∀ w ∈ (vx_atS RX1 97 IAE ups).filter goodWord, w ∈ wsX1_checkRule := by decide +kernel
set_option maxRecDepth 20000 in
theorem kX1_checkRule_3 : (.constantLong RX1 98 (-1000000000) : Cond) ∈ wsX1_checkRule := by decide +kernel
set_option maxRecDepth 20000 in
theorem kX1_checkRule_4 : (.constantLong RX1 100 (1000000000) : Cond) ∈ wsX1_checkRule := by decide +kernel
set_option maxHeartbeats 4000000 in
set_option maxRecDepth 100000 in
theorem qX1_checkRule (l : Launch) (hlt : l.stackTraces = false) (dC : Nat → ClassId) (dI : Nat → Nat → Nat) (sz : Nat) (k : Int32) (v : Int64)  : vx_Met l yX1_checkRule wsX1_checkRule ({ frames := 6, cells := 1, slots := 6, locals := 90 }) (va_Pc [.int k, .long v] (fun U => U.heap.size = sz ∧ va_P (dC, dI) vwCl [] U.heap ∧ va_K (dC, dI) vwCl [] U ∧ va_D (fun _ => True) [] ∧ ev U ∧ ez (va_A [] sz) U U.heap)) (va_Qv (fun (u : Unit) => (okR k v)) (fun (u : Unit) (t9 : State) => va_P (dC, dI) vwCl [] t9.heap ∧ va_K (dC, dI) vwCl [] t9 ∧ va_D (va_A [] sz) []) (va_A [] sz)) (vx_X (fun _ : Unit => True) (fun (E : String) (_ : Unit) (t9 : State) => (E = IAE ∧ ¬ okR k v) ∧ va_P (dC, dI) vwCl [] t9.heap ∧ va_K (dC, dI) vwCl [] t9 ∧ va_D (va_A [] sz) []) (va_A [] sz)) 1 6 (va_A [] sz) := by
  refine vx_ofW (cc := cX1_checkRule) (maxL := 3) (ret := none) (by decide) rfl ?_
  intro p e s m args below meth c s₁ B hml htb hv
  obtain ⟨rfl, hsz, hP, hK, hD0, hE, hZ⟩ := hv
  have hx := B.exec
  have hb := B.bytes
  have hr := B.returns
  have hts := atoms_spec (ws := wsX1_checkRule) B.pre
  have hown : s.vm.findClass RX1 = some m.cls := findClass_of_methodNamed B.named
  have hlocks := B.notSynchronized
  subst hsz
  have hD := hD0.self (sz := s.heap.size)
  generalize hAe : va_A [] s.heap.size = A at hD hZ ⊢
  have hA : ∀ q : Nat, s.heap.size ≤ q → A q := fun q h => by rw [← hAe]; exact Or.inr h
  have hS : va_S A s.heap s.heap [] := va_S.rf
  have hP : va_P (dC, dI) vwCl [] s.heap := hP
  have hl := lv_entry ([.int k, .long v]) (n := 3) (Nat.le_of_ble_eq_true rfl)
  rw [lg_entry_eq]
  generalize (lg_sl ([.int k, .long v]) ++ List.replicate (3 - (lg_sl ([.int k, .long v])).length) Slot.unset).toArray = ls at hl ⊢
  have hl : lv_has ls 3 [(0, .int k), (1, .long v)] := hl
  refine lv_iload_n hx hb dX1_checkRule_0 rfl (lv_at hl 0 rfl) ?_
  refine lv_if_lt (tgt := 9) hx hb dX1_checkRule_1 (by decide) (fun c_1 => ?_) (fun c_1 => ?_)
  · have hP9 := hP.sub (ws' := []) [] rfl
    have hD9 := hD.sub (ws' := []) [] (by decide) rfl
    have hK9 := hK.sub (tys' := []) [] rfl
    obtain ⟨sa, hsa⟩ := ev_s95 hE
    refine vx_throwS (A := A) (sa := sa) (text := "no such kind") (names := ups) hx hb hlt hown (by decide +kernel) (by decide +kernel) (hts (.classLink RX1 93 "java/lang/IllegalArgumentException") kX1_checkRule_0) (hts (.initialized "java/lang/IllegalArgumentException") kX1_checkRule_1) hsa (ev_at_iae (fun w hw => hts w (kX1_checkRule_2 w hw)) hE) ev_ot_iae hZ.1 hZ.2 hS (by rw [hml]; exact hl.1) dX1_checkRule_9 dX1_checkRule_12 dX1_checkRule_13 dX1_checkRule_15 dX1_checkRule_18 (fun x hx => (htb x hx).elim) (Nat.le_of_ble_eq_true rfl) (Nat.le_of_ble_eq_true rfl) (Nat.le_of_ble_eq_true rfl) (Nat.le_of_ble_eq_true rfl) hlocks (fun t9 ht h1 h2 => ⟨(), trivial, ⟨⟨rfl, by simp [okR, okX, okW, okP, okN, okQ, c_1]⟩, hP9.kept (fun k q hk => h2 q.1 (hP9 k q hk).lt), va_K.moved ht hK9, hD9⟩, ⟨Nat.le_trans hS.1 h1, fun q hq hn => (h2 q (Nat.lt_of_lt_of_le hq hS.1)).trans (hS.2.1 q hq hn)⟩⟩) hS.2.2 (Nat.le_of_ble_eq_true rfl) (Nat.le_of_ble_eq_true rfl)
  · refine lv_iload_n hx hb dX1_checkRule_4 rfl (lv_at hl 0 rfl) ?_
    refine lv_iconst (v := 4) hx hb dX1_checkRule_5 (by decide) ?_
    refine lv_icmp_le (tgt := 19) hx hb dX1_checkRule_6 (by decide) (fun c_2 => ?_) (fun c_2 => ?_)
    · refine lv_lload_n hx hb dX1_checkRule_19 rfl (lv_at hl 1 rfl) ?_
      refine lv_ldc2 hx hb hown (hts (.constantLong RX1 98 (-1000000000)) kX1_checkRule_3) dX1_checkRule_20 ?_
      refine W.lcmp hx hb dX1_checkRule_23 ?_
      refine lv_if_lt (tgt := 35) hx hb dX1_checkRule_24 (by decide) (fun c_3 => ?_) (fun c_3 => ?_)
      · simp only [lq_lt] at c_3
        have hP9 := hP.sub (ws' := []) [] rfl
        have hD9 := hD.sub (ws' := []) [] (by decide) rfl
        have hK9 := hK.sub (tys' := []) [] rfl
        obtain ⟨sa, hsa⟩ := ev_s102 hE
        refine vx_throwS (A := A) (sa := sa) (text := "v is out of range") (names := ups) hx hb hlt hown (by decide +kernel) (by decide +kernel) (hts (.classLink RX1 93 "java/lang/IllegalArgumentException") kX1_checkRule_0) (hts (.initialized "java/lang/IllegalArgumentException") kX1_checkRule_1) hsa (ev_at_iae (fun w hw => hts w (kX1_checkRule_2 w hw)) hE) ev_ot_iae hZ.1 hZ.2 hS (by rw [hml]; exact hl.1) dX1_checkRule_35 dX1_checkRule_38 dX1_checkRule_39 dX1_checkRule_41 dX1_checkRule_44 (fun x hx => (htb x hx).elim) (Nat.le_of_ble_eq_true rfl) (Nat.le_of_ble_eq_true rfl) (Nat.le_of_ble_eq_true rfl) (Nat.le_of_ble_eq_true rfl) hlocks (fun t9 ht h1 h2 => ⟨(), trivial, ⟨⟨rfl, by simp [okR, okX, okW, okP, okN, okQ, c_1, c_2, c_3]⟩, hP9.kept (fun k q hk => h2 q.1 (hP9 k q hk).lt), va_K.moved ht hK9, hD9⟩, ⟨Nat.le_trans hS.1 h1, fun q hq hn => (h2 q (Nat.lt_of_lt_of_le hq hS.1)).trans (hS.2.1 q hq hn)⟩⟩) hS.2.2 (Nat.le_of_ble_eq_true rfl) (Nat.le_of_ble_eq_true rfl)
      · simp only [lq_lt] at c_3
        refine lv_lload_n hx hb dX1_checkRule_27 rfl (lv_at hl 1 rfl) ?_
        refine lv_ldc2 hx hb hown (hts (.constantLong RX1 100 (1000000000)) kX1_checkRule_4) dX1_checkRule_28 ?_
        refine W.lcmp hx hb dX1_checkRule_31 ?_
        refine lv_if_le (tgt := 45) hx hb dX1_checkRule_32 (by decide) (fun c_4 => ?_) (fun c_4 => ?_)
        · simp only [lq_le] at c_4
          have hP9 := hP.sub (ws' := []) [] rfl
          have hD9 := hD.sub (ws' := []) [] (by decide) rfl
          have hK9 := hK.sub (tys' := []) [] rfl
          refine vx_ret ?_
          refine W.widen (k := 1) (n := 6) (Nat.le_of_ble_eq_true rfl) (Nat.le_of_ble_eq_true rfl) ?_
          exact W.vret hx hb hr (fun t9 ht hW => ⟨⟨(), rfl, by simp [okR, okX, okW, okP, okN, okQ, c_1, c_2, c_3, c_4], by rw [ht]; exact hP9, va_K.moved hW.alike hK9, hD9⟩, hS.F ht⟩) hS.2.2 dX1_checkRule_45
        · simp only [lq_le] at c_4
          have hP9 := hP.sub (ws' := []) [] rfl
          have hD9 := hD.sub (ws' := []) [] (by decide) rfl
          have hK9 := hK.sub (tys' := []) [] rfl
          obtain ⟨sa, hsa⟩ := ev_s102 hE
          refine vx_throwS (A := A) (sa := sa) (text := "v is out of range") (names := ups) hx hb hlt hown (by decide +kernel) (by decide +kernel) (hts (.classLink RX1 93 "java/lang/IllegalArgumentException") kX1_checkRule_0) (hts (.initialized "java/lang/IllegalArgumentException") kX1_checkRule_1) hsa (ev_at_iae (fun w hw => hts w (kX1_checkRule_2 w hw)) hE) ev_ot_iae hZ.1 hZ.2 hS (by rw [hml]; exact hl.1) dX1_checkRule_35 dX1_checkRule_38 dX1_checkRule_39 dX1_checkRule_41 dX1_checkRule_44 (fun x hx => (htb x hx).elim) (Nat.le_of_ble_eq_true rfl) (Nat.le_of_ble_eq_true rfl) (Nat.le_of_ble_eq_true rfl) (Nat.le_of_ble_eq_true rfl) hlocks (fun t9 ht h1 h2 => ⟨(), trivial, ⟨⟨rfl, by simp [okR, okX, okW, okP, okN, okQ, c_1, c_2, c_3, c_4]⟩, hP9.kept (fun k q hk => h2 q.1 (hP9 k q hk).lt), va_K.moved ht hK9, hD9⟩, ⟨Nat.le_trans hS.1 h1, fun q hq hn => (h2 q (Nat.lt_of_lt_of_le hq hS.1)).trans (hS.2.1 q hq hn)⟩⟩) hS.2.2 (Nat.le_of_ble_eq_true rfl) (Nat.le_of_ble_eq_true rfl)
    · have hP9 := hP.sub (ws' := []) [] rfl
      have hD9 := hD.sub (ws' := []) [] (by decide) rfl
      have hK9 := hK.sub (tys' := []) [] rfl
      obtain ⟨sa, hsa⟩ := ev_s95 hE
      refine vx_throwS (A := A) (sa := sa) (text := "no such kind") (names := ups) hx hb hlt hown (by decide +kernel) (by decide +kernel) (hts (.classLink RX1 93 "java/lang/IllegalArgumentException") kX1_checkRule_0) (hts (.initialized "java/lang/IllegalArgumentException") kX1_checkRule_1) hsa (ev_at_iae (fun w hw => hts w (kX1_checkRule_2 w hw)) hE) ev_ot_iae hZ.1 hZ.2 hS (by rw [hml]; exact hl.1) dX1_checkRule_9 dX1_checkRule_12 dX1_checkRule_13 dX1_checkRule_15 dX1_checkRule_18 (fun x hx => (htb x hx).elim) (Nat.le_of_ble_eq_true rfl) (Nat.le_of_ble_eq_true rfl) (Nat.le_of_ble_eq_true rfl) (Nat.le_of_ble_eq_true rfl) hlocks (fun t9 ht h1 h2 => ⟨(), trivial, ⟨⟨rfl, by simp [okR, okX, okW, okP, okN, okQ, c_1, c_2]⟩, hP9.kept (fun k q hk => h2 q.1 (hP9 k q hk).lt), va_K.moved ht hK9, hD9⟩, ⟨Nat.le_trans hS.1 h1, fun q hq hn => (h2 q (Nat.lt_of_lt_of_le hq hS.1)).trans (hS.2.1 q hq hn)⟩⟩) hS.2.2 (Nat.le_of_ble_eq_true rfl) (Nat.le_of_ble_eq_true rfl)

set_option maxRecDepth 20000 in
theorem kX1_checkNumber_0 : (.constantLong RX1 104 (-1000000000000) : Cond) ∈ wsX1_checkNumber := by decide +kernel
set_option maxRecDepth 20000 in
theorem kX1_checkNumber_1 : (.classLink RX1 93 "java/lang/IllegalArgumentException" : Cond) ∈ wsX1_checkNumber := by decide +kernel
set_option maxRecDepth 20000 in
theorem kX1_checkNumber_2 : (.initialized "java/lang/IllegalArgumentException" : Cond) ∈ wsX1_checkNumber := by decide +kernel
set_option maxRecDepth 20000 in
theorem kX1_checkNumber_3 : ∀ w ∈ (vx_atS RX1 97 IAE ups).filter goodWord, w ∈ wsX1_checkNumber := by decide +kernel
set_option maxRecDepth 20000 in
theorem kX1_checkNumber_4 : (.constantLong RX1 106 (1000000000000) : Cond) ∈ wsX1_checkNumber := by decide +kernel
set_option maxHeartbeats 4000000 in
set_option maxRecDepth 100000 in
theorem qX1_checkNumber (l : Launch) (hlt : l.stackTraces = false) (dC : Nat → ClassId) (dI : Nat → Nat → Nat) (sz : Nat) (x : Int64)  : vx_Met l yX1_checkNumber wsX1_checkNumber ({ frames := 6, cells := 1, slots := 6, locals := 90 }) (va_Pc [.long x] (fun U => U.heap.size = sz ∧ va_P (dC, dI) vwCl [] U.heap ∧ va_K (dC, dI) vwCl [] U ∧ va_D (fun _ => True) [] ∧ ev U ∧ ez (va_A [] sz) U U.heap)) (va_Qv (fun (u : Unit) => (okX x)) (fun (u : Unit) (t9 : State) => va_P (dC, dI) vwCl [] t9.heap ∧ va_K (dC, dI) vwCl [] t9 ∧ va_D (va_A [] sz) []) (va_A [] sz)) (vx_X (fun _ : Unit => True) (fun (E : String) (_ : Unit) (t9 : State) => (E = IAE ∧ ¬ okX x) ∧ va_P (dC, dI) vwCl [] t9.heap ∧ va_K (dC, dI) vwCl [] t9 ∧ va_D (va_A [] sz) []) (va_A [] sz)) 1 6 (va_A [] sz) := by
  refine vx_ofW (cc := cX1_checkNumber) (maxL := 2) (ret := none) (by decide) rfl ?_
  intro p e s m args below meth c s₁ B hml htb hv
  obtain ⟨rfl, hsz, hP, hK, hD0, hE, hZ⟩ := hv
  have hx := B.exec
  have hb := B.bytes
  have hr := B.returns
  have hts := atoms_spec (ws := wsX1_checkNumber) B.pre
  have hown : s.vm.findClass RX1 = some m.cls := findClass_of_methodNamed B.named
  have hlocks := B.notSynchronized
  subst hsz
  have hD := hD0.self (sz := s.heap.size)
  generalize hAe : va_A [] s.heap.size = A at hD hZ ⊢
  have hA : ∀ q : Nat, s.heap.size ≤ q → A q := fun q h => by rw [← hAe]; exact Or.inr h
  have hS : va_S A s.heap s.heap [] := va_S.rf
  have hP : va_P (dC, dI) vwCl [] s.heap := hP
  have hl := lv_entry ([.long x]) (n := 2) (Nat.le_of_ble_eq_true rfl)
  rw [lg_entry_eq]
  generalize (lg_sl ([.long x]) ++ List.replicate (2 - (lg_sl ([.long x])).length) Slot.unset).toArray = ls at hl ⊢
  have hl : lv_has ls 2 [(0, .long x)] := hl
  refine lv_lload_n hx hb dX1_checkNumber_0 rfl (lv_at hl 0 rfl) ?_
  refine lv_ldc2 hx hb hown (hts (.constantLong RX1 104 (-1000000000000)) kX1_checkNumber_0) dX1_checkNumber_1 ?_
  refine W.lcmp hx hb dX1_checkNumber_4 ?_
  refine lv_if_lt (tgt := 16) hx hb dX1_checkNumber_5 (by decide) (fun c_1 => ?_) (fun c_1 => ?_)
  · simp only [lq_lt] at c_1
    have hP9 := hP.sub (ws' := []) [] rfl
    have hD9 := hD.sub (ws' := []) [] (by decide) rfl
    have hK9 := hK.sub (tys' := []) [] rfl
    obtain ⟨sa, hsa⟩ := ev_s108 hE
    refine vx_throwS (A := A) (sa := sa) (text := "x is out of range") (names := ups) hx hb hlt hown (by decide +kernel) (by decide +kernel) (hts (.classLink RX1 93 "java/lang/IllegalArgumentException") kX1_checkNumber_1) (hts (.initialized "java/lang/IllegalArgumentException") kX1_checkNumber_2) hsa (ev_at_iae (fun w hw => hts w (kX1_checkNumber_3 w hw)) hE) ev_ot_iae hZ.1 hZ.2 hS (by rw [hml]; exact hl.1) dX1_checkNumber_16 dX1_checkNumber_19 dX1_checkNumber_20 dX1_checkNumber_22 dX1_checkNumber_25 (fun x hx => (htb x hx).elim) (Nat.le_of_ble_eq_true rfl) (Nat.le_of_ble_eq_true rfl) (Nat.le_of_ble_eq_true rfl) (Nat.le_of_ble_eq_true rfl) hlocks (fun t9 ht h1 h2 => ⟨(), trivial, ⟨⟨rfl, by simp [okR, okX, okW, okP, okN, okQ, c_1]⟩, hP9.kept (fun k q hk => h2 q.1 (hP9 k q hk).lt), va_K.moved ht hK9, hD9⟩, ⟨Nat.le_trans hS.1 h1, fun q hq hn => (h2 q (Nat.lt_of_lt_of_le hq hS.1)).trans (hS.2.1 q hq hn)⟩⟩) hS.2.2 (Nat.le_of_ble_eq_true rfl) (Nat.le_of_ble_eq_true rfl)
  · simp only [lq_lt] at c_1
    refine lv_lload_n hx hb dX1_checkNumber_8 rfl (lv_at hl 0 rfl) ?_
    refine lv_ldc2 hx hb hown (hts (.constantLong RX1 106 (1000000000000)) kX1_checkNumber_4) dX1_checkNumber_9 ?_
    refine W.lcmp hx hb dX1_checkNumber_12 ?_
    refine lv_if_le (tgt := 26) hx hb dX1_checkNumber_13 (by decide) (fun c_2 => ?_) (fun c_2 => ?_)
    · simp only [lq_le] at c_2
      have hP9 := hP.sub (ws' := []) [] rfl
      have hD9 := hD.sub (ws' := []) [] (by decide) rfl
      have hK9 := hK.sub (tys' := []) [] rfl
      refine vx_ret ?_
      refine W.widen (k := 1) (n := 6) (Nat.le_of_ble_eq_true rfl) (Nat.le_of_ble_eq_true rfl) ?_
      exact W.vret hx hb hr (fun t9 ht hW => ⟨⟨(), rfl, by simp [okR, okX, okW, okP, okN, okQ, c_1, c_2], by rw [ht]; exact hP9, va_K.moved hW.alike hK9, hD9⟩, hS.F ht⟩) hS.2.2 dX1_checkNumber_26
    · simp only [lq_le] at c_2
      have hP9 := hP.sub (ws' := []) [] rfl
      have hD9 := hD.sub (ws' := []) [] (by decide) rfl
      have hK9 := hK.sub (tys' := []) [] rfl
      obtain ⟨sa, hsa⟩ := ev_s108 hE
      refine vx_throwS (A := A) (sa := sa) (text := "x is out of range") (names := ups) hx hb hlt hown (by decide +kernel) (by decide +kernel) (hts (.classLink RX1 93 "java/lang/IllegalArgumentException") kX1_checkNumber_1) (hts (.initialized "java/lang/IllegalArgumentException") kX1_checkNumber_2) hsa (ev_at_iae (fun w hw => hts w (kX1_checkNumber_3 w hw)) hE) ev_ot_iae hZ.1 hZ.2 hS (by rw [hml]; exact hl.1) dX1_checkNumber_16 dX1_checkNumber_19 dX1_checkNumber_20 dX1_checkNumber_22 dX1_checkNumber_25 (fun x hx => (htb x hx).elim) (Nat.le_of_ble_eq_true rfl) (Nat.le_of_ble_eq_true rfl) (Nat.le_of_ble_eq_true rfl) (Nat.le_of_ble_eq_true rfl) hlocks (fun t9 ht h1 h2 => ⟨(), trivial, ⟨⟨rfl, by simp [okR, okX, okW, okP, okN, okQ, c_1, c_2]⟩, hP9.kept (fun k q hk => h2 q.1 (hP9 k q hk).lt), va_K.moved ht hK9, hD9⟩, ⟨Nat.le_trans hS.1 h1, fun q hq hn => (h2 q (Nat.lt_of_lt_of_le hq hS.1)).trans (hS.2.1 q hq hn)⟩⟩) hS.2.2 (Nat.le_of_ble_eq_true rfl) (Nat.le_of_ble_eq_true rfl)

set_option maxRecDepth 20000 in
theorem kX1_checkTimes_0 : (.classLink RX1 93 "java/lang/IllegalArgumentException" : Cond) ∈ wsX1_checkTimes := by decide +kernel
set_option maxRecDepth 20000 in
theorem kX1_checkTimes_1 : (.initialized "java/lang/IllegalArgumentException" : Cond) ∈ wsX1_checkTimes := by decide +kernel
set_option maxRecDepth 20000 in
theorem kX1_checkTimes_2 : ∀ w ∈ (vx_atS RX1 97 IAE ups).filter goodWord, w ∈ wsX1_checkTimes := by decide +kernel
set_option maxHeartbeats 4000000 in
set_option maxRecDepth 100000 in
theorem qX1_checkTimes (l : Launch) (hlt : l.stackTraces = false) (dC : Nat → ClassId) (dI : Nat → Nat → Nat) (sz : Nat) (n : Int32)  : vx_Met l yX1_checkTimes wsX1_checkTimes ({ frames := 6, cells := 1, slots := 6, locals := 90 }) (va_Pc [.int n] (fun U => U.heap.size = sz ∧ va_P (dC, dI) vwCl [] U.heap ∧ va_K (dC, dI) vwCl [] U ∧ va_D (fun _ => True) [] ∧ ev U ∧ ez (va_A [] sz) U U.heap)) (va_Qv (fun (u : Unit) => (okN n)) (fun (u : Unit) (t9 : State) => va_P (dC, dI) vwCl [] t9.heap ∧ va_K (dC, dI) vwCl [] t9 ∧ va_D (va_A [] sz) []) (va_A [] sz)) (vx_X (fun _ : Unit => True) (fun (E : String) (_ : Unit) (t9 : State) => (E = IAE ∧ ¬ okN n) ∧ va_P (dC, dI) vwCl [] t9.heap ∧ va_K (dC, dI) vwCl [] t9 ∧ va_D (va_A [] sz) []) (va_A [] sz)) 1 6 (va_A [] sz) := by
  refine vx_ofW (cc := cX1_checkTimes) (maxL := 1) (ret := none) (by decide) rfl ?_
  intro p e s m args below meth c s₁ B hml htb hv
  obtain ⟨rfl, hsz, hP, hK, hD0, hE, hZ⟩ := hv
  have hx := B.exec
  have hb := B.bytes
  have hr := B.returns
  have hts := atoms_spec (ws := wsX1_checkTimes) B.pre
  have hown : s.vm.findClass RX1 = some m.cls := findClass_of_methodNamed B.named
  have hlocks := B.notSynchronized
  subst hsz
  have hD := hD0.self (sz := s.heap.size)
  generalize hAe : va_A [] s.heap.size = A at hD hZ ⊢
  have hA : ∀ q : Nat, s.heap.size ≤ q → A q := fun q h => by rw [← hAe]; exact Or.inr h
  have hS : va_S A s.heap s.heap [] := va_S.rf
  have hP : va_P (dC, dI) vwCl [] s.heap := hP
  have hl := lv_entry ([.int n]) (n := 1) (Nat.le_of_ble_eq_true rfl)
  rw [lg_entry_eq]
  generalize (lg_sl ([.int n]) ++ List.replicate (1 - (lg_sl ([.int n])).length) Slot.unset).toArray = ls at hl ⊢
  have hl : lv_has ls 1 [(0, .int n)] := hl
  refine lv_iload_n hx hb dX1_checkTimes_0 rfl (lv_at hl 0 rfl) ?_
  refine lv_if_lt (tgt := 11) hx hb dX1_checkTimes_1 (by decide) (fun c_1 => ?_) (fun c_1 => ?_)
  · have hP9 := hP.sub (ws' := []) [] rfl
    have hD9 := hD.sub (ws' := []) [] (by decide) rfl
    have hK9 := hK.sub (tys' := []) [] rfl
    obtain ⟨sa, hsa⟩ := ev_s110 hE
    refine vx_throwS (A := A) (sa := sa) (text := "n is out of range") (names := ups) hx hb hlt hown (by decide +kernel) (by decide +kernel) (hts (.classLink RX1 93 "java/lang/IllegalArgumentException") kX1_checkTimes_0) (hts (.initialized "java/lang/IllegalArgumentException") kX1_checkTimes_1) hsa (ev_at_iae (fun w hw => hts w (kX1_checkTimes_2 w hw)) hE) ev_ot_iae hZ.1 hZ.2 hS (by rw [hml]; exact hl.1) dX1_checkTimes_11 dX1_checkTimes_14 dX1_checkTimes_15 dX1_checkTimes_17 dX1_checkTimes_20 (fun x hx => (htb x hx).elim) (Nat.le_of_ble_eq_true rfl) (Nat.le_of_ble_eq_true rfl) (Nat.le_of_ble_eq_true rfl) (Nat.le_of_ble_eq_true rfl) hlocks (fun t9 ht h1 h2 => ⟨(), trivial, ⟨⟨rfl, by simp [okR, okX, okW, okP, okN, okQ, c_1]⟩, hP9.kept (fun k q hk => h2 q.1 (hP9 k q hk).lt), va_K.moved ht hK9, hD9⟩, ⟨Nat.le_trans hS.1 h1, fun q hq hn => (h2 q (Nat.lt_of_lt_of_le hq hS.1)).trans (hS.2.1 q hq hn)⟩⟩) hS.2.2 (Nat.le_of_ble_eq_true rfl) (Nat.le_of_ble_eq_true rfl)
  · refine lv_iload_n hx hb dX1_checkTimes_4 rfl (lv_at hl 0 rfl) ?_
    refine lv_sipush (v := 1000) hx hb dX1_checkTimes_5 (by decide) ?_
    refine lv_icmp_le (tgt := 21) hx hb dX1_checkTimes_8 (by decide) (fun c_2 => ?_) (fun c_2 => ?_)
    · have hP9 := hP.sub (ws' := []) [] rfl
      have hD9 := hD.sub (ws' := []) [] (by decide) rfl
      have hK9 := hK.sub (tys' := []) [] rfl
      refine vx_ret ?_
      refine W.widen (k := 1) (n := 6) (Nat.le_of_ble_eq_true rfl) (Nat.le_of_ble_eq_true rfl) ?_
      exact W.vret hx hb hr (fun t9 ht hW => ⟨⟨(), rfl, by simp [okR, okX, okW, okP, okN, okQ, c_1, c_2], by rw [ht]; exact hP9, va_K.moved hW.alike hK9, hD9⟩, hS.F ht⟩) hS.2.2 dX1_checkTimes_21
    · have hP9 := hP.sub (ws' := []) [] rfl
      have hD9 := hD.sub (ws' := []) [] (by decide) rfl
      have hK9 := hK.sub (tys' := []) [] rfl
      obtain ⟨sa, hsa⟩ := ev_s110 hE
      refine vx_throwS (A := A) (sa := sa) (text := "n is out of range") (names := ups) hx hb hlt hown (by decide +kernel) (by decide +kernel) (hts (.classLink RX1 93 "java/lang/IllegalArgumentException") kX1_checkTimes_0) (hts (.initialized "java/lang/IllegalArgumentException") kX1_checkTimes_1) hsa (ev_at_iae (fun w hw => hts w (kX1_checkTimes_2 w hw)) hE) ev_ot_iae hZ.1 hZ.2 hS (by rw [hml]; exact hl.1) dX1_checkTimes_11 dX1_checkTimes_14 dX1_checkTimes_15 dX1_checkTimes_17 dX1_checkTimes_20 (fun x hx => (htb x hx).elim) (Nat.le_of_ble_eq_true rfl) (Nat.le_of_ble_eq_true rfl) (Nat.le_of_ble_eq_true rfl) (Nat.le_of_ble_eq_true rfl) hlocks (fun t9 ht h1 h2 => ⟨(), trivial, ⟨⟨rfl, by simp [okR, okX, okW, okP, okN, okQ, c_1, c_2]⟩, hP9.kept (fun k q hk => h2 q.1 (hP9 k q hk).lt), va_K.moved ht hK9, hD9⟩, ⟨Nat.le_trans hS.1 h1, fun q hq hn => (h2 q (Nat.lt_of_lt_of_le hq hS.1)).trans (hS.2.1 q hq hn)⟩⟩) hS.2.2 (Nat.le_of_ble_eq_true rfl) (Nat.le_of_ble_eq_true rfl)

set_option maxRecDepth 20000 in
theorem kX1_checkQuestion_0 : (.classLink RX1 93 "java/lang/IllegalArgumentException" : Cond) ∈ wsX1_checkQuestion := by decide +kernel
set_option maxRecDepth 20000 in
theorem kX1_checkQuestion_1 : (.initialized "java/lang/IllegalArgumentException" : Cond) ∈ wsX1_checkQuestion := by decide +kernel
set_option maxRecDepth 20000 in
theorem kX1_checkQuestion_2 : ∀ w ∈ (vx_atS RX1 97 IAE ups).filter goodWord, w ∈ wsX1_checkQuestion := by decide +kernel
set_option maxHeartbeats 4000000 in
set_option maxRecDepth 100000 in
theorem qX1_checkQuestion (l : Launch) (hlt : l.stackTraces = false) (dC : Nat → ClassId) (dI : Nat → Nat → Nat) (sz : Nat) (w : Int32)  : vx_Met l yX1_checkQuestion wsX1_checkQuestion ({ frames := 6, cells := 1, slots := 6, locals := 90 }) (va_Pc [.int w] (fun U => U.heap.size = sz ∧ va_P (dC, dI) vwCl [] U.heap ∧ va_K (dC, dI) vwCl [] U ∧ va_D (fun _ => True) [] ∧ ev U ∧ ez (va_A [] sz) U U.heap)) (va_Qv (fun (u : Unit) => (okQ w)) (fun (u : Unit) (t9 : State) => va_P (dC, dI) vwCl [] t9.heap ∧ va_K (dC, dI) vwCl [] t9 ∧ va_D (va_A [] sz) []) (va_A [] sz)) (vx_X (fun _ : Unit => True) (fun (E : String) (_ : Unit) (t9 : State) => (E = IAE ∧ ¬ okQ w) ∧ va_P (dC, dI) vwCl [] t9.heap ∧ va_K (dC, dI) vwCl [] t9 ∧ va_D (va_A [] sz) []) (va_A [] sz)) 1 6 (va_A [] sz) := by
  refine vx_ofW (cc := cX1_checkQuestion) (maxL := 1) (ret := none) (by decide) rfl ?_
  intro p e s m args below meth c s₁ B hml htb hv
  obtain ⟨rfl, hsz, hP, hK, hD0, hE, hZ⟩ := hv
  have hx := B.exec
  have hb := B.bytes
  have hr := B.returns
  have hts := atoms_spec (ws := wsX1_checkQuestion) B.pre
  have hown : s.vm.findClass RX1 = some m.cls := findClass_of_methodNamed B.named
  have hlocks := B.notSynchronized
  subst hsz
  have hD := hD0.self (sz := s.heap.size)
  generalize hAe : va_A [] s.heap.size = A at hD hZ ⊢
  have hA : ∀ q : Nat, s.heap.size ≤ q → A q := fun q h => by rw [← hAe]; exact Or.inr h
  have hS : va_S A s.heap s.heap [] := va_S.rf
  have hP : va_P (dC, dI) vwCl [] s.heap := hP
  have hl := lv_entry ([.int w]) (n := 1) (Nat.le_of_ble_eq_true rfl)
  rw [lg_entry_eq]
  generalize (lg_sl ([.int w]) ++ List.replicate (1 - (lg_sl ([.int w])).length) Slot.unset).toArray = ls at hl ⊢
  have hl : lv_has ls 1 [(0, .int w)] := hl
  refine lv_iload_n hx hb dX1_checkQuestion_0 rfl (lv_at hl 0 rfl) ?_
  refine lv_if_lt (tgt := 9) hx hb dX1_checkQuestion_1 (by decide) (fun c_1 => ?_) (fun c_1 => ?_)
  · have hP9 := hP.sub (ws' := []) [] rfl
    have hD9 := hD.sub (ws' := []) [] (by decide) rfl
    have hK9 := hK.sub (tys' := []) [] rfl
    obtain ⟨sa, hsa⟩ := ev_s112 hE
    refine vx_throwS (A := A) (sa := sa) (text := "no such question") (names := ups) hx hb hlt hown (by decide +kernel) (by decide +kernel) (hts (.classLink RX1 93 "java/lang/IllegalArgumentException") kX1_checkQuestion_0) (hts (.initialized "java/lang/IllegalArgumentException") kX1_checkQuestion_1) hsa (ev_at_iae (fun w hw => hts w (kX1_checkQuestion_2 w hw)) hE) ev_ot_iae hZ.1 hZ.2 hS (by rw [hml]; exact hl.1) dX1_checkQuestion_9 dX1_checkQuestion_12 dX1_checkQuestion_13 dX1_checkQuestion_15 dX1_checkQuestion_18 (fun x hx => (htb x hx).elim) (Nat.le_of_ble_eq_true rfl) (Nat.le_of_ble_eq_true rfl) (Nat.le_of_ble_eq_true rfl) (Nat.le_of_ble_eq_true rfl) hlocks (fun t9 ht h1 h2 => ⟨(), trivial, ⟨⟨rfl, by simp [okR, okX, okW, okP, okN, okQ, c_1]⟩, hP9.kept (fun k q hk => h2 q.1 (hP9 k q hk).lt), va_K.moved ht hK9, hD9⟩, ⟨Nat.le_trans hS.1 h1, fun q hq hn => (h2 q (Nat.lt_of_lt_of_le hq hS.1)).trans (hS.2.1 q hq hn)⟩⟩) hS.2.2 (Nat.le_of_ble_eq_true rfl) (Nat.le_of_ble_eq_true rfl)
  · refine lv_iload_n hx hb dX1_checkQuestion_4 rfl (lv_at hl 0 rfl) ?_
    refine lv_iconst (v := 2) hx hb dX1_checkQuestion_5 (by decide) ?_
    refine lv_icmp_le (tgt := 19) hx hb dX1_checkQuestion_6 (by decide) (fun c_2 => ?_) (fun c_2 => ?_)
    · have hP9 := hP.sub (ws' := []) [] rfl
      have hD9 := hD.sub (ws' := []) [] (by decide) rfl
      have hK9 := hK.sub (tys' := []) [] rfl
      refine vx_ret ?_
      refine W.widen (k := 1) (n := 6) (Nat.le_of_ble_eq_true rfl) (Nat.le_of_ble_eq_true rfl) ?_
      exact W.vret hx hb hr (fun t9 ht hW => ⟨⟨(), rfl, by simp [okR, okX, okW, okP, okN, okQ, c_1, c_2], by rw [ht]; exact hP9, va_K.moved hW.alike hK9, hD9⟩, hS.F ht⟩) hS.2.2 dX1_checkQuestion_19
    · have hP9 := hP.sub (ws' := []) [] rfl
      have hD9 := hD.sub (ws' := []) [] (by decide) rfl
      have hK9 := hK.sub (tys' := []) [] rfl
      obtain ⟨sa, hsa⟩ := ev_s112 hE
      refine vx_throwS (A := A) (sa := sa) (text := "no such question") (names := ups) hx hb hlt hown (by decide +kernel) (by decide +kernel) (hts (.classLink RX1 93 "java/lang/IllegalArgumentException") kX1_checkQuestion_0) (hts (.initialized "java/lang/IllegalArgumentException") kX1_checkQuestion_1) hsa (ev_at_iae (fun w hw => hts w (kX1_checkQuestion_2 w hw)) hE) ev_ot_iae hZ.1 hZ.2 hS (by rw [hml]; exact hl.1) dX1_checkQuestion_9 dX1_checkQuestion_12 dX1_checkQuestion_13 dX1_checkQuestion_15 dX1_checkQuestion_18 (fun x hx => (htb x hx).elim) (Nat.le_of_ble_eq_true rfl) (Nat.le_of_ble_eq_true rfl) (Nat.le_of_ble_eq_true rfl) (Nat.le_of_ble_eq_true rfl) hlocks (fun t9 ht h1 h2 => ⟨(), trivial, ⟨⟨rfl, by simp [okR, okX, okW, okP, okN, okQ, c_1, c_2]⟩, hP9.kept (fun k q hk => h2 q.1 (hP9 k q hk).lt), va_K.moved ht hK9, hD9⟩, ⟨Nat.le_trans hS.1 h1, fun q hq hn => (h2 q (Nat.lt_of_lt_of_le hq hS.1)).trans (hS.2.1 q hq hn)⟩⟩) hS.2.2 (Nat.le_of_ble_eq_true rfl) (Nat.le_of_ble_eq_true rfl)

set_option maxRecDepth 20000 in
theorem kX1_checkPlace_0 : (.classLink RX1 114 "java/lang/IndexOutOfBoundsException" : Cond) ∈ wsX1_checkPlace := by decide +kernel
set_option maxRecDepth 20000 in
theorem kX1_checkPlace_1 : (.initialized "java/lang/IndexOutOfBoundsException" : Cond) ∈ wsX1_checkPlace := by decide +kernel
set_option maxRecDepth 20000 in
theorem kX1_checkPlace_2 : ∀ w ∈ (vx_atS RX1 118 IOB ups).filter goodWord, w ∈ wsX1_checkPlace := by decide +kernel
set_option maxHeartbeats 4000000 in
set_option maxRecDepth 100000 in
theorem qX1_checkPlace (l : Launch) (hlt : l.stackTraces = false) (dC : Nat → ClassId) (dI : Nat → Nat → Nat) (sz : Nat) (k : Int32)  : vx_Met l yX1_checkPlace wsX1_checkPlace ({ frames := 6, cells := 1, slots := 6, locals := 90 }) (va_Pc [.int k] (fun U => U.heap.size = sz ∧ va_P (dC, dI) vwCl [] U.heap ∧ va_K (dC, dI) vwCl [] U ∧ va_D (fun _ => True) [] ∧ ev U ∧ ez (va_A [] sz) U U.heap)) (va_Qv (fun (u : Unit) => (okP k)) (fun (u : Unit) (t9 : State) => va_P (dC, dI) vwCl [] t9.heap ∧ va_K (dC, dI) vwCl [] t9 ∧ va_D (va_A [] sz) []) (va_A [] sz)) (vx_X (fun _ : Unit => True) (fun (E : String) (_ : Unit) (t9 : State) => (E = IOB ∧ ¬ okP k) ∧ va_P (dC, dI) vwCl [] t9.heap ∧ va_K (dC, dI) vwCl [] t9 ∧ va_D (va_A [] sz) []) (va_A [] sz)) 1 6 (va_A [] sz) := by
  refine vx_ofW (cc := cX1_checkPlace) (maxL := 1) (ret := none) (by decide) rfl ?_
  intro p e s m args below meth c s₁ B hml htb hv
  obtain ⟨rfl, hsz, hP, hK, hD0, hE, hZ⟩ := hv
  have hx := B.exec
  have hb := B.bytes
  have hr := B.returns
  have hts := atoms_spec (ws := wsX1_checkPlace) B.pre
  have hown : s.vm.findClass RX1 = some m.cls := findClass_of_methodNamed B.named
  have hlocks := B.notSynchronized
  subst hsz
  have hD := hD0.self (sz := s.heap.size)
  generalize hAe : va_A [] s.heap.size = A at hD hZ ⊢
  have hA : ∀ q : Nat, s.heap.size ≤ q → A q := fun q h => by rw [← hAe]; exact Or.inr h
  have hS : va_S A s.heap s.heap [] := va_S.rf
  have hP : va_P (dC, dI) vwCl [] s.heap := hP
  have hl := lv_entry ([.int k]) (n := 1) (Nat.le_of_ble_eq_true rfl)
  rw [lg_entry_eq]
  generalize (lg_sl ([.int k]) ++ List.replicate (1 - (lg_sl ([.int k])).length) Slot.unset).toArray = ls at hl ⊢
  have hl : lv_has ls 1 [(0, .int k)] := hl
  refine lv_iload_n hx hb dX1_checkPlace_0 rfl (lv_at hl 0 rfl) ?_
  refine lv_if_lt (tgt := 11) hx hb dX1_checkPlace_1 (by decide) (fun c_1 => ?_) (fun c_1 => ?_)
  · have hP9 := hP.sub (ws' := []) [] rfl
    have hD9 := hD.sub (ws' := []) [] (by decide) rfl
    have hK9 := hK.sub (tys' := []) [] rfl
    obtain ⟨sa, hsa⟩ := ev_s116 hE
    refine vx_throwS (A := A) (sa := sa) (text := "no such rule") (names := ups) hx hb hlt hown (by decide +kernel) (by decide +kernel) (hts (.classLink RX1 114 "java/lang/IndexOutOfBoundsException") kX1_checkPlace_0) (hts (.initialized "java/lang/IndexOutOfBoundsException") kX1_checkPlace_1) hsa (ev_at_iob (fun w hw => hts w (kX1_checkPlace_2 w hw)) hE) ev_ot_iob hZ.1 hZ.2 hS (by rw [hml]; exact hl.1) dX1_checkPlace_11 dX1_checkPlace_14 dX1_checkPlace_15 dX1_checkPlace_17 dX1_checkPlace_20 (fun x hx => (htb x hx).elim) (Nat.le_of_ble_eq_true rfl) (Nat.le_of_ble_eq_true rfl) (Nat.le_of_ble_eq_true rfl) (Nat.le_of_ble_eq_true rfl) hlocks (fun t9 ht h1 h2 => ⟨(), trivial, ⟨⟨rfl, by simp [okR, okX, okW, okP, okN, okQ, c_1]⟩, hP9.kept (fun k q hk => h2 q.1 (hP9 k q hk).lt), va_K.moved ht hK9, hD9⟩, ⟨Nat.le_trans hS.1 h1, fun q hq hn => (h2 q (Nat.lt_of_lt_of_le hq hS.1)).trans (hS.2.1 q hq hn)⟩⟩) hS.2.2 (Nat.le_of_ble_eq_true rfl) (Nat.le_of_ble_eq_true rfl)
  · refine lv_iload_n hx hb dX1_checkPlace_4 rfl (lv_at hl 0 rfl) ?_
    refine lv_sipush (v := 256) hx hb dX1_checkPlace_5 (by decide) ?_
    refine lv_icmp_lt (tgt := 21) hx hb dX1_checkPlace_8 (by decide) (fun c_2 => ?_) (fun c_2 => ?_)
    · have hP9 := hP.sub (ws' := []) [] rfl
      have hD9 := hD.sub (ws' := []) [] (by decide) rfl
      have hK9 := hK.sub (tys' := []) [] rfl
      refine vx_ret ?_
      refine W.widen (k := 1) (n := 6) (Nat.le_of_ble_eq_true rfl) (Nat.le_of_ble_eq_true rfl) ?_
      exact W.vret hx hb hr (fun t9 ht hW => ⟨⟨(), rfl, by simp [okR, okX, okW, okP, okN, okQ, c_1, c_2], by rw [ht]; exact hP9, va_K.moved hW.alike hK9, hD9⟩, hS.F ht⟩) hS.2.2 dX1_checkPlace_21
    · have hP9 := hP.sub (ws' := []) [] rfl
      have hD9 := hD.sub (ws' := []) [] (by decide) rfl
      have hK9 := hK.sub (tys' := []) [] rfl
      obtain ⟨sa, hsa⟩ := ev_s116 hE
      refine vx_throwS (A := A) (sa := sa) (text := "no such rule") (names := ups) hx hb hlt hown (by decide +kernel) (by decide +kernel) (hts (.classLink RX1 114 "java/lang/IndexOutOfBoundsException") kX1_checkPlace_0) (hts (.initialized "java/lang/IndexOutOfBoundsException") kX1_checkPlace_1) hsa (ev_at_iob (fun w hw => hts w (kX1_checkPlace_2 w hw)) hE) ev_ot_iob hZ.1 hZ.2 hS (by rw [hml]; exact hl.1) dX1_checkPlace_11 dX1_checkPlace_14 dX1_checkPlace_15 dX1_checkPlace_17 dX1_checkPlace_20 (fun x hx => (htb x hx).elim) (Nat.le_of_ble_eq_true rfl) (Nat.le_of_ble_eq_true rfl) (Nat.le_of_ble_eq_true rfl) (Nat.le_of_ble_eq_true rfl) hlocks (fun t9 ht h1 h2 => ⟨(), trivial, ⟨⟨rfl, by simp [okR, okX, okW, okP, okN, okQ, c_1, c_2]⟩, hP9.kept (fun k q hk => h2 q.1 (hP9 k q hk).lt), va_K.moved ht hK9, hD9⟩, ⟨Nat.le_trans hS.1 h1, fun q hq hn => (h2 q (Nat.lt_of_lt_of_le hq hS.1)).trans (hS.2.1 q hq hn)⟩⟩) hS.2.2 (Nat.le_of_ble_eq_true rfl) (Nat.le_of_ble_eq_true rfl)

set_option maxRecDepth 20000 in
theorem kX1_checkPart_0 : (.classLink RX1 114 "java/lang/IndexOutOfBoundsException" : Cond) ∈ wsX1_checkPart := by decide +kernel
set_option maxRecDepth 20000 in
theorem kX1_checkPart_1 : (.initialized "java/lang/IndexOutOfBoundsException" : Cond) ∈ wsX1_checkPart := by decide +kernel
set_option maxRecDepth 20000 in
theorem kX1_checkPart_2 : ∀ w ∈ (vx_atS RX1 118 IOB ups).filter goodWord, w ∈ wsX1_checkPart := by decide +kernel
set_option maxHeartbeats 4000000 in
set_option maxRecDepth 100000 in
theorem qX1_checkPart (l : Launch) (hlt : l.stackTraces = false) (dC : Nat → ClassId) (dI : Nat → Nat → Nat) (sz : Nat) (f t : Int32)  : vx_Met l yX1_checkPart wsX1_checkPart ({ frames := 6, cells := 1, slots := 6, locals := 90 }) (va_Pc [.int f, .int t] (fun U => U.heap.size = sz ∧ va_P (dC, dI) vwCl [] U.heap ∧ va_K (dC, dI) vwCl [] U ∧ va_D (fun _ => True) [] ∧ ev U ∧ ez (va_A [] sz) U U.heap)) (va_Qv (fun (u : Unit) => (okW f t)) (fun (u : Unit) (t9 : State) => va_P (dC, dI) vwCl [] t9.heap ∧ va_K (dC, dI) vwCl [] t9 ∧ va_D (va_A [] sz) []) (va_A [] sz)) (vx_X (fun _ : Unit => True) (fun (E : String) (_ : Unit) (t9 : State) => (E = IOB ∧ ¬ okW f t) ∧ va_P (dC, dI) vwCl [] t9.heap ∧ va_K (dC, dI) vwCl [] t9 ∧ va_D (va_A [] sz) []) (va_A [] sz)) 1 6 (va_A [] sz) := by
  refine vx_ofW (cc := cX1_checkPart) (maxL := 2) (ret := none) (by decide) rfl ?_
  intro p e s m args below meth c s₁ B hml htb hv
  obtain ⟨rfl, hsz, hP, hK, hD0, hE, hZ⟩ := hv
  have hx := B.exec
  have hb := B.bytes
  have hr := B.returns
  have hts := atoms_spec (ws := wsX1_checkPart) B.pre
  have hown : s.vm.findClass RX1 = some m.cls := findClass_of_methodNamed B.named
  have hlocks := B.notSynchronized
  subst hsz
  have hD := hD0.self (sz := s.heap.size)
  generalize hAe : va_A [] s.heap.size = A at hD hZ ⊢
  have hA : ∀ q : Nat, s.heap.size ≤ q → A q := fun q h => by rw [← hAe]; exact Or.inr h
  have hS : va_S A s.heap s.heap [] := va_S.rf
  have hP : va_P (dC, dI) vwCl [] s.heap := hP
  have hl := lv_entry ([.int f, .int t]) (n := 2) (Nat.le_of_ble_eq_true rfl)
  rw [lg_entry_eq]
  generalize (lg_sl ([.int f, .int t]) ++ List.replicate (2 - (lg_sl ([.int f, .int t])).length) Slot.unset).toArray = ls at hl ⊢
  have hl : lv_has ls 2 [(0, .int f), (1, .int t)] := hl
  refine lv_iload_n hx hb dX1_checkPart_0 rfl (lv_at hl 0 rfl) ?_
  refine lv_if_lt (tgt := 16) hx hb dX1_checkPart_1 (by decide) (fun c_1 => ?_) (fun c_1 => ?_)
  · have hP9 := hP.sub (ws' := []) [] rfl
    have hD9 := hD.sub (ws' := []) [] (by decide) rfl
    have hK9 := hK.sub (tys' := []) [] rfl
    obtain ⟨sa, hsa⟩ := ev_s119 hE
    refine vx_throwS (A := A) (sa := sa) (text := "no such part") (names := ups) hx hb hlt hown (by decide +kernel) (by decide +kernel) (hts (.classLink RX1 114 "java/lang/IndexOutOfBoundsException") kX1_checkPart_0) (hts (.initialized "java/lang/IndexOutOfBoundsException") kX1_checkPart_1) hsa (ev_at_iob (fun w hw => hts w (kX1_checkPart_2 w hw)) hE) ev_ot_iob hZ.1 hZ.2 hS (by rw [hml]; exact hl.1) dX1_checkPart_16 dX1_checkPart_19 dX1_checkPart_20 dX1_checkPart_22 dX1_checkPart_25 (fun x hx => (htb x hx).elim) (Nat.le_of_ble_eq_true rfl) (Nat.le_of_ble_eq_true rfl) (Nat.le_of_ble_eq_true rfl) (Nat.le_of_ble_eq_true rfl) hlocks (fun t9 ht h1 h2 => ⟨(), trivial, ⟨⟨rfl, by simp [okR, okX, okW, okP, okN, okQ, c_1]⟩, hP9.kept (fun k q hk => h2 q.1 (hP9 k q hk).lt), va_K.moved ht hK9, hD9⟩, ⟨Nat.le_trans hS.1 h1, fun q hq hn => (h2 q (Nat.lt_of_lt_of_le hq hS.1)).trans (hS.2.1 q hq hn)⟩⟩) hS.2.2 (Nat.le_of_ble_eq_true rfl) (Nat.le_of_ble_eq_true rfl)
  · refine lv_iload_n hx hb dX1_checkPart_4 rfl (lv_at hl 1 rfl) ?_
    refine lv_iload_n hx hb dX1_checkPart_5 rfl (lv_at hl 0 rfl) ?_
    refine lv_icmp_lt (tgt := 16) hx hb dX1_checkPart_6 (by decide) (fun c_2 => ?_) (fun c_2 => ?_)
    · have hP9 := hP.sub (ws' := []) [] rfl
      have hD9 := hD.sub (ws' := []) [] (by decide) rfl
      have hK9 := hK.sub (tys' := []) [] rfl
      obtain ⟨sa, hsa⟩ := ev_s119 hE
      refine vx_throwS (A := A) (sa := sa) (text := "no such part") (names := ups) hx hb hlt hown (by decide +kernel) (by decide +kernel) (hts (.classLink RX1 114 "java/lang/IndexOutOfBoundsException") kX1_checkPart_0) (hts (.initialized "java/lang/IndexOutOfBoundsException") kX1_checkPart_1) hsa (ev_at_iob (fun w hw => hts w (kX1_checkPart_2 w hw)) hE) ev_ot_iob hZ.1 hZ.2 hS (by rw [hml]; exact hl.1) dX1_checkPart_16 dX1_checkPart_19 dX1_checkPart_20 dX1_checkPart_22 dX1_checkPart_25 (fun x hx => (htb x hx).elim) (Nat.le_of_ble_eq_true rfl) (Nat.le_of_ble_eq_true rfl) (Nat.le_of_ble_eq_true rfl) (Nat.le_of_ble_eq_true rfl) hlocks (fun t9 ht h1 h2 => ⟨(), trivial, ⟨⟨rfl, by simp [okR, okX, okW, okP, okN, okQ, c_1, c_2]⟩, hP9.kept (fun k q hk => h2 q.1 (hP9 k q hk).lt), va_K.moved ht hK9, hD9⟩, ⟨Nat.le_trans hS.1 h1, fun q hq hn => (h2 q (Nat.lt_of_lt_of_le hq hS.1)).trans (hS.2.1 q hq hn)⟩⟩) hS.2.2 (Nat.le_of_ble_eq_true rfl) (Nat.le_of_ble_eq_true rfl)
    · refine lv_iload_n hx hb dX1_checkPart_9 rfl (lv_at hl 1 rfl) ?_
      refine lv_sipush (v := 256) hx hb dX1_checkPart_10 (by decide) ?_
      refine lv_icmp_le (tgt := 26) hx hb dX1_checkPart_13 (by decide) (fun c_3 => ?_) (fun c_3 => ?_)
      · have hP9 := hP.sub (ws' := []) [] rfl
        have hD9 := hD.sub (ws' := []) [] (by decide) rfl
        have hK9 := hK.sub (tys' := []) [] rfl
        refine vx_ret ?_
        refine W.widen (k := 1) (n := 6) (Nat.le_of_ble_eq_true rfl) (Nat.le_of_ble_eq_true rfl) ?_
        exact W.vret hx hb hr (fun t9 ht hW => ⟨⟨(), rfl, by simp [okR, okX, okW, okP, okN, okQ, c_1, c_2, c_3], by rw [ht]; exact hP9, va_K.moved hW.alike hK9, hD9⟩, hS.F ht⟩) hS.2.2 dX1_checkPart_26
      · have hP9 := hP.sub (ws' := []) [] rfl
        have hD9 := hD.sub (ws' := []) [] (by decide) rfl
        have hK9 := hK.sub (tys' := []) [] rfl
        obtain ⟨sa, hsa⟩ := ev_s119 hE
        refine vx_throwS (A := A) (sa := sa) (text := "no such part") (names := ups) hx hb hlt hown (by decide +kernel) (by decide +kernel) (hts (.classLink RX1 114 "java/lang/IndexOutOfBoundsException") kX1_checkPart_0) (hts (.initialized "java/lang/IndexOutOfBoundsException") kX1_checkPart_1) hsa (ev_at_iob (fun w hw => hts w (kX1_checkPart_2 w hw)) hE) ev_ot_iob hZ.1 hZ.2 hS (by rw [hml]; exact hl.1) dX1_checkPart_16 dX1_checkPart_19 dX1_checkPart_20 dX1_checkPart_22 dX1_checkPart_25 (fun x hx => (htb x hx).elim) (Nat.le_of_ble_eq_true rfl) (Nat.le_of_ble_eq_true rfl) (Nat.le_of_ble_eq_true rfl) (Nat.le_of_ble_eq_true rfl) hlocks (fun t9 ht h1 h2 => ⟨(), trivial, ⟨⟨rfl, by simp [okR, okX, okW, okP, okN, okQ, c_1, c_2, c_3]⟩, hP9.kept (fun k q hk => h2 q.1 (hP9 k q hk).lt), va_K.moved ht hK9, hD9⟩, ⟨Nat.le_trans hS.1 h1, fun q hq hn => (h2 q (Nat.lt_of_lt_of_le hq hS.1)).trans (hS.2.1 q hq hn)⟩⟩) hS.2.2 (Nat.le_of_ble_eq_true rfl) (Nat.le_of_ble_eq_true rfl)
end
section
set_option maxRecDepth 20000 in
theorem kX1_effectOf_0 : ∀ w ∈ wsX00, w ∈ wsX1_effectOf := by decide +kernel
set_option maxRecDepth 20000 in
theorem kX1_effectOf_1 : (.classLink RX1 38 RX0 : Cond) ∈ wsX1_effectOf := by decide +kernel
set_option maxRecDepth 20000 in
theorem kX1_effectOf_2 : (.instantiable RX0 5 : Cond) ∈ wsX1_effectOf := by decide +kernel
set_option maxRecDepth 20000 in
theorem kX1_effectOf_3 : (.initialized RX0 : Cond) ∈ wsX1_effectOf := by decide +kernel
set_option maxRecDepth 20000 in
theorem kX1_effectOf_4 : (.instanceMethod yX0_init : Cond) ∈ wsX1_effectOf := by decide +kernel
set_option maxRecDepth 20000 in
theorem kX1_effectOf_5 : ∀ w ∈ wsX10, w ∈ wsX1_effectOf := by decide +kernel
set_option maxRecDepth 20000 in
theorem kX1_effectOf_6 : (.fieldLink RX1 9 "FoldRow" "kinds" "[I" : Cond) ∈ wsX1_effectOf := by decide +kernel
set_option maxRecDepth 20000 in
theorem kX1_effectOf_7 : (.fieldLink RX1 13 "FoldRow" "values" "[J" : Cond) ∈ wsX1_effectOf := by decide +kernel
set_option maxHeartbeats 4000000 in
set_option maxRecDepth 100000 in
theorem qX1_effectOf (l : Launch) (hlt : l.stackTraces = false) (dC : Nat → ClassId) (dI : Nat → Nat → Nat) (sz : Nat) (h0 a b : Nat) (cI cJ : ClassId) (kf : Nat → Int32) (vf : Nat → Int64) (f t : Int32) (hok : okW f t) : Met l yX1_effectOf wsX1_effectOf ({ frames := 3, cells := 1, slots := 5, locals := 90 }) (va_Pc [.ref h0, .int f, .int t] (fun U => U.heap.size = sz ∧ va_P (dC, dI) vwCl [(h0, .inr (1, [.ref a, .ref b])), (a, .inl (cI, 256, .inl kf)), (b, .inl (cJ, 256, .inr (.inl vf)))] U.heap ∧ va_K (dC, dI) vwCl [(cI, .int), (cJ, .long)] U ∧ va_D (fun _ => True) [(h0, .inr (1, [.ref a, .ref b])), (a, .inl (cI, 256, .inl kf)), (b, .inl (cJ, 256, .inr (.inl vf)))] ∧ ev U ∧ ez (va_A [(h0, .inr (1, [.ref a, .ref b])), (a, .inl (cI, 256, .inl kf)), (b, .inl (cJ, 256, .inr (.inl vf)))] sz) U U.heap)) (va_Qr (fun (u : Ef) => u = eW kf vf f t) (fun (u : Ef) (ra : Nat) (t9 : State) => va_P (dC, dI) vwCl [(h0, .inr (1, [.ref a, .ref b])), (a, .inl (cI, 256, .inl kf)), (b, .inl (cJ, 256, .inr (.inl vf))), (ra, .inr (0, [.long u.1, .int u.2.1, .long u.2.2.1, .int u.2.2.2.1, .long u.2.2.2.2]))] t9.heap ∧ va_K (dC, dI) vwCl [(cI, .int), (cJ, .long)] t9 ∧ va_D (va_A [(h0, .inr (1, [.ref a, .ref b])), (a, .inl (cI, 256, .inl kf)), (b, .inl (cJ, 256, .inr (.inl vf)))] sz) [(h0, .inr (1, [.ref a, .ref b])), (a, .inl (cI, 256, .inl kf)), (b, .inl (cJ, 256, .inr (.inl vf))), (ra, .inr (0, [.long u.1, .int u.2.1, .long u.2.2.1, .int u.2.2.2.1, .long u.2.2.2.2]))]) (va_A [(h0, .inr (1, [.ref a, .ref b])), (a, .inl (cI, 256, .inl kf)), (b, .inl (cJ, 256, .inr (.inl vf)))] sz)) 1 5 (va_A [(h0, .inr (1, [.ref a, .ref b])), (a, .inl (cI, 256, .inl kf)), (b, .inl (cJ, 256, .inr (.inl vf)))] sz) := by
  refine Met.ofW (cc := cX1_effectOf) (maxL := 5) (ret := (some (.object "FoldRow$Effect"))) (by decide) rfl ?_
  intro p e s m args below meth c s₁ B hml hv
  obtain ⟨rfl, hsz, hP, hK, hD0, hE, hZ⟩ := hv
  have hx := B.exec
  have hb := B.bytes
  have hr := B.returns
  have hts := atoms_spec (ws := wsX1_effectOf) B.pre
  have hown : s.vm.findClass RX1 = some m.cls := findClass_of_methodNamed B.named
  have hlocks := B.notSynchronized
  subst hsz
  have hD := hD0.self (sz := s.heap.size)
  generalize hAe : va_A [(h0, .inr (1, [.ref a, .ref b])), (a, .inl (cI, 256, .inl kf)), (b, .inl (cJ, 256, .inr (.inl vf)))] s.heap.size = A at hD hZ ⊢
  have hA : ∀ q : Nat, s.heap.size ≤ q → A q := fun q h => by rw [← hAe]; exact Or.inr h
  have hS : va_S A s.heap s.heap [] := va_S.rf
  have hP : va_P (dC, dI) vwCl [(h0, .inr (1, [.ref a, .ref b])), (a, .inl (cI, 256, .inl kf)), (b, .inl (cJ, 256, .inr (.inl vf)))] s.heap := hP
  have hl := lv_entry ([.ref h0, .int f, .int t]) (n := 5) (Nat.le_of_ble_eq_true rfl)
  rw [lg_entry_eq]
  generalize (lg_sl ([.ref h0, .int f, .int t]) ++ List.replicate (5 - (lg_sl ([.ref h0, .int f, .int t])).length) Slot.unset).toArray = ls at hl ⊢
  have hl : lv_has ls 5 [(0, .ref h0), (1, .int f), (2, .int t)] := hl
  obtain ⟨a9, n9, han, hfe, hte, hfa, hln⟩ := okW_nat hok
  refine va_new (ci := 0) (fs := [.long 0, .int 0, .long 0, .int 0, .long 0]) (C := RX0) (T := TX0) (N := 5) hx hb hts kX1_effectOf_0 tyX0 tyX0_ok hown (hts (.classLink RX1 38 RX0) kX1_effectOf_1) (hts (.instantiable RX0 5) kX1_effectOf_2) (hts (.initialized RX0) kX1_effectOf_3) hK hP hD hS hA rfl (fun j hj => by rcases (show j = 0 ∨ j = 1 ∨ j = 2 ∨ j = 3 ∨ j = 4 by omega) with rfl | rfl | rfl | rfl | rfl <;> rfl) (Nat.le_of_ble_eq_true rfl) (Nat.le_of_ble_eq_true rfl) dX1_effectOf_0 (fun q_1 H hP hD hS => ?_)
  have hP : va_P (dC, dI) vwCl [(h0, .inr (1, [.ref a, .ref b])), (a, .inl (cI, 256, .inl kf)), (b, .inl (cJ, 256, .inr (.inl vf))), (q_1, .inr (0, [.long 0, .int 0, .long 0, .int 0, .long 0]))] H := hP
  have hD : va_D A [(h0, .inr (1, [.ref a, .ref b])), (a, .inl (cI, 256, .inl kf)), (b, .inl (cJ, 256, .inr (.inl vf))), (q_1, .inr (0, [.long 0, .int 0, .long 0, .int 0, .long 0]))] := hD
  refine W.widen (k := 1) (n := 5) (Nat.le_of_ble_eq_true rfl) (Nat.le_of_ble_eq_true rfl) ?_
  refine lv_dup hx hb dX1_effectOf_3 rfl ?_
  have hPc := hP.sub (ws' := [(q_1, .inr (0, [.long 0, .int 0, .long 0, .int 0, .long 0]))]) [3] rfl
  have hDc := hD.sub (ws' := [(q_1, .inr (0, [.long 0, .int 0, .long 0, .int 0, .long 0]))]) [3] (by decide) rfl
  have hKc := hK.sub (tys' := []) [] rfl
  have hFc := va_free (wc := [(q_1, .inr (0, [.long 0, .int 0, .long 0, .int 0, .long 0]))]) hD hS hA [3] rfl
  refine va_callv (va_runIN (As := []) (rest := [.ref q_1]) ⟨hx, hb, hml, hown, hts⟩ (qX0_init l dC dI H.size q_1) ⟨va_cnB 0 hts gX1_effectOf_X0_init_n89 rfl rfl rfl (ev_m89 hE) (hts (.initialized RX0) kX1_effectOf_3) (by decide +kernel) ⟨Nat.le_of_ble_eq_true rfl, Nat.le_of_ble_eq_true rfl⟩, rfl, (hts (.instanceMethod yX0_init) kX1_effectOf_4)⟩ ⟨fun a U g mk q => by obtain ⟨q0, q1, qP, qK, qD⟩ := q; exact ⟨q0, q1, qP, va_K.moved (u := U) (U := U.calling g mk a) (Vm.Alike.refl U.vm) qK, qD⟩, fun U hU hW => ⟨rfl, by rw [hU], by rw [hU]; exact hPc, va_K.moved hW.alike hKc, hDc.weaken (fun _ _ _ _ => trivial)⟩⟩ rfl rfl hl.1 rfl (lv_room (Nat.le_of_ble_eq_true rfl)) dX1_effectOf_4 ⟨Nat.le_of_ble_eq_true rfl, Nat.le_of_ble_eq_true rfl⟩) hS (fun q _ h => hFc q h) hFc (fun u t9 H1 locs ht hvm hw hB hz1 hk1 hS => ?_)
  obtain ⟨hP1, hK1, hD1⟩ := hB
  rw [ht] at hP1
  obtain rfl := hw
  have hK1 := va_K.moved hvm.symm hK1
  obtain ⟨hP, hD⟩ := va_join (wr := [(h0, .inr (1, [.ref a, .ref b])), (a, .inl (cI, 256, .inl kf)), (b, .inl (cJ, 256, .inr (.inl vf)))]) (w1 := [(q_1, .inr (0, [.long e_0.1, .int e_0.2.1, .long e_0.2.2.1, .int e_0.2.2.2.1, .long e_0.2.2.2.2]))]) hP hD [3] [0, 1, 2] rfl rfl (by decide) (by decide) hk1 hFc hP1 hD1
  have hK := (hK.sub (tys' := [(cI, .int), (cJ, .long)]) [0, 1] rfl).app hK1
  generalize H1 = H at hP hS ⊢
  have hP : va_P (dC, dI) vwCl [(h0, .inr (1, [.ref a, .ref b])), (a, .inl (cI, 256, .inl kf)), (b, .inl (cJ, 256, .inr (.inl vf))), (q_1, .inr (0, [.long e_0.1, .int e_0.2.1, .long e_0.2.2.1, .int e_0.2.2.2.1, .long e_0.2.2.2.2]))] H := hP
  have hD : va_D A [(h0, .inr (1, [.ref a, .ref b])), (a, .inl (cI, 256, .inl kf)), (b, .inl (cJ, 256, .inr (.inl vf))), (q_1, .inr (0, [.long e_0.1, .int e_0.2.1, .long e_0.2.2.1, .int e_0.2.2.2.1, .long e_0.2.2.2.2]))] := hD
  have hK : va_K (dC, dI) vwCl [(cI, .int), (cJ, .long)] s := hK
  refine W.widen (k := 1) (n := 5) (Nat.le_of_ble_eq_true rfl) (Nat.le_of_ble_eq_true rfl) ?_
  refine lv_astore_n (lv' := [(3, .ref q_1), (0, .ref h0), (1, .int f), (2, .int t)]) hx hb dX1_effectOf_7 rfl hl (by decide) rfl (fun ls hl => ?_)
  refine lv_iload_n hx hb dX1_effectOf_8 rfl (lv_at hl 2 rfl) ?_
  refine lv_istore (lv' := [(4, .int f), (3, .ref q_1), (0, .ref h0), (1, .int f), (2, .int t)]) hx hb dX1_effectOf_9 hl (by decide) rfl (fun ls hl => ?_)
  refine lp_up (N := n9) (α := Int32) (fun j z9 H locs ls => (z9 = nI (a9 + j)) ∧ va_P (dC, dI) vwCl [(h0, .inr (1, [.ref a, .ref b])), (a, .inl (cI, 256, .inl kf)), (b, .inl (cJ, 256, .inr (.inl vf))), (q_1, .inr (0, [.long ((e_of kf vf a9 j).1), .int ((e_of kf vf a9 j).2.1), .long ((e_of kf vf a9 j).2.2.1), .int ((e_of kf vf a9 j).2.2.2.1), .long ((e_of kf vf a9 j).2.2.2.2)]))] H ∧ va_D A [(h0, .inr (1, [.ref a, .ref b])), (a, .inl (cI, 256, .inl kf)), (b, .inl (cJ, 256, .inr (.inl vf))), (q_1, .inr (0, [.long ((e_of kf vf a9 j).1), .int ((e_of kf vf a9 j).2.1), .long ((e_of kf vf a9 j).2.2.1), .int ((e_of kf vf a9 j).2.2.2.1), .long ((e_of kf vf a9 j).2.2.2.2)]))] ∧ va_K (dC, dI) vwCl [(cI, .int), (cJ, .long)] s ∧ va_S A s.heap H locs ∧ lv_has ls 5 [(0, .ref h0), (1, .int f), (2, .int t), (3, .ref q_1), (4, .int z9)]) ?_ (f) H _ ls ⟨hfe, hP.sub [0, 1, 2, 3] rfl, hD.sub [0, 1, 2, 3] (by decide) rfl, hK.sub [0, 1] rfl, hS, lv_sub hl [2, 3, 4, 1, 0] rfl⟩
  intro j z9 H locs ls hj hI hn
  obtain ⟨k, rfl⟩ : ∃ z, z = z9 := ⟨_, rfl⟩
  try dsimp only at hI
  obtain ⟨hi0, hP, hD, hK, hS, hl⟩ := hI
  have hkc : k.toNatClampNeg = a9 + j := by rw [hi0]; exact nI_clamp (by omega)
  refine lv_iload hx hb dX1_effectOf_11 (lv_at hl 4 rfl) ?_
  refine lv_iload_n hx hb dX1_effectOf_13 rfl (lv_at hl 2 rfl) ?_
  refine lv_icmp_ge (tgt := 41) hx hb dX1_effectOf_14 (by decide) (fun c_4 => ?_) (fun c_4 => ?_)
  · rw [hte, hi0] at c_4
    have hjn := lp_ge han hj c_4
    subst hjn
    refine lv_aload_n hx hb dX1_effectOf_41 rfl (lv_at hl 3 rfl) ?_
    have hP9 := hP.sub (ws' := [(h0, .inr (1, [.ref a, .ref b])), (a, .inl (cI, 256, .inl kf)), (b, .inl (cJ, 256, .inr (.inl vf))), (q_1, .inr (0, [.long ((e_of kf vf a9 j).1), .int ((e_of kf vf a9 j).2.1), .long ((e_of kf vf a9 j).2.2.1), .int ((e_of kf vf a9 j).2.2.2.1), .long ((e_of kf vf a9 j).2.2.2.2)]))]) [0, 1, 2, 3] rfl
    have hD9 := hD.sub (ws' := [(h0, .inr (1, [.ref a, .ref b])), (a, .inl (cI, 256, .inl kf)), (b, .inl (cJ, 256, .inr (.inl vf))), (q_1, .inr (0, [.long ((e_of kf vf a9 j).1), .int ((e_of kf vf a9 j).2.1), .long ((e_of kf vf a9 j).2.2.1), .int ((e_of kf vf a9 j).2.2.2.1), .long ((e_of kf vf a9 j).2.2.2.2)]))]) [0, 1, 2, 3] (by decide) rfl
    have hK9 := hK.sub (tys' := [(cI, .int), (cJ, .long)]) [0, 1] rfl
    refine W.widen (k := 1) (n := 5) (Nat.le_of_ble_eq_true rfl) (Nat.le_of_ble_eq_true rfl) ?_
    exact W.aret (v := .ref q_1) hx hb hr (Or.inl ⟨_, rfl⟩) (Or.inr ⟨_, rfl⟩) (fun t9 ht hW => ⟨⟨(e_of kf vf a9 j), q_1, rfl, by show _ = e_of kf vf _ _; rw [hfa, hln], by rw [ht]; exact hP9, va_K.moved hW.alike hK9, hD9⟩, hS.F ht⟩) hS.2.2 dX1_effectOf_42
  · rw [hte, hi0] at c_4
    have hjn := lp_lt han hj c_4
    refine lv_aload_n hx hb dX1_effectOf_17 rfl (lv_at hl 3 rfl) ?_
    refine lv_aload_n hx hb dX1_effectOf_18 rfl (lv_at hl 0 rfl) ?_
    refine va_get (D := (dC, dI)) (ci := 1) (v := .ref a) (C := RX1) (T := TX1) (N := 2) hx hb hts kX1_effectOf_5 hown hK hP 0 rfl rfl 0 (by decide) (hts (.fieldLink RX1 9 "FoldRow" "kinds" "[I") kX1_effectOf_6) (fun _ h9 => h9) rfl dX1_effectOf_19 ?_
    refine lv_iload hx hb dX1_effectOf_22 (lv_at hl 4 rfl) ?_
    refine va_iald hx hb hK hP 1 0 rfl rfl (by rw [hi0]; exact vp_in_nI (by omega) (by omega)) dX1_effectOf_24 ?_
    refine lv_topi (fun v_5 ev_5 => ?_)
    refine lv_aload_n hx hb dX1_effectOf_25 rfl (lv_at hl 0 rfl) ?_
    refine va_get (D := (dC, dI)) (ci := 1) (v := .ref b) (C := RX1) (T := TX1) (N := 2) hx hb hts kX1_effectOf_5 hown hK hP 0 rfl rfl 1 (by decide) (hts (.fieldLink RX1 13 "FoldRow" "values" "[J") kX1_effectOf_7) (fun _ h9 => h9) rfl dX1_effectOf_26 ?_
    refine lv_iload hx hb dX1_effectOf_29 (lv_at hl 4 rfl) ?_
    refine va_lald hx hb hK hP 2 1 rfl rfl (by rw [hi0]; exact vp_in_nI (by omega) (by omega)) dX1_effectOf_31 ?_
    refine lv_topl (fun v_6 ev_6 => ?_)
    have hPc := hP.sub (ws' := [(q_1, .inr (0, [.long ((e_of kf vf a9 j).1), .int ((e_of kf vf a9 j).2.1), .long ((e_of kf vf a9 j).2.2.1), .int ((e_of kf vf a9 j).2.2.2.1), .long ((e_of kf vf a9 j).2.2.2.2)]))]) [3] rfl
    have hDc := hD.sub (ws' := [(q_1, .inr (0, [.long ((e_of kf vf a9 j).1), .int ((e_of kf vf a9 j).2.1), .long ((e_of kf vf a9 j).2.2.1), .int ((e_of kf vf a9 j).2.2.2.1), .long ((e_of kf vf a9 j).2.2.2.2)]))]) [3] (by decide) rfl
    have hKc := hK.sub (tys' := []) [] rfl
    have hFc := va_free (wc := [(q_1, .inr (0, [.long ((e_of kf vf a9 j).1), .int ((e_of kf vf a9 j).2.1), .long ((e_of kf vf a9 j).2.2.1), .int ((e_of kf vf a9 j).2.2.2.1), .long ((e_of kf vf a9 j).2.2.2.2)]))]) hD hS hA [3] rfl
    refine va_callv (va_runV (As := [.int v_5, .long v_6]) (rest := []) ⟨hx, hb, hml, hown, hts⟩ (qX0_then l dC dI H.size q_1 (e_of kf vf a9 j) v_5 v_6) (cwV 2 hts gX1_effectOf_X0_then rfl rfl rfl (by decide +kernel) ⟨Nat.le_of_ble_eq_true rfl, Nat.le_of_ble_eq_true rfl⟩) ⟨fun a U g mk q => by obtain ⟨q0, q1, qP, qK, qD⟩ := q; exact ⟨q0, q1, qP, va_K.moved (u := U) (U := U.calling g mk a) (Vm.Alike.refl U.vm) qK, qD⟩, va_recv hKc hPc (ci := 0) (q0 := 0) rfl rfl, fun U hU hW => ⟨rfl, by rw [hU], by rw [hU]; exact hPc, va_K.moved hW.alike hKc, hDc.weaken (fun _ _ _ _ => trivial)⟩⟩ rfl rfl hl.1 rfl (lv_room (Nat.le_of_ble_eq_true rfl)) dX1_effectOf_32 ⟨Nat.le_of_ble_eq_true rfl, Nat.le_of_ble_eq_true rfl⟩) hS (fun q _ h => hFc q h) hFc (fun u t9 H1 locs ht hvm hw hB hz1 hk1 hS => ?_)
    obtain ⟨hP1, hK1, hD1⟩ := hB
    rw [ht] at hP1
    obtain rfl := hw
    have hK1 := va_K.moved hvm.symm hK1
    obtain ⟨hP, hD⟩ := va_join (wr := [(h0, .inr (1, [.ref a, .ref b])), (a, .inl (cI, 256, .inl kf)), (b, .inl (cJ, 256, .inr (.inl vf)))]) (w1 := [(q_1, .inr (0, [.long ((e_th v_5 v_6 (e_of kf vf a9 j)).1), .int ((e_th v_5 v_6 (e_of kf vf a9 j)).2.1), .long ((e_th v_5 v_6 (e_of kf vf a9 j)).2.2.1), .int ((e_th v_5 v_6 (e_of kf vf a9 j)).2.2.2.1), .long ((e_th v_5 v_6 (e_of kf vf a9 j)).2.2.2.2)]))]) hP hD [3] [0, 1, 2] rfl rfl (by decide) (by decide) hk1 hFc hP1 hD1
    have hK := (hK.sub (tys' := [(cI, .int), (cJ, .long)]) [0, 1] rfl).app hK1
    generalize H1 = H at hP hS ⊢
    have hP : va_P (dC, dI) vwCl [(h0, .inr (1, [.ref a, .ref b])), (a, .inl (cI, 256, .inl kf)), (b, .inl (cJ, 256, .inr (.inl vf))), (q_1, .inr (0, [.long ((e_th v_5 v_6 (e_of kf vf a9 j)).1), .int ((e_th v_5 v_6 (e_of kf vf a9 j)).2.1), .long ((e_th v_5 v_6 (e_of kf vf a9 j)).2.2.1), .int ((e_th v_5 v_6 (e_of kf vf a9 j)).2.2.2.1), .long ((e_th v_5 v_6 (e_of kf vf a9 j)).2.2.2.2)]))] H := hP
    have hD : va_D A [(h0, .inr (1, [.ref a, .ref b])), (a, .inl (cI, 256, .inl kf)), (b, .inl (cJ, 256, .inr (.inl vf))), (q_1, .inr (0, [.long ((e_th v_5 v_6 (e_of kf vf a9 j)).1), .int ((e_th v_5 v_6 (e_of kf vf a9 j)).2.1), .long ((e_th v_5 v_6 (e_of kf vf a9 j)).2.2.1), .int ((e_th v_5 v_6 (e_of kf vf a9 j)).2.2.2.1), .long ((e_th v_5 v_6 (e_of kf vf a9 j)).2.2.2.2)]))] := hD
    have hK : va_K (dC, dI) vwCl [(cI, .int), (cJ, .long)] s := hK
    refine W.widen (k := 1) (n := 5) (Nat.le_of_ble_eq_true rfl) (Nat.le_of_ble_eq_true rfl) ?_
    obtain ⟨i_9, ei_9⟩ : ∃ y : Int32, y = k + 1 := ⟨_, rfl⟩
    refine lv_iinc (v := i_9) (lv' := [(4, .int i_9), (0, .ref h0), (1, .int f), (2, .int t), (3, .ref q_1)]) hx hb dX1_effectOf_35 hl (k := 4) rfl (by rw [ei_9]; rfl) (by decide) rfl (fun ls hl => ?_)
    refine lv_goto (tgt := 11) hx hb dX1_effectOf_38 (by decide) ?_
    have hst : (e_th v_5 v_6 (e_of kf vf a9 j)) = e_of kf vf a9 (j + 1) := by rw [ev_5, ev_6, hkc]; rfl
    rw [hst] at hP hD
    exact hn (by omega) (i_9) _ _ ls ⟨by rw [ei_9, hi0]; exact nI_1 _, hP.sub [0, 1, 2, 3] rfl, hD.sub [0, 1, 2, 3] (by decide) rfl, hK.sub [0, 1] rfl, hS, lv_sub hl [1, 2, 3, 4, 0] rfl⟩

set_option maxRecDepth 20000 in
theorem kX1_countBusy_0 : ∀ w ∈ wsX10, w ∈ wsX1_countBusy := by decide +kernel
set_option maxRecDepth 20000 in
theorem kX1_countBusy_1 : (.fieldLink RX1 9 "FoldRow" "kinds" "[I" : Cond) ∈ wsX1_countBusy := by decide +kernel
set_option maxHeartbeats 4000000 in
set_option maxRecDepth 100000 in
theorem qX1_countBusy (l : Launch) (dC : Nat → ClassId) (dI : Nat → Nat → Nat) (sz : Nat) (h0 a b : Nat) (cI cJ : ClassId) (kf : Nat → Int32) (vf : Nat → Int64) (f t : Int32) (hok : okW f t) : Met l yX1_countBusy wsX1_countBusy ({ frames := 0, cells := 0, slots := 0, locals := 0 }) (va_Pc [.ref h0, .int f, .int t] (fun U => U.heap.size = sz ∧ va_P (dC, dI) vwCl [(h0, .inr (1, [.ref a, .ref b])), (a, .inl (cI, 256, .inl kf)), (b, .inl (cJ, 256, .inr (.inl vf)))] U.heap ∧ va_K (dC, dI) vwCl [(cI, .int), (cJ, .long)] U ∧ va_D (fun _ => True) [(h0, .inr (1, [.ref a, .ref b])), (a, .inl (cI, 256, .inl kf)), (b, .inl (cJ, 256, .inr (.inl vf)))])) (va_Qi (fun (r : Int32) (u : Unit) => (r = c_of kf f.toNatClampNeg (ln f t))) (fun (u : Unit) (t9 : State) => va_P (dC, dI) vwCl [(h0, .inr (1, [.ref a, .ref b])), (a, .inl (cI, 256, .inl kf)), (b, .inl (cJ, 256, .inr (.inl vf)))] t9.heap ∧ va_K (dC, dI) vwCl [(cI, .int), (cJ, .long)] t9 ∧ va_D (va_A [(h0, .inr (1, [.ref a, .ref b])), (a, .inl (cI, 256, .inl kf)), (b, .inl (cJ, 256, .inr (.inl vf)))] sz) [(h0, .inr (1, [.ref a, .ref b])), (a, .inl (cI, 256, .inl kf)), (b, .inl (cJ, 256, .inr (.inl vf)))]) (va_A [(h0, .inr (1, [.ref a, .ref b])), (a, .inl (cI, 256, .inl kf)), (b, .inl (cJ, 256, .inr (.inl vf)))] sz)) 0 0 (va_A [(h0, .inr (1, [.ref a, .ref b])), (a, .inl (cI, 256, .inl kf)), (b, .inl (cJ, 256, .inr (.inl vf)))] sz) := by
  refine Met.ofW (cc := cX1_countBusy) (maxL := 5) (ret := (some .int)) (by decide) rfl ?_
  intro p e s m args below meth c s₁ B hml hv
  obtain ⟨rfl, hsz, hP, hK, hD0⟩ := hv
  have hx := B.exec
  have hb := B.bytes
  have hr := B.returns
  have hts := atoms_spec (ws := wsX1_countBusy) B.pre
  have hown : s.vm.findClass RX1 = some m.cls := findClass_of_methodNamed B.named
  have hlocks := B.notSynchronized
  subst hsz
  have hD := hD0.self (sz := s.heap.size)
  generalize hAe : va_A [(h0, .inr (1, [.ref a, .ref b])), (a, .inl (cI, 256, .inl kf)), (b, .inl (cJ, 256, .inr (.inl vf)))] s.heap.size = A at hD ⊢
  have hA : ∀ q : Nat, s.heap.size ≤ q → A q := fun q h => by rw [← hAe]; exact Or.inr h
  have hS : va_S A s.heap s.heap [] := va_S.rf
  have hP : va_P (dC, dI) vwCl [(h0, .inr (1, [.ref a, .ref b])), (a, .inl (cI, 256, .inl kf)), (b, .inl (cJ, 256, .inr (.inl vf)))] s.heap := hP
  have hl := lv_entry ([.ref h0, .int f, .int t]) (n := 5) (Nat.le_of_ble_eq_true rfl)
  rw [lg_entry_eq]
  generalize (lg_sl ([.ref h0, .int f, .int t]) ++ List.replicate (5 - (lg_sl ([.ref h0, .int f, .int t])).length) Slot.unset).toArray = ls at hl ⊢
  have hl : lv_has ls 5 [(0, .ref h0), (1, .int f), (2, .int t)] := hl
  obtain ⟨a9, n9, han, hfe, hte, hfa, hln⟩ := okW_nat hok
  refine lv_iconst (v := 0) hx hb dX1_countBusy_0 (by decide) ?_
  refine lv_istore_n (lv' := [(3, .int 0), (0, .ref h0), (1, .int f), (2, .int t)]) hx hb dX1_countBusy_1 rfl hl (by decide) rfl (fun ls hl => ?_)
  refine lv_iload_n hx hb dX1_countBusy_2 rfl (lv_at hl 2 rfl) ?_
  refine lv_istore (lv' := [(4, .int f), (3, .int 0), (0, .ref h0), (1, .int f), (2, .int t)]) hx hb dX1_countBusy_3 hl (by decide) rfl (fun ls hl => ?_)
  refine lp_up (N := n9) (α := Int32 × Int32) (fun j z9 H locs ls => (z9.2 = nI (a9 + j)) ∧ (z9.1 = c_of kf a9 j) ∧ va_P (dC, dI) vwCl [(h0, .inr (1, [.ref a, .ref b])), (a, .inl (cI, 256, .inl kf)), (b, .inl (cJ, 256, .inr (.inl vf)))] H ∧ va_D A [(h0, .inr (1, [.ref a, .ref b])), (a, .inl (cI, 256, .inl kf)), (b, .inl (cJ, 256, .inr (.inl vf)))] ∧ va_K (dC, dI) vwCl [(cI, .int), (cJ, .long)] s ∧ va_S A s.heap H locs ∧ lv_has ls 5 [(0, .ref h0), (1, .int f), (2, .int t), (3, .int z9.1), (4, .int z9.2)]) ?_ (0, f) s.heap _ ls ⟨hfe, rfl, hP.sub [0, 1, 2] rfl, hD.sub [0, 1, 2] (by decide) rfl, hK.sub [0, 1] rfl, hS, lv_sub hl [2, 3, 4, 1, 0] rfl⟩
  intro j z9 H locs ls hj hI hn
  obtain ⟨q, k⟩ := z9
  try dsimp only at hI
  obtain ⟨hi0, hi1, hP, hD, hK, hS, hl⟩ := hI
  have hkc : k.toNatClampNeg = a9 + j := by rw [hi0]; exact nI_clamp (by omega)
  refine lv_iload hx hb dX1_countBusy_5 (lv_at hl 4 rfl) ?_
  refine lv_iload_n hx hb dX1_countBusy_7 rfl (lv_at hl 2 rfl) ?_
  refine lv_icmp_ge (tgt := 30) hx hb dX1_countBusy_8 (by decide) (fun c_1 => ?_) (fun c_1 => ?_)
  · rw [hte, hi0] at c_1
    have hjn := lp_ge han hj c_1
    subst hjn
    refine lv_iload_n hx hb dX1_countBusy_30 rfl (lv_at hl 3 rfl) ?_
    have hP9 := hP.sub (ws' := [(h0, .inr (1, [.ref a, .ref b])), (a, .inl (cI, 256, .inl kf)), (b, .inl (cJ, 256, .inr (.inl vf)))]) [0, 1, 2] rfl
    have hD9 := hD.sub (ws' := [(h0, .inr (1, [.ref a, .ref b])), (a, .inl (cI, 256, .inl kf)), (b, .inl (cJ, 256, .inr (.inl vf)))]) [0, 1, 2] (by decide) rfl
    have hK9 := hK.sub (tys' := [(cI, .int), (cJ, .long)]) [0, 1] rfl
    refine W.widen (k := 0) (n := 0) (Nat.le_of_ble_eq_true rfl) (Nat.le_of_ble_eq_true rfl) ?_
    exact W.iret (v := q) hx hb hr (fun t9 ht hW => ⟨⟨q, (), rfl, by rw [hfa, hln]; exact hi1, by rw [ht]; exact hP9, va_K.moved hW.alike hK9, hD9⟩, hS.F ht⟩) hS.2.2 dX1_countBusy_31
  · rw [hte, hi0] at c_1
    have hjn := lp_lt han hj c_1
    refine lv_aload_n hx hb dX1_countBusy_11 rfl (lv_at hl 0 rfl) ?_
    refine va_get (D := (dC, dI)) (ci := 1) (v := .ref a) (C := RX1) (T := TX1) (N := 2) hx hb hts kX1_countBusy_0 hown hK hP 0 rfl rfl 0 (by decide) (hts (.fieldLink RX1 9 "FoldRow" "kinds" "[I") kX1_countBusy_1) (fun _ h9 => h9) rfl dX1_countBusy_12 ?_
    refine lv_iload hx hb dX1_countBusy_15 (lv_at hl 4 rfl) ?_
    refine va_iald hx hb hK hP 1 0 rfl rfl (by rw [hi0]; exact vp_in_nI (by omega) (by omega)) dX1_countBusy_17 ?_
    refine lv_topi (fun v_2 ev_2 => ?_)
    refine lv_if_eq (tgt := 24) hx hb dX1_countBusy_18 (by decide) (fun c_3 => ?_) (fun c_3 => ?_)
    · obtain ⟨i_4, ei_4⟩ : ∃ y : Int32, y = k + 1 := ⟨_, rfl⟩
      refine lv_iinc (v := i_4) (lv' := [(4, .int i_4), (0, .ref h0), (1, .int f), (2, .int t), (3, .int q)]) hx hb dX1_countBusy_24 hl (k := 4) rfl (by rw [ei_4]; rfl) (by decide) rfl (fun ls hl => ?_)
      refine lv_goto (tgt := 5) hx hb dX1_countBusy_27 (by decide) ?_
      exact hn (by omega) (q, i_4) _ _ ls ⟨by rw [ei_4, hi0]; exact nI_1 _, by rw [show c_of kf a9 (j + 1) = if kf (a9 + j) = 0 then c_of kf a9 j else c_of kf a9 j + 1 from rfl, ← hkc, ← ev_2, if_pos c_3]; exact hi1, hP.sub [0, 1, 2] rfl, hD.sub [0, 1, 2] (by decide) rfl, hK.sub [0, 1] rfl, hS, lv_sub hl [1, 2, 3, 4, 0] rfl⟩
    · obtain ⟨i_5, ei_5⟩ : ∃ y : Int32, y = q + 1 := ⟨_, rfl⟩
      refine lv_iinc (v := i_5) (lv' := [(3, .int i_5), (0, .ref h0), (1, .int f), (2, .int t), (4, .int k)]) hx hb dX1_countBusy_21 hl (k := 3) rfl (by rw [ei_5]; rfl) (by decide) rfl (fun ls hl => ?_)
      obtain ⟨i_6, ei_6⟩ : ∃ y : Int32, y = k + 1 := ⟨_, rfl⟩
      refine lv_iinc (v := i_6) (lv' := [(4, .int i_6), (3, .int i_5), (0, .ref h0), (1, .int f), (2, .int t)]) hx hb dX1_countBusy_24 hl (k := 4) rfl (by rw [ei_6]; rfl) (by decide) rfl (fun ls hl => ?_)
      refine lv_goto (tgt := 5) hx hb dX1_countBusy_27 (by decide) ?_
      exact hn (by omega) (i_5, i_6) _ _ ls ⟨by rw [ei_6, hi0]; exact nI_1 _, by rw [show c_of kf a9 (j + 1) = if kf (a9 + j) = 0 then c_of kf a9 j else c_of kf a9 j + 1 from rfl, ← hkc, ← ev_2, if_neg c_3, ei_5, hi1], hP.sub [0, 1, 2] rfl, hD.sub [0, 1, 2] (by decide) rfl, hK.sub [0, 1] rfl, hS, lv_sub hl [2, 3, 4, 1, 0] rfl⟩

set_option maxRecDepth 20000 in
theorem kX1_set_0 : ∀ w ∈ wsX10, w ∈ wsX1_set := by decide +kernel
set_option maxRecDepth 20000 in
theorem kX1_set_1 : (.fieldLink RX1 9 "FoldRow" "kinds" "[I" : Cond) ∈ wsX1_set := by decide +kernel
set_option maxRecDepth 20000 in
theorem kX1_set_2 : (.fieldLink RX1 13 "FoldRow" "values" "[J" : Cond) ∈ wsX1_set := by decide +kernel
set_option maxHeartbeats 4000000 in
set_option maxRecDepth 100000 in
theorem qX1_set (l : Launch) (hlt : l.stackTraces = false) (dC : Nat → ClassId) (dI : Nat → Nat → Nat) (sz : Nat) (h0 a b : Nat) (cI cJ : ClassId) (kf : Nat → Int32) (vf : Nat → Int64) (k kd : Int32) (v : Int64)  : vx_Met l yX1_set wsX1_set ({ frames := 7, cells := 2, slots := 12, locals := 120 }) (va_Pc [.ref h0, .int k, .int kd, .long v] (fun U => U.heap.size = sz ∧ va_P (dC, dI) vwCl [(h0, .inr (1, [.ref a, .ref b])), (a, .inl (cI, 256, .inl kf)), (b, .inl (cJ, 256, .inr (.inl vf)))] U.heap ∧ va_K (dC, dI) vwCl [(cI, .int), (cJ, .long)] U ∧ va_D (fun _ => True) [(h0, .inr (1, [.ref a, .ref b])), (a, .inl (cI, 256, .inl kf)), (b, .inl (cJ, 256, .inr (.inl vf)))] ∧ ev U ∧ ez (va_A [(h0, .inr (1, [.ref a, .ref b])), (a, .inl (cI, 256, .inl kf)), (b, .inl (cJ, 256, .inr (.inl vf)))] sz) U U.heap)) (va_Qv (fun (u : (Nat → Int32) × (Nat → Int64)) => (okR kd v ∧ okP k) ∧ u = (upd kf k.toNatClampNeg kd, vp_updL vf k.toNatClampNeg v)) (fun (u : (Nat → Int32) × (Nat → Int64)) (t9 : State) => va_P (dC, dI) vwCl [(h0, .inr (1, [.ref a, .ref b])), (a, .inl (cI, 256, .inl u.1)), (b, .inl (cJ, 256, .inr (.inl u.2)))] t9.heap ∧ va_K (dC, dI) vwCl [(cI, .int), (cJ, .long)] t9 ∧ va_D (va_A [(h0, .inr (1, [.ref a, .ref b])), (a, .inl (cI, 256, .inl kf)), (b, .inl (cJ, 256, .inr (.inl vf)))] sz) [(h0, .inr (1, [.ref a, .ref b])), (a, .inl (cI, 256, .inl u.1)), (b, .inl (cJ, 256, .inr (.inl u.2)))]) (va_A [(h0, .inr (1, [.ref a, .ref b])), (a, .inl (cI, 256, .inl kf)), (b, .inl (cJ, 256, .inr (.inl vf)))] sz)) (vx_X (fun _ : Unit => True) (fun (E : String) (_ : Unit) (t9 : State) => ((E = IAE ∧ ¬ okR kd v) ∨ (E = IOB ∧ okR kd v ∧ ¬ okP k)) ∧ va_P (dC, dI) vwCl [(h0, .inr (1, [.ref a, .ref b])), (a, .inl (cI, 256, .inl kf)), (b, .inl (cJ, 256, .inr (.inl vf)))] t9.heap ∧ va_K (dC, dI) vwCl [(cI, .int), (cJ, .long)] t9 ∧ va_D (va_A [(h0, .inr (1, [.ref a, .ref b])), (a, .inl (cI, 256, .inl kf)), (b, .inl (cJ, 256, .inr (.inl vf)))] sz) [(h0, .inr (1, [.ref a, .ref b])), (a, .inl (cI, 256, .inl kf)), (b, .inl (cJ, 256, .inr (.inl vf)))]) (va_A [(h0, .inr (1, [.ref a, .ref b])), (a, .inl (cI, 256, .inl kf)), (b, .inl (cJ, 256, .inr (.inl vf)))] sz)) 2 12 (va_A [(h0, .inr (1, [.ref a, .ref b])), (a, .inl (cI, 256, .inl kf)), (b, .inl (cJ, 256, .inr (.inl vf)))] sz) := by
  refine vx_ofW (cc := cX1_set) (maxL := 5) (ret := none) (by decide) rfl ?_
  intro p e s m args below meth c s₁ B hml htb hv
  obtain ⟨rfl, hsz, hP, hK, hD0, hE, hZ⟩ := hv
  have hx := B.exec
  have hb := B.bytes
  have hr := B.returns
  have hts := atoms_spec (ws := wsX1_set) B.pre
  have hown : s.vm.findClass RX1 = some m.cls := findClass_of_methodNamed B.named
  have hlocks := B.notSynchronized
  subst hsz
  have hD := hD0.self (sz := s.heap.size)
  generalize hAe : va_A [(h0, .inr (1, [.ref a, .ref b])), (a, .inl (cI, 256, .inl kf)), (b, .inl (cJ, 256, .inr (.inl vf)))] s.heap.size = A at hD hZ ⊢
  have hA : ∀ q : Nat, s.heap.size ≤ q → A q := fun q h => by rw [← hAe]; exact Or.inr h
  have hS : va_S A s.heap s.heap [] := va_S.rf
  have hP : va_P (dC, dI) vwCl [(h0, .inr (1, [.ref a, .ref b])), (a, .inl (cI, 256, .inl kf)), (b, .inl (cJ, 256, .inr (.inl vf)))] s.heap := hP
  have hl := lv_entry ([.ref h0, .int k, .int kd, .long v]) (n := 5) (Nat.le_of_ble_eq_true rfl)
  rw [lg_entry_eq]
  generalize (lg_sl ([.ref h0, .int k, .int kd, .long v]) ++ List.replicate (5 - (lg_sl ([.ref h0, .int k, .int kd, .long v])).length) Slot.unset).toArray = ls at hl ⊢
  have hl : lv_has ls 5 [(0, .ref h0), (1, .int k), (2, .int kd), (3, .long v)] := hl
  refine lv_iload_n hx hb dX1_set_0 rfl (lv_at hl 2 rfl) ?_
  refine lv_lload_n hx hb dX1_set_1 rfl (lv_at hl 3 rfl) ?_
  have hPc := hP.sub (ws' := []) [] rfl
  have hDc := hD.sub (ws' := []) [] (by decide) rfl
  have hKc := hK.sub (tys' := []) [] rfl
  have hFc := va_free (wc := []) hD hS hA [] rfl
  refine vx_callv (vx_runS (As := [.int kd, .long v]) (rest := []) ⟨hx, hb, hml, hown, hts⟩ (qX1_checkRule l hlt dC dI s.heap.size kd v) (va_cwS 2 hts gX1_set_X1_checkRule rfl rfl rfl (by decide +kernel) ⟨Nat.le_of_ble_eq_true rfl, Nat.le_of_ble_eq_true rfl⟩) ⟨fun a U g mk q => by obtain ⟨q0, q1, qP, qK, qD, qE, qZ⟩ := q; exact ⟨q0, q1, qP, va_K.moved (u := U) (U := U.calling g mk a) (Vm.Alike.refl U.vm) qK, qD, ev.same (u := U) rfl qE, ez.moved (U := U.calling g mk a) qZ (Vm.Alike.refl U.vm)⟩, fun U hU hW => ⟨rfl, by rw [hU], by rw [hU]; exact hPc, va_K.moved hW.alike hKc, hDc.weaken (fun _ _ _ _ => trivial), hE.warm hW, by rw [hU]; exact ((hZ.kept hS.2.1).narrow hFc).moved hW.alike⟩⟩ rfl rfl hl.1 rfl (lv_room (Nat.le_of_ble_eq_true rfl)) dX1_set_2 ⟨Nat.le_of_ble_eq_true rfl, Nat.le_of_ble_eq_true rfl⟩) hS (fun q _ h => hFc q h) hFc (fun q _ h => hFc q h) (fun E ce q9 u t9 H1 locs ht hvm hw hB hz1 hk1 hS hce hcv hcl => ?_) (fun u t9 H1 locs ht hvm hw hB hz1 hk1 hS => ?_)
  · obtain ⟨hex, hP1, hK1, hD1⟩ := hB
    rw [ht] at hP1
    have hK1 := va_K.moved hvm.symm hK1
    obtain ⟨hP, hD⟩ := va_join (wr := [(h0, .inr (1, [.ref a, .ref b])), (a, .inl (cI, 256, .inl kf)), (b, .inl (cJ, 256, .inr (.inl vf)))]) (w1 := []) hP hD [] [0, 1, 2] rfl rfl (by decide) (by decide) hk1 hFc hP1 hD1
    have hK := (hK.sub (tys' := [(cI, .int), (cJ, .long)]) [0, 1] rfl).app hK1
    generalize H1 = H at hP hS hce ⊢
    have hP : va_P (dC, dI) vwCl [(h0, .inr (1, [.ref a, .ref b])), (a, .inl (cI, 256, .inl kf)), (b, .inl (cJ, 256, .inr (.inl vf)))] H := hP
    have hD : va_D A [(h0, .inr (1, [.ref a, .ref b])), (a, .inl (cI, 256, .inl kf)), (b, .inl (cJ, 256, .inr (.inl vf)))] := hD
    have hK : va_K (dC, dI) vwCl [(cI, .int), (cJ, .long)] s := hK
    refine vx_widen (k := 1) (n := 6) (Nat.le_of_ble_eq_true rfl) (Nat.le_of_ble_eq_true rfl) ?_
    have hP9 := hP.sub (ws' := [(h0, .inr (1, [.ref a, .ref b])), (a, .inl (cI, 256, .inl kf)), (b, .inl (cJ, 256, .inr (.inl vf)))]) [0, 1, 2] rfl
    have hD9 := hD.sub (ws' := [(h0, .inr (1, [.ref a, .ref b])), (a, .inl (cI, 256, .inl kf)), (b, .inl (cJ, 256, .inr (.inl vf)))]) [0, 1, 2] (by decide) rfl
    have hK9 := hK.sub (tys' := [(cI, .int), (cJ, .long)]) [0, 1] rfl
    exact vx_out (fun x hx => (htb x hx).elim) hlocks hce hcv hcl (fun t9 ht hvm => ⟨(), trivial, ⟨Or.inl hex, by rw [ht]; exact hP9, va_K.moved hvm hK9, hD9⟩, hS.F ht⟩) hS.2.2 (Nat.le_of_ble_eq_true rfl) (Nat.le_of_ble_eq_true rfl)
  · obtain ⟨hP1, hK1, hD1⟩ := hB
    rw [ht] at hP1
    have h_2 := hw
    have hK1 := va_K.moved hvm.symm hK1
    obtain ⟨hP, hD⟩ := va_join (wr := [(h0, .inr (1, [.ref a, .ref b])), (a, .inl (cI, 256, .inl kf)), (b, .inl (cJ, 256, .inr (.inl vf)))]) (w1 := []) hP hD [] [0, 1, 2] rfl rfl (by decide) (by decide) hk1 hFc hP1 hD1
    have hK := (hK.sub (tys' := [(cI, .int), (cJ, .long)]) [0, 1] rfl).app hK1
    generalize H1 = H at hP hS ⊢
    have hP : va_P (dC, dI) vwCl [(h0, .inr (1, [.ref a, .ref b])), (a, .inl (cI, 256, .inl kf)), (b, .inl (cJ, 256, .inr (.inl vf)))] H := hP
    have hD : va_D A [(h0, .inr (1, [.ref a, .ref b])), (a, .inl (cI, 256, .inl kf)), (b, .inl (cJ, 256, .inr (.inl vf)))] := hD
    have hK : va_K (dC, dI) vwCl [(cI, .int), (cJ, .long)] s := hK
    refine W.widen (k := 1) (n := 6) (Nat.le_of_ble_eq_true rfl) (Nat.le_of_ble_eq_true rfl) ?_
    refine lv_iload_n hx hb dX1_set_5 rfl (lv_at hl 1 rfl) ?_
    have hPc := hP.sub (ws' := []) [] rfl
    have hDc := hD.sub (ws' := []) [] (by decide) rfl
    have hKc := hK.sub (tys' := []) [] rfl
    have hFc := va_free (wc := []) hD hS hA [] rfl
    refine vx_callv (vx_runS (As := [.int k]) (rest := []) ⟨hx, hb, hml, hown, hts⟩ (qX1_checkPlace l hlt dC dI H.size k) (va_cwS 1 hts gX1_set_X1_checkPlace rfl rfl rfl (by decide +kernel) ⟨Nat.le_of_ble_eq_true rfl, Nat.le_of_ble_eq_true rfl⟩) ⟨fun a U g mk q => by obtain ⟨q0, q1, qP, qK, qD, qE, qZ⟩ := q; exact ⟨q0, q1, qP, va_K.moved (u := U) (U := U.calling g mk a) (Vm.Alike.refl U.vm) qK, qD, ev.same (u := U) rfl qE, ez.moved (U := U.calling g mk a) qZ (Vm.Alike.refl U.vm)⟩, fun U hU hW => ⟨rfl, by rw [hU], by rw [hU]; exact hPc, va_K.moved hW.alike hKc, hDc.weaken (fun _ _ _ _ => trivial), hE.warm hW, by rw [hU]; exact ((hZ.kept hS.2.1).narrow hFc).moved hW.alike⟩⟩ rfl rfl hl.1 rfl (lv_room (Nat.le_of_ble_eq_true rfl)) dX1_set_6 ⟨Nat.le_of_ble_eq_true rfl, Nat.le_of_ble_eq_true rfl⟩) hS (fun q _ h => hFc q h) hFc (fun q _ h => hFc q h) (fun E ce q9 u t9 H1 locs ht hvm hw hB hz1 hk1 hS hce hcv hcl => ?_) (fun u t9 H1 locs ht hvm hw hB hz1 hk1 hS => ?_)
    · obtain ⟨hex, hP1, hK1, hD1⟩ := hB
      rw [ht] at hP1
      have hK1 := va_K.moved hvm.symm hK1
      obtain ⟨hP, hD⟩ := va_join (wr := [(h0, .inr (1, [.ref a, .ref b])), (a, .inl (cI, 256, .inl kf)), (b, .inl (cJ, 256, .inr (.inl vf)))]) (w1 := []) hP hD [] [0, 1, 2] rfl rfl (by decide) (by decide) hk1 hFc hP1 hD1
      have hK := (hK.sub (tys' := [(cI, .int), (cJ, .long)]) [0, 1] rfl).app hK1
      generalize H1 = H at hP hS hce ⊢
      have hP : va_P (dC, dI) vwCl [(h0, .inr (1, [.ref a, .ref b])), (a, .inl (cI, 256, .inl kf)), (b, .inl (cJ, 256, .inr (.inl vf)))] H := hP
      have hD : va_D A [(h0, .inr (1, [.ref a, .ref b])), (a, .inl (cI, 256, .inl kf)), (b, .inl (cJ, 256, .inr (.inl vf)))] := hD
      have hK : va_K (dC, dI) vwCl [(cI, .int), (cJ, .long)] s := hK
      refine vx_widen (k := 2) (n := 12) (Nat.le_of_ble_eq_true rfl) (Nat.le_of_ble_eq_true rfl) ?_
      have hP9 := hP.sub (ws' := [(h0, .inr (1, [.ref a, .ref b])), (a, .inl (cI, 256, .inl kf)), (b, .inl (cJ, 256, .inr (.inl vf)))]) [0, 1, 2] rfl
      have hD9 := hD.sub (ws' := [(h0, .inr (1, [.ref a, .ref b])), (a, .inl (cI, 256, .inl kf)), (b, .inl (cJ, 256, .inr (.inl vf)))]) [0, 1, 2] (by decide) rfl
      have hK9 := hK.sub (tys' := [(cI, .int), (cJ, .long)]) [0, 1] rfl
      exact vx_out (fun x hx => (htb x hx).elim) hlocks hce hcv hcl (fun t9 ht hvm => ⟨(), trivial, ⟨Or.inr ⟨hex.1, h_2, hex.2⟩, by rw [ht]; exact hP9, va_K.moved hvm hK9, hD9⟩, hS.F ht⟩) hS.2.2 (Nat.le_of_ble_eq_true rfl) (Nat.le_of_ble_eq_true rfl)
    · obtain ⟨hP1, hK1, hD1⟩ := hB
      rw [ht] at hP1
      have h_4 := hw
      have hK1 := va_K.moved hvm.symm hK1
      obtain ⟨hP, hD⟩ := va_join (wr := [(h0, .inr (1, [.ref a, .ref b])), (a, .inl (cI, 256, .inl kf)), (b, .inl (cJ, 256, .inr (.inl vf)))]) (w1 := []) hP hD [] [0, 1, 2] rfl rfl (by decide) (by decide) hk1 hFc hP1 hD1
      have hK := (hK.sub (tys' := [(cI, .int), (cJ, .long)]) [0, 1] rfl).app hK1
      generalize H1 = H at hP hS ⊢
      have hP : va_P (dC, dI) vwCl [(h0, .inr (1, [.ref a, .ref b])), (a, .inl (cI, 256, .inl kf)), (b, .inl (cJ, 256, .inr (.inl vf)))] H := hP
      have hD : va_D A [(h0, .inr (1, [.ref a, .ref b])), (a, .inl (cI, 256, .inl kf)), (b, .inl (cJ, 256, .inr (.inl vf)))] := hD
      have hK : va_K (dC, dI) vwCl [(cI, .int), (cJ, .long)] s := hK
      refine W.widen (k := 2) (n := 12) (Nat.le_of_ble_eq_true rfl) (Nat.le_of_ble_eq_true rfl) ?_
      refine lv_aload_n hx hb dX1_set_9 rfl (lv_at hl 0 rfl) ?_
      refine va_get (D := (dC, dI)) (ci := 1) (v := .ref a) (C := RX1) (T := TX1) (N := 2) hx hb hts kX1_set_0 hown hK hP 0 rfl rfl 0 (by decide) (hts (.fieldLink RX1 9 "FoldRow" "kinds" "[I") kX1_set_1) (fun _ h9 => h9) rfl dX1_set_10 ?_
      refine lv_iload_n hx hb dX1_set_13 rfl (lv_at hl 1 rfl) ?_
      refine lv_iload_n hx hb dX1_set_14 rfl (lv_at hl 2 rfl) ?_
      refine va_iast hx hb hK hP hD hS 1 0 rfl rfl (in_P h_4) dX1_set_15 (fun H locs hP hD hS => ?_)
      have hP : va_P (dC, dI) vwCl [(h0, .inr (1, [.ref a, .ref b])), (a, .inl (cI, 256, .inl (upd kf k.toNatClampNeg kd))), (b, .inl (cJ, 256, .inr (.inl vf)))] H := hP
      have hD : va_D A [(h0, .inr (1, [.ref a, .ref b])), (a, .inl (cI, 256, .inl (upd kf k.toNatClampNeg kd))), (b, .inl (cJ, 256, .inr (.inl vf)))] := hD
      refine lv_aload_n hx hb dX1_set_16 rfl (lv_at hl 0 rfl) ?_
      refine va_get (D := (dC, dI)) (ci := 1) (v := .ref b) (C := RX1) (T := TX1) (N := 2) hx hb hts kX1_set_0 hown hK hP 0 rfl rfl 1 (by decide) (hts (.fieldLink RX1 13 "FoldRow" "values" "[J") kX1_set_2) (fun _ h9 => h9) rfl dX1_set_17 ?_
      refine lv_iload_n hx hb dX1_set_20 rfl (lv_at hl 1 rfl) ?_
      refine lv_lload_n hx hb dX1_set_21 rfl (lv_at hl 3 rfl) ?_
      refine va_last hx hb hK hP hD hS 2 1 rfl rfl (in_P h_4) dX1_set_22 (fun H locs hP hD hS => ?_)
      have hP : va_P (dC, dI) vwCl [(h0, .inr (1, [.ref a, .ref b])), (a, .inl (cI, 256, .inl (upd kf k.toNatClampNeg kd))), (b, .inl (cJ, 256, .inr (.inl (vp_updL vf k.toNatClampNeg v))))] H := hP
      have hD : va_D A [(h0, .inr (1, [.ref a, .ref b])), (a, .inl (cI, 256, .inl (upd kf k.toNatClampNeg kd))), (b, .inl (cJ, 256, .inr (.inl (vp_updL vf k.toNatClampNeg v))))] := hD
      have hP9 := hP.sub (ws' := [(h0, .inr (1, [.ref a, .ref b])), (a, .inl (cI, 256, .inl (upd kf k.toNatClampNeg kd))), (b, .inl (cJ, 256, .inr (.inl (vp_updL vf k.toNatClampNeg v))))]) [0, 1, 2] rfl
      have hD9 := hD.sub (ws' := [(h0, .inr (1, [.ref a, .ref b])), (a, .inl (cI, 256, .inl (upd kf k.toNatClampNeg kd))), (b, .inl (cJ, 256, .inr (.inl (vp_updL vf k.toNatClampNeg v))))]) [0, 1, 2] (by decide) rfl
      have hK9 := hK.sub (tys' := [(cI, .int), (cJ, .long)]) [0, 1] rfl
      refine vx_ret ?_
      refine W.widen (k := 2) (n := 12) (Nat.le_of_ble_eq_true rfl) (Nat.le_of_ble_eq_true rfl) ?_
      exact W.vret hx hb hr (fun t9 ht hW => ⟨⟨(upd kf k.toNatClampNeg kd, vp_updL vf k.toNatClampNeg v), rfl, ⟨⟨h_2, h_4⟩, rfl⟩, by rw [ht]; exact hP9, va_K.moved hW.alike hK9, hD9⟩, hS.F ht⟩) hS.2.2 dX1_set_23

set_option maxRecDepth 20000 in
theorem kX1_fill_0 : ∀ w ∈ wsX10, w ∈ wsX1_fill := by decide +kernel
set_option maxRecDepth 20000 in
theorem kX1_fill_1 : (.fieldLink RX1 9 "FoldRow" "kinds" "[I" : Cond) ∈ wsX1_fill := by decide +kernel
set_option maxRecDepth 20000 in
theorem kX1_fill_2 : (.fieldLink RX1 13 "FoldRow" "values" "[J" : Cond) ∈ wsX1_fill := by decide +kernel
set_option maxHeartbeats 4000000 in
set_option maxRecDepth 100000 in
theorem qX1_fill (l : Launch) (hlt : l.stackTraces = false) (dC : Nat → ClassId) (dI : Nat → Nat → Nat) (sz : Nat) (h0 a b : Nat) (cI cJ : ClassId) (kf : Nat → Int32) (vf : Nat → Int64) (f t kd : Int32) (v : Int64)  : vx_Met l yX1_fill wsX1_fill ({ frames := 7, cells := 2, slots := 12, locals := 120 }) (va_Pc [.ref h0, .int f, .int t, .int kd, .long v] (fun U => U.heap.size = sz ∧ va_P (dC, dI) vwCl [(h0, .inr (1, [.ref a, .ref b])), (a, .inl (cI, 256, .inl kf)), (b, .inl (cJ, 256, .inr (.inl vf)))] U.heap ∧ va_K (dC, dI) vwCl [(cI, .int), (cJ, .long)] U ∧ va_D (fun _ => True) [(h0, .inr (1, [.ref a, .ref b])), (a, .inl (cI, 256, .inl kf)), (b, .inl (cJ, 256, .inr (.inl vf)))] ∧ ev U ∧ ez (va_A [(h0, .inr (1, [.ref a, .ref b])), (a, .inl (cI, 256, .inl kf)), (b, .inl (cJ, 256, .inr (.inl vf)))] sz) U U.heap)) (va_Qv (fun (u : (Nat → Int32) × (Nat → Int64)) => (okR kd v ∧ okW f t) ∧ u = (f_fi kf f.toNatClampNeg (ln f t) kd, f_fi vf f.toNatClampNeg (ln f t) v)) (fun (u : (Nat → Int32) × (Nat → Int64)) (t9 : State) => va_P (dC, dI) vwCl [(h0, .inr (1, [.ref a, .ref b])), (a, .inl (cI, 256, .inl u.1)), (b, .inl (cJ, 256, .inr (.inl u.2)))] t9.heap ∧ va_K (dC, dI) vwCl [(cI, .int), (cJ, .long)] t9 ∧ va_D (va_A [(h0, .inr (1, [.ref a, .ref b])), (a, .inl (cI, 256, .inl kf)), (b, .inl (cJ, 256, .inr (.inl vf)))] sz) [(h0, .inr (1, [.ref a, .ref b])), (a, .inl (cI, 256, .inl u.1)), (b, .inl (cJ, 256, .inr (.inl u.2)))]) (va_A [(h0, .inr (1, [.ref a, .ref b])), (a, .inl (cI, 256, .inl kf)), (b, .inl (cJ, 256, .inr (.inl vf)))] sz)) (vx_X (fun _ : Unit => True) (fun (E : String) (_ : Unit) (t9 : State) => ((E = IAE ∧ ¬ okR kd v) ∨ (E = IOB ∧ okR kd v ∧ ¬ okW f t)) ∧ va_P (dC, dI) vwCl [(h0, .inr (1, [.ref a, .ref b])), (a, .inl (cI, 256, .inl kf)), (b, .inl (cJ, 256, .inr (.inl vf)))] t9.heap ∧ va_K (dC, dI) vwCl [(cI, .int), (cJ, .long)] t9 ∧ va_D (va_A [(h0, .inr (1, [.ref a, .ref b])), (a, .inl (cI, 256, .inl kf)), (b, .inl (cJ, 256, .inr (.inl vf)))] sz) [(h0, .inr (1, [.ref a, .ref b])), (a, .inl (cI, 256, .inl kf)), (b, .inl (cJ, 256, .inr (.inl vf)))]) (va_A [(h0, .inr (1, [.ref a, .ref b])), (a, .inl (cI, 256, .inl kf)), (b, .inl (cJ, 256, .inr (.inl vf)))] sz)) 2 12 (va_A [(h0, .inr (1, [.ref a, .ref b])), (a, .inl (cI, 256, .inl kf)), (b, .inl (cJ, 256, .inr (.inl vf)))] sz) := by
  refine vx_ofW (cc := cX1_fill) (maxL := 7) (ret := none) (by decide) rfl ?_
  intro p e s m args below meth c s₁ B hml htb hv
  obtain ⟨rfl, hsz, hP, hK, hD0, hE, hZ⟩ := hv
  have hx := B.exec
  have hb := B.bytes
  have hr := B.returns
  have hts := atoms_spec (ws := wsX1_fill) B.pre
  have hown : s.vm.findClass RX1 = some m.cls := findClass_of_methodNamed B.named
  have hlocks := B.notSynchronized
  subst hsz
  have hD := hD0.self (sz := s.heap.size)
  generalize hAe : va_A [(h0, .inr (1, [.ref a, .ref b])), (a, .inl (cI, 256, .inl kf)), (b, .inl (cJ, 256, .inr (.inl vf)))] s.heap.size = A at hD hZ ⊢
  have hA : ∀ q : Nat, s.heap.size ≤ q → A q := fun q h => by rw [← hAe]; exact Or.inr h
  have hS : va_S A s.heap s.heap [] := va_S.rf
  have hP : va_P (dC, dI) vwCl [(h0, .inr (1, [.ref a, .ref b])), (a, .inl (cI, 256, .inl kf)), (b, .inl (cJ, 256, .inr (.inl vf)))] s.heap := hP
  have hl := lv_entry ([.ref h0, .int f, .int t, .int kd, .long v]) (n := 7) (Nat.le_of_ble_eq_true rfl)
  rw [lg_entry_eq]
  generalize (lg_sl ([.ref h0, .int f, .int t, .int kd, .long v]) ++ List.replicate (7 - (lg_sl ([.ref h0, .int f, .int t, .int kd, .long v])).length) Slot.unset).toArray = ls at hl ⊢
  have hl : lv_has ls 7 [(0, .ref h0), (1, .int f), (2, .int t), (3, .int kd), (4, .long v)] := hl
  refine lv_iload_n hx hb dX1_fill_0 rfl (lv_at hl 3 rfl) ?_
  refine lv_lload hx hb dX1_fill_1 (lv_at hl 4 rfl) ?_
  have hPc := hP.sub (ws' := []) [] rfl
  have hDc := hD.sub (ws' := []) [] (by decide) rfl
  have hKc := hK.sub (tys' := []) [] rfl
  have hFc := va_free (wc := []) hD hS hA [] rfl
  refine vx_callv (vx_runS (As := [.int kd, .long v]) (rest := []) ⟨hx, hb, hml, hown, hts⟩ (qX1_checkRule l hlt dC dI s.heap.size kd v) (va_cwS 2 hts gX1_fill_X1_checkRule rfl rfl rfl (by decide +kernel) ⟨Nat.le_of_ble_eq_true rfl, Nat.le_of_ble_eq_true rfl⟩) ⟨fun a U g mk q => by obtain ⟨q0, q1, qP, qK, qD, qE, qZ⟩ := q; exact ⟨q0, q1, qP, va_K.moved (u := U) (U := U.calling g mk a) (Vm.Alike.refl U.vm) qK, qD, ev.same (u := U) rfl qE, ez.moved (U := U.calling g mk a) qZ (Vm.Alike.refl U.vm)⟩, fun U hU hW => ⟨rfl, by rw [hU], by rw [hU]; exact hPc, va_K.moved hW.alike hKc, hDc.weaken (fun _ _ _ _ => trivial), hE.warm hW, by rw [hU]; exact ((hZ.kept hS.2.1).narrow hFc).moved hW.alike⟩⟩ rfl rfl hl.1 rfl (lv_room (Nat.le_of_ble_eq_true rfl)) dX1_fill_3 ⟨Nat.le_of_ble_eq_true rfl, Nat.le_of_ble_eq_true rfl⟩) hS (fun q _ h => hFc q h) hFc (fun q _ h => hFc q h) (fun E ce q9 u t9 H1 locs ht hvm hw hB hz1 hk1 hS hce hcv hcl => ?_) (fun u t9 H1 locs ht hvm hw hB hz1 hk1 hS => ?_)
  · obtain ⟨hex, hP1, hK1, hD1⟩ := hB
    rw [ht] at hP1
    have hK1 := va_K.moved hvm.symm hK1
    obtain ⟨hP, hD⟩ := va_join (wr := [(h0, .inr (1, [.ref a, .ref b])), (a, .inl (cI, 256, .inl kf)), (b, .inl (cJ, 256, .inr (.inl vf)))]) (w1 := []) hP hD [] [0, 1, 2] rfl rfl (by decide) (by decide) hk1 hFc hP1 hD1
    have hK := (hK.sub (tys' := [(cI, .int), (cJ, .long)]) [0, 1] rfl).app hK1
    generalize H1 = H at hP hS hce ⊢
    have hP : va_P (dC, dI) vwCl [(h0, .inr (1, [.ref a, .ref b])), (a, .inl (cI, 256, .inl kf)), (b, .inl (cJ, 256, .inr (.inl vf)))] H := hP
    have hD : va_D A [(h0, .inr (1, [.ref a, .ref b])), (a, .inl (cI, 256, .inl kf)), (b, .inl (cJ, 256, .inr (.inl vf)))] := hD
    have hK : va_K (dC, dI) vwCl [(cI, .int), (cJ, .long)] s := hK
    refine vx_widen (k := 1) (n := 6) (Nat.le_of_ble_eq_true rfl) (Nat.le_of_ble_eq_true rfl) ?_
    have hP9 := hP.sub (ws' := [(h0, .inr (1, [.ref a, .ref b])), (a, .inl (cI, 256, .inl kf)), (b, .inl (cJ, 256, .inr (.inl vf)))]) [0, 1, 2] rfl
    have hD9 := hD.sub (ws' := [(h0, .inr (1, [.ref a, .ref b])), (a, .inl (cI, 256, .inl kf)), (b, .inl (cJ, 256, .inr (.inl vf)))]) [0, 1, 2] (by decide) rfl
    have hK9 := hK.sub (tys' := [(cI, .int), (cJ, .long)]) [0, 1] rfl
    exact vx_out (fun x hx => (htb x hx).elim) hlocks hce hcv hcl (fun t9 ht hvm => ⟨(), trivial, ⟨Or.inl hex, by rw [ht]; exact hP9, va_K.moved hvm hK9, hD9⟩, hS.F ht⟩) hS.2.2 (Nat.le_of_ble_eq_true rfl) (Nat.le_of_ble_eq_true rfl)
  · obtain ⟨hP1, hK1, hD1⟩ := hB
    rw [ht] at hP1
    have h_2 := hw
    have hK1 := va_K.moved hvm.symm hK1
    obtain ⟨hP, hD⟩ := va_join (wr := [(h0, .inr (1, [.ref a, .ref b])), (a, .inl (cI, 256, .inl kf)), (b, .inl (cJ, 256, .inr (.inl vf)))]) (w1 := []) hP hD [] [0, 1, 2] rfl rfl (by decide) (by decide) hk1 hFc hP1 hD1
    have hK := (hK.sub (tys' := [(cI, .int), (cJ, .long)]) [0, 1] rfl).app hK1
    generalize H1 = H at hP hS ⊢
    have hP : va_P (dC, dI) vwCl [(h0, .inr (1, [.ref a, .ref b])), (a, .inl (cI, 256, .inl kf)), (b, .inl (cJ, 256, .inr (.inl vf)))] H := hP
    have hD : va_D A [(h0, .inr (1, [.ref a, .ref b])), (a, .inl (cI, 256, .inl kf)), (b, .inl (cJ, 256, .inr (.inl vf)))] := hD
    have hK : va_K (dC, dI) vwCl [(cI, .int), (cJ, .long)] s := hK
    refine W.widen (k := 1) (n := 6) (Nat.le_of_ble_eq_true rfl) (Nat.le_of_ble_eq_true rfl) ?_
    refine lv_iload_n hx hb dX1_fill_6 rfl (lv_at hl 1 rfl) ?_
    refine lv_iload_n hx hb dX1_fill_7 rfl (lv_at hl 2 rfl) ?_
    have hPc := hP.sub (ws' := []) [] rfl
    have hDc := hD.sub (ws' := []) [] (by decide) rfl
    have hKc := hK.sub (tys' := []) [] rfl
    have hFc := va_free (wc := []) hD hS hA [] rfl
    refine vx_callv (vx_runS (As := [.int f, .int t]) (rest := []) ⟨hx, hb, hml, hown, hts⟩ (qX1_checkPart l hlt dC dI H.size f t) (va_cwS 2 hts gX1_fill_X1_checkPart rfl rfl rfl (by decide +kernel) ⟨Nat.le_of_ble_eq_true rfl, Nat.le_of_ble_eq_true rfl⟩) ⟨fun a U g mk q => by obtain ⟨q0, q1, qP, qK, qD, qE, qZ⟩ := q; exact ⟨q0, q1, qP, va_K.moved (u := U) (U := U.calling g mk a) (Vm.Alike.refl U.vm) qK, qD, ev.same (u := U) rfl qE, ez.moved (U := U.calling g mk a) qZ (Vm.Alike.refl U.vm)⟩, fun U hU hW => ⟨rfl, by rw [hU], by rw [hU]; exact hPc, va_K.moved hW.alike hKc, hDc.weaken (fun _ _ _ _ => trivial), hE.warm hW, by rw [hU]; exact ((hZ.kept hS.2.1).narrow hFc).moved hW.alike⟩⟩ rfl rfl hl.1 rfl (lv_room (Nat.le_of_ble_eq_true rfl)) dX1_fill_8 ⟨Nat.le_of_ble_eq_true rfl, Nat.le_of_ble_eq_true rfl⟩) hS (fun q _ h => hFc q h) hFc (fun q _ h => hFc q h) (fun E ce q9 u t9 H1 locs ht hvm hw hB hz1 hk1 hS hce hcv hcl => ?_) (fun u t9 H1 locs ht hvm hw hB hz1 hk1 hS => ?_)
    · obtain ⟨hex, hP1, hK1, hD1⟩ := hB
      rw [ht] at hP1
      have hK1 := va_K.moved hvm.symm hK1
      obtain ⟨hP, hD⟩ := va_join (wr := [(h0, .inr (1, [.ref a, .ref b])), (a, .inl (cI, 256, .inl kf)), (b, .inl (cJ, 256, .inr (.inl vf)))]) (w1 := []) hP hD [] [0, 1, 2] rfl rfl (by decide) (by decide) hk1 hFc hP1 hD1
      have hK := (hK.sub (tys' := [(cI, .int), (cJ, .long)]) [0, 1] rfl).app hK1
      generalize H1 = H at hP hS hce ⊢
      have hP : va_P (dC, dI) vwCl [(h0, .inr (1, [.ref a, .ref b])), (a, .inl (cI, 256, .inl kf)), (b, .inl (cJ, 256, .inr (.inl vf)))] H := hP
      have hD : va_D A [(h0, .inr (1, [.ref a, .ref b])), (a, .inl (cI, 256, .inl kf)), (b, .inl (cJ, 256, .inr (.inl vf)))] := hD
      have hK : va_K (dC, dI) vwCl [(cI, .int), (cJ, .long)] s := hK
      refine vx_widen (k := 2) (n := 12) (Nat.le_of_ble_eq_true rfl) (Nat.le_of_ble_eq_true rfl) ?_
      have hP9 := hP.sub (ws' := [(h0, .inr (1, [.ref a, .ref b])), (a, .inl (cI, 256, .inl kf)), (b, .inl (cJ, 256, .inr (.inl vf)))]) [0, 1, 2] rfl
      have hD9 := hD.sub (ws' := [(h0, .inr (1, [.ref a, .ref b])), (a, .inl (cI, 256, .inl kf)), (b, .inl (cJ, 256, .inr (.inl vf)))]) [0, 1, 2] (by decide) rfl
      have hK9 := hK.sub (tys' := [(cI, .int), (cJ, .long)]) [0, 1] rfl
      exact vx_out (fun x hx => (htb x hx).elim) hlocks hce hcv hcl (fun t9 ht hvm => ⟨(), trivial, ⟨Or.inr ⟨hex.1, h_2, hex.2⟩, by rw [ht]; exact hP9, va_K.moved hvm hK9, hD9⟩, hS.F ht⟩) hS.2.2 (Nat.le_of_ble_eq_true rfl) (Nat.le_of_ble_eq_true rfl)
    · obtain ⟨hP1, hK1, hD1⟩ := hB
      rw [ht] at hP1
      have h_4 := hw
      have hK1 := va_K.moved hvm.symm hK1
      obtain ⟨hP, hD⟩ := va_join (wr := [(h0, .inr (1, [.ref a, .ref b])), (a, .inl (cI, 256, .inl kf)), (b, .inl (cJ, 256, .inr (.inl vf)))]) (w1 := []) hP hD [] [0, 1, 2] rfl rfl (by decide) (by decide) hk1 hFc hP1 hD1
      have hK := (hK.sub (tys' := [(cI, .int), (cJ, .long)]) [0, 1] rfl).app hK1
      generalize H1 = H at hP hS ⊢
      have hP : va_P (dC, dI) vwCl [(h0, .inr (1, [.ref a, .ref b])), (a, .inl (cI, 256, .inl kf)), (b, .inl (cJ, 256, .inr (.inl vf)))] H := hP
      have hD : va_D A [(h0, .inr (1, [.ref a, .ref b])), (a, .inl (cI, 256, .inl kf)), (b, .inl (cJ, 256, .inr (.inl vf)))] := hD
      have hK : va_K (dC, dI) vwCl [(cI, .int), (cJ, .long)] s := hK
      refine W.widen (k := 2) (n := 12) (Nat.le_of_ble_eq_true rfl) (Nat.le_of_ble_eq_true rfl) ?_
      refine lv_iload_n hx hb dX1_fill_11 rfl (lv_at hl 1 rfl) ?_
      refine lv_istore (lv' := [(6, .int f), (0, .ref h0), (1, .int f), (2, .int t), (3, .int kd), (4, .long v)]) hx hb dX1_fill_12 hl (by decide) rfl (fun ls hl => ?_)
      obtain ⟨a9, n9, han, hfe, hte, hfa, hln⟩ := okW_nat h_4
      have hP : va_P (dC, dI) vwCl [(h0, .inr (1, [.ref a, .ref b])), (a, .inl (cI, 256, .inl (f_fi kf a9 0 kd))), (b, .inl (cJ, 256, .inr (.inl (f_fi vf a9 0 v))))] H := by rw [f_fi0, f_fi0]; exact hP
      have hD : va_D A [(h0, .inr (1, [.ref a, .ref b])), (a, .inl (cI, 256, .inl (f_fi kf a9 0 kd))), (b, .inl (cJ, 256, .inr (.inl (f_fi vf a9 0 v))))] := by rw [f_fi0, f_fi0]; exact hD
      refine lp_up (N := n9) (α := Int32) (fun j z9 H locs ls => (z9 = nI (a9 + j)) ∧ va_P (dC, dI) vwCl [(h0, .inr (1, [.ref a, .ref b])), (a, .inl (cI, 256, .inl (f_fi kf a9 j kd))), (b, .inl (cJ, 256, .inr (.inl (f_fi vf a9 j v))))] H ∧ va_D A [(h0, .inr (1, [.ref a, .ref b])), (a, .inl (cI, 256, .inl (f_fi kf a9 j kd))), (b, .inl (cJ, 256, .inr (.inl (f_fi vf a9 j v))))] ∧ va_K (dC, dI) vwCl [(cI, .int), (cJ, .long)] s ∧ va_S A s.heap H locs ∧ lv_has ls 7 [(0, .ref h0), (1, .int f), (2, .int t), (3, .int kd), (4, .long v), (6, .int z9)]) ?_ (f) H _ ls ⟨hfe, hP.sub [0, 1, 2] rfl, hD.sub [0, 1, 2] (by decide) rfl, hK.sub [0, 1] rfl, hS, lv_sub hl [1, 2, 3, 4, 5, 0] rfl⟩
      intro j z9 H locs ls hj hI hn
      obtain ⟨k, rfl⟩ : ∃ z, z = z9 := ⟨_, rfl⟩
      try dsimp only at hI
      obtain ⟨hi0, hP, hD, hK, hS, hl⟩ := hI
      have hkc : k.toNatClampNeg = a9 + j := by rw [hi0]; exact nI_clamp (by omega)
      refine lv_iload hx hb dX1_fill_14 (lv_at hl 5 rfl) ?_
      refine lv_iload_n hx hb dX1_fill_16 rfl (lv_at hl 2 rfl) ?_
      refine lv_icmp_ge (tgt := 43) hx hb dX1_fill_17 (by decide) (fun c_5 => ?_) (fun c_5 => ?_)
      · rw [hte, hi0] at c_5
        have hjn := lp_ge han hj c_5
        subst hjn
        have hP9 := hP.sub (ws' := [(h0, .inr (1, [.ref a, .ref b])), (a, .inl (cI, 256, .inl (f_fi kf a9 j kd))), (b, .inl (cJ, 256, .inr (.inl (f_fi vf a9 j v))))]) [0, 1, 2] rfl
        have hD9 := hD.sub (ws' := [(h0, .inr (1, [.ref a, .ref b])), (a, .inl (cI, 256, .inl (f_fi kf a9 j kd))), (b, .inl (cJ, 256, .inr (.inl (f_fi vf a9 j v))))]) [0, 1, 2] (by decide) rfl
        have hK9 := hK.sub (tys' := [(cI, .int), (cJ, .long)]) [0, 1] rfl
        refine vx_ret ?_
        refine W.widen (k := 2) (n := 12) (Nat.le_of_ble_eq_true rfl) (Nat.le_of_ble_eq_true rfl) ?_
        exact W.vret hx hb hr (fun t9 ht hW => ⟨⟨(f_fi kf a9 j kd, f_fi vf a9 j v), rfl, ⟨⟨h_2, h_4⟩, by rw [hfa, hln]⟩, by rw [ht]; exact hP9, va_K.moved hW.alike hK9, hD9⟩, hS.F ht⟩) hS.2.2 dX1_fill_43
      · rw [hte, hi0] at c_5
        have hjn := lp_lt han hj c_5
        refine lv_aload_n hx hb dX1_fill_20 rfl (lv_at hl 0 rfl) ?_
        refine va_get (D := (dC, dI)) (ci := 1) (v := .ref a) (C := RX1) (T := TX1) (N := 2) hx hb hts kX1_fill_0 hown hK hP 0 rfl rfl 0 (by decide) (hts (.fieldLink RX1 9 "FoldRow" "kinds" "[I") kX1_fill_1) (fun _ h9 => h9) rfl dX1_fill_21 ?_
        refine lv_iload hx hb dX1_fill_24 (lv_at hl 5 rfl) ?_
        refine lv_iload_n hx hb dX1_fill_26 rfl (lv_at hl 3 rfl) ?_
        refine va_iast hx hb hK hP hD hS 1 0 rfl rfl (by rw [hi0]; exact vp_in_nI (by omega) (by omega)) dX1_fill_27 (fun H locs hP hD hS => ?_)
        have hP : va_P (dC, dI) vwCl [(h0, .inr (1, [.ref a, .ref b])), (a, .inl (cI, 256, .inl (upd (f_fi kf a9 j kd) k.toNatClampNeg kd))), (b, .inl (cJ, 256, .inr (.inl (f_fi vf a9 j v))))] H := hP
        have hD : va_D A [(h0, .inr (1, [.ref a, .ref b])), (a, .inl (cI, 256, .inl (upd (f_fi kf a9 j kd) k.toNatClampNeg kd))), (b, .inl (cJ, 256, .inr (.inl (f_fi vf a9 j v))))] := hD
        refine lv_aload_n hx hb dX1_fill_28 rfl (lv_at hl 0 rfl) ?_
        refine va_get (D := (dC, dI)) (ci := 1) (v := .ref b) (C := RX1) (T := TX1) (N := 2) hx hb hts kX1_fill_0 hown hK hP 0 rfl rfl 1 (by decide) (hts (.fieldLink RX1 13 "FoldRow" "values" "[J") kX1_fill_2) (fun _ h9 => h9) rfl dX1_fill_29 ?_
        refine lv_iload hx hb dX1_fill_32 (lv_at hl 5 rfl) ?_
        refine lv_lload hx hb dX1_fill_34 (lv_at hl 4 rfl) ?_
        refine va_last hx hb hK hP hD hS 2 1 rfl rfl (by rw [hi0]; exact vp_in_nI (by omega) (by omega)) dX1_fill_36 (fun H locs hP hD hS => ?_)
        have hP : va_P (dC, dI) vwCl [(h0, .inr (1, [.ref a, .ref b])), (a, .inl (cI, 256, .inl (upd (f_fi kf a9 j kd) k.toNatClampNeg kd))), (b, .inl (cJ, 256, .inr (.inl (vp_updL (f_fi vf a9 j v) k.toNatClampNeg v))))] H := hP
        have hD : va_D A [(h0, .inr (1, [.ref a, .ref b])), (a, .inl (cI, 256, .inl (upd (f_fi kf a9 j kd) k.toNatClampNeg kd))), (b, .inl (cJ, 256, .inr (.inl (vp_updL (f_fi vf a9 j v) k.toNatClampNeg v))))] := hD
        obtain ⟨i_6, ei_6⟩ : ∃ y : Int32, y = k + 1 := ⟨_, rfl⟩
        refine lv_iinc (v := i_6) (lv' := [(6, .int i_6), (0, .ref h0), (1, .int f), (2, .int t), (3, .int kd), (4, .long v)]) hx hb dX1_fill_37 hl (k := 5) rfl (by rw [ei_6]; rfl) (by decide) rfl (fun ls hl => ?_)
        refine lv_goto (tgt := 14) hx hb dX1_fill_40 (by decide) ?_
        rw [hkc, f_fiI, f_fiL] at hP hD
        exact hn (by omega) (i_6) _ _ ls ⟨by rw [ei_6, hi0]; exact nI_1 _, hP.sub [0, 1, 2] rfl, hD.sub [0, 1, 2] (by decide) rfl, hK.sub [0, 1] rfl, hS, lv_sub hl [1, 2, 3, 4, 5, 0] rfl⟩

set_option maxRecDepth 20000 in
theorem kX1_swap_0 : ∀ w ∈ wsX10, w ∈ wsX1_swap := by decide +kernel
set_option maxRecDepth 20000 in
theorem kX1_swap_1 : (.fieldLink RX1 9 "FoldRow" "kinds" "[I" : Cond) ∈ wsX1_swap := by decide +kernel
set_option maxRecDepth 20000 in
theorem kX1_swap_2 : (.fieldLink RX1 13 "FoldRow" "values" "[J" : Cond) ∈ wsX1_swap := by decide +kernel
set_option maxHeartbeats 4000000 in
set_option maxRecDepth 100000 in
theorem qX1_swap (l : Launch) (hlt : l.stackTraces = false) (dC : Nat → ClassId) (dI : Nat → Nat → Nat) (sz : Nat) (h0 a b : Nat) (cI cJ : ClassId) (kf : Nat → Int32) (vf : Nat → Int64) (i k : Int32)  : vx_Met l yX1_swap wsX1_swap ({ frames := 7, cells := 2, slots := 12, locals := 120 }) (va_Pc [.ref h0, .int i, .int k] (fun U => U.heap.size = sz ∧ va_P (dC, dI) vwCl [(h0, .inr (1, [.ref a, .ref b])), (a, .inl (cI, 256, .inl kf)), (b, .inl (cJ, 256, .inr (.inl vf)))] U.heap ∧ va_K (dC, dI) vwCl [(cI, .int), (cJ, .long)] U ∧ va_D (fun _ => True) [(h0, .inr (1, [.ref a, .ref b])), (a, .inl (cI, 256, .inl kf)), (b, .inl (cJ, 256, .inr (.inl vf)))] ∧ ev U ∧ ez (va_A [(h0, .inr (1, [.ref a, .ref b])), (a, .inl (cI, 256, .inl kf)), (b, .inl (cJ, 256, .inr (.inl vf)))] sz) U U.heap)) (va_Qv (fun (u : (Nat → Int32) × (Nat → Int64)) => (okP i ∧ okP k) ∧ u = (upd (upd kf i.toNatClampNeg (kf k.toNatClampNeg)) k.toNatClampNeg (kf i.toNatClampNeg), vp_updL (vp_updL vf i.toNatClampNeg (vf k.toNatClampNeg)) k.toNatClampNeg (vf i.toNatClampNeg))) (fun (u : (Nat → Int32) × (Nat → Int64)) (t9 : State) => va_P (dC, dI) vwCl [(h0, .inr (1, [.ref a, .ref b])), (a, .inl (cI, 256, .inl u.1)), (b, .inl (cJ, 256, .inr (.inl u.2)))] t9.heap ∧ va_K (dC, dI) vwCl [(cI, .int), (cJ, .long)] t9 ∧ va_D (va_A [(h0, .inr (1, [.ref a, .ref b])), (a, .inl (cI, 256, .inl kf)), (b, .inl (cJ, 256, .inr (.inl vf)))] sz) [(h0, .inr (1, [.ref a, .ref b])), (a, .inl (cI, 256, .inl u.1)), (b, .inl (cJ, 256, .inr (.inl u.2)))]) (va_A [(h0, .inr (1, [.ref a, .ref b])), (a, .inl (cI, 256, .inl kf)), (b, .inl (cJ, 256, .inr (.inl vf)))] sz)) (vx_X (fun _ : Unit => True) (fun (E : String) (_ : Unit) (t9 : State) => (E = IOB ∧ ¬ (okP i ∧ okP k)) ∧ va_P (dC, dI) vwCl [(h0, .inr (1, [.ref a, .ref b])), (a, .inl (cI, 256, .inl kf)), (b, .inl (cJ, 256, .inr (.inl vf)))] t9.heap ∧ va_K (dC, dI) vwCl [(cI, .int), (cJ, .long)] t9 ∧ va_D (va_A [(h0, .inr (1, [.ref a, .ref b])), (a, .inl (cI, 256, .inl kf)), (b, .inl (cJ, 256, .inr (.inl vf)))] sz) [(h0, .inr (1, [.ref a, .ref b])), (a, .inl (cI, 256, .inl kf)), (b, .inl (cJ, 256, .inr (.inl vf)))]) (va_A [(h0, .inr (1, [.ref a, .ref b])), (a, .inl (cI, 256, .inl kf)), (b, .inl (cJ, 256, .inr (.inl vf)))] sz)) 2 12 (va_A [(h0, .inr (1, [.ref a, .ref b])), (a, .inl (cI, 256, .inl kf)), (b, .inl (cJ, 256, .inr (.inl vf)))] sz) := by
  refine vx_ofW (cc := cX1_swap) (maxL := 6) (ret := none) (by decide) rfl ?_
  intro p e s m args below meth c s₁ B hml htb hv
  obtain ⟨rfl, hsz, hP, hK, hD0, hE, hZ⟩ := hv
  have hx := B.exec
  have hb := B.bytes
  have hr := B.returns
  have hts := atoms_spec (ws := wsX1_swap) B.pre
  have hown : s.vm.findClass RX1 = some m.cls := findClass_of_methodNamed B.named
  have hlocks := B.notSynchronized
  subst hsz
  have hD := hD0.self (sz := s.heap.size)
  generalize hAe : va_A [(h0, .inr (1, [.ref a, .ref b])), (a, .inl (cI, 256, .inl kf)), (b, .inl (cJ, 256, .inr (.inl vf)))] s.heap.size = A at hD hZ ⊢
  have hA : ∀ q : Nat, s.heap.size ≤ q → A q := fun q h => by rw [← hAe]; exact Or.inr h
  have hS : va_S A s.heap s.heap [] := va_S.rf
  have hP : va_P (dC, dI) vwCl [(h0, .inr (1, [.ref a, .ref b])), (a, .inl (cI, 256, .inl kf)), (b, .inl (cJ, 256, .inr (.inl vf)))] s.heap := hP
  have hl := lv_entry ([.ref h0, .int i, .int k]) (n := 6) (Nat.le_of_ble_eq_true rfl)
  rw [lg_entry_eq]
  generalize (lg_sl ([.ref h0, .int i, .int k]) ++ List.replicate (6 - (lg_sl ([.ref h0, .int i, .int k])).length) Slot.unset).toArray = ls at hl ⊢
  have hl : lv_has ls 6 [(0, .ref h0), (1, .int i), (2, .int k)] := hl
  refine lv_iload_n hx hb dX1_swap_0 rfl (lv_at hl 1 rfl) ?_
  have hPc := hP.sub (ws' := []) [] rfl
  have hDc := hD.sub (ws' := []) [] (by decide) rfl
  have hKc := hK.sub (tys' := []) [] rfl
  have hFc := va_free (wc := []) hD hS hA [] rfl
  refine vx_callv (vx_runS (As := [.int i]) (rest := []) ⟨hx, hb, hml, hown, hts⟩ (qX1_checkPlace l hlt dC dI s.heap.size i) (va_cwS 1 hts gX1_swap_X1_checkPlace rfl rfl rfl (by decide +kernel) ⟨Nat.le_of_ble_eq_true rfl, Nat.le_of_ble_eq_true rfl⟩) ⟨fun a U g mk q => by obtain ⟨q0, q1, qP, qK, qD, qE, qZ⟩ := q; exact ⟨q0, q1, qP, va_K.moved (u := U) (U := U.calling g mk a) (Vm.Alike.refl U.vm) qK, qD, ev.same (u := U) rfl qE, ez.moved (U := U.calling g mk a) qZ (Vm.Alike.refl U.vm)⟩, fun U hU hW => ⟨rfl, by rw [hU], by rw [hU]; exact hPc, va_K.moved hW.alike hKc, hDc.weaken (fun _ _ _ _ => trivial), hE.warm hW, by rw [hU]; exact ((hZ.kept hS.2.1).narrow hFc).moved hW.alike⟩⟩ rfl rfl hl.1 rfl (lv_room (Nat.le_of_ble_eq_true rfl)) dX1_swap_1 ⟨Nat.le_of_ble_eq_true rfl, Nat.le_of_ble_eq_true rfl⟩) hS (fun q _ h => hFc q h) hFc (fun q _ h => hFc q h) (fun E ce q9 u t9 H1 locs ht hvm hw hB hz1 hk1 hS hce hcv hcl => ?_) (fun u t9 H1 locs ht hvm hw hB hz1 hk1 hS => ?_)
  · obtain ⟨hex, hP1, hK1, hD1⟩ := hB
    rw [ht] at hP1
    have hK1 := va_K.moved hvm.symm hK1
    obtain ⟨hP, hD⟩ := va_join (wr := [(h0, .inr (1, [.ref a, .ref b])), (a, .inl (cI, 256, .inl kf)), (b, .inl (cJ, 256, .inr (.inl vf)))]) (w1 := []) hP hD [] [0, 1, 2] rfl rfl (by decide) (by decide) hk1 hFc hP1 hD1
    have hK := (hK.sub (tys' := [(cI, .int), (cJ, .long)]) [0, 1] rfl).app hK1
    generalize H1 = H at hP hS hce ⊢
    have hP : va_P (dC, dI) vwCl [(h0, .inr (1, [.ref a, .ref b])), (a, .inl (cI, 256, .inl kf)), (b, .inl (cJ, 256, .inr (.inl vf)))] H := hP
    have hD : va_D A [(h0, .inr (1, [.ref a, .ref b])), (a, .inl (cI, 256, .inl kf)), (b, .inl (cJ, 256, .inr (.inl vf)))] := hD
    have hK : va_K (dC, dI) vwCl [(cI, .int), (cJ, .long)] s := hK
    refine vx_widen (k := 1) (n := 6) (Nat.le_of_ble_eq_true rfl) (Nat.le_of_ble_eq_true rfl) ?_
    have hP9 := hP.sub (ws' := [(h0, .inr (1, [.ref a, .ref b])), (a, .inl (cI, 256, .inl kf)), (b, .inl (cJ, 256, .inr (.inl vf)))]) [0, 1, 2] rfl
    have hD9 := hD.sub (ws' := [(h0, .inr (1, [.ref a, .ref b])), (a, .inl (cI, 256, .inl kf)), (b, .inl (cJ, 256, .inr (.inl vf)))]) [0, 1, 2] (by decide) rfl
    have hK9 := hK.sub (tys' := [(cI, .int), (cJ, .long)]) [0, 1] rfl
    exact vx_out (fun x hx => (htb x hx).elim) hlocks hce hcv hcl (fun t9 ht hvm => ⟨(), trivial, ⟨⟨hex.1, fun h => hex.2 h.1⟩, by rw [ht]; exact hP9, va_K.moved hvm hK9, hD9⟩, hS.F ht⟩) hS.2.2 (Nat.le_of_ble_eq_true rfl) (Nat.le_of_ble_eq_true rfl)
  · obtain ⟨hP1, hK1, hD1⟩ := hB
    rw [ht] at hP1
    have h_2 := hw
    have hK1 := va_K.moved hvm.symm hK1
    obtain ⟨hP, hD⟩ := va_join (wr := [(h0, .inr (1, [.ref a, .ref b])), (a, .inl (cI, 256, .inl kf)), (b, .inl (cJ, 256, .inr (.inl vf)))]) (w1 := []) hP hD [] [0, 1, 2] rfl rfl (by decide) (by decide) hk1 hFc hP1 hD1
    have hK := (hK.sub (tys' := [(cI, .int), (cJ, .long)]) [0, 1] rfl).app hK1
    generalize H1 = H at hP hS ⊢
    have hP : va_P (dC, dI) vwCl [(h0, .inr (1, [.ref a, .ref b])), (a, .inl (cI, 256, .inl kf)), (b, .inl (cJ, 256, .inr (.inl vf)))] H := hP
    have hD : va_D A [(h0, .inr (1, [.ref a, .ref b])), (a, .inl (cI, 256, .inl kf)), (b, .inl (cJ, 256, .inr (.inl vf)))] := hD
    have hK : va_K (dC, dI) vwCl [(cI, .int), (cJ, .long)] s := hK
    refine W.widen (k := 1) (n := 6) (Nat.le_of_ble_eq_true rfl) (Nat.le_of_ble_eq_true rfl) ?_
    refine lv_iload_n hx hb dX1_swap_4 rfl (lv_at hl 2 rfl) ?_
    have hPc := hP.sub (ws' := []) [] rfl
    have hDc := hD.sub (ws' := []) [] (by decide) rfl
    have hKc := hK.sub (tys' := []) [] rfl
    have hFc := va_free (wc := []) hD hS hA [] rfl
    refine vx_callv (vx_runS (As := [.int k]) (rest := []) ⟨hx, hb, hml, hown, hts⟩ (qX1_checkPlace l hlt dC dI H.size k) (va_cwS 1 hts gX1_swap_X1_checkPlace rfl rfl rfl (by decide +kernel) ⟨Nat.le_of_ble_eq_true rfl, Nat.le_of_ble_eq_true rfl⟩) ⟨fun a U g mk q => by obtain ⟨q0, q1, qP, qK, qD, qE, qZ⟩ := q; exact ⟨q0, q1, qP, va_K.moved (u := U) (U := U.calling g mk a) (Vm.Alike.refl U.vm) qK, qD, ev.same (u := U) rfl qE, ez.moved (U := U.calling g mk a) qZ (Vm.Alike.refl U.vm)⟩, fun U hU hW => ⟨rfl, by rw [hU], by rw [hU]; exact hPc, va_K.moved hW.alike hKc, hDc.weaken (fun _ _ _ _ => trivial), hE.warm hW, by rw [hU]; exact ((hZ.kept hS.2.1).narrow hFc).moved hW.alike⟩⟩ rfl rfl hl.1 rfl (lv_room (Nat.le_of_ble_eq_true rfl)) dX1_swap_5 ⟨Nat.le_of_ble_eq_true rfl, Nat.le_of_ble_eq_true rfl⟩) hS (fun q _ h => hFc q h) hFc (fun q _ h => hFc q h) (fun E ce q9 u t9 H1 locs ht hvm hw hB hz1 hk1 hS hce hcv hcl => ?_) (fun u t9 H1 locs ht hvm hw hB hz1 hk1 hS => ?_)
    · obtain ⟨hex, hP1, hK1, hD1⟩ := hB
      rw [ht] at hP1
      have hK1 := va_K.moved hvm.symm hK1
      obtain ⟨hP, hD⟩ := va_join (wr := [(h0, .inr (1, [.ref a, .ref b])), (a, .inl (cI, 256, .inl kf)), (b, .inl (cJ, 256, .inr (.inl vf)))]) (w1 := []) hP hD [] [0, 1, 2] rfl rfl (by decide) (by decide) hk1 hFc hP1 hD1
      have hK := (hK.sub (tys' := [(cI, .int), (cJ, .long)]) [0, 1] rfl).app hK1
      generalize H1 = H at hP hS hce ⊢
      have hP : va_P (dC, dI) vwCl [(h0, .inr (1, [.ref a, .ref b])), (a, .inl (cI, 256, .inl kf)), (b, .inl (cJ, 256, .inr (.inl vf)))] H := hP
      have hD : va_D A [(h0, .inr (1, [.ref a, .ref b])), (a, .inl (cI, 256, .inl kf)), (b, .inl (cJ, 256, .inr (.inl vf)))] := hD
      have hK : va_K (dC, dI) vwCl [(cI, .int), (cJ, .long)] s := hK
      refine vx_widen (k := 2) (n := 12) (Nat.le_of_ble_eq_true rfl) (Nat.le_of_ble_eq_true rfl) ?_
      have hP9 := hP.sub (ws' := [(h0, .inr (1, [.ref a, .ref b])), (a, .inl (cI, 256, .inl kf)), (b, .inl (cJ, 256, .inr (.inl vf)))]) [0, 1, 2] rfl
      have hD9 := hD.sub (ws' := [(h0, .inr (1, [.ref a, .ref b])), (a, .inl (cI, 256, .inl kf)), (b, .inl (cJ, 256, .inr (.inl vf)))]) [0, 1, 2] (by decide) rfl
      have hK9 := hK.sub (tys' := [(cI, .int), (cJ, .long)]) [0, 1] rfl
      exact vx_out (fun x hx => (htb x hx).elim) hlocks hce hcv hcl (fun t9 ht hvm => ⟨(), trivial, ⟨⟨hex.1, fun h => hex.2 h.2⟩, by rw [ht]; exact hP9, va_K.moved hvm hK9, hD9⟩, hS.F ht⟩) hS.2.2 (Nat.le_of_ble_eq_true rfl) (Nat.le_of_ble_eq_true rfl)
    · obtain ⟨hP1, hK1, hD1⟩ := hB
      rw [ht] at hP1
      have h_4 := hw
      have hK1 := va_K.moved hvm.symm hK1
      obtain ⟨hP, hD⟩ := va_join (wr := [(h0, .inr (1, [.ref a, .ref b])), (a, .inl (cI, 256, .inl kf)), (b, .inl (cJ, 256, .inr (.inl vf)))]) (w1 := []) hP hD [] [0, 1, 2] rfl rfl (by decide) (by decide) hk1 hFc hP1 hD1
      have hK := (hK.sub (tys' := [(cI, .int), (cJ, .long)]) [0, 1] rfl).app hK1
      generalize H1 = H at hP hS ⊢
      have hP : va_P (dC, dI) vwCl [(h0, .inr (1, [.ref a, .ref b])), (a, .inl (cI, 256, .inl kf)), (b, .inl (cJ, 256, .inr (.inl vf)))] H := hP
      have hD : va_D A [(h0, .inr (1, [.ref a, .ref b])), (a, .inl (cI, 256, .inl kf)), (b, .inl (cJ, 256, .inr (.inl vf)))] := hD
      have hK : va_K (dC, dI) vwCl [(cI, .int), (cJ, .long)] s := hK
      refine W.widen (k := 2) (n := 12) (Nat.le_of_ble_eq_true rfl) (Nat.le_of_ble_eq_true rfl) ?_
      refine lv_aload_n hx hb dX1_swap_8 rfl (lv_at hl 0 rfl) ?_
      refine va_get (D := (dC, dI)) (ci := 1) (v := .ref a) (C := RX1) (T := TX1) (N := 2) hx hb hts kX1_swap_0 hown hK hP 0 rfl rfl 0 (by decide) (hts (.fieldLink RX1 9 "FoldRow" "kinds" "[I") kX1_swap_1) (fun _ h9 => h9) rfl dX1_swap_9 ?_
      refine lv_iload_n hx hb dX1_swap_12 rfl (lv_at hl 1 rfl) ?_
      refine va_iald hx hb hK hP 1 0 rfl rfl (in_P h_2) dX1_swap_13 ?_
      refine lv_topi (fun v_5 ev_5 => ?_)
      refine lv_istore_n (lv' := [(3, .int v_5), (0, .ref h0), (1, .int i), (2, .int k)]) hx hb dX1_swap_14 rfl hl (by decide) rfl (fun ls hl => ?_)
      refine lv_aload_n hx hb dX1_swap_15 rfl (lv_at hl 1 rfl) ?_
      refine va_get (D := (dC, dI)) (ci := 1) (v := .ref b) (C := RX1) (T := TX1) (N := 2) hx hb hts kX1_swap_0 hown hK hP 0 rfl rfl 1 (by decide) (hts (.fieldLink RX1 13 "FoldRow" "values" "[J") kX1_swap_2) (fun _ h9 => h9) rfl dX1_swap_16 ?_
      refine lv_iload_n hx hb dX1_swap_19 rfl (lv_at hl 2 rfl) ?_
      refine va_lald hx hb hK hP 2 1 rfl rfl (in_P h_2) dX1_swap_20 ?_
      refine lv_topl (fun v_6 ev_6 => ?_)
      refine lv_lstore (lv' := [(4, .long v_6), (3, .int v_5), (0, .ref h0), (1, .int i), (2, .int k)]) hx hb dX1_swap_21 hl (by decide) rfl (fun ls hl => ?_)
      refine lv_aload_n hx hb dX1_swap_23 rfl (lv_at hl 2 rfl) ?_
      refine va_get (D := (dC, dI)) (ci := 1) (v := .ref a) (C := RX1) (T := TX1) (N := 2) hx hb hts kX1_swap_0 hown hK hP 0 rfl rfl 0 (by decide) (hts (.fieldLink RX1 9 "FoldRow" "kinds" "[I") kX1_swap_1) (fun _ h9 => h9) rfl dX1_swap_24 ?_
      refine lv_iload_n hx hb dX1_swap_27 rfl (lv_at hl 3 rfl) ?_
      refine lv_aload_n hx hb dX1_swap_28 rfl (lv_at hl 2 rfl) ?_
      refine va_get (D := (dC, dI)) (ci := 1) (v := .ref a) (C := RX1) (T := TX1) (N := 2) hx hb hts kX1_swap_0 hown hK hP 0 rfl rfl 0 (by decide) (hts (.fieldLink RX1 9 "FoldRow" "kinds" "[I") kX1_swap_1) (fun _ h9 => h9) rfl dX1_swap_29 ?_
      refine lv_iload_n hx hb dX1_swap_32 rfl (lv_at hl 4 rfl) ?_
      refine va_iald hx hb hK hP 1 0 rfl rfl (in_P h_4) dX1_swap_33 ?_
      refine lv_topi (fun v_7 ev_7 => ?_)
      refine va_iast hx hb hK hP hD hS 1 0 rfl rfl (in_P h_2) dX1_swap_34 (fun H locs hP hD hS => ?_)
      have hP : va_P (dC, dI) vwCl [(h0, .inr (1, [.ref a, .ref b])), (a, .inl (cI, 256, .inl (upd kf i.toNatClampNeg v_7))), (b, .inl (cJ, 256, .inr (.inl vf)))] H := hP
      have hD : va_D A [(h0, .inr (1, [.ref a, .ref b])), (a, .inl (cI, 256, .inl (upd kf i.toNatClampNeg v_7))), (b, .inl (cJ, 256, .inr (.inl vf)))] := hD
      refine lv_aload_n hx hb dX1_swap_35 rfl (lv_at hl 2 rfl) ?_
      refine va_get (D := (dC, dI)) (ci := 1) (v := .ref b) (C := RX1) (T := TX1) (N := 2) hx hb hts kX1_swap_0 hown hK hP 0 rfl rfl 1 (by decide) (hts (.fieldLink RX1 13 "FoldRow" "values" "[J") kX1_swap_2) (fun _ h9 => h9) rfl dX1_swap_36 ?_
      refine lv_iload_n hx hb dX1_swap_39 rfl (lv_at hl 3 rfl) ?_
      refine lv_aload_n hx hb dX1_swap_40 rfl (lv_at hl 2 rfl) ?_
      refine va_get (D := (dC, dI)) (ci := 1) (v := .ref b) (C := RX1) (T := TX1) (N := 2) hx hb hts kX1_swap_0 hown hK hP 0 rfl rfl 1 (by decide) (hts (.fieldLink RX1 13 "FoldRow" "values" "[J") kX1_swap_2) (fun _ h9 => h9) rfl dX1_swap_41 ?_
      refine lv_iload_n hx hb dX1_swap_44 rfl (lv_at hl 4 rfl) ?_
      refine va_lald hx hb hK hP 2 1 rfl rfl (in_P h_4) dX1_swap_45 ?_
      refine lv_topl (fun v_8 ev_8 => ?_)
      refine va_last hx hb hK hP hD hS 2 1 rfl rfl (in_P h_2) dX1_swap_46 (fun H locs hP hD hS => ?_)
      have hP : va_P (dC, dI) vwCl [(h0, .inr (1, [.ref a, .ref b])), (a, .inl (cI, 256, .inl (upd kf i.toNatClampNeg v_7))), (b, .inl (cJ, 256, .inr (.inl (vp_updL vf i.toNatClampNeg v_8))))] H := hP
      have hD : va_D A [(h0, .inr (1, [.ref a, .ref b])), (a, .inl (cI, 256, .inl (upd kf i.toNatClampNeg v_7))), (b, .inl (cJ, 256, .inr (.inl (vp_updL vf i.toNatClampNeg v_8))))] := hD
      refine lv_aload_n hx hb dX1_swap_47 rfl (lv_at hl 2 rfl) ?_
      refine va_get (D := (dC, dI)) (ci := 1) (v := .ref a) (C := RX1) (T := TX1) (N := 2) hx hb hts kX1_swap_0 hown hK hP 0 rfl rfl 0 (by decide) (hts (.fieldLink RX1 9 "FoldRow" "kinds" "[I") kX1_swap_1) (fun _ h9 => h9) rfl dX1_swap_48 ?_
      refine lv_iload_n hx hb dX1_swap_51 rfl (lv_at hl 4 rfl) ?_
      refine lv_iload_n hx hb dX1_swap_52 rfl (lv_at hl 1 rfl) ?_
      refine va_iast hx hb hK hP hD hS 1 0 rfl rfl (in_P h_4) dX1_swap_53 (fun H locs hP hD hS => ?_)
      have hP : va_P (dC, dI) vwCl [(h0, .inr (1, [.ref a, .ref b])), (a, .inl (cI, 256, .inl (upd (upd kf i.toNatClampNeg v_7) k.toNatClampNeg v_5))), (b, .inl (cJ, 256, .inr (.inl (vp_updL vf i.toNatClampNeg v_8))))] H := hP
      have hD : va_D A [(h0, .inr (1, [.ref a, .ref b])), (a, .inl (cI, 256, .inl (upd (upd kf i.toNatClampNeg v_7) k.toNatClampNeg v_5))), (b, .inl (cJ, 256, .inr (.inl (vp_updL vf i.toNatClampNeg v_8))))] := hD
      refine lv_aload_n hx hb dX1_swap_54 rfl (lv_at hl 2 rfl) ?_
      refine va_get (D := (dC, dI)) (ci := 1) (v := .ref b) (C := RX1) (T := TX1) (N := 2) hx hb hts kX1_swap_0 hown hK hP 0 rfl rfl 1 (by decide) (hts (.fieldLink RX1 13 "FoldRow" "values" "[J") kX1_swap_2) (fun _ h9 => h9) rfl dX1_swap_55 ?_
      refine lv_iload_n hx hb dX1_swap_58 rfl (lv_at hl 4 rfl) ?_
      refine lv_lload hx hb dX1_swap_59 (lv_at hl 0 rfl) ?_
      refine va_last hx hb hK hP hD hS 2 1 rfl rfl (in_P h_4) dX1_swap_61 (fun H locs hP hD hS => ?_)
      have hP : va_P (dC, dI) vwCl [(h0, .inr (1, [.ref a, .ref b])), (a, .inl (cI, 256, .inl (upd (upd kf i.toNatClampNeg v_7) k.toNatClampNeg v_5))), (b, .inl (cJ, 256, .inr (.inl (vp_updL (vp_updL vf i.toNatClampNeg v_8) k.toNatClampNeg v_6))))] H := hP
      have hD : va_D A [(h0, .inr (1, [.ref a, .ref b])), (a, .inl (cI, 256, .inl (upd (upd kf i.toNatClampNeg v_7) k.toNatClampNeg v_5))), (b, .inl (cJ, 256, .inr (.inl (vp_updL (vp_updL vf i.toNatClampNeg v_8) k.toNatClampNeg v_6))))] := hD
      have hP9 := hP.sub (ws' := [(h0, .inr (1, [.ref a, .ref b])), (a, .inl (cI, 256, .inl (upd (upd kf i.toNatClampNeg v_7) k.toNatClampNeg v_5))), (b, .inl (cJ, 256, .inr (.inl (vp_updL (vp_updL vf i.toNatClampNeg v_8) k.toNatClampNeg v_6))))]) [0, 1, 2] rfl
      have hD9 := hD.sub (ws' := [(h0, .inr (1, [.ref a, .ref b])), (a, .inl (cI, 256, .inl (upd (upd kf i.toNatClampNeg v_7) k.toNatClampNeg v_5))), (b, .inl (cJ, 256, .inr (.inl (vp_updL (vp_updL vf i.toNatClampNeg v_8) k.toNatClampNeg v_6))))]) [0, 1, 2] (by decide) rfl
      have hK9 := hK.sub (tys' := [(cI, .int), (cJ, .long)]) [0, 1] rfl
      refine vx_ret ?_
      refine W.widen (k := 2) (n := 12) (Nat.le_of_ble_eq_true rfl) (Nat.le_of_ble_eq_true rfl) ?_
      exact W.vret hx hb hr (fun t9 ht hW => ⟨⟨(upd (upd kf i.toNatClampNeg v_7) k.toNatClampNeg v_5, vp_updL (vp_updL vf i.toNatClampNeg v_8) k.toNatClampNeg v_6), rfl, ⟨⟨h_2, h_4⟩, by simp only [ev_5, ev_6, ev_7, ev_8]⟩, by rw [ht]; exact hP9, va_K.moved hW.alike hK9, hD9⟩, hS.F ht⟩) hS.2.2 dX1_swap_62
end
section
set_option maxHeartbeats 4000000 in
set_option maxRecDepth 100000 in
theorem qX1_fold (l : Launch) (hlt : l.stackTraces = false) (dC : Nat → ClassId) (dI : Nat → Nat → Nat) (sz : Nat) (h0 a b : Nat) (cI cJ : ClassId) (kf : Nat → Int32) (vf : Nat → Int64) (f t : Int32) (x : Int64)  : vx_Met l yX1_fold wsX1_fold ({ frames := 7, cells := 3, slots := 17, locals := 120 }) (va_Pc [.ref h0, .int f, .int t, .long x] (fun U => U.heap.size = sz ∧ va_P (dC, dI) vwCl [(h0, .inr (1, [.ref a, .ref b])), (a, .inl (cI, 256, .inl kf)), (b, .inl (cJ, 256, .inr (.inl vf)))] U.heap ∧ va_K (dC, dI) vwCl [(cI, .int), (cJ, .long)] U ∧ va_D (fun _ => True) [(h0, .inr (1, [.ref a, .ref b])), (a, .inl (cI, 256, .inl kf)), (b, .inl (cJ, 256, .inr (.inl vf)))] ∧ ev U ∧ ez (va_A [(h0, .inr (1, [.ref a, .ref b])), (a, .inl (cI, 256, .inl kf)), (b, .inl (cJ, 256, .inr (.inl vf)))] sz) U U.heap)) (va_Ql (fun (r : Int64) (u : Unit) => (okX x ∧ okW f t ∧ r = e_on (eW kf vf f t) x)) (fun (u : Unit) (t9 : State) => va_P (dC, dI) vwCl [(h0, .inr (1, [.ref a, .ref b])), (a, .inl (cI, 256, .inl kf)), (b, .inl (cJ, 256, .inr (.inl vf)))] t9.heap ∧ va_K (dC, dI) vwCl [(cI, .int), (cJ, .long)] t9 ∧ va_D (va_A [(h0, .inr (1, [.ref a, .ref b])), (a, .inl (cI, 256, .inl kf)), (b, .inl (cJ, 256, .inr (.inl vf)))] sz) [(h0, .inr (1, [.ref a, .ref b])), (a, .inl (cI, 256, .inl kf)), (b, .inl (cJ, 256, .inr (.inl vf)))]) (va_A [(h0, .inr (1, [.ref a, .ref b])), (a, .inl (cI, 256, .inl kf)), (b, .inl (cJ, 256, .inr (.inl vf)))] sz)) (vx_X (fun _ : Unit => True) (fun (E : String) (_ : Unit) (t9 : State) => ((E = IAE ∧ ¬ okX x) ∨ (E = IOB ∧ okX x ∧ ¬ okW f t)) ∧ va_P (dC, dI) vwCl [(h0, .inr (1, [.ref a, .ref b])), (a, .inl (cI, 256, .inl kf)), (b, .inl (cJ, 256, .inr (.inl vf)))] t9.heap ∧ va_K (dC, dI) vwCl [(cI, .int), (cJ, .long)] t9 ∧ va_D (va_A [(h0, .inr (1, [.ref a, .ref b])), (a, .inl (cI, 256, .inl kf)), (b, .inl (cJ, 256, .inr (.inl vf)))] sz) [(h0, .inr (1, [.ref a, .ref b])), (a, .inl (cI, 256, .inl kf)), (b, .inl (cJ, 256, .inr (.inl vf)))]) (va_A [(h0, .inr (1, [.ref a, .ref b])), (a, .inl (cI, 256, .inl kf)), (b, .inl (cJ, 256, .inr (.inl vf)))] sz)) 3 17 (va_A [(h0, .inr (1, [.ref a, .ref b])), (a, .inl (cI, 256, .inl kf)), (b, .inl (cJ, 256, .inr (.inl vf)))] sz) := by
  refine vx_ofW (cc := cX1_fold) (maxL := 5) (ret := (some .long)) (by decide) rfl ?_
  intro p e s m args below meth c s₁ B hml htb hv
  obtain ⟨rfl, hsz, hP, hK, hD0, hE, hZ⟩ := hv
  have hx := B.exec
  have hb := B.bytes
  have hr := B.returns
  have hts := atoms_spec (ws := wsX1_fold) B.pre
  have hown : s.vm.findClass RX1 = some m.cls := findClass_of_methodNamed B.named
  have hlocks := B.notSynchronized
  subst hsz
  have hD := hD0.self (sz := s.heap.size)
  generalize hAe : va_A [(h0, .inr (1, [.ref a, .ref b])), (a, .inl (cI, 256, .inl kf)), (b, .inl (cJ, 256, .inr (.inl vf)))] s.heap.size = A at hD hZ ⊢
  have hA : ∀ q : Nat, s.heap.size ≤ q → A q := fun q h => by rw [← hAe]; exact Or.inr h
  have hS : va_S A s.heap s.heap [] := va_S.rf
  have hP : va_P (dC, dI) vwCl [(h0, .inr (1, [.ref a, .ref b])), (a, .inl (cI, 256, .inl kf)), (b, .inl (cJ, 256, .inr (.inl vf)))] s.heap := hP
  have hl := lv_entry ([.ref h0, .int f, .int t, .long x]) (n := 5) (Nat.le_of_ble_eq_true rfl)
  rw [lg_entry_eq]
  generalize (lg_sl ([.ref h0, .int f, .int t, .long x]) ++ List.replicate (5 - (lg_sl ([.ref h0, .int f, .int t, .long x])).length) Slot.unset).toArray = ls at hl ⊢
  have hl : lv_has ls 5 [(0, .ref h0), (1, .int f), (2, .int t), (3, .long x)] := hl
  refine lv_lload_n hx hb dX1_fold_0 rfl (lv_at hl 3 rfl) ?_
  have hPc := hP.sub (ws' := []) [] rfl
  have hDc := hD.sub (ws' := []) [] (by decide) rfl
  have hKc := hK.sub (tys' := []) [] rfl
  have hFc := va_free (wc := []) hD hS hA [] rfl
  refine vx_callv (vx_runS (As := [.long x]) (rest := []) ⟨hx, hb, hml, hown, hts⟩ (qX1_checkNumber l hlt dC dI s.heap.size x) (va_cwS 1 hts gX1_fold_X1_checkNumber rfl rfl rfl (by decide +kernel) ⟨Nat.le_of_ble_eq_true rfl, Nat.le_of_ble_eq_true rfl⟩) ⟨fun a U g mk q => by obtain ⟨q0, q1, qP, qK, qD, qE, qZ⟩ := q; exact ⟨q0, q1, qP, va_K.moved (u := U) (U := U.calling g mk a) (Vm.Alike.refl U.vm) qK, qD, ev.same (u := U) rfl qE, ez.moved (U := U.calling g mk a) qZ (Vm.Alike.refl U.vm)⟩, fun U hU hW => ⟨rfl, by rw [hU], by rw [hU]; exact hPc, va_K.moved hW.alike hKc, hDc.weaken (fun _ _ _ _ => trivial), hE.warm hW, by rw [hU]; exact ((hZ.kept hS.2.1).narrow hFc).moved hW.alike⟩⟩ rfl rfl hl.1 rfl (lv_room (Nat.le_of_ble_eq_true rfl)) dX1_fold_1 ⟨Nat.le_of_ble_eq_true rfl, Nat.le_of_ble_eq_true rfl⟩) hS (fun q _ h => hFc q h) hFc (fun q _ h => hFc q h) (fun E ce q9 u t9 H1 locs ht hvm hw hB hz1 hk1 hS hce hcv hcl => ?_) (fun u t9 H1 locs ht hvm hw hB hz1 hk1 hS => ?_)
  · obtain ⟨hex, hP1, hK1, hD1⟩ := hB
    rw [ht] at hP1
    have hK1 := va_K.moved hvm.symm hK1
    obtain ⟨hP, hD⟩ := va_join (wr := [(h0, .inr (1, [.ref a, .ref b])), (a, .inl (cI, 256, .inl kf)), (b, .inl (cJ, 256, .inr (.inl vf)))]) (w1 := []) hP hD [] [0, 1, 2] rfl rfl (by decide) (by decide) hk1 hFc hP1 hD1
    have hK := (hK.sub (tys' := [(cI, .int), (cJ, .long)]) [0, 1] rfl).app hK1
    generalize H1 = H at hP hS hce ⊢
    have hP : va_P (dC, dI) vwCl [(h0, .inr (1, [.ref a, .ref b])), (a, .inl (cI, 256, .inl kf)), (b, .inl (cJ, 256, .inr (.inl vf)))] H := hP
    have hD : va_D A [(h0, .inr (1, [.ref a, .ref b])), (a, .inl (cI, 256, .inl kf)), (b, .inl (cJ, 256, .inr (.inl vf)))] := hD
    have hK : va_K (dC, dI) vwCl [(cI, .int), (cJ, .long)] s := hK
    refine vx_widen (k := 1) (n := 6) (Nat.le_of_ble_eq_true rfl) (Nat.le_of_ble_eq_true rfl) ?_
    have hP9 := hP.sub (ws' := [(h0, .inr (1, [.ref a, .ref b])), (a, .inl (cI, 256, .inl kf)), (b, .inl (cJ, 256, .inr (.inl vf)))]) [0, 1, 2] rfl
    have hD9 := hD.sub (ws' := [(h0, .inr (1, [.ref a, .ref b])), (a, .inl (cI, 256, .inl kf)), (b, .inl (cJ, 256, .inr (.inl vf)))]) [0, 1, 2] (by decide) rfl
    have hK9 := hK.sub (tys' := [(cI, .int), (cJ, .long)]) [0, 1] rfl
    exact vx_out (fun x hx => (htb x hx).elim) hlocks hce hcv hcl (fun t9 ht hvm => ⟨(), trivial, ⟨Or.inl hex, by rw [ht]; exact hP9, va_K.moved hvm hK9, hD9⟩, hS.F ht⟩) hS.2.2 (Nat.le_of_ble_eq_true rfl) (Nat.le_of_ble_eq_true rfl)
  · obtain ⟨hP1, hK1, hD1⟩ := hB
    rw [ht] at hP1
    have h_2 := hw
    have hK1 := va_K.moved hvm.symm hK1
    obtain ⟨hP, hD⟩ := va_join (wr := [(h0, .inr (1, [.ref a, .ref b])), (a, .inl (cI, 256, .inl kf)), (b, .inl (cJ, 256, .inr (.inl vf)))]) (w1 := []) hP hD [] [0, 1, 2] rfl rfl (by decide) (by decide) hk1 hFc hP1 hD1
    have hK := (hK.sub (tys' := [(cI, .int), (cJ, .long)]) [0, 1] rfl).app hK1
    generalize H1 = H at hP hS ⊢
    have hP : va_P (dC, dI) vwCl [(h0, .inr (1, [.ref a, .ref b])), (a, .inl (cI, 256, .inl kf)), (b, .inl (cJ, 256, .inr (.inl vf)))] H := hP
    have hD : va_D A [(h0, .inr (1, [.ref a, .ref b])), (a, .inl (cI, 256, .inl kf)), (b, .inl (cJ, 256, .inr (.inl vf)))] := hD
    have hK : va_K (dC, dI) vwCl [(cI, .int), (cJ, .long)] s := hK
    refine W.widen (k := 1) (n := 6) (Nat.le_of_ble_eq_true rfl) (Nat.le_of_ble_eq_true rfl) ?_
    refine lv_iload_n hx hb dX1_fold_4 rfl (lv_at hl 1 rfl) ?_
    refine lv_iload_n hx hb dX1_fold_5 rfl (lv_at hl 2 rfl) ?_
    have hPc := hP.sub (ws' := []) [] rfl
    have hDc := hD.sub (ws' := []) [] (by decide) rfl
    have hKc := hK.sub (tys' := []) [] rfl
    have hFc := va_free (wc := []) hD hS hA [] rfl
    refine vx_callv (vx_runS (As := [.int f, .int t]) (rest := []) ⟨hx, hb, hml, hown, hts⟩ (qX1_checkPart l hlt dC dI H.size f t) (va_cwS 2 hts gX1_fold_X1_checkPart rfl rfl rfl (by decide +kernel) ⟨Nat.le_of_ble_eq_true rfl, Nat.le_of_ble_eq_true rfl⟩) ⟨fun a U g mk q => by obtain ⟨q0, q1, qP, qK, qD, qE, qZ⟩ := q; exact ⟨q0, q1, qP, va_K.moved (u := U) (U := U.calling g mk a) (Vm.Alike.refl U.vm) qK, qD, ev.same (u := U) rfl qE, ez.moved (U := U.calling g mk a) qZ (Vm.Alike.refl U.vm)⟩, fun U hU hW => ⟨rfl, by rw [hU], by rw [hU]; exact hPc, va_K.moved hW.alike hKc, hDc.weaken (fun _ _ _ _ => trivial), hE.warm hW, by rw [hU]; exact ((hZ.kept hS.2.1).narrow hFc).moved hW.alike⟩⟩ rfl rfl hl.1 rfl (lv_room (Nat.le_of_ble_eq_true rfl)) dX1_fold_6 ⟨Nat.le_of_ble_eq_true rfl, Nat.le_of_ble_eq_true rfl⟩) hS (fun q _ h => hFc q h) hFc (fun q _ h => hFc q h) (fun E ce q9 u t9 H1 locs ht hvm hw hB hz1 hk1 hS hce hcv hcl => ?_) (fun u t9 H1 locs ht hvm hw hB hz1 hk1 hS => ?_)
    · obtain ⟨hex, hP1, hK1, hD1⟩ := hB
      rw [ht] at hP1
      have hK1 := va_K.moved hvm.symm hK1
      obtain ⟨hP, hD⟩ := va_join (wr := [(h0, .inr (1, [.ref a, .ref b])), (a, .inl (cI, 256, .inl kf)), (b, .inl (cJ, 256, .inr (.inl vf)))]) (w1 := []) hP hD [] [0, 1, 2] rfl rfl (by decide) (by decide) hk1 hFc hP1 hD1
      have hK := (hK.sub (tys' := [(cI, .int), (cJ, .long)]) [0, 1] rfl).app hK1
      generalize H1 = H at hP hS hce ⊢
      have hP : va_P (dC, dI) vwCl [(h0, .inr (1, [.ref a, .ref b])), (a, .inl (cI, 256, .inl kf)), (b, .inl (cJ, 256, .inr (.inl vf)))] H := hP
      have hD : va_D A [(h0, .inr (1, [.ref a, .ref b])), (a, .inl (cI, 256, .inl kf)), (b, .inl (cJ, 256, .inr (.inl vf)))] := hD
      have hK : va_K (dC, dI) vwCl [(cI, .int), (cJ, .long)] s := hK
      refine vx_widen (k := 2) (n := 12) (Nat.le_of_ble_eq_true rfl) (Nat.le_of_ble_eq_true rfl) ?_
      have hP9 := hP.sub (ws' := [(h0, .inr (1, [.ref a, .ref b])), (a, .inl (cI, 256, .inl kf)), (b, .inl (cJ, 256, .inr (.inl vf)))]) [0, 1, 2] rfl
      have hD9 := hD.sub (ws' := [(h0, .inr (1, [.ref a, .ref b])), (a, .inl (cI, 256, .inl kf)), (b, .inl (cJ, 256, .inr (.inl vf)))]) [0, 1, 2] (by decide) rfl
      have hK9 := hK.sub (tys' := [(cI, .int), (cJ, .long)]) [0, 1] rfl
      exact vx_out (fun x hx => (htb x hx).elim) hlocks hce hcv hcl (fun t9 ht hvm => ⟨(), trivial, ⟨Or.inr ⟨hex.1, h_2, hex.2⟩, by rw [ht]; exact hP9, va_K.moved hvm hK9, hD9⟩, hS.F ht⟩) hS.2.2 (Nat.le_of_ble_eq_true rfl) (Nat.le_of_ble_eq_true rfl)
    · obtain ⟨hP1, hK1, hD1⟩ := hB
      rw [ht] at hP1
      have h_4 := hw
      have hK1 := va_K.moved hvm.symm hK1
      obtain ⟨hP, hD⟩ := va_join (wr := [(h0, .inr (1, [.ref a, .ref b])), (a, .inl (cI, 256, .inl kf)), (b, .inl (cJ, 256, .inr (.inl vf)))]) (w1 := []) hP hD [] [0, 1, 2] rfl rfl (by decide) (by decide) hk1 hFc hP1 hD1
      have hK := (hK.sub (tys' := [(cI, .int), (cJ, .long)]) [0, 1] rfl).app hK1
      generalize H1 = H at hP hS ⊢
      have hP : va_P (dC, dI) vwCl [(h0, .inr (1, [.ref a, .ref b])), (a, .inl (cI, 256, .inl kf)), (b, .inl (cJ, 256, .inr (.inl vf)))] H := hP
      have hD : va_D A [(h0, .inr (1, [.ref a, .ref b])), (a, .inl (cI, 256, .inl kf)), (b, .inl (cJ, 256, .inr (.inl vf)))] := hD
      have hK : va_K (dC, dI) vwCl [(cI, .int), (cJ, .long)] s := hK
      refine W.widen (k := 2) (n := 12) (Nat.le_of_ble_eq_true rfl) (Nat.le_of_ble_eq_true rfl) ?_
      refine lv_aload_n hx hb dX1_fold_9 rfl (lv_at hl 0 rfl) ?_
      refine lv_iload_n hx hb dX1_fold_10 rfl (lv_at hl 1 rfl) ?_
      refine lv_iload_n hx hb dX1_fold_11 rfl (lv_at hl 2 rfl) ?_
      have hPc := hP.sub (ws' := [(h0, .inr (1, [.ref a, .ref b])), (a, .inl (cI, 256, .inl kf)), (b, .inl (cJ, 256, .inr (.inl vf)))]) [0, 1, 2] rfl
      have hDc := hD.sub (ws' := [(h0, .inr (1, [.ref a, .ref b])), (a, .inl (cI, 256, .inl kf)), (b, .inl (cJ, 256, .inr (.inl vf)))]) [0, 1, 2] (by decide) rfl
      have hKc := hK.sub (tys' := [(cI, .int), (cJ, .long)]) [0, 1] rfl
      have hFc := va_free (wc := [(h0, .inr (1, [.ref a, .ref b])), (a, .inl (cI, 256, .inl kf)), (b, .inl (cJ, 256, .inr (.inl vf)))]) hD hS hA [0, 1, 2] rfl
      refine va_callr (va_runV (As := [.int f, .int t]) (rest := []) ⟨hx, hb, hml, hown, hts⟩ (qX1_effectOf l hlt dC dI H.size h0 a b cI cJ kf vf f t h_4) (cwV 2 hts gX1_fold_X1_effectOf rfl rfl rfl (by decide +kernel) ⟨Nat.le_of_ble_eq_true rfl, Nat.le_of_ble_eq_true rfl⟩) ⟨fun a U g mk q => by obtain ⟨q0, q1, qP, qK, qD, qE, qZ⟩ := q; exact ⟨q0, q1, qP, va_K.moved (u := U) (U := U.calling g mk a) (Vm.Alike.refl U.vm) qK, qD, ev.same (u := U) rfl qE, ez.moved (U := U.calling g mk a) qZ (Vm.Alike.refl U.vm)⟩, va_recv hKc hPc (ci := 1) (q0 := 0) rfl rfl, fun U hU hW => ⟨rfl, by rw [hU], by rw [hU]; exact hPc, va_K.moved hW.alike hKc, hDc.weaken (fun _ _ _ _ => trivial), hE.warm hW, by rw [hU]; exact ((hZ.kept hS.2.1).narrow hFc).moved hW.alike⟩⟩ rfl rfl hl.1 rfl (lv_room (Nat.le_of_ble_eq_true rfl)) dX1_fold_12 ⟨Nat.le_of_ble_eq_true rfl, Nat.le_of_ble_eq_true rfl⟩) hS (fun q _ h => hFc q h) hFc (fun u r_5 t9 H1 locs ht hvm hw hB hz1 hk1 hS => ?_)
      obtain ⟨hP1, hK1, hD1⟩ := hB
      rw [ht] at hP1
      obtain rfl := hw
      have hK1 := va_K.moved hvm.symm hK1
      obtain ⟨hP, hD⟩ := va_join (wr := []) (w1 := [(h0, .inr (1, [.ref a, .ref b])), (a, .inl (cI, 256, .inl kf)), (b, .inl (cJ, 256, .inr (.inl vf))), (r_5, .inr (0, [.long ((eW kf vf f t).1), .int ((eW kf vf f t).2.1), .long ((eW kf vf f t).2.2.1), .int ((eW kf vf f t).2.2.2.1), .long ((eW kf vf f t).2.2.2.2)]))]) hP hD [0, 1, 2] [] rfl rfl (by decide) (by decide) hk1 hFc hP1 hD1
      have hK := (hK.sub (tys' := []) [] rfl).app hK1
      generalize H1 = H at hP hS ⊢
      have hP : va_P (dC, dI) vwCl [(h0, .inr (1, [.ref a, .ref b])), (a, .inl (cI, 256, .inl kf)), (b, .inl (cJ, 256, .inr (.inl vf))), (r_5, .inr (0, [.long ((eW kf vf f t).1), .int ((eW kf vf f t).2.1), .long ((eW kf vf f t).2.2.1), .int ((eW kf vf f t).2.2.2.1), .long ((eW kf vf f t).2.2.2.2)]))] H := hP
      have hD : va_D A [(h0, .inr (1, [.ref a, .ref b])), (a, .inl (cI, 256, .inl kf)), (b, .inl (cJ, 256, .inr (.inl vf))), (r_5, .inr (0, [.long ((eW kf vf f t).1), .int ((eW kf vf f t).2.1), .long ((eW kf vf f t).2.2.1), .int ((eW kf vf f t).2.2.2.1), .long ((eW kf vf f t).2.2.2.2)]))] := hD
      have hK : va_K (dC, dI) vwCl [(cI, .int), (cJ, .long)] s := hK
      refine W.widen (k := 3) (n := 17) (Nat.le_of_ble_eq_true rfl) (Nat.le_of_ble_eq_true rfl) ?_
      refine lv_lload_n hx hb dX1_fold_15 rfl (lv_at hl 3 rfl) ?_
      have hPc := hP.sub (ws' := [(r_5, .inr (0, [.long ((eW kf vf f t).1), .int ((eW kf vf f t).2.1), .long ((eW kf vf f t).2.2.1), .int ((eW kf vf f t).2.2.2.1), .long ((eW kf vf f t).2.2.2.2)]))]) [3] rfl
      have hDc := hD.sub (ws' := [(r_5, .inr (0, [.long ((eW kf vf f t).1), .int ((eW kf vf f t).2.1), .long ((eW kf vf f t).2.2.1), .int ((eW kf vf f t).2.2.2.1), .long ((eW kf vf f t).2.2.2.2)]))]) [3] (by decide) rfl
      have hKc := hK.sub (tys' := []) [] rfl
      have hFc := va_free (wc := [(r_5, .inr (0, [.long ((eW kf vf f t).1), .int ((eW kf vf f t).2.1), .long ((eW kf vf f t).2.2.1), .int ((eW kf vf f t).2.2.2.1), .long ((eW kf vf f t).2.2.2.2)]))]) hD hS hA [3] rfl
      refine va_calll (va_runV (As := [.long x]) (rest := []) ⟨hx, hb, hml, hown, hts⟩ (qX0_on l dC dI H.size r_5 (eW kf vf f t) x) (cwV 1 hts gX1_fold_X0_on rfl rfl rfl (by decide +kernel) ⟨Nat.le_of_ble_eq_true rfl, Nat.le_of_ble_eq_true rfl⟩) ⟨fun a U g mk q => by obtain ⟨q0, q1, qP, qK, qD⟩ := q; exact ⟨q0, q1, qP, va_K.moved (u := U) (U := U.calling g mk a) (Vm.Alike.refl U.vm) qK, qD⟩, va_recv hKc hPc (ci := 0) (q0 := 0) rfl rfl, fun U hU hW => ⟨rfl, by rw [hU], by rw [hU]; exact hPc, va_K.moved hW.alike hKc, hDc.weaken (fun _ _ _ _ => trivial)⟩⟩ rfl rfl hl.1 rfl (lv_room (Nat.le_of_ble_eq_true rfl)) dX1_fold_16 ⟨Nat.le_of_ble_eq_true rfl, Nat.le_of_ble_eq_true rfl⟩) hS (fun q _ h => hFc q h) hFc (fun r_7 u t9 H1 locs ht hvm hw hB hz1 hk1 hS => ?_)
      obtain ⟨hP1, hK1, hD1⟩ := hB
      rw [ht] at hP1
      have h_8 := hw
      have hK1 := va_K.moved hvm.symm hK1
      obtain ⟨hP, hD⟩ := va_join (wr := [(h0, .inr (1, [.ref a, .ref b])), (a, .inl (cI, 256, .inl kf)), (b, .inl (cJ, 256, .inr (.inl vf)))]) (w1 := [(r_5, .inr (0, [.long ((eW kf vf f t).1), .int ((eW kf vf f t).2.1), .long ((eW kf vf f t).2.2.1), .int ((eW kf vf f t).2.2.2.1), .long ((eW kf vf f t).2.2.2.2)]))]) hP hD [3] [0, 1, 2] rfl rfl (by decide) (by decide) hk1 hFc hP1 hD1
      have hK := (hK.sub (tys' := [(cI, .int), (cJ, .long)]) [0, 1] rfl).app hK1
      generalize H1 = H at hP hS ⊢
      have hP : va_P (dC, dI) vwCl [(h0, .inr (1, [.ref a, .ref b])), (a, .inl (cI, 256, .inl kf)), (b, .inl (cJ, 256, .inr (.inl vf))), (r_5, .inr (0, [.long ((eW kf vf f t).1), .int ((eW kf vf f t).2.1), .long ((eW kf vf f t).2.2.1), .int ((eW kf vf f t).2.2.2.1), .long ((eW kf vf f t).2.2.2.2)]))] H := hP
      have hD : va_D A [(h0, .inr (1, [.ref a, .ref b])), (a, .inl (cI, 256, .inl kf)), (b, .inl (cJ, 256, .inr (.inl vf))), (r_5, .inr (0, [.long ((eW kf vf f t).1), .int ((eW kf vf f t).2.1), .long ((eW kf vf f t).2.2.1), .int ((eW kf vf f t).2.2.2.1), .long ((eW kf vf f t).2.2.2.2)]))] := hD
      have hK : va_K (dC, dI) vwCl [(cI, .int), (cJ, .long)] s := hK
      refine W.widen (k := 3) (n := 17) (Nat.le_of_ble_eq_true rfl) (Nat.le_of_ble_eq_true rfl) ?_
      have hP9 := hP.sub (ws' := [(h0, .inr (1, [.ref a, .ref b])), (a, .inl (cI, 256, .inl kf)), (b, .inl (cJ, 256, .inr (.inl vf)))]) [0, 1, 2] rfl
      have hD9 := hD.sub (ws' := [(h0, .inr (1, [.ref a, .ref b])), (a, .inl (cI, 256, .inl kf)), (b, .inl (cJ, 256, .inr (.inl vf)))]) [0, 1, 2] (by decide) rfl
      have hK9 := hK.sub (tys' := [(cI, .int), (cJ, .long)]) [0, 1] rfl
      refine vx_ret ?_
      refine W.widen (k := 3) (n := 17) (Nat.le_of_ble_eq_true rfl) (Nat.le_of_ble_eq_true rfl) ?_
      exact W.lret (v := r_7) hx hb hr (fun t9 ht hW => ⟨⟨r_7, (), rfl, ⟨h_2, h_4, h_8⟩, by rw [ht]; exact hP9, va_K.moved hW.alike hK9, hD9⟩, hS.F ht⟩) hS.2.2 dX1_fold_19

set_option maxHeartbeats 4000000 in
set_option maxRecDepth 100000 in
theorem qX1_again (l : Launch) (hlt : l.stackTraces = false) (dC : Nat → ClassId) (dI : Nat → Nat → Nat) (sz : Nat) (h0 a b : Nat) (cI cJ : ClassId) (kf : Nat → Int32) (vf : Nat → Int64) (f t : Int32) (x : Int64) (n : Int32)  : vx_Met l yX1_again wsX1_again ({ frames := 7, cells := 4, slots := 23, locals := 120 }) (va_Pc [.ref h0, .int f, .int t, .long x, .int n] (fun U => U.heap.size = sz ∧ va_P (dC, dI) vwCl [(h0, .inr (1, [.ref a, .ref b])), (a, .inl (cI, 256, .inl kf)), (b, .inl (cJ, 256, .inr (.inl vf)))] U.heap ∧ va_K (dC, dI) vwCl [(cI, .int), (cJ, .long)] U ∧ va_D (fun _ => True) [(h0, .inr (1, [.ref a, .ref b])), (a, .inl (cI, 256, .inl kf)), (b, .inl (cJ, 256, .inr (.inl vf)))] ∧ ev U ∧ ez (va_A [(h0, .inr (1, [.ref a, .ref b])), (a, .inl (cI, 256, .inl kf)), (b, .inl (cJ, 256, .inr (.inl vf)))] sz) U U.heap)) (va_Ql (fun (r : Int64) (u : Unit) => (okX x ∧ okN n ∧ okW f t ∧ r = e_it (eW kf vf f t) x n.toNatClampNeg)) (fun (u : Unit) (t9 : State) => va_P (dC, dI) vwCl [(h0, .inr (1, [.ref a, .ref b])), (a, .inl (cI, 256, .inl kf)), (b, .inl (cJ, 256, .inr (.inl vf)))] t9.heap ∧ va_K (dC, dI) vwCl [(cI, .int), (cJ, .long)] t9 ∧ va_D (va_A [(h0, .inr (1, [.ref a, .ref b])), (a, .inl (cI, 256, .inl kf)), (b, .inl (cJ, 256, .inr (.inl vf)))] sz) [(h0, .inr (1, [.ref a, .ref b])), (a, .inl (cI, 256, .inl kf)), (b, .inl (cJ, 256, .inr (.inl vf)))]) (va_A [(h0, .inr (1, [.ref a, .ref b])), (a, .inl (cI, 256, .inl kf)), (b, .inl (cJ, 256, .inr (.inl vf)))] sz)) (vx_X (fun _ : Unit => True) (fun (E : String) (_ : Unit) (t9 : State) => ((E = IAE ∧ ¬ (okX x ∧ okN n)) ∨ (E = IOB ∧ (okX x ∧ okN n) ∧ ¬ okW f t)) ∧ va_P (dC, dI) vwCl [(h0, .inr (1, [.ref a, .ref b])), (a, .inl (cI, 256, .inl kf)), (b, .inl (cJ, 256, .inr (.inl vf)))] t9.heap ∧ va_K (dC, dI) vwCl [(cI, .int), (cJ, .long)] t9 ∧ va_D (va_A [(h0, .inr (1, [.ref a, .ref b])), (a, .inl (cI, 256, .inl kf)), (b, .inl (cJ, 256, .inr (.inl vf)))] sz) [(h0, .inr (1, [.ref a, .ref b])), (a, .inl (cI, 256, .inl kf)), (b, .inl (cJ, 256, .inr (.inl vf)))]) (va_A [(h0, .inr (1, [.ref a, .ref b])), (a, .inl (cI, 256, .inl kf)), (b, .inl (cJ, 256, .inr (.inl vf)))] sz)) 4 23 (va_A [(h0, .inr (1, [.ref a, .ref b])), (a, .inl (cI, 256, .inl kf)), (b, .inl (cJ, 256, .inr (.inl vf)))] sz) := by
  refine vx_ofW (cc := cX1_again) (maxL := 10) (ret := (some .long)) (by decide) rfl ?_
  intro p e s m args below meth c s₁ B hml htb hv
  obtain ⟨rfl, hsz, hP, hK, hD0, hE, hZ⟩ := hv
  have hx := B.exec
  have hb := B.bytes
  have hr := B.returns
  have hts := atoms_spec (ws := wsX1_again) B.pre
  have hown : s.vm.findClass RX1 = some m.cls := findClass_of_methodNamed B.named
  have hlocks := B.notSynchronized
  subst hsz
  have hD := hD0.self (sz := s.heap.size)
  generalize hAe : va_A [(h0, .inr (1, [.ref a, .ref b])), (a, .inl (cI, 256, .inl kf)), (b, .inl (cJ, 256, .inr (.inl vf)))] s.heap.size = A at hD hZ ⊢
  have hA : ∀ q : Nat, s.heap.size ≤ q → A q := fun q h => by rw [← hAe]; exact Or.inr h
  have hS : va_S A s.heap s.heap [] := va_S.rf
  have hP : va_P (dC, dI) vwCl [(h0, .inr (1, [.ref a, .ref b])), (a, .inl (cI, 256, .inl kf)), (b, .inl (cJ, 256, .inr (.inl vf)))] s.heap := hP
  have hl := lv_entry ([.ref h0, .int f, .int t, .long x, .int n]) (n := 10) (Nat.le_of_ble_eq_true rfl)
  rw [lg_entry_eq]
  generalize (lg_sl ([.ref h0, .int f, .int t, .long x, .int n]) ++ List.replicate (10 - (lg_sl ([.ref h0, .int f, .int t, .long x, .int n])).length) Slot.unset).toArray = ls at hl ⊢
  have hl : lv_has ls 10 [(0, .ref h0), (1, .int f), (2, .int t), (3, .long x), (5, .int n)] := hl
  refine lv_lload_n hx hb dX1_again_0 rfl (lv_at hl 3 rfl) ?_
  have hPc := hP.sub (ws' := []) [] rfl
  have hDc := hD.sub (ws' := []) [] (by decide) rfl
  have hKc := hK.sub (tys' := []) [] rfl
  have hFc := va_free (wc := []) hD hS hA [] rfl
  refine vx_callv (vx_runS (As := [.long x]) (rest := []) ⟨hx, hb, hml, hown, hts⟩ (qX1_checkNumber l hlt dC dI s.heap.size x) (va_cwS 1 hts gX1_again_X1_checkNumber rfl rfl rfl (by decide +kernel) ⟨Nat.le_of_ble_eq_true rfl, Nat.le_of_ble_eq_true rfl⟩) ⟨fun a U g mk q => by obtain ⟨q0, q1, qP, qK, qD, qE, qZ⟩ := q; exact ⟨q0, q1, qP, va_K.moved (u := U) (U := U.calling g mk a) (Vm.Alike.refl U.vm) qK, qD, ev.same (u := U) rfl qE, ez.moved (U := U.calling g mk a) qZ (Vm.Alike.refl U.vm)⟩, fun U hU hW => ⟨rfl, by rw [hU], by rw [hU]; exact hPc, va_K.moved hW.alike hKc, hDc.weaken (fun _ _ _ _ => trivial), hE.warm hW, by rw [hU]; exact ((hZ.kept hS.2.1).narrow hFc).moved hW.alike⟩⟩ rfl rfl hl.1 rfl (lv_room (Nat.le_of_ble_eq_true rfl)) dX1_again_1 ⟨Nat.le_of_ble_eq_true rfl, Nat.le_of_ble_eq_true rfl⟩) hS (fun q _ h => hFc q h) hFc (fun q _ h => hFc q h) (fun E ce q9 u t9 H1 locs ht hvm hw hB hz1 hk1 hS hce hcv hcl => ?_) (fun u t9 H1 locs ht hvm hw hB hz1 hk1 hS => ?_)
  · obtain ⟨hex, hP1, hK1, hD1⟩ := hB
    rw [ht] at hP1
    have hK1 := va_K.moved hvm.symm hK1
    obtain ⟨hP, hD⟩ := va_join (wr := [(h0, .inr (1, [.ref a, .ref b])), (a, .inl (cI, 256, .inl kf)), (b, .inl (cJ, 256, .inr (.inl vf)))]) (w1 := []) hP hD [] [0, 1, 2] rfl rfl (by decide) (by decide) hk1 hFc hP1 hD1
    have hK := (hK.sub (tys' := [(cI, .int), (cJ, .long)]) [0, 1] rfl).app hK1
    generalize H1 = H at hP hS hce ⊢
    have hP : va_P (dC, dI) vwCl [(h0, .inr (1, [.ref a, .ref b])), (a, .inl (cI, 256, .inl kf)), (b, .inl (cJ, 256, .inr (.inl vf)))] H := hP
    have hD : va_D A [(h0, .inr (1, [.ref a, .ref b])), (a, .inl (cI, 256, .inl kf)), (b, .inl (cJ, 256, .inr (.inl vf)))] := hD
    have hK : va_K (dC, dI) vwCl [(cI, .int), (cJ, .long)] s := hK
    refine vx_widen (k := 1) (n := 6) (Nat.le_of_ble_eq_true rfl) (Nat.le_of_ble_eq_true rfl) ?_
    have hP9 := hP.sub (ws' := [(h0, .inr (1, [.ref a, .ref b])), (a, .inl (cI, 256, .inl kf)), (b, .inl (cJ, 256, .inr (.inl vf)))]) [0, 1, 2] rfl
    have hD9 := hD.sub (ws' := [(h0, .inr (1, [.ref a, .ref b])), (a, .inl (cI, 256, .inl kf)), (b, .inl (cJ, 256, .inr (.inl vf)))]) [0, 1, 2] (by decide) rfl
    have hK9 := hK.sub (tys' := [(cI, .int), (cJ, .long)]) [0, 1] rfl
    exact vx_out (fun x hx => (htb x hx).elim) hlocks hce hcv hcl (fun t9 ht hvm => ⟨(), trivial, ⟨Or.inl ⟨hex.1, fun h => hex.2 h.1⟩, by rw [ht]; exact hP9, va_K.moved hvm hK9, hD9⟩, hS.F ht⟩) hS.2.2 (Nat.le_of_ble_eq_true rfl) (Nat.le_of_ble_eq_true rfl)
  · obtain ⟨hP1, hK1, hD1⟩ := hB
    rw [ht] at hP1
    have h_2 := hw
    have hK1 := va_K.moved hvm.symm hK1
    obtain ⟨hP, hD⟩ := va_join (wr := [(h0, .inr (1, [.ref a, .ref b])), (a, .inl (cI, 256, .inl kf)), (b, .inl (cJ, 256, .inr (.inl vf)))]) (w1 := []) hP hD [] [0, 1, 2] rfl rfl (by decide) (by decide) hk1 hFc hP1 hD1
    have hK := (hK.sub (tys' := [(cI, .int), (cJ, .long)]) [0, 1] rfl).app hK1
    generalize H1 = H at hP hS ⊢
    have hP : va_P (dC, dI) vwCl [(h0, .inr (1, [.ref a, .ref b])), (a, .inl (cI, 256, .inl kf)), (b, .inl (cJ, 256, .inr (.inl vf)))] H := hP
    have hD : va_D A [(h0, .inr (1, [.ref a, .ref b])), (a, .inl (cI, 256, .inl kf)), (b, .inl (cJ, 256, .inr (.inl vf)))] := hD
    have hK : va_K (dC, dI) vwCl [(cI, .int), (cJ, .long)] s := hK
    refine W.widen (k := 1) (n := 6) (Nat.le_of_ble_eq_true rfl) (Nat.le_of_ble_eq_true rfl) ?_
    refine lv_iload hx hb dX1_again_4 (lv_at hl 4 rfl) ?_
    have hPc := hP.sub (ws' := []) [] rfl
    have hDc := hD.sub (ws' := []) [] (by decide) rfl
    have hKc := hK.sub (tys' := []) [] rfl
    have hFc := va_free (wc := []) hD hS hA [] rfl
    refine vx_callv (vx_runS (As := [.int n]) (rest := []) ⟨hx, hb, hml, hown, hts⟩ (qX1_checkTimes l hlt dC dI H.size n) (va_cwS 1 hts gX1_again_X1_checkTimes rfl rfl rfl (by decide +kernel) ⟨Nat.le_of_ble_eq_true rfl, Nat.le_of_ble_eq_true rfl⟩) ⟨fun a U g mk q => by obtain ⟨q0, q1, qP, qK, qD, qE, qZ⟩ := q; exact ⟨q0, q1, qP, va_K.moved (u := U) (U := U.calling g mk a) (Vm.Alike.refl U.vm) qK, qD, ev.same (u := U) rfl qE, ez.moved (U := U.calling g mk a) qZ (Vm.Alike.refl U.vm)⟩, fun U hU hW => ⟨rfl, by rw [hU], by rw [hU]; exact hPc, va_K.moved hW.alike hKc, hDc.weaken (fun _ _ _ _ => trivial), hE.warm hW, by rw [hU]; exact ((hZ.kept hS.2.1).narrow hFc).moved hW.alike⟩⟩ rfl rfl hl.1 rfl (lv_room (Nat.le_of_ble_eq_true rfl)) dX1_again_6 ⟨Nat.le_of_ble_eq_true rfl, Nat.le_of_ble_eq_true rfl⟩) hS (fun q _ h => hFc q h) hFc (fun q _ h => hFc q h) (fun E ce q9 u t9 H1 locs ht hvm hw hB hz1 hk1 hS hce hcv hcl => ?_) (fun u t9 H1 locs ht hvm hw hB hz1 hk1 hS => ?_)
    · obtain ⟨hex, hP1, hK1, hD1⟩ := hB
      rw [ht] at hP1
      have hK1 := va_K.moved hvm.symm hK1
      obtain ⟨hP, hD⟩ := va_join (wr := [(h0, .inr (1, [.ref a, .ref b])), (a, .inl (cI, 256, .inl kf)), (b, .inl (cJ, 256, .inr (.inl vf)))]) (w1 := []) hP hD [] [0, 1, 2] rfl rfl (by decide) (by decide) hk1 hFc hP1 hD1
      have hK := (hK.sub (tys' := [(cI, .int), (cJ, .long)]) [0, 1] rfl).app hK1
      generalize H1 = H at hP hS hce ⊢
      have hP : va_P (dC, dI) vwCl [(h0, .inr (1, [.ref a, .ref b])), (a, .inl (cI, 256, .inl kf)), (b, .inl (cJ, 256, .inr (.inl vf)))] H := hP
      have hD : va_D A [(h0, .inr (1, [.ref a, .ref b])), (a, .inl (cI, 256, .inl kf)), (b, .inl (cJ, 256, .inr (.inl vf)))] := hD
      have hK : va_K (dC, dI) vwCl [(cI, .int), (cJ, .long)] s := hK
      refine vx_widen (k := 2) (n := 12) (Nat.le_of_ble_eq_true rfl) (Nat.le_of_ble_eq_true rfl) ?_
      have hP9 := hP.sub (ws' := [(h0, .inr (1, [.ref a, .ref b])), (a, .inl (cI, 256, .inl kf)), (b, .inl (cJ, 256, .inr (.inl vf)))]) [0, 1, 2] rfl
      have hD9 := hD.sub (ws' := [(h0, .inr (1, [.ref a, .ref b])), (a, .inl (cI, 256, .inl kf)), (b, .inl (cJ, 256, .inr (.inl vf)))]) [0, 1, 2] (by decide) rfl
      have hK9 := hK.sub (tys' := [(cI, .int), (cJ, .long)]) [0, 1] rfl
      exact vx_out (fun x hx => (htb x hx).elim) hlocks hce hcv hcl (fun t9 ht hvm => ⟨(), trivial, ⟨Or.inl ⟨hex.1, fun h => hex.2 h.2⟩, by rw [ht]; exact hP9, va_K.moved hvm hK9, hD9⟩, hS.F ht⟩) hS.2.2 (Nat.le_of_ble_eq_true rfl) (Nat.le_of_ble_eq_true rfl)
    · obtain ⟨hP1, hK1, hD1⟩ := hB
      rw [ht] at hP1
      have h_4 := hw
      have hK1 := va_K.moved hvm.symm hK1
      obtain ⟨hP, hD⟩ := va_join (wr := [(h0, .inr (1, [.ref a, .ref b])), (a, .inl (cI, 256, .inl kf)), (b, .inl (cJ, 256, .inr (.inl vf)))]) (w1 := []) hP hD [] [0, 1, 2] rfl rfl (by decide) (by decide) hk1 hFc hP1 hD1
      have hK := (hK.sub (tys' := [(cI, .int), (cJ, .long)]) [0, 1] rfl).app hK1
      generalize H1 = H at hP hS ⊢
      have hP : va_P (dC, dI) vwCl [(h0, .inr (1, [.ref a, .ref b])), (a, .inl (cI, 256, .inl kf)), (b, .inl (cJ, 256, .inr (.inl vf)))] H := hP
      have hD : va_D A [(h0, .inr (1, [.ref a, .ref b])), (a, .inl (cI, 256, .inl kf)), (b, .inl (cJ, 256, .inr (.inl vf)))] := hD
      have hK : va_K (dC, dI) vwCl [(cI, .int), (cJ, .long)] s := hK
      refine W.widen (k := 2) (n := 12) (Nat.le_of_ble_eq_true rfl) (Nat.le_of_ble_eq_true rfl) ?_
      refine lv_iload_n hx hb dX1_again_9 rfl (lv_at hl 1 rfl) ?_
      refine lv_iload_n hx hb dX1_again_10 rfl (lv_at hl 2 rfl) ?_
      have hPc := hP.sub (ws' := []) [] rfl
      have hDc := hD.sub (ws' := []) [] (by decide) rfl
      have hKc := hK.sub (tys' := []) [] rfl
      have hFc := va_free (wc := []) hD hS hA [] rfl
      refine vx_callv (vx_runS (As := [.int f, .int t]) (rest := []) ⟨hx, hb, hml, hown, hts⟩ (qX1_checkPart l hlt dC dI H.size f t) (va_cwS 2 hts gX1_again_X1_checkPart rfl rfl rfl (by decide +kernel) ⟨Nat.le_of_ble_eq_true rfl, Nat.le_of_ble_eq_true rfl⟩) ⟨fun a U g mk q => by obtain ⟨q0, q1, qP, qK, qD, qE, qZ⟩ := q; exact ⟨q0, q1, qP, va_K.moved (u := U) (U := U.calling g mk a) (Vm.Alike.refl U.vm) qK, qD, ev.same (u := U) rfl qE, ez.moved (U := U.calling g mk a) qZ (Vm.Alike.refl U.vm)⟩, fun U hU hW => ⟨rfl, by rw [hU], by rw [hU]; exact hPc, va_K.moved hW.alike hKc, hDc.weaken (fun _ _ _ _ => trivial), hE.warm hW, by rw [hU]; exact ((hZ.kept hS.2.1).narrow hFc).moved hW.alike⟩⟩ rfl rfl hl.1 rfl (lv_room (Nat.le_of_ble_eq_true rfl)) dX1_again_11 ⟨Nat.le_of_ble_eq_true rfl, Nat.le_of_ble_eq_true rfl⟩) hS (fun q _ h => hFc q h) hFc (fun q _ h => hFc q h) (fun E ce q9 u t9 H1 locs ht hvm hw hB hz1 hk1 hS hce hcv hcl => ?_) (fun u t9 H1 locs ht hvm hw hB hz1 hk1 hS => ?_)
      · obtain ⟨hex, hP1, hK1, hD1⟩ := hB
        rw [ht] at hP1
        have hK1 := va_K.moved hvm.symm hK1
        obtain ⟨hP, hD⟩ := va_join (wr := [(h0, .inr (1, [.ref a, .ref b])), (a, .inl (cI, 256, .inl kf)), (b, .inl (cJ, 256, .inr (.inl vf)))]) (w1 := []) hP hD [] [0, 1, 2] rfl rfl (by decide) (by decide) hk1 hFc hP1 hD1
        have hK := (hK.sub (tys' := [(cI, .int), (cJ, .long)]) [0, 1] rfl).app hK1
        generalize H1 = H at hP hS hce ⊢
        have hP : va_P (dC, dI) vwCl [(h0, .inr (1, [.ref a, .ref b])), (a, .inl (cI, 256, .inl kf)), (b, .inl (cJ, 256, .inr (.inl vf)))] H := hP
        have hD : va_D A [(h0, .inr (1, [.ref a, .ref b])), (a, .inl (cI, 256, .inl kf)), (b, .inl (cJ, 256, .inr (.inl vf)))] := hD
        have hK : va_K (dC, dI) vwCl [(cI, .int), (cJ, .long)] s := hK
        refine vx_widen (k := 3) (n := 18) (Nat.le_of_ble_eq_true rfl) (Nat.le_of_ble_eq_true rfl) ?_
        have hP9 := hP.sub (ws' := [(h0, .inr (1, [.ref a, .ref b])), (a, .inl (cI, 256, .inl kf)), (b, .inl (cJ, 256, .inr (.inl vf)))]) [0, 1, 2] rfl
        have hD9 := hD.sub (ws' := [(h0, .inr (1, [.ref a, .ref b])), (a, .inl (cI, 256, .inl kf)), (b, .inl (cJ, 256, .inr (.inl vf)))]) [0, 1, 2] (by decide) rfl
        have hK9 := hK.sub (tys' := [(cI, .int), (cJ, .long)]) [0, 1] rfl
        exact vx_out (fun x hx => (htb x hx).elim) hlocks hce hcv hcl (fun t9 ht hvm => ⟨(), trivial, ⟨Or.inr ⟨hex.1, ⟨h_2, h_4⟩, hex.2⟩, by rw [ht]; exact hP9, va_K.moved hvm hK9, hD9⟩, hS.F ht⟩) hS.2.2 (Nat.le_of_ble_eq_true rfl) (Nat.le_of_ble_eq_true rfl)
      · obtain ⟨hP1, hK1, hD1⟩ := hB
        rw [ht] at hP1
        have h_6 := hw
        have hK1 := va_K.moved hvm.symm hK1
        obtain ⟨hP, hD⟩ := va_join (wr := [(h0, .inr (1, [.ref a, .ref b])), (a, .inl (cI, 256, .inl kf)), (b, .inl (cJ, 256, .inr (.inl vf)))]) (w1 := []) hP hD [] [0, 1, 2] rfl rfl (by decide) (by decide) hk1 hFc hP1 hD1
        have hK := (hK.sub (tys' := [(cI, .int), (cJ, .long)]) [0, 1] rfl).app hK1
        generalize H1 = H at hP hS ⊢
        have hP : va_P (dC, dI) vwCl [(h0, .inr (1, [.ref a, .ref b])), (a, .inl (cI, 256, .inl kf)), (b, .inl (cJ, 256, .inr (.inl vf)))] H := hP
        have hD : va_D A [(h0, .inr (1, [.ref a, .ref b])), (a, .inl (cI, 256, .inl kf)), (b, .inl (cJ, 256, .inr (.inl vf)))] := hD
        have hK : va_K (dC, dI) vwCl [(cI, .int), (cJ, .long)] s := hK
        refine W.widen (k := 3) (n := 18) (Nat.le_of_ble_eq_true rfl) (Nat.le_of_ble_eq_true rfl) ?_
        refine lv_aload_n hx hb dX1_again_14 rfl (lv_at hl 0 rfl) ?_
        refine lv_iload_n hx hb dX1_again_15 rfl (lv_at hl 1 rfl) ?_
        refine lv_iload_n hx hb dX1_again_16 rfl (lv_at hl 2 rfl) ?_
        have hPc := hP.sub (ws' := [(h0, .inr (1, [.ref a, .ref b])), (a, .inl (cI, 256, .inl kf)), (b, .inl (cJ, 256, .inr (.inl vf)))]) [0, 1, 2] rfl
        have hDc := hD.sub (ws' := [(h0, .inr (1, [.ref a, .ref b])), (a, .inl (cI, 256, .inl kf)), (b, .inl (cJ, 256, .inr (.inl vf)))]) [0, 1, 2] (by decide) rfl
        have hKc := hK.sub (tys' := [(cI, .int), (cJ, .long)]) [0, 1] rfl
        have hFc := va_free (wc := [(h0, .inr (1, [.ref a, .ref b])), (a, .inl (cI, 256, .inl kf)), (b, .inl (cJ, 256, .inr (.inl vf)))]) hD hS hA [0, 1, 2] rfl
        refine va_callr (va_runV (As := [.int f, .int t]) (rest := []) ⟨hx, hb, hml, hown, hts⟩ (qX1_effectOf l hlt dC dI H.size h0 a b cI cJ kf vf f t h_6) (cwV 2 hts gX1_again_X1_effectOf rfl rfl rfl (by decide +kernel) ⟨Nat.le_of_ble_eq_true rfl, Nat.le_of_ble_eq_true rfl⟩) ⟨fun a U g mk q => by obtain ⟨q0, q1, qP, qK, qD, qE, qZ⟩ := q; exact ⟨q0, q1, qP, va_K.moved (u := U) (U := U.calling g mk a) (Vm.Alike.refl U.vm) qK, qD, ev.same (u := U) rfl qE, ez.moved (U := U.calling g mk a) qZ (Vm.Alike.refl U.vm)⟩, va_recv hKc hPc (ci := 1) (q0 := 0) rfl rfl, fun U hU hW => ⟨rfl, by rw [hU], by rw [hU]; exact hPc, va_K.moved hW.alike hKc, hDc.weaken (fun _ _ _ _ => trivial), hE.warm hW, by rw [hU]; exact ((hZ.kept hS.2.1).narrow hFc).moved hW.alike⟩⟩ rfl rfl hl.1 rfl (lv_room (Nat.le_of_ble_eq_true rfl)) dX1_again_17 ⟨Nat.le_of_ble_eq_true rfl, Nat.le_of_ble_eq_true rfl⟩) hS (fun q _ h => hFc q h) hFc (fun u r_7 t9 H1 locs ht hvm hw hB hz1 hk1 hS => ?_)
        obtain ⟨hP1, hK1, hD1⟩ := hB
        rw [ht] at hP1
        obtain rfl := hw
        have hK1 := va_K.moved hvm.symm hK1
        obtain ⟨hP, hD⟩ := va_join (wr := []) (w1 := [(h0, .inr (1, [.ref a, .ref b])), (a, .inl (cI, 256, .inl kf)), (b, .inl (cJ, 256, .inr (.inl vf))), (r_7, .inr (0, [.long ((eW kf vf f t).1), .int ((eW kf vf f t).2.1), .long ((eW kf vf f t).2.2.1), .int ((eW kf vf f t).2.2.2.1), .long ((eW kf vf f t).2.2.2.2)]))]) hP hD [0, 1, 2] [] rfl rfl (by decide) (by decide) hk1 hFc hP1 hD1
        have hK := (hK.sub (tys' := []) [] rfl).app hK1
        generalize H1 = H at hP hS ⊢
        have hP : va_P (dC, dI) vwCl [(h0, .inr (1, [.ref a, .ref b])), (a, .inl (cI, 256, .inl kf)), (b, .inl (cJ, 256, .inr (.inl vf))), (r_7, .inr (0, [.long ((eW kf vf f t).1), .int ((eW kf vf f t).2.1), .long ((eW kf vf f t).2.2.1), .int ((eW kf vf f t).2.2.2.1), .long ((eW kf vf f t).2.2.2.2)]))] H := hP
        have hD : va_D A [(h0, .inr (1, [.ref a, .ref b])), (a, .inl (cI, 256, .inl kf)), (b, .inl (cJ, 256, .inr (.inl vf))), (r_7, .inr (0, [.long ((eW kf vf f t).1), .int ((eW kf vf f t).2.1), .long ((eW kf vf f t).2.2.1), .int ((eW kf vf f t).2.2.2.1), .long ((eW kf vf f t).2.2.2.2)]))] := hD
        have hK : va_K (dC, dI) vwCl [(cI, .int), (cJ, .long)] s := hK
        refine W.widen (k := 4) (n := 23) (Nat.le_of_ble_eq_true rfl) (Nat.le_of_ble_eq_true rfl) ?_
        refine lv_astore (lv' := [(6, .ref r_7), (0, .ref h0), (1, .int f), (2, .int t), (3, .long x), (5, .int n)]) hx hb dX1_again_20 hl (by decide) rfl (fun ls hl => ?_)
        refine lv_lload_n hx hb dX1_again_22 rfl (lv_at hl 4 rfl) ?_
        refine lv_lstore (lv' := [(7, .long x), (6, .ref r_7), (0, .ref h0), (1, .int f), (2, .int t), (3, .long x), (5, .int n)]) hx hb dX1_again_23 hl (by decide) rfl (fun ls hl => ?_)
        refine lv_iconst (v := 0) hx hb dX1_again_25 (by decide) ?_
        refine lv_istore (lv' := [(9, .int 0), (7, .long x), (6, .ref r_7), (0, .ref h0), (1, .int f), (2, .int t), (3, .long x), (5, .int n)]) hx hb dX1_again_26 hl (by decide) rfl (fun ls hl => ?_)
        obtain ⟨n8, hn8, hne, hnc⟩ := okN_nat h_4
        refine lp_up (N := n8) (α := Int64 × Int32) (fun j z9 H locs ls => (z9.2 = nI j) ∧ (z9.1 = e_it (eW kf vf f t) x j) ∧ va_P (dC, dI) vwCl [(h0, .inr (1, [.ref a, .ref b])), (a, .inl (cI, 256, .inl kf)), (b, .inl (cJ, 256, .inr (.inl vf))), (r_7, .inr (0, [.long ((eW kf vf f t).1), .int ((eW kf vf f t).2.1), .long ((eW kf vf f t).2.2.1), .int ((eW kf vf f t).2.2.2.1), .long ((eW kf vf f t).2.2.2.2)]))] H ∧ va_D A [(h0, .inr (1, [.ref a, .ref b])), (a, .inl (cI, 256, .inl kf)), (b, .inl (cJ, 256, .inr (.inl vf))), (r_7, .inr (0, [.long ((eW kf vf f t).1), .int ((eW kf vf f t).2.1), .long ((eW kf vf f t).2.2.1), .int ((eW kf vf f t).2.2.2.1), .long ((eW kf vf f t).2.2.2.2)]))] ∧ va_K (dC, dI) vwCl [(cI, .int), (cJ, .long)] s ∧ va_S A s.heap H locs ∧ lv_has ls 10 [(0, .ref h0), (1, .int f), (2, .int t), (3, .long x), (5, .int n), (6, .ref r_7), (7, .long z9.1), (9, .int z9.2)]) ?_ (x, 0) H _ ls ⟨nI_0.symm, rfl, hP.sub [0, 1, 2, 3] rfl, hD.sub [0, 1, 2, 3] (by decide) rfl, hK.sub [0, 1] rfl, hS, lv_sub hl [3, 4, 5, 6, 7, 2, 1, 0] rfl⟩
        intro j z9 H locs ls hj hI hn
        obtain ⟨y, k⟩ := z9
        try dsimp only at hI
        obtain ⟨hi0, hi1, hP, hD, hK, hS, hl⟩ := hI
        refine lv_iload hx hb dX1_again_28 (lv_at hl 7 rfl) ?_
        refine lv_iload hx hb dX1_again_30 (lv_at hl 4 rfl) ?_
        refine lv_icmp_ge (tgt := 50) hx hb dX1_again_32 (by decide) (fun c_9 => ?_) (fun c_9 => ?_)
        · rw [hne, hi0] at c_9
          have hjn := lp_ge0 hn8 hj c_9
          subst hjn
          refine lv_lload hx hb dX1_again_50 (lv_at hl 6 rfl) ?_
          have hP9 := hP.sub (ws' := [(h0, .inr (1, [.ref a, .ref b])), (a, .inl (cI, 256, .inl kf)), (b, .inl (cJ, 256, .inr (.inl vf)))]) [0, 1, 2] rfl
          have hD9 := hD.sub (ws' := [(h0, .inr (1, [.ref a, .ref b])), (a, .inl (cI, 256, .inl kf)), (b, .inl (cJ, 256, .inr (.inl vf)))]) [0, 1, 2] (by decide) rfl
          have hK9 := hK.sub (tys' := [(cI, .int), (cJ, .long)]) [0, 1] rfl
          refine vx_ret ?_
          refine W.widen (k := 4) (n := 23) (Nat.le_of_ble_eq_true rfl) (Nat.le_of_ble_eq_true rfl) ?_
          exact W.lret (v := y) hx hb hr (fun t9 ht hW => ⟨⟨y, (), rfl, ⟨h_2, h_4, h_6, by rw [hnc]; exact hi1⟩, by rw [ht]; exact hP9, va_K.moved hW.alike hK9, hD9⟩, hS.F ht⟩) hS.2.2 dX1_again_52
        · rw [hne, hi0] at c_9
          have hjn := lp_lt0 hn8 hj c_9
          refine lv_aload hx hb dX1_again_35 (lv_at hl 5 rfl) ?_
          refine lv_lload hx hb dX1_again_37 (lv_at hl 6 rfl) ?_
          have hPc := hP.sub (ws' := [(r_7, .inr (0, [.long ((eW kf vf f t).1), .int ((eW kf vf f t).2.1), .long ((eW kf vf f t).2.2.1), .int ((eW kf vf f t).2.2.2.1), .long ((eW kf vf f t).2.2.2.2)]))]) [3] rfl
          have hDc := hD.sub (ws' := [(r_7, .inr (0, [.long ((eW kf vf f t).1), .int ((eW kf vf f t).2.1), .long ((eW kf vf f t).2.2.1), .int ((eW kf vf f t).2.2.2.1), .long ((eW kf vf f t).2.2.2.2)]))]) [3] (by decide) rfl
          have hKc := hK.sub (tys' := []) [] rfl
          have hFc := va_free (wc := [(r_7, .inr (0, [.long ((eW kf vf f t).1), .int ((eW kf vf f t).2.1), .long ((eW kf vf f t).2.2.1), .int ((eW kf vf f t).2.2.2.1), .long ((eW kf vf f t).2.2.2.2)]))]) hD hS hA [3] rfl
          refine va_calll (va_runV (As := [.long y]) (rest := []) ⟨hx, hb, hml, hown, hts⟩ (qX0_on l dC dI H.size r_7 (eW kf vf f t) y) (cwV 1 hts gX1_again_X0_on rfl rfl rfl (by decide +kernel) ⟨Nat.le_of_ble_eq_true rfl, Nat.le_of_ble_eq_true rfl⟩) ⟨fun a U g mk q => by obtain ⟨q0, q1, qP, qK, qD⟩ := q; exact ⟨q0, q1, qP, va_K.moved (u := U) (U := U.calling g mk a) (Vm.Alike.refl U.vm) qK, qD⟩, va_recv hKc hPc (ci := 0) (q0 := 0) rfl rfl, fun U hU hW => ⟨rfl, by rw [hU], by rw [hU]; exact hPc, va_K.moved hW.alike hKc, hDc.weaken (fun _ _ _ _ => trivial)⟩⟩ rfl rfl hl.1 rfl (lv_room (Nat.le_of_ble_eq_true rfl)) dX1_again_39 ⟨Nat.le_of_ble_eq_true rfl, Nat.le_of_ble_eq_true rfl⟩) hS (fun q _ h => hFc q h) hFc (fun r_10 u t9 H1 locs ht hvm hw hB hz1 hk1 hS => ?_)
          obtain ⟨hP1, hK1, hD1⟩ := hB
          rw [ht] at hP1
          have h_11 := hw
          have hK1 := va_K.moved hvm.symm hK1
          obtain ⟨hP, hD⟩ := va_join (wr := [(h0, .inr (1, [.ref a, .ref b])), (a, .inl (cI, 256, .inl kf)), (b, .inl (cJ, 256, .inr (.inl vf)))]) (w1 := [(r_7, .inr (0, [.long ((eW kf vf f t).1), .int ((eW kf vf f t).2.1), .long ((eW kf vf f t).2.2.1), .int ((eW kf vf f t).2.2.2.1), .long ((eW kf vf f t).2.2.2.2)]))]) hP hD [3] [0, 1, 2] rfl rfl (by decide) (by decide) hk1 hFc hP1 hD1
          have hK := (hK.sub (tys' := [(cI, .int), (cJ, .long)]) [0, 1] rfl).app hK1
          generalize H1 = H at hP hS ⊢
          have hP : va_P (dC, dI) vwCl [(h0, .inr (1, [.ref a, .ref b])), (a, .inl (cI, 256, .inl kf)), (b, .inl (cJ, 256, .inr (.inl vf))), (r_7, .inr (0, [.long ((eW kf vf f t).1), .int ((eW kf vf f t).2.1), .long ((eW kf vf f t).2.2.1), .int ((eW kf vf f t).2.2.2.1), .long ((eW kf vf f t).2.2.2.2)]))] H := hP
          have hD : va_D A [(h0, .inr (1, [.ref a, .ref b])), (a, .inl (cI, 256, .inl kf)), (b, .inl (cJ, 256, .inr (.inl vf))), (r_7, .inr (0, [.long ((eW kf vf f t).1), .int ((eW kf vf f t).2.1), .long ((eW kf vf f t).2.2.1), .int ((eW kf vf f t).2.2.2.1), .long ((eW kf vf f t).2.2.2.2)]))] := hD
          have hK : va_K (dC, dI) vwCl [(cI, .int), (cJ, .long)] s := hK
          refine W.widen (k := 4) (n := 23) (Nat.le_of_ble_eq_true rfl) (Nat.le_of_ble_eq_true rfl) ?_
          refine lv_lstore (lv' := [(7, .long r_10), (0, .ref h0), (1, .int f), (2, .int t), (3, .long x), (5, .int n), (6, .ref r_7), (9, .int k)]) hx hb dX1_again_42 hl (by decide) rfl (fun ls hl => ?_)
          obtain ⟨i_12, ei_12⟩ : ∃ y : Int32, y = k + 1 := ⟨_, rfl⟩
          refine lv_iinc (v := i_12) (lv' := [(9, .int i_12), (7, .long r_10), (0, .ref h0), (1, .int f), (2, .int t), (3, .long x), (5, .int n), (6, .ref r_7)]) hx hb dX1_again_44 hl (k := 7) rfl (by rw [ei_12]; rfl) (by decide) rfl (fun ls hl => ?_)
          refine lv_goto (tgt := 28) hx hb dX1_again_47 (by decide) ?_
          exact hn (by omega) (r_10, i_12) _ _ ls ⟨by rw [ei_12, hi0]; exact nI_1 _, by rw [h_11, hi1]; rfl, hP.sub [0, 1, 2, 3] rfl, hD.sub [0, 1, 2, 3] (by decide) rfl, hK.sub [0, 1] rfl, hS, lv_sub hl [2, 3, 4, 5, 6, 7, 1, 0] rfl⟩

set_option maxRecDepth 20000 in
theorem kX1_least_0 : ∀ w ∈ wsX00, w ∈ wsX1_least := by decide +kernel
set_option maxRecDepth 20000 in
theorem kX1_least_1 : (.classLink RX1 50 "java/lang/UnsupportedOperationException" : Cond) ∈ wsX1_least := by decide +kernel
set_option maxRecDepth 20000 in
theorem kX1_least_2 : (.initialized "java/lang/UnsupportedOperationException" : Cond) ∈ wsX1_least := by decide +kernel
set_option maxRecDepth 20000 in
theorem kX1_least_3 : ∀ w ∈ (vx_atS RX1 54 UOE ups).filter goodWord, w ∈ wsX1_least := by decide +kernel
set_option maxHeartbeats 4000000 in
set_option maxRecDepth 100000 in
theorem qX1_least (l : Launch) (hlt : l.stackTraces = false) (dC : Nat → ClassId) (dI : Nat → Nat → Nat) (sz : Nat) (h0 a b : Nat) (cI cJ : ClassId) (kf : Nat → Int32) (vf : Nat → Int64) (f t : Int32)  : vx_Met l yX1_least wsX1_least ({ frames := 7, cells := 3, slots := 17, locals := 120 }) (va_Pc [.ref h0, .int f, .int t] (fun U => U.heap.size = sz ∧ va_P (dC, dI) vwCl [(h0, .inr (1, [.ref a, .ref b])), (a, .inl (cI, 256, .inl kf)), (b, .inl (cJ, 256, .inr (.inl vf)))] U.heap ∧ va_K (dC, dI) vwCl [(cI, .int), (cJ, .long)] U ∧ va_D (fun _ => True) [(h0, .inr (1, [.ref a, .ref b])), (a, .inl (cI, 256, .inl kf)), (b, .inl (cJ, 256, .inr (.inl vf)))] ∧ ev U ∧ ez (va_A [(h0, .inr (1, [.ref a, .ref b])), (a, .inl (cI, 256, .inl kf)), (b, .inl (cJ, 256, .inr (.inl vf)))] sz) U U.heap)) (va_Ql (fun (r : Int64) (u : Unit) => (okW f t ∧ ¬ (eW kf vf f t).2.1 = 0 ∧ r = (eW kf vf f t).2.2.1)) (fun (u : Unit) (t9 : State) => va_P (dC, dI) vwCl [(h0, .inr (1, [.ref a, .ref b])), (a, .inl (cI, 256, .inl kf)), (b, .inl (cJ, 256, .inr (.inl vf)))] t9.heap ∧ va_K (dC, dI) vwCl [(cI, .int), (cJ, .long)] t9 ∧ va_D (va_A [(h0, .inr (1, [.ref a, .ref b])), (a, .inl (cI, 256, .inl kf)), (b, .inl (cJ, 256, .inr (.inl vf)))] sz) [(h0, .inr (1, [.ref a, .ref b])), (a, .inl (cI, 256, .inl kf)), (b, .inl (cJ, 256, .inr (.inl vf)))]) (va_A [(h0, .inr (1, [.ref a, .ref b])), (a, .inl (cI, 256, .inl kf)), (b, .inl (cJ, 256, .inr (.inl vf)))] sz)) (vx_X (fun _ : Unit => True) (fun (E : String) (_ : Unit) (t9 : State) => ((E = IOB ∧ ¬ okW f t) ∨ (E = UOE ∧ okW f t ∧ (eW kf vf f t).2.1 = 0)) ∧ va_P (dC, dI) vwCl [(h0, .inr (1, [.ref a, .ref b])), (a, .inl (cI, 256, .inl kf)), (b, .inl (cJ, 256, .inr (.inl vf)))] t9.heap ∧ va_K (dC, dI) vwCl [(cI, .int), (cJ, .long)] t9 ∧ va_D (va_A [(h0, .inr (1, [.ref a, .ref b])), (a, .inl (cI, 256, .inl kf)), (b, .inl (cJ, 256, .inr (.inl vf)))] sz) [(h0, .inr (1, [.ref a, .ref b])), (a, .inl (cI, 256, .inl kf)), (b, .inl (cJ, 256, .inr (.inl vf)))]) (va_A [(h0, .inr (1, [.ref a, .ref b])), (a, .inl (cI, 256, .inl kf)), (b, .inl (cJ, 256, .inr (.inl vf)))] sz)) 3 17 (va_A [(h0, .inr (1, [.ref a, .ref b])), (a, .inl (cI, 256, .inl kf)), (b, .inl (cJ, 256, .inr (.inl vf)))] sz) := by
  refine vx_ofW (cc := cX1_least) (maxL := 4) (ret := (some .long)) (by decide) rfl ?_
  intro p e s m args below meth c s₁ B hml htb hv
  obtain ⟨rfl, hsz, hP, hK, hD0, hE, hZ⟩ := hv
  have hx := B.exec
  have hb := B.bytes
  have hr := B.returns
  have hts := atoms_spec (ws := wsX1_least) B.pre
  have hown : s.vm.findClass RX1 = some m.cls := findClass_of_methodNamed B.named
  have hlocks := B.notSynchronized
  subst hsz
  have hD := hD0.self (sz := s.heap.size)
  generalize hAe : va_A [(h0, .inr (1, [.ref a, .ref b])), (a, .inl (cI, 256, .inl kf)), (b, .inl (cJ, 256, .inr (.inl vf)))] s.heap.size = A at hD hZ ⊢
  have hA : ∀ q : Nat, s.heap.size ≤ q → A q := fun q h => by rw [← hAe]; exact Or.inr h
  have hS : va_S A s.heap s.heap [] := va_S.rf
  have hP : va_P (dC, dI) vwCl [(h0, .inr (1, [.ref a, .ref b])), (a, .inl (cI, 256, .inl kf)), (b, .inl (cJ, 256, .inr (.inl vf)))] s.heap := hP
  have hl := lv_entry ([.ref h0, .int f, .int t]) (n := 4) (Nat.le_of_ble_eq_true rfl)
  rw [lg_entry_eq]
  generalize (lg_sl ([.ref h0, .int f, .int t]) ++ List.replicate (4 - (lg_sl ([.ref h0, .int f, .int t])).length) Slot.unset).toArray = ls at hl ⊢
  have hl : lv_has ls 4 [(0, .ref h0), (1, .int f), (2, .int t)] := hl
  refine lv_iload_n hx hb dX1_least_0 rfl (lv_at hl 1 rfl) ?_
  refine lv_iload_n hx hb dX1_least_1 rfl (lv_at hl 2 rfl) ?_
  have hPc := hP.sub (ws' := []) [] rfl
  have hDc := hD.sub (ws' := []) [] (by decide) rfl
  have hKc := hK.sub (tys' := []) [] rfl
  have hFc := va_free (wc := []) hD hS hA [] rfl
  refine vx_callv (vx_runS (As := [.int f, .int t]) (rest := []) ⟨hx, hb, hml, hown, hts⟩ (qX1_checkPart l hlt dC dI s.heap.size f t) (va_cwS 2 hts gX1_least_X1_checkPart rfl rfl rfl (by decide +kernel) ⟨Nat.le_of_ble_eq_true rfl, Nat.le_of_ble_eq_true rfl⟩) ⟨fun a U g mk q => by obtain ⟨q0, q1, qP, qK, qD, qE, qZ⟩ := q; exact ⟨q0, q1, qP, va_K.moved (u := U) (U := U.calling g mk a) (Vm.Alike.refl U.vm) qK, qD, ev.same (u := U) rfl qE, ez.moved (U := U.calling g mk a) qZ (Vm.Alike.refl U.vm)⟩, fun U hU hW => ⟨rfl, by rw [hU], by rw [hU]; exact hPc, va_K.moved hW.alike hKc, hDc.weaken (fun _ _ _ _ => trivial), hE.warm hW, by rw [hU]; exact ((hZ.kept hS.2.1).narrow hFc).moved hW.alike⟩⟩ rfl rfl hl.1 rfl (lv_room (Nat.le_of_ble_eq_true rfl)) dX1_least_2 ⟨Nat.le_of_ble_eq_true rfl, Nat.le_of_ble_eq_true rfl⟩) hS (fun q _ h => hFc q h) hFc (fun q _ h => hFc q h) (fun E ce q9 u t9 H1 locs ht hvm hw hB hz1 hk1 hS hce hcv hcl => ?_) (fun u t9 H1 locs ht hvm hw hB hz1 hk1 hS => ?_)
  · obtain ⟨hex, hP1, hK1, hD1⟩ := hB
    rw [ht] at hP1
    have hK1 := va_K.moved hvm.symm hK1
    obtain ⟨hP, hD⟩ := va_join (wr := [(h0, .inr (1, [.ref a, .ref b])), (a, .inl (cI, 256, .inl kf)), (b, .inl (cJ, 256, .inr (.inl vf)))]) (w1 := []) hP hD [] [0, 1, 2] rfl rfl (by decide) (by decide) hk1 hFc hP1 hD1
    have hK := (hK.sub (tys' := [(cI, .int), (cJ, .long)]) [0, 1] rfl).app hK1
    generalize H1 = H at hP hS hce ⊢
    have hP : va_P (dC, dI) vwCl [(h0, .inr (1, [.ref a, .ref b])), (a, .inl (cI, 256, .inl kf)), (b, .inl (cJ, 256, .inr (.inl vf)))] H := hP
    have hD : va_D A [(h0, .inr (1, [.ref a, .ref b])), (a, .inl (cI, 256, .inl kf)), (b, .inl (cJ, 256, .inr (.inl vf)))] := hD
    have hK : va_K (dC, dI) vwCl [(cI, .int), (cJ, .long)] s := hK
    refine vx_widen (k := 1) (n := 6) (Nat.le_of_ble_eq_true rfl) (Nat.le_of_ble_eq_true rfl) ?_
    have hP9 := hP.sub (ws' := [(h0, .inr (1, [.ref a, .ref b])), (a, .inl (cI, 256, .inl kf)), (b, .inl (cJ, 256, .inr (.inl vf)))]) [0, 1, 2] rfl
    have hD9 := hD.sub (ws' := [(h0, .inr (1, [.ref a, .ref b])), (a, .inl (cI, 256, .inl kf)), (b, .inl (cJ, 256, .inr (.inl vf)))]) [0, 1, 2] (by decide) rfl
    have hK9 := hK.sub (tys' := [(cI, .int), (cJ, .long)]) [0, 1] rfl
    exact vx_out (fun x hx => (htb x hx).elim) hlocks hce hcv hcl (fun t9 ht hvm => ⟨(), trivial, ⟨Or.inl hex, by rw [ht]; exact hP9, va_K.moved hvm hK9, hD9⟩, hS.F ht⟩) hS.2.2 (Nat.le_of_ble_eq_true rfl) (Nat.le_of_ble_eq_true rfl)
  · obtain ⟨hP1, hK1, hD1⟩ := hB
    rw [ht] at hP1
    have h_2 := hw
    have hK1 := va_K.moved hvm.symm hK1
    obtain ⟨hP, hD⟩ := va_join (wr := [(h0, .inr (1, [.ref a, .ref b])), (a, .inl (cI, 256, .inl kf)), (b, .inl (cJ, 256, .inr (.inl vf)))]) (w1 := []) hP hD [] [0, 1, 2] rfl rfl (by decide) (by decide) hk1 hFc hP1 hD1
    have hK := (hK.sub (tys' := [(cI, .int), (cJ, .long)]) [0, 1] rfl).app hK1
    generalize H1 = H at hP hS ⊢
    have hP : va_P (dC, dI) vwCl [(h0, .inr (1, [.ref a, .ref b])), (a, .inl (cI, 256, .inl kf)), (b, .inl (cJ, 256, .inr (.inl vf)))] H := hP
    have hD : va_D A [(h0, .inr (1, [.ref a, .ref b])), (a, .inl (cI, 256, .inl kf)), (b, .inl (cJ, 256, .inr (.inl vf)))] := hD
    have hK : va_K (dC, dI) vwCl [(cI, .int), (cJ, .long)] s := hK
    refine W.widen (k := 1) (n := 6) (Nat.le_of_ble_eq_true rfl) (Nat.le_of_ble_eq_true rfl) ?_
    refine lv_aload_n hx hb dX1_least_5 rfl (lv_at hl 0 rfl) ?_
    refine lv_iload_n hx hb dX1_least_6 rfl (lv_at hl 1 rfl) ?_
    refine lv_iload_n hx hb dX1_least_7 rfl (lv_at hl 2 rfl) ?_
    have hPc := hP.sub (ws' := [(h0, .inr (1, [.ref a, .ref b])), (a, .inl (cI, 256, .inl kf)), (b, .inl (cJ, 256, .inr (.inl vf)))]) [0, 1, 2] rfl
    have hDc := hD.sub (ws' := [(h0, .inr (1, [.ref a, .ref b])), (a, .inl (cI, 256, .inl kf)), (b, .inl (cJ, 256, .inr (.inl vf)))]) [0, 1, 2] (by decide) rfl
    have hKc := hK.sub (tys' := [(cI, .int), (cJ, .long)]) [0, 1] rfl
    have hFc := va_free (wc := [(h0, .inr (1, [.ref a, .ref b])), (a, .inl (cI, 256, .inl kf)), (b, .inl (cJ, 256, .inr (.inl vf)))]) hD hS hA [0, 1, 2] rfl
    refine va_callr (va_runV (As := [.int f, .int t]) (rest := []) ⟨hx, hb, hml, hown, hts⟩ (qX1_effectOf l hlt dC dI H.size h0 a b cI cJ kf vf f t h_2) (cwV 2 hts gX1_least_X1_effectOf rfl rfl rfl (by decide +kernel) ⟨Nat.le_of_ble_eq_true rfl, Nat.le_of_ble_eq_true rfl⟩) ⟨fun a U g mk q => by obtain ⟨q0, q1, qP, qK, qD, qE, qZ⟩ := q; exact ⟨q0, q1, qP, va_K.moved (u := U) (U := U.calling g mk a) (Vm.Alike.refl U.vm) qK, qD, ev.same (u := U) rfl qE, ez.moved (U := U.calling g mk a) qZ (Vm.Alike.refl U.vm)⟩, va_recv hKc hPc (ci := 1) (q0 := 0) rfl rfl, fun U hU hW => ⟨rfl, by rw [hU], by rw [hU]; exact hPc, va_K.moved hW.alike hKc, hDc.weaken (fun _ _ _ _ => trivial), hE.warm hW, by rw [hU]; exact ((hZ.kept hS.2.1).narrow hFc).moved hW.alike⟩⟩ rfl rfl hl.1 rfl (lv_room (Nat.le_of_ble_eq_true rfl)) dX1_least_8 ⟨Nat.le_of_ble_eq_true rfl, Nat.le_of_ble_eq_true rfl⟩) hS (fun q _ h => hFc q h) hFc (fun u r_3 t9 H1 locs ht hvm hw hB hz1 hk1 hS => ?_)
    obtain ⟨hP1, hK1, hD1⟩ := hB
    rw [ht] at hP1
    obtain rfl := hw
    have hK1 := va_K.moved hvm.symm hK1
    obtain ⟨hP, hD⟩ := va_join (wr := []) (w1 := [(h0, .inr (1, [.ref a, .ref b])), (a, .inl (cI, 256, .inl kf)), (b, .inl (cJ, 256, .inr (.inl vf))), (r_3, .inr (0, [.long ((eW kf vf f t).1), .int ((eW kf vf f t).2.1), .long ((eW kf vf f t).2.2.1), .int ((eW kf vf f t).2.2.2.1), .long ((eW kf vf f t).2.2.2.2)]))]) hP hD [0, 1, 2] [] rfl rfl (by decide) (by decide) hk1 hFc hP1 hD1
    have hK := (hK.sub (tys' := []) [] rfl).app hK1
    generalize H1 = H at hP hS ⊢
    have hP : va_P (dC, dI) vwCl [(h0, .inr (1, [.ref a, .ref b])), (a, .inl (cI, 256, .inl kf)), (b, .inl (cJ, 256, .inr (.inl vf))), (r_3, .inr (0, [.long ((eW kf vf f t).1), .int ((eW kf vf f t).2.1), .long ((eW kf vf f t).2.2.1), .int ((eW kf vf f t).2.2.2.1), .long ((eW kf vf f t).2.2.2.2)]))] H := hP
    have hD : va_D A [(h0, .inr (1, [.ref a, .ref b])), (a, .inl (cI, 256, .inl kf)), (b, .inl (cJ, 256, .inr (.inl vf))), (r_3, .inr (0, [.long ((eW kf vf f t).1), .int ((eW kf vf f t).2.1), .long ((eW kf vf f t).2.2.1), .int ((eW kf vf f t).2.2.2.1), .long ((eW kf vf f t).2.2.2.2)]))] := hD
    have hK : va_K (dC, dI) vwCl [(cI, .int), (cJ, .long)] s := hK
    refine W.widen (k := 2) (n := 11) (Nat.le_of_ble_eq_true rfl) (Nat.le_of_ble_eq_true rfl) ?_
    refine lv_astore_n (lv' := [(3, .ref r_3), (0, .ref h0), (1, .int f), (2, .int t)]) hx hb dX1_least_11 rfl hl (by decide) rfl (fun ls hl => ?_)
    refine lv_aload_n hx hb dX1_least_12 rfl (lv_at hl 0 rfl) ?_
    refine va_getN (D := (dC, dI)) (ci := 0) (v := .int ((eW kf vf f t).2.1)) (C := RX0) (T := TX0) (N := 5) hx hb hts kX1_least_0 hown hK hP 3 rfl rfl 1 (by decide) (va_Nw.use rfl (ev_n46 hE)) (fun _ h9 => h9) rfl dX1_least_13 ?_
    refine lv_if_ne (tgt := 29) hx hb dX1_least_16 (by decide) (fun c_5 => ?_) (fun c_5 => ?_)
    · refine lv_aload_n hx hb dX1_least_29 rfl (lv_at hl 0 rfl) ?_
      refine va_getN (D := (dC, dI)) (ci := 0) (v := .long ((eW kf vf f t).2.2.1)) (C := RX0) (T := TX0) (N := 5) hx hb hts kX1_least_0 hown hK hP 3 rfl rfl 2 (by decide) (va_Nw.use rfl (ev_n57 hE)) (fun _ h9 => h9) rfl dX1_least_30 ?_
      have hP9 := hP.sub (ws' := [(h0, .inr (1, [.ref a, .ref b])), (a, .inl (cI, 256, .inl kf)), (b, .inl (cJ, 256, .inr (.inl vf)))]) [0, 1, 2] rfl
      have hD9 := hD.sub (ws' := [(h0, .inr (1, [.ref a, .ref b])), (a, .inl (cI, 256, .inl kf)), (b, .inl (cJ, 256, .inr (.inl vf)))]) [0, 1, 2] (by decide) rfl
      have hK9 := hK.sub (tys' := [(cI, .int), (cJ, .long)]) [0, 1] rfl
      refine vx_ret ?_
      refine W.widen (k := 3) (n := 17) (Nat.le_of_ble_eq_true rfl) (Nat.le_of_ble_eq_true rfl) ?_
      exact W.lret (v := (eW kf vf f t).2.2.1) hx hb hr (fun t9 ht hW => ⟨⟨(eW kf vf f t).2.2.1, (), rfl, ⟨h_2, c_5, rfl⟩, by rw [ht]; exact hP9, va_K.moved hW.alike hK9, hD9⟩, hS.F ht⟩) hS.2.2 dX1_least_33
    · have hP9 := hP.sub (ws' := [(h0, .inr (1, [.ref a, .ref b])), (a, .inl (cI, 256, .inl kf)), (b, .inl (cJ, 256, .inr (.inl vf)))]) [0, 1, 2] rfl
      have hD9 := hD.sub (ws' := [(h0, .inr (1, [.ref a, .ref b])), (a, .inl (cI, 256, .inl kf)), (b, .inl (cJ, 256, .inr (.inl vf)))]) [0, 1, 2] (by decide) rfl
      have hK9 := hK.sub (tys' := [(cI, .int), (cJ, .long)]) [0, 1] rfl
      obtain ⟨sa, hsa⟩ := ev_s52 hE
      refine vx_throwS (A := A) (sa := sa) (text := "there are ever lesser numbers") (names := ups) hx hb hlt hown (by decide +kernel) (by decide +kernel) (hts (.classLink RX1 50 "java/lang/UnsupportedOperationException") kX1_least_1) (hts (.initialized "java/lang/UnsupportedOperationException") kX1_least_2) hsa (ev_at_uoe (fun w hw => hts w (kX1_least_3 w hw)) hE) ev_ot_uoe hZ.1 hZ.2 hS (by rw [hml]; exact hl.1) dX1_least_19 dX1_least_22 dX1_least_23 dX1_least_25 dX1_least_28 (fun x hx => (htb x hx).elim) (Nat.le_of_ble_eq_true rfl) (Nat.le_of_ble_eq_true rfl) (Nat.le_of_ble_eq_true rfl) (Nat.le_of_ble_eq_true rfl) hlocks (fun t9 ht h1 h2 => ⟨(), trivial, ⟨Or.inr ⟨rfl, h_2, c_5⟩, hP9.kept (fun k q hk => h2 q.1 (hP9 k q hk).lt), va_K.moved ht hK9, hD9⟩, ⟨Nat.le_trans hS.1 h1, fun q hq hn => (h2 q (Nat.lt_of_lt_of_le hq hS.1)).trans (hS.2.1 q hq hn)⟩⟩) hS.2.2 (Nat.le_of_ble_eq_true rfl) (Nat.le_of_ble_eq_true rfl)

set_option maxRecDepth 20000 in
theorem kX1_greatest_0 : ∀ w ∈ wsX00, w ∈ wsX1_greatest := by decide +kernel
set_option maxRecDepth 20000 in
theorem kX1_greatest_1 : (.classLink RX1 50 "java/lang/UnsupportedOperationException" : Cond) ∈ wsX1_greatest := by decide +kernel
set_option maxRecDepth 20000 in
theorem kX1_greatest_2 : (.initialized "java/lang/UnsupportedOperationException" : Cond) ∈ wsX1_greatest := by decide +kernel
set_option maxRecDepth 20000 in
theorem kX1_greatest_3 : ∀ w ∈ (vx_atS RX1 54 UOE ups).filter goodWord, w ∈ wsX1_greatest := by decide +kernel
set_option maxHeartbeats 4000000 in
set_option maxRecDepth 100000 in
theorem qX1_greatest (l : Launch) (hlt : l.stackTraces = false) (dC : Nat → ClassId) (dI : Nat → Nat → Nat) (sz : Nat) (h0 a b : Nat) (cI cJ : ClassId) (kf : Nat → Int32) (vf : Nat → Int64) (f t : Int32)  : vx_Met l yX1_greatest wsX1_greatest ({ frames := 7, cells := 3, slots := 17, locals := 120 }) (va_Pc [.ref h0, .int f, .int t] (fun U => U.heap.size = sz ∧ va_P (dC, dI) vwCl [(h0, .inr (1, [.ref a, .ref b])), (a, .inl (cI, 256, .inl kf)), (b, .inl (cJ, 256, .inr (.inl vf)))] U.heap ∧ va_K (dC, dI) vwCl [(cI, .int), (cJ, .long)] U ∧ va_D (fun _ => True) [(h0, .inr (1, [.ref a, .ref b])), (a, .inl (cI, 256, .inl kf)), (b, .inl (cJ, 256, .inr (.inl vf)))] ∧ ev U ∧ ez (va_A [(h0, .inr (1, [.ref a, .ref b])), (a, .inl (cI, 256, .inl kf)), (b, .inl (cJ, 256, .inr (.inl vf)))] sz) U U.heap)) (va_Ql (fun (r : Int64) (u : Unit) => (okW f t ∧ ¬ (eW kf vf f t).2.2.2.1 = 0 ∧ r = (eW kf vf f t).2.2.2.2)) (fun (u : Unit) (t9 : State) => va_P (dC, dI) vwCl [(h0, .inr (1, [.ref a, .ref b])), (a, .inl (cI, 256, .inl kf)), (b, .inl (cJ, 256, .inr (.inl vf)))] t9.heap ∧ va_K (dC, dI) vwCl [(cI, .int), (cJ, .long)] t9 ∧ va_D (va_A [(h0, .inr (1, [.ref a, .ref b])), (a, .inl (cI, 256, .inl kf)), (b, .inl (cJ, 256, .inr (.inl vf)))] sz) [(h0, .inr (1, [.ref a, .ref b])), (a, .inl (cI, 256, .inl kf)), (b, .inl (cJ, 256, .inr (.inl vf)))]) (va_A [(h0, .inr (1, [.ref a, .ref b])), (a, .inl (cI, 256, .inl kf)), (b, .inl (cJ, 256, .inr (.inl vf)))] sz)) (vx_X (fun _ : Unit => True) (fun (E : String) (_ : Unit) (t9 : State) => ((E = IOB ∧ ¬ okW f t) ∨ (E = UOE ∧ okW f t ∧ (eW kf vf f t).2.2.2.1 = 0)) ∧ va_P (dC, dI) vwCl [(h0, .inr (1, [.ref a, .ref b])), (a, .inl (cI, 256, .inl kf)), (b, .inl (cJ, 256, .inr (.inl vf)))] t9.heap ∧ va_K (dC, dI) vwCl [(cI, .int), (cJ, .long)] t9 ∧ va_D (va_A [(h0, .inr (1, [.ref a, .ref b])), (a, .inl (cI, 256, .inl kf)), (b, .inl (cJ, 256, .inr (.inl vf)))] sz) [(h0, .inr (1, [.ref a, .ref b])), (a, .inl (cI, 256, .inl kf)), (b, .inl (cJ, 256, .inr (.inl vf)))]) (va_A [(h0, .inr (1, [.ref a, .ref b])), (a, .inl (cI, 256, .inl kf)), (b, .inl (cJ, 256, .inr (.inl vf)))] sz)) 3 17 (va_A [(h0, .inr (1, [.ref a, .ref b])), (a, .inl (cI, 256, .inl kf)), (b, .inl (cJ, 256, .inr (.inl vf)))] sz) := by
  refine vx_ofW (cc := cX1_greatest) (maxL := 4) (ret := (some .long)) (by decide) rfl ?_
  intro p e s m args below meth c s₁ B hml htb hv
  obtain ⟨rfl, hsz, hP, hK, hD0, hE, hZ⟩ := hv
  have hx := B.exec
  have hb := B.bytes
  have hr := B.returns
  have hts := atoms_spec (ws := wsX1_greatest) B.pre
  have hown : s.vm.findClass RX1 = some m.cls := findClass_of_methodNamed B.named
  have hlocks := B.notSynchronized
  subst hsz
  have hD := hD0.self (sz := s.heap.size)
  generalize hAe : va_A [(h0, .inr (1, [.ref a, .ref b])), (a, .inl (cI, 256, .inl kf)), (b, .inl (cJ, 256, .inr (.inl vf)))] s.heap.size = A at hD hZ ⊢
  have hA : ∀ q : Nat, s.heap.size ≤ q → A q := fun q h => by rw [← hAe]; exact Or.inr h
  have hS : va_S A s.heap s.heap [] := va_S.rf
  have hP : va_P (dC, dI) vwCl [(h0, .inr (1, [.ref a, .ref b])), (a, .inl (cI, 256, .inl kf)), (b, .inl (cJ, 256, .inr (.inl vf)))] s.heap := hP
  have hl := lv_entry ([.ref h0, .int f, .int t]) (n := 4) (Nat.le_of_ble_eq_true rfl)
  rw [lg_entry_eq]
  generalize (lg_sl ([.ref h0, .int f, .int t]) ++ List.replicate (4 - (lg_sl ([.ref h0, .int f, .int t])).length) Slot.unset).toArray = ls at hl ⊢
  have hl : lv_has ls 4 [(0, .ref h0), (1, .int f), (2, .int t)] := hl
  refine lv_iload_n hx hb dX1_greatest_0 rfl (lv_at hl 1 rfl) ?_
  refine lv_iload_n hx hb dX1_greatest_1 rfl (lv_at hl 2 rfl) ?_
  have hPc := hP.sub (ws' := []) [] rfl
  have hDc := hD.sub (ws' := []) [] (by decide) rfl
  have hKc := hK.sub (tys' := []) [] rfl
  have hFc := va_free (wc := []) hD hS hA [] rfl
  refine vx_callv (vx_runS (As := [.int f, .int t]) (rest := []) ⟨hx, hb, hml, hown, hts⟩ (qX1_checkPart l hlt dC dI s.heap.size f t) (va_cwS 2 hts gX1_greatest_X1_checkPart rfl rfl rfl (by decide +kernel) ⟨Nat.le_of_ble_eq_true rfl, Nat.le_of_ble_eq_true rfl⟩) ⟨fun a U g mk q => by obtain ⟨q0, q1, qP, qK, qD, qE, qZ⟩ := q; exact ⟨q0, q1, qP, va_K.moved (u := U) (U := U.calling g mk a) (Vm.Alike.refl U.vm) qK, qD, ev.same (u := U) rfl qE, ez.moved (U := U.calling g mk a) qZ (Vm.Alike.refl U.vm)⟩, fun U hU hW => ⟨rfl, by rw [hU], by rw [hU]; exact hPc, va_K.moved hW.alike hKc, hDc.weaken (fun _ _ _ _ => trivial), hE.warm hW, by rw [hU]; exact ((hZ.kept hS.2.1).narrow hFc).moved hW.alike⟩⟩ rfl rfl hl.1 rfl (lv_room (Nat.le_of_ble_eq_true rfl)) dX1_greatest_2 ⟨Nat.le_of_ble_eq_true rfl, Nat.le_of_ble_eq_true rfl⟩) hS (fun q _ h => hFc q h) hFc (fun q _ h => hFc q h) (fun E ce q9 u t9 H1 locs ht hvm hw hB hz1 hk1 hS hce hcv hcl => ?_) (fun u t9 H1 locs ht hvm hw hB hz1 hk1 hS => ?_)
  · obtain ⟨hex, hP1, hK1, hD1⟩ := hB
    rw [ht] at hP1
    have hK1 := va_K.moved hvm.symm hK1
    obtain ⟨hP, hD⟩ := va_join (wr := [(h0, .inr (1, [.ref a, .ref b])), (a, .inl (cI, 256, .inl kf)), (b, .inl (cJ, 256, .inr (.inl vf)))]) (w1 := []) hP hD [] [0, 1, 2] rfl rfl (by decide) (by decide) hk1 hFc hP1 hD1
    have hK := (hK.sub (tys' := [(cI, .int), (cJ, .long)]) [0, 1] rfl).app hK1
    generalize H1 = H at hP hS hce ⊢
    have hP : va_P (dC, dI) vwCl [(h0, .inr (1, [.ref a, .ref b])), (a, .inl (cI, 256, .inl kf)), (b, .inl (cJ, 256, .inr (.inl vf)))] H := hP
    have hD : va_D A [(h0, .inr (1, [.ref a, .ref b])), (a, .inl (cI, 256, .inl kf)), (b, .inl (cJ, 256, .inr (.inl vf)))] := hD
    have hK : va_K (dC, dI) vwCl [(cI, .int), (cJ, .long)] s := hK
    refine vx_widen (k := 1) (n := 6) (Nat.le_of_ble_eq_true rfl) (Nat.le_of_ble_eq_true rfl) ?_
    have hP9 := hP.sub (ws' := [(h0, .inr (1, [.ref a, .ref b])), (a, .inl (cI, 256, .inl kf)), (b, .inl (cJ, 256, .inr (.inl vf)))]) [0, 1, 2] rfl
    have hD9 := hD.sub (ws' := [(h0, .inr (1, [.ref a, .ref b])), (a, .inl (cI, 256, .inl kf)), (b, .inl (cJ, 256, .inr (.inl vf)))]) [0, 1, 2] (by decide) rfl
    have hK9 := hK.sub (tys' := [(cI, .int), (cJ, .long)]) [0, 1] rfl
    exact vx_out (fun x hx => (htb x hx).elim) hlocks hce hcv hcl (fun t9 ht hvm => ⟨(), trivial, ⟨Or.inl hex, by rw [ht]; exact hP9, va_K.moved hvm hK9, hD9⟩, hS.F ht⟩) hS.2.2 (Nat.le_of_ble_eq_true rfl) (Nat.le_of_ble_eq_true rfl)
  · obtain ⟨hP1, hK1, hD1⟩ := hB
    rw [ht] at hP1
    have h_2 := hw
    have hK1 := va_K.moved hvm.symm hK1
    obtain ⟨hP, hD⟩ := va_join (wr := [(h0, .inr (1, [.ref a, .ref b])), (a, .inl (cI, 256, .inl kf)), (b, .inl (cJ, 256, .inr (.inl vf)))]) (w1 := []) hP hD [] [0, 1, 2] rfl rfl (by decide) (by decide) hk1 hFc hP1 hD1
    have hK := (hK.sub (tys' := [(cI, .int), (cJ, .long)]) [0, 1] rfl).app hK1
    generalize H1 = H at hP hS ⊢
    have hP : va_P (dC, dI) vwCl [(h0, .inr (1, [.ref a, .ref b])), (a, .inl (cI, 256, .inl kf)), (b, .inl (cJ, 256, .inr (.inl vf)))] H := hP
    have hD : va_D A [(h0, .inr (1, [.ref a, .ref b])), (a, .inl (cI, 256, .inl kf)), (b, .inl (cJ, 256, .inr (.inl vf)))] := hD
    have hK : va_K (dC, dI) vwCl [(cI, .int), (cJ, .long)] s := hK
    refine W.widen (k := 1) (n := 6) (Nat.le_of_ble_eq_true rfl) (Nat.le_of_ble_eq_true rfl) ?_
    refine lv_aload_n hx hb dX1_greatest_5 rfl (lv_at hl 0 rfl) ?_
    refine lv_iload_n hx hb dX1_greatest_6 rfl (lv_at hl 1 rfl) ?_
    refine lv_iload_n hx hb dX1_greatest_7 rfl (lv_at hl 2 rfl) ?_
    have hPc := hP.sub (ws' := [(h0, .inr (1, [.ref a, .ref b])), (a, .inl (cI, 256, .inl kf)), (b, .inl (cJ, 256, .inr (.inl vf)))]) [0, 1, 2] rfl
    have hDc := hD.sub (ws' := [(h0, .inr (1, [.ref a, .ref b])), (a, .inl (cI, 256, .inl kf)), (b, .inl (cJ, 256, .inr (.inl vf)))]) [0, 1, 2] (by decide) rfl
    have hKc := hK.sub (tys' := [(cI, .int), (cJ, .long)]) [0, 1] rfl
    have hFc := va_free (wc := [(h0, .inr (1, [.ref a, .ref b])), (a, .inl (cI, 256, .inl kf)), (b, .inl (cJ, 256, .inr (.inl vf)))]) hD hS hA [0, 1, 2] rfl
    refine va_callr (va_runV (As := [.int f, .int t]) (rest := []) ⟨hx, hb, hml, hown, hts⟩ (qX1_effectOf l hlt dC dI H.size h0 a b cI cJ kf vf f t h_2) (cwV 2 hts gX1_greatest_X1_effectOf rfl rfl rfl (by decide +kernel) ⟨Nat.le_of_ble_eq_true rfl, Nat.le_of_ble_eq_true rfl⟩) ⟨fun a U g mk q => by obtain ⟨q0, q1, qP, qK, qD, qE, qZ⟩ := q; exact ⟨q0, q1, qP, va_K.moved (u := U) (U := U.calling g mk a) (Vm.Alike.refl U.vm) qK, qD, ev.same (u := U) rfl qE, ez.moved (U := U.calling g mk a) qZ (Vm.Alike.refl U.vm)⟩, va_recv hKc hPc (ci := 1) (q0 := 0) rfl rfl, fun U hU hW => ⟨rfl, by rw [hU], by rw [hU]; exact hPc, va_K.moved hW.alike hKc, hDc.weaken (fun _ _ _ _ => trivial), hE.warm hW, by rw [hU]; exact ((hZ.kept hS.2.1).narrow hFc).moved hW.alike⟩⟩ rfl rfl hl.1 rfl (lv_room (Nat.le_of_ble_eq_true rfl)) dX1_greatest_8 ⟨Nat.le_of_ble_eq_true rfl, Nat.le_of_ble_eq_true rfl⟩) hS (fun q _ h => hFc q h) hFc (fun u r_3 t9 H1 locs ht hvm hw hB hz1 hk1 hS => ?_)
    obtain ⟨hP1, hK1, hD1⟩ := hB
    rw [ht] at hP1
    obtain rfl := hw
    have hK1 := va_K.moved hvm.symm hK1
    obtain ⟨hP, hD⟩ := va_join (wr := []) (w1 := [(h0, .inr (1, [.ref a, .ref b])), (a, .inl (cI, 256, .inl kf)), (b, .inl (cJ, 256, .inr (.inl vf))), (r_3, .inr (0, [.long ((eW kf vf f t).1), .int ((eW kf vf f t).2.1), .long ((eW kf vf f t).2.2.1), .int ((eW kf vf f t).2.2.2.1), .long ((eW kf vf f t).2.2.2.2)]))]) hP hD [0, 1, 2] [] rfl rfl (by decide) (by decide) hk1 hFc hP1 hD1
    have hK := (hK.sub (tys' := []) [] rfl).app hK1
    generalize H1 = H at hP hS ⊢
    have hP : va_P (dC, dI) vwCl [(h0, .inr (1, [.ref a, .ref b])), (a, .inl (cI, 256, .inl kf)), (b, .inl (cJ, 256, .inr (.inl vf))), (r_3, .inr (0, [.long ((eW kf vf f t).1), .int ((eW kf vf f t).2.1), .long ((eW kf vf f t).2.2.1), .int ((eW kf vf f t).2.2.2.1), .long ((eW kf vf f t).2.2.2.2)]))] H := hP
    have hD : va_D A [(h0, .inr (1, [.ref a, .ref b])), (a, .inl (cI, 256, .inl kf)), (b, .inl (cJ, 256, .inr (.inl vf))), (r_3, .inr (0, [.long ((eW kf vf f t).1), .int ((eW kf vf f t).2.1), .long ((eW kf vf f t).2.2.1), .int ((eW kf vf f t).2.2.2.1), .long ((eW kf vf f t).2.2.2.2)]))] := hD
    have hK : va_K (dC, dI) vwCl [(cI, .int), (cJ, .long)] s := hK
    refine W.widen (k := 2) (n := 11) (Nat.le_of_ble_eq_true rfl) (Nat.le_of_ble_eq_true rfl) ?_
    refine lv_astore_n (lv' := [(3, .ref r_3), (0, .ref h0), (1, .int f), (2, .int t)]) hx hb dX1_greatest_11 rfl hl (by decide) rfl (fun ls hl => ?_)
    refine lv_aload_n hx hb dX1_greatest_12 rfl (lv_at hl 0 rfl) ?_
    refine va_getN (D := (dC, dI)) (ci := 0) (v := .int ((eW kf vf f t).2.2.2.1)) (C := RX0) (T := TX0) (N := 5) hx hb hts kX1_greatest_0 hown hK hP 3 rfl rfl 3 (by decide) (va_Nw.use rfl (ev_n61 hE)) (fun _ h9 => h9) rfl dX1_greatest_13 ?_
    refine lv_if_ne (tgt := 29) hx hb dX1_greatest_16 (by decide) (fun c_5 => ?_) (fun c_5 => ?_)
    · refine lv_aload_n hx hb dX1_greatest_29 rfl (lv_at hl 0 rfl) ?_
      refine va_getN (D := (dC, dI)) (ci := 0) (v := .long ((eW kf vf f t).2.2.2.2)) (C := RX0) (T := TX0) (N := 5) hx hb hts kX1_greatest_0 hown hK hP 3 rfl rfl 4 (by decide) (va_Nw.use rfl (ev_n66 hE)) (fun _ h9 => h9) rfl dX1_greatest_30 ?_
      have hP9 := hP.sub (ws' := [(h0, .inr (1, [.ref a, .ref b])), (a, .inl (cI, 256, .inl kf)), (b, .inl (cJ, 256, .inr (.inl vf)))]) [0, 1, 2] rfl
      have hD9 := hD.sub (ws' := [(h0, .inr (1, [.ref a, .ref b])), (a, .inl (cI, 256, .inl kf)), (b, .inl (cJ, 256, .inr (.inl vf)))]) [0, 1, 2] (by decide) rfl
      have hK9 := hK.sub (tys' := [(cI, .int), (cJ, .long)]) [0, 1] rfl
      refine vx_ret ?_
      refine W.widen (k := 3) (n := 17) (Nat.le_of_ble_eq_true rfl) (Nat.le_of_ble_eq_true rfl) ?_
      exact W.lret (v := (eW kf vf f t).2.2.2.2) hx hb hr (fun t9 ht hW => ⟨⟨(eW kf vf f t).2.2.2.2, (), rfl, ⟨h_2, c_5, rfl⟩, by rw [ht]; exact hP9, va_K.moved hW.alike hK9, hD9⟩, hS.F ht⟩) hS.2.2 dX1_greatest_33
    · have hP9 := hP.sub (ws' := [(h0, .inr (1, [.ref a, .ref b])), (a, .inl (cI, 256, .inl kf)), (b, .inl (cJ, 256, .inr (.inl vf)))]) [0, 1, 2] rfl
      have hD9 := hD.sub (ws' := [(h0, .inr (1, [.ref a, .ref b])), (a, .inl (cI, 256, .inl kf)), (b, .inl (cJ, 256, .inr (.inl vf)))]) [0, 1, 2] (by decide) rfl
      have hK9 := hK.sub (tys' := [(cI, .int), (cJ, .long)]) [0, 1] rfl
      obtain ⟨sa, hsa⟩ := ev_s64 hE
      refine vx_throwS (A := A) (sa := sa) (text := "there are ever greater numbers") (names := ups) hx hb hlt hown (by decide +kernel) (by decide +kernel) (hts (.classLink RX1 50 "java/lang/UnsupportedOperationException") kX1_greatest_1) (hts (.initialized "java/lang/UnsupportedOperationException") kX1_greatest_2) hsa (ev_at_uoe (fun w hw => hts w (kX1_greatest_3 w hw)) hE) ev_ot_uoe hZ.1 hZ.2 hS (by rw [hml]; exact hl.1) dX1_greatest_19 dX1_greatest_22 dX1_greatest_23 dX1_greatest_25 dX1_greatest_28 (fun x hx => (htb x hx).elim) (Nat.le_of_ble_eq_true rfl) (Nat.le_of_ble_eq_true rfl) (Nat.le_of_ble_eq_true rfl) (Nat.le_of_ble_eq_true rfl) hlocks (fun t9 ht h1 h2 => ⟨(), trivial, ⟨Or.inr ⟨rfl, h_2, c_5⟩, hP9.kept (fun k q hk => h2 q.1 (hP9 k q hk).lt), va_K.moved ht hK9, hD9⟩, ⟨Nat.le_trans hS.1 h1, fun q hq hn => (h2 q (Nat.lt_of_lt_of_le hq hS.1)).trans (hS.2.1 q hq hn)⟩⟩) hS.2.2 (Nat.le_of_ble_eq_true rfl) (Nat.le_of_ble_eq_true rfl)
end
section
set_option maxRecDepth 20000 in
theorem kX1_fixed_0 : ∀ w ∈ wsX00, w ∈ wsX1_fixed := by decide +kernel
set_option maxRecDepth 20000 in
theorem kX1_fixed_1 : (.classLink RX1 50 "java/lang/UnsupportedOperationException" : Cond) ∈ wsX1_fixed := by decide +kernel
set_option maxRecDepth 20000 in
theorem kX1_fixed_2 : (.initialized "java/lang/UnsupportedOperationException" : Cond) ∈ wsX1_fixed := by decide +kernel
set_option maxRecDepth 20000 in
theorem kX1_fixed_3 : ∀ w ∈ (vx_atS RX1 54 UOE ups).filter goodWord, w ∈ wsX1_fixed := by decide +kernel
set_option maxHeartbeats 4000000 in
set_option maxRecDepth 100000 in
theorem qX1_fixed (l : Launch) (hlt : l.stackTraces = false) (dC : Nat → ClassId) (dI : Nat → Nat → Nat) (sz : Nat) (h0 a b : Nat) (cI cJ : ClassId) (kf : Nat → Int32) (vf : Nat → Int64) (f t w : Int32) (hwb : w = 0 ∨ w = 1) : vx_Met l yX1_fixed wsX1_fixed ({ frames := 7, cells := 3, slots := 17, locals := 120 }) (va_Pc [.ref h0, .int f, .int t, .int w] (fun U => U.heap.size = sz ∧ va_P (dC, dI) vwCl [(h0, .inr (1, [.ref a, .ref b])), (a, .inl (cI, 256, .inl kf)), (b, .inl (cJ, 256, .inr (.inl vf)))] U.heap ∧ va_K (dC, dI) vwCl [(cI, .int), (cJ, .long)] U ∧ va_D (fun _ => True) [(h0, .inr (1, [.ref a, .ref b])), (a, .inl (cI, 256, .inl kf)), (b, .inl (cJ, 256, .inr (.inl vf)))] ∧ ev U ∧ ez (va_A [(h0, .inr (1, [.ref a, .ref b])), (a, .inl (cI, 256, .inl kf)), (b, .inl (cJ, 256, .inr (.inl vf)))] sz) U U.heap)) (va_Ql (fun (r : Int64) (u : Unit) => (okW f t ∧ ¬ e_fo (eW kf vf f t) w = 0 ∧ r = e_fv (eW kf vf f t) w)) (fun (u : Unit) (t9 : State) => va_P (dC, dI) vwCl [(h0, .inr (1, [.ref a, .ref b])), (a, .inl (cI, 256, .inl kf)), (b, .inl (cJ, 256, .inr (.inl vf)))] t9.heap ∧ va_K (dC, dI) vwCl [(cI, .int), (cJ, .long)] t9 ∧ va_D (va_A [(h0, .inr (1, [.ref a, .ref b])), (a, .inl (cI, 256, .inl kf)), (b, .inl (cJ, 256, .inr (.inl vf)))] sz) [(h0, .inr (1, [.ref a, .ref b])), (a, .inl (cI, 256, .inl kf)), (b, .inl (cJ, 256, .inr (.inl vf)))]) (va_A [(h0, .inr (1, [.ref a, .ref b])), (a, .inl (cI, 256, .inl kf)), (b, .inl (cJ, 256, .inr (.inl vf)))] sz)) (vx_X (fun _ : Unit => True) (fun (E : String) (_ : Unit) (t9 : State) => ((E = IOB ∧ ¬ okW f t) ∨ (E = UOE ∧ okW f t ∧ e_fo (eW kf vf f t) w = 0)) ∧ va_P (dC, dI) vwCl [(h0, .inr (1, [.ref a, .ref b])), (a, .inl (cI, 256, .inl kf)), (b, .inl (cJ, 256, .inr (.inl vf)))] t9.heap ∧ va_K (dC, dI) vwCl [(cI, .int), (cJ, .long)] t9 ∧ va_D (va_A [(h0, .inr (1, [.ref a, .ref b])), (a, .inl (cI, 256, .inl kf)), (b, .inl (cJ, 256, .inr (.inl vf)))] sz) [(h0, .inr (1, [.ref a, .ref b])), (a, .inl (cI, 256, .inl kf)), (b, .inl (cJ, 256, .inr (.inl vf)))]) (va_A [(h0, .inr (1, [.ref a, .ref b])), (a, .inl (cI, 256, .inl kf)), (b, .inl (cJ, 256, .inr (.inl vf)))] sz)) 3 17 (va_A [(h0, .inr (1, [.ref a, .ref b])), (a, .inl (cI, 256, .inl kf)), (b, .inl (cJ, 256, .inr (.inl vf)))] sz) := by
  refine vx_ofW (cc := cX1_fixed) (maxL := 6) (ret := (some .long)) (by decide) rfl ?_
  intro p e s m args below meth c s₁ B hml htb hv
  obtain ⟨rfl, hsz, hP, hK, hD0, hE, hZ⟩ := hv
  have hx := B.exec
  have hb := B.bytes
  have hr := B.returns
  have hts := atoms_spec (ws := wsX1_fixed) B.pre
  have hown : s.vm.findClass RX1 = some m.cls := findClass_of_methodNamed B.named
  have hlocks := B.notSynchronized
  subst hsz
  have hD := hD0.self (sz := s.heap.size)
  generalize hAe : va_A [(h0, .inr (1, [.ref a, .ref b])), (a, .inl (cI, 256, .inl kf)), (b, .inl (cJ, 256, .inr (.inl vf)))] s.heap.size = A at hD hZ ⊢
  have hA : ∀ q : Nat, s.heap.size ≤ q → A q := fun q h => by rw [← hAe]; exact Or.inr h
  have hS : va_S A s.heap s.heap [] := va_S.rf
  have hP : va_P (dC, dI) vwCl [(h0, .inr (1, [.ref a, .ref b])), (a, .inl (cI, 256, .inl kf)), (b, .inl (cJ, 256, .inr (.inl vf)))] s.heap := hP
  have hl := lv_entry ([.ref h0, .int f, .int t, .int w]) (n := 6) (Nat.le_of_ble_eq_true rfl)
  rw [lg_entry_eq]
  generalize (lg_sl ([.ref h0, .int f, .int t, .int w]) ++ List.replicate (6 - (lg_sl ([.ref h0, .int f, .int t, .int w])).length) Slot.unset).toArray = ls at hl ⊢
  have hl : lv_has ls 6 [(0, .ref h0), (1, .int f), (2, .int t), (3, .int w)] := hl
  refine lv_iload_n hx hb dX1_fixed_0 rfl (lv_at hl 1 rfl) ?_
  refine lv_iload_n hx hb dX1_fixed_1 rfl (lv_at hl 2 rfl) ?_
  have hPc := hP.sub (ws' := []) [] rfl
  have hDc := hD.sub (ws' := []) [] (by decide) rfl
  have hKc := hK.sub (tys' := []) [] rfl
  have hFc := va_free (wc := []) hD hS hA [] rfl
  refine vx_callv (vx_runS (As := [.int f, .int t]) (rest := []) ⟨hx, hb, hml, hown, hts⟩ (qX1_checkPart l hlt dC dI s.heap.size f t) (va_cwS 2 hts gX1_fixed_X1_checkPart rfl rfl rfl (by decide +kernel) ⟨Nat.le_of_ble_eq_true rfl, Nat.le_of_ble_eq_true rfl⟩) ⟨fun a U g mk q => by obtain ⟨q0, q1, qP, qK, qD, qE, qZ⟩ := q; exact ⟨q0, q1, qP, va_K.moved (u := U) (U := U.calling g mk a) (Vm.Alike.refl U.vm) qK, qD, ev.same (u := U) rfl qE, ez.moved (U := U.calling g mk a) qZ (Vm.Alike.refl U.vm)⟩, fun U hU hW => ⟨rfl, by rw [hU], by rw [hU]; exact hPc, va_K.moved hW.alike hKc, hDc.weaken (fun _ _ _ _ => trivial), hE.warm hW, by rw [hU]; exact ((hZ.kept hS.2.1).narrow hFc).moved hW.alike⟩⟩ rfl rfl hl.1 rfl (lv_room (Nat.le_of_ble_eq_true rfl)) dX1_fixed_2 ⟨Nat.le_of_ble_eq_true rfl, Nat.le_of_ble_eq_true rfl⟩) hS (fun q _ h => hFc q h) hFc (fun q _ h => hFc q h) (fun E ce q9 u t9 H1 locs ht hvm hw hB hz1 hk1 hS hce hcv hcl => ?_) (fun u t9 H1 locs ht hvm hw hB hz1 hk1 hS => ?_)
  · obtain ⟨hex, hP1, hK1, hD1⟩ := hB
    rw [ht] at hP1
    have hK1 := va_K.moved hvm.symm hK1
    obtain ⟨hP, hD⟩ := va_join (wr := [(h0, .inr (1, [.ref a, .ref b])), (a, .inl (cI, 256, .inl kf)), (b, .inl (cJ, 256, .inr (.inl vf)))]) (w1 := []) hP hD [] [0, 1, 2] rfl rfl (by decide) (by decide) hk1 hFc hP1 hD1
    have hK := (hK.sub (tys' := [(cI, .int), (cJ, .long)]) [0, 1] rfl).app hK1
    generalize H1 = H at hP hS hce ⊢
    have hP : va_P (dC, dI) vwCl [(h0, .inr (1, [.ref a, .ref b])), (a, .inl (cI, 256, .inl kf)), (b, .inl (cJ, 256, .inr (.inl vf)))] H := hP
    have hD : va_D A [(h0, .inr (1, [.ref a, .ref b])), (a, .inl (cI, 256, .inl kf)), (b, .inl (cJ, 256, .inr (.inl vf)))] := hD
    have hK : va_K (dC, dI) vwCl [(cI, .int), (cJ, .long)] s := hK
    refine vx_widen (k := 1) (n := 6) (Nat.le_of_ble_eq_true rfl) (Nat.le_of_ble_eq_true rfl) ?_
    have hP9 := hP.sub (ws' := [(h0, .inr (1, [.ref a, .ref b])), (a, .inl (cI, 256, .inl kf)), (b, .inl (cJ, 256, .inr (.inl vf)))]) [0, 1, 2] rfl
    have hD9 := hD.sub (ws' := [(h0, .inr (1, [.ref a, .ref b])), (a, .inl (cI, 256, .inl kf)), (b, .inl (cJ, 256, .inr (.inl vf)))]) [0, 1, 2] (by decide) rfl
    have hK9 := hK.sub (tys' := [(cI, .int), (cJ, .long)]) [0, 1] rfl
    exact vx_out (fun x hx => (htb x hx).elim) hlocks hce hcv hcl (fun t9 ht hvm => ⟨(), trivial, ⟨Or.inl hex, by rw [ht]; exact hP9, va_K.moved hvm hK9, hD9⟩, hS.F ht⟩) hS.2.2 (Nat.le_of_ble_eq_true rfl) (Nat.le_of_ble_eq_true rfl)
  · obtain ⟨hP1, hK1, hD1⟩ := hB
    rw [ht] at hP1
    have h_2 := hw
    have hK1 := va_K.moved hvm.symm hK1
    obtain ⟨hP, hD⟩ := va_join (wr := [(h0, .inr (1, [.ref a, .ref b])), (a, .inl (cI, 256, .inl kf)), (b, .inl (cJ, 256, .inr (.inl vf)))]) (w1 := []) hP hD [] [0, 1, 2] rfl rfl (by decide) (by decide) hk1 hFc hP1 hD1
    have hK := (hK.sub (tys' := [(cI, .int), (cJ, .long)]) [0, 1] rfl).app hK1
    generalize H1 = H at hP hS ⊢
    have hP : va_P (dC, dI) vwCl [(h0, .inr (1, [.ref a, .ref b])), (a, .inl (cI, 256, .inl kf)), (b, .inl (cJ, 256, .inr (.inl vf)))] H := hP
    have hD : va_D A [(h0, .inr (1, [.ref a, .ref b])), (a, .inl (cI, 256, .inl kf)), (b, .inl (cJ, 256, .inr (.inl vf)))] := hD
    have hK : va_K (dC, dI) vwCl [(cI, .int), (cJ, .long)] s := hK
    refine W.widen (k := 1) (n := 6) (Nat.le_of_ble_eq_true rfl) (Nat.le_of_ble_eq_true rfl) ?_
    refine lv_aload_n hx hb dX1_fixed_5 rfl (lv_at hl 0 rfl) ?_
    refine lv_iload_n hx hb dX1_fixed_6 rfl (lv_at hl 1 rfl) ?_
    refine lv_iload_n hx hb dX1_fixed_7 rfl (lv_at hl 2 rfl) ?_
    have hPc := hP.sub (ws' := [(h0, .inr (1, [.ref a, .ref b])), (a, .inl (cI, 256, .inl kf)), (b, .inl (cJ, 256, .inr (.inl vf)))]) [0, 1, 2] rfl
    have hDc := hD.sub (ws' := [(h0, .inr (1, [.ref a, .ref b])), (a, .inl (cI, 256, .inl kf)), (b, .inl (cJ, 256, .inr (.inl vf)))]) [0, 1, 2] (by decide) rfl
    have hKc := hK.sub (tys' := [(cI, .int), (cJ, .long)]) [0, 1] rfl
    have hFc := va_free (wc := [(h0, .inr (1, [.ref a, .ref b])), (a, .inl (cI, 256, .inl kf)), (b, .inl (cJ, 256, .inr (.inl vf)))]) hD hS hA [0, 1, 2] rfl
    refine va_callr (va_runV (As := [.int f, .int t]) (rest := []) ⟨hx, hb, hml, hown, hts⟩ (qX1_effectOf l hlt dC dI H.size h0 a b cI cJ kf vf f t h_2) (cwV 2 hts gX1_fixed_X1_effectOf rfl rfl rfl (by decide +kernel) ⟨Nat.le_of_ble_eq_true rfl, Nat.le_of_ble_eq_true rfl⟩) ⟨fun a U g mk q => by obtain ⟨q0, q1, qP, qK, qD, qE, qZ⟩ := q; exact ⟨q0, q1, qP, va_K.moved (u := U) (U := U.calling g mk a) (Vm.Alike.refl U.vm) qK, qD, ev.same (u := U) rfl qE, ez.moved (U := U.calling g mk a) qZ (Vm.Alike.refl U.vm)⟩, va_recv hKc hPc (ci := 1) (q0 := 0) rfl rfl, fun U hU hW => ⟨rfl, by rw [hU], by rw [hU]; exact hPc, va_K.moved hW.alike hKc, hDc.weaken (fun _ _ _ _ => trivial), hE.warm hW, by rw [hU]; exact ((hZ.kept hS.2.1).narrow hFc).moved hW.alike⟩⟩ rfl rfl hl.1 rfl (lv_room (Nat.le_of_ble_eq_true rfl)) dX1_fixed_8 ⟨Nat.le_of_ble_eq_true rfl, Nat.le_of_ble_eq_true rfl⟩) hS (fun q _ h => hFc q h) hFc (fun u r_3 t9 H1 locs ht hvm hw hB hz1 hk1 hS => ?_)
    obtain ⟨hP1, hK1, hD1⟩ := hB
    rw [ht] at hP1
    obtain rfl := hw
    have hK1 := va_K.moved hvm.symm hK1
    obtain ⟨hP, hD⟩ := va_join (wr := []) (w1 := [(h0, .inr (1, [.ref a, .ref b])), (a, .inl (cI, 256, .inl kf)), (b, .inl (cJ, 256, .inr (.inl vf))), (r_3, .inr (0, [.long ((eW kf vf f t).1), .int ((eW kf vf f t).2.1), .long ((eW kf vf f t).2.2.1), .int ((eW kf vf f t).2.2.2.1), .long ((eW kf vf f t).2.2.2.2)]))]) hP hD [0, 1, 2] [] rfl rfl (by decide) (by decide) hk1 hFc hP1 hD1
    have hK := (hK.sub (tys' := []) [] rfl).app hK1
    generalize H1 = H at hP hS ⊢
    have hP : va_P (dC, dI) vwCl [(h0, .inr (1, [.ref a, .ref b])), (a, .inl (cI, 256, .inl kf)), (b, .inl (cJ, 256, .inr (.inl vf))), (r_3, .inr (0, [.long ((eW kf vf f t).1), .int ((eW kf vf f t).2.1), .long ((eW kf vf f t).2.2.1), .int ((eW kf vf f t).2.2.2.1), .long ((eW kf vf f t).2.2.2.2)]))] H := hP
    have hD : va_D A [(h0, .inr (1, [.ref a, .ref b])), (a, .inl (cI, 256, .inl kf)), (b, .inl (cJ, 256, .inr (.inl vf))), (r_3, .inr (0, [.long ((eW kf vf f t).1), .int ((eW kf vf f t).2.1), .long ((eW kf vf f t).2.2.1), .int ((eW kf vf f t).2.2.2.1), .long ((eW kf vf f t).2.2.2.2)]))] := hD
    have hK : va_K (dC, dI) vwCl [(cI, .int), (cJ, .long)] s := hK
    refine W.widen (k := 2) (n := 11) (Nat.le_of_ble_eq_true rfl) (Nat.le_of_ble_eq_true rfl) ?_
    refine lv_astore (lv' := [(4, .ref r_3), (0, .ref h0), (1, .int f), (2, .int t), (3, .int w)]) hx hb dX1_fixed_11 hl (by decide) rfl (fun ls hl => ?_)
    refine lv_aload hx hb dX1_fixed_13 (lv_at hl 0 rfl) ?_
    refine lv_iload_n hx hb dX1_fixed_15 rfl (lv_at hl 4 rfl) ?_
    have hPc := hP.sub (ws' := [(r_3, .inr (0, [.long ((eW kf vf f t).1), .int ((eW kf vf f t).2.1), .long ((eW kf vf f t).2.2.1), .int ((eW kf vf f t).2.2.2.1), .long ((eW kf vf f t).2.2.2.2)]))]) [3] rfl
    have hDc := hD.sub (ws' := [(r_3, .inr (0, [.long ((eW kf vf f t).1), .int ((eW kf vf f t).2.1), .long ((eW kf vf f t).2.2.1), .int ((eW kf vf f t).2.2.2.1), .long ((eW kf vf f t).2.2.2.2)]))]) [3] (by decide) rfl
    have hKc := hK.sub (tys' := []) [] rfl
    have hFc := va_free (wc := [(r_3, .inr (0, [.long ((eW kf vf f t).1), .int ((eW kf vf f t).2.1), .long ((eW kf vf f t).2.2.1), .int ((eW kf vf f t).2.2.2.1), .long ((eW kf vf f t).2.2.2.2)]))]) hD hS hA [3] rfl
    refine va_calli (va_runV (As := [.int w]) (rest := []) ⟨hx, hb, hml, hown, hts⟩ (qX0_staysAtHigh l dC dI H.size r_3 (eW kf vf f t) w hwb) (cwV 1 hts gX1_fixed_X0_staysAtHigh rfl rfl rfl (by decide +kernel) ⟨Nat.le_of_ble_eq_true rfl, Nat.le_of_ble_eq_true rfl⟩) ⟨fun a U g mk q => by obtain ⟨q0, q1, qP, qK, qD⟩ := q; exact ⟨q0, q1, qP, va_K.moved (u := U) (U := U.calling g mk a) (Vm.Alike.refl U.vm) qK, qD⟩, va_recv hKc hPc (ci := 0) (q0 := 0) rfl rfl, fun U hU hW => ⟨rfl, by rw [hU], by rw [hU]; exact hPc, va_K.moved hW.alike hKc, hDc.weaken (fun _ _ _ _ => trivial)⟩⟩ rfl rfl hl.1 rfl (lv_room (Nat.le_of_ble_eq_true rfl)) dX1_fixed_16 ⟨Nat.le_of_ble_eq_true rfl, Nat.le_of_ble_eq_true rfl⟩) hS (fun q _ h => hFc q h) hFc (fun r_5 u t9 H1 locs ht hvm hw hB hz1 hk1 hS => ?_)
    obtain ⟨hP1, hK1, hD1⟩ := hB
    rw [ht] at hP1
    have h_6 := hw
    have hK1 := va_K.moved hvm.symm hK1
    obtain ⟨hP, hD⟩ := va_join (wr := [(h0, .inr (1, [.ref a, .ref b])), (a, .inl (cI, 256, .inl kf)), (b, .inl (cJ, 256, .inr (.inl vf)))]) (w1 := [(r_3, .inr (0, [.long ((eW kf vf f t).1), .int ((eW kf vf f t).2.1), .long ((eW kf vf f t).2.2.1), .int ((eW kf vf f t).2.2.2.1), .long ((eW kf vf f t).2.2.2.2)]))]) hP hD [3] [0, 1, 2] rfl rfl (by decide) (by decide) hk1 hFc hP1 hD1
    have hK := (hK.sub (tys' := [(cI, .int), (cJ, .long)]) [0, 1] rfl).app hK1
    generalize H1 = H at hP hS ⊢
    have hP : va_P (dC, dI) vwCl [(h0, .inr (1, [.ref a, .ref b])), (a, .inl (cI, 256, .inl kf)), (b, .inl (cJ, 256, .inr (.inl vf))), (r_3, .inr (0, [.long ((eW kf vf f t).1), .int ((eW kf vf f t).2.1), .long ((eW kf vf f t).2.2.1), .int ((eW kf vf f t).2.2.2.1), .long ((eW kf vf f t).2.2.2.2)]))] H := hP
    have hD : va_D A [(h0, .inr (1, [.ref a, .ref b])), (a, .inl (cI, 256, .inl kf)), (b, .inl (cJ, 256, .inr (.inl vf))), (r_3, .inr (0, [.long ((eW kf vf f t).1), .int ((eW kf vf f t).2.1), .long ((eW kf vf f t).2.2.1), .int ((eW kf vf f t).2.2.2.1), .long ((eW kf vf f t).2.2.2.2)]))] := hD
    have hK : va_K (dC, dI) vwCl [(cI, .int), (cJ, .long)] s := hK
    refine W.widen (k := 2) (n := 11) (Nat.le_of_ble_eq_true rfl) (Nat.le_of_ble_eq_true rfl) ?_
    refine lv_istore (lv' := [(5, .int r_5), (4, .ref r_3), (0, .ref h0), (1, .int f), (2, .int t), (3, .int w)]) hx hb dX1_fixed_19 hl (by decide) rfl (fun ls hl => ?_)
    refine lv_iload hx hb dX1_fixed_21 (lv_at hl 0 rfl) ?_
    refine lv_if_eq (tgt := 37) hx hb dX1_fixed_23 (by decide) (fun c_7 => ?_) (fun c_7 => ?_)
    · refine lv_aload hx hb dX1_fixed_37 (lv_at hl 1 rfl) ?_
      refine va_getN (D := (dC, dI)) (ci := 0) (v := .int ((eW kf vf f t).2.1)) (C := RX0) (T := TX0) (N := 5) hx hb hts kX1_fixed_0 hown hK hP 3 rfl rfl 1 (by decide) (va_Nw.use rfl (ev_n46 hE)) (fun _ h9 => h9) rfl dX1_fixed_39 ?_
      refine lv_if_ne (tgt := 55) hx hb dX1_fixed_42 (by decide) (fun c_8 => ?_) (fun c_8 => ?_)
      · refine lv_iload hx hb dX1_fixed_55 (lv_at hl 0 rfl) ?_
        refine lv_if_eq (tgt := 68) hx hb dX1_fixed_57 (by decide) (fun c_9 => ?_) (fun c_9 => ?_)
        · refine lv_aload hx hb dX1_fixed_68 (lv_at hl 1 rfl) ?_
          refine va_getN (D := (dC, dI)) (ci := 0) (v := .long ((eW kf vf f t).2.2.1)) (C := RX0) (T := TX0) (N := 5) hx hb hts kX1_fixed_0 hown hK hP 3 rfl rfl 2 (by decide) (va_Nw.use rfl (ev_n57 hE)) (fun _ h9 => h9) rfl dX1_fixed_70 ?_
          have hP9 := hP.sub (ws' := [(h0, .inr (1, [.ref a, .ref b])), (a, .inl (cI, 256, .inl kf)), (b, .inl (cJ, 256, .inr (.inl vf)))]) [0, 1, 2] rfl
          have hD9 := hD.sub (ws' := [(h0, .inr (1, [.ref a, .ref b])), (a, .inl (cI, 256, .inl kf)), (b, .inl (cJ, 256, .inr (.inl vf)))]) [0, 1, 2] (by decide) rfl
          have hK9 := hK.sub (tys' := [(cI, .int), (cJ, .long)]) [0, 1] rfl
          refine vx_ret ?_
          refine W.widen (k := 3) (n := 17) (Nat.le_of_ble_eq_true rfl) (Nat.le_of_ble_eq_true rfl) ?_
          exact W.lret (v := (eW kf vf f t).2.2.1) hx hb hr (fun t9 ht hW => ⟨⟨(eW kf vf f t).2.2.1, (), rfl, ⟨h_2, by first | (simp [e_fo, h_2, h_6, c_7, c_8, c_9]; done) | (simp [e_fo, h_2, h_6, c_7, c_8, c_9]; done) | grind [e_fo], by first | (simp [e_fv, h_2, h_6, c_7, c_8, c_9]; done) | (simp [e_fv, h_2, h_6, c_7, c_8, c_9]; done) | grind [e_fv]⟩, by rw [ht]; exact hP9, va_K.moved hW.alike hK9, hD9⟩, hS.F ht⟩) hS.2.2 dX1_fixed_73
        · refine lv_aload hx hb dX1_fixed_60 (lv_at hl 1 rfl) ?_
          refine va_getN (D := (dC, dI)) (ci := 0) (v := .long ((eW kf vf f t).2.2.2.2)) (C := RX0) (T := TX0) (N := 5) hx hb hts kX1_fixed_0 hown hK hP 3 rfl rfl 4 (by decide) (va_Nw.use rfl (ev_n66 hE)) (fun _ h9 => h9) rfl dX1_fixed_62 ?_
          refine lv_goto (tgt := 73) hx hb dX1_fixed_65 (by decide) ?_
          have hP9 := hP.sub (ws' := [(h0, .inr (1, [.ref a, .ref b])), (a, .inl (cI, 256, .inl kf)), (b, .inl (cJ, 256, .inr (.inl vf)))]) [0, 1, 2] rfl
          have hD9 := hD.sub (ws' := [(h0, .inr (1, [.ref a, .ref b])), (a, .inl (cI, 256, .inl kf)), (b, .inl (cJ, 256, .inr (.inl vf)))]) [0, 1, 2] (by decide) rfl
          have hK9 := hK.sub (tys' := [(cI, .int), (cJ, .long)]) [0, 1] rfl
          refine vx_ret ?_
          refine W.widen (k := 3) (n := 17) (Nat.le_of_ble_eq_true rfl) (Nat.le_of_ble_eq_true rfl) ?_
          exact W.lret (v := (eW kf vf f t).2.2.2.2) hx hb hr (fun t9 ht hW => ⟨⟨(eW kf vf f t).2.2.2.2, (), rfl, ⟨h_2, by first | (simp [e_fo, h_2, h_6, c_7, c_8, c_9]; done) | (simp [e_fo, h_2, h_6, c_7, c_8, c_9]; done) | grind [e_fo], by first | (simp [e_fv, h_2, h_6, c_7, c_8, c_9]; done) | (simp [e_fv, h_2, h_6, c_7, c_8, c_9]; done) | grind [e_fv]⟩, by rw [ht]; exact hP9, va_K.moved hW.alike hK9, hD9⟩, hS.F ht⟩) hS.2.2 dX1_fixed_73
      · have hP9 := hP.sub (ws' := [(h0, .inr (1, [.ref a, .ref b])), (a, .inl (cI, 256, .inl kf)), (b, .inl (cJ, 256, .inr (.inl vf)))]) [0, 1, 2] rfl
        have hD9 := hD.sub (ws' := [(h0, .inr (1, [.ref a, .ref b])), (a, .inl (cI, 256, .inl kf)), (b, .inl (cJ, 256, .inr (.inl vf)))]) [0, 1, 2] (by decide) rfl
        have hK9 := hK.sub (tys' := [(cI, .int), (cJ, .long)]) [0, 1] rfl
        obtain ⟨sa, hsa⟩ := ev_s73 hE
        refine vx_throwS (A := A) (sa := sa) (text := "no number stays, or there is no last one") (names := ups) hx hb hlt hown (by decide +kernel) (by decide +kernel) (hts (.classLink RX1 50 "java/lang/UnsupportedOperationException") kX1_fixed_1) (hts (.initialized "java/lang/UnsupportedOperationException") kX1_fixed_2) hsa (ev_at_uoe (fun w hw => hts w (kX1_fixed_3 w hw)) hE) ev_ot_uoe hZ.1 hZ.2 hS (by rw [hml]; exact hl.1) dX1_fixed_45 dX1_fixed_48 dX1_fixed_49 dX1_fixed_51 dX1_fixed_54 (fun x hx => (htb x hx).elim) (Nat.le_of_ble_eq_true rfl) (Nat.le_of_ble_eq_true rfl) (Nat.le_of_ble_eq_true rfl) (Nat.le_of_ble_eq_true rfl) hlocks (fun t9 ht h1 h2 => ⟨(), trivial, ⟨Or.inr ⟨rfl, h_2, by first | (simp [e_fo, h_2, h_6, c_7, c_8]; done) | (simp [e_fo, h_2, h_6, c_7, c_8]; done) | grind [e_fo]⟩, hP9.kept (fun k q hk => h2 q.1 (hP9 k q hk).lt), va_K.moved ht hK9, hD9⟩, ⟨Nat.le_trans hS.1 h1, fun q hq hn => (h2 q (Nat.lt_of_lt_of_le hq hS.1)).trans (hS.2.1 q hq hn)⟩⟩) hS.2.2 (Nat.le_of_ble_eq_true rfl) (Nat.le_of_ble_eq_true rfl)
    · refine lv_aload hx hb dX1_fixed_26 (lv_at hl 1 rfl) ?_
      refine va_getN (D := (dC, dI)) (ci := 0) (v := .int ((eW kf vf f t).2.2.2.1)) (C := RX0) (T := TX0) (N := 5) hx hb hts kX1_fixed_0 hown hK hP 3 rfl rfl 3 (by decide) (va_Nw.use rfl (ev_n61 hE)) (fun _ h9 => h9) rfl dX1_fixed_28 ?_
      refine lv_if_ne (tgt := 55) hx hb dX1_fixed_31 (by decide) (fun c_10 => ?_) (fun c_10 => ?_)
      · refine lv_iload hx hb dX1_fixed_55 (lv_at hl 0 rfl) ?_
        refine lv_if_eq (tgt := 68) hx hb dX1_fixed_57 (by decide) (fun c_11 => ?_) (fun c_11 => ?_)
        · refine lv_aload hx hb dX1_fixed_68 (lv_at hl 1 rfl) ?_
          refine va_getN (D := (dC, dI)) (ci := 0) (v := .long ((eW kf vf f t).2.2.1)) (C := RX0) (T := TX0) (N := 5) hx hb hts kX1_fixed_0 hown hK hP 3 rfl rfl 2 (by decide) (va_Nw.use rfl (ev_n57 hE)) (fun _ h9 => h9) rfl dX1_fixed_70 ?_
          have hP9 := hP.sub (ws' := [(h0, .inr (1, [.ref a, .ref b])), (a, .inl (cI, 256, .inl kf)), (b, .inl (cJ, 256, .inr (.inl vf)))]) [0, 1, 2] rfl
          have hD9 := hD.sub (ws' := [(h0, .inr (1, [.ref a, .ref b])), (a, .inl (cI, 256, .inl kf)), (b, .inl (cJ, 256, .inr (.inl vf)))]) [0, 1, 2] (by decide) rfl
          have hK9 := hK.sub (tys' := [(cI, .int), (cJ, .long)]) [0, 1] rfl
          refine vx_ret ?_
          refine W.widen (k := 3) (n := 17) (Nat.le_of_ble_eq_true rfl) (Nat.le_of_ble_eq_true rfl) ?_
          exact W.lret (v := (eW kf vf f t).2.2.1) hx hb hr (fun t9 ht hW => ⟨⟨(eW kf vf f t).2.2.1, (), rfl, ⟨h_2, by first | (simp [e_fo, h_2, h_6, c_7, c_10, c_11]; done) | (simp [e_fo, h_2, h_6, c_7, c_10, c_11]; done) | grind [e_fo], by first | (simp [e_fv, h_2, h_6, c_7, c_10, c_11]; done) | (simp [e_fv, h_2, h_6, c_7, c_10, c_11]; done) | grind [e_fv]⟩, by rw [ht]; exact hP9, va_K.moved hW.alike hK9, hD9⟩, hS.F ht⟩) hS.2.2 dX1_fixed_73
        · refine lv_aload hx hb dX1_fixed_60 (lv_at hl 1 rfl) ?_
          refine va_getN (D := (dC, dI)) (ci := 0) (v := .long ((eW kf vf f t).2.2.2.2)) (C := RX0) (T := TX0) (N := 5) hx hb hts kX1_fixed_0 hown hK hP 3 rfl rfl 4 (by decide) (va_Nw.use rfl (ev_n66 hE)) (fun _ h9 => h9) rfl dX1_fixed_62 ?_
          refine lv_goto (tgt := 73) hx hb dX1_fixed_65 (by decide) ?_
          have hP9 := hP.sub (ws' := [(h0, .inr (1, [.ref a, .ref b])), (a, .inl (cI, 256, .inl kf)), (b, .inl (cJ, 256, .inr (.inl vf)))]) [0, 1, 2] rfl
          have hD9 := hD.sub (ws' := [(h0, .inr (1, [.ref a, .ref b])), (a, .inl (cI, 256, .inl kf)), (b, .inl (cJ, 256, .inr (.inl vf)))]) [0, 1, 2] (by decide) rfl
          have hK9 := hK.sub (tys' := [(cI, .int), (cJ, .long)]) [0, 1] rfl
          refine vx_ret ?_
          refine W.widen (k := 3) (n := 17) (Nat.le_of_ble_eq_true rfl) (Nat.le_of_ble_eq_true rfl) ?_
          exact W.lret (v := (eW kf vf f t).2.2.2.2) hx hb hr (fun t9 ht hW => ⟨⟨(eW kf vf f t).2.2.2.2, (), rfl, ⟨h_2, by first | (simp [e_fo, h_2, h_6, c_7, c_10, c_11]; done) | (simp [e_fo, h_2, h_6, c_7, c_10, c_11]; done) | grind [e_fo], by first | (simp [e_fv, h_2, h_6, c_7, c_10, c_11]; done) | (simp [e_fv, h_2, h_6, c_7, c_10, c_11]; done) | grind [e_fv]⟩, by rw [ht]; exact hP9, va_K.moved hW.alike hK9, hD9⟩, hS.F ht⟩) hS.2.2 dX1_fixed_73
      · refine lv_goto (tgt := 45) hx hb dX1_fixed_34 (by decide) ?_
        have hP9 := hP.sub (ws' := [(h0, .inr (1, [.ref a, .ref b])), (a, .inl (cI, 256, .inl kf)), (b, .inl (cJ, 256, .inr (.inl vf)))]) [0, 1, 2] rfl
        have hD9 := hD.sub (ws' := [(h0, .inr (1, [.ref a, .ref b])), (a, .inl (cI, 256, .inl kf)), (b, .inl (cJ, 256, .inr (.inl vf)))]) [0, 1, 2] (by decide) rfl
        have hK9 := hK.sub (tys' := [(cI, .int), (cJ, .long)]) [0, 1] rfl
        obtain ⟨sa, hsa⟩ := ev_s73 hE
        refine vx_throwS (A := A) (sa := sa) (text := "no number stays, or there is no last one") (names := ups) hx hb hlt hown (by decide +kernel) (by decide +kernel) (hts (.classLink RX1 50 "java/lang/UnsupportedOperationException") kX1_fixed_1) (hts (.initialized "java/lang/UnsupportedOperationException") kX1_fixed_2) hsa (ev_at_uoe (fun w hw => hts w (kX1_fixed_3 w hw)) hE) ev_ot_uoe hZ.1 hZ.2 hS (by rw [hml]; exact hl.1) dX1_fixed_45 dX1_fixed_48 dX1_fixed_49 dX1_fixed_51 dX1_fixed_54 (fun x hx => (htb x hx).elim) (Nat.le_of_ble_eq_true rfl) (Nat.le_of_ble_eq_true rfl) (Nat.le_of_ble_eq_true rfl) (Nat.le_of_ble_eq_true rfl) hlocks (fun t9 ht h1 h2 => ⟨(), trivial, ⟨Or.inr ⟨rfl, h_2, by first | (simp [e_fo, h_2, h_6, c_7, c_10]; done) | (simp [e_fo, h_2, h_6, c_7, c_10]; done) | grind [e_fo]⟩, hP9.kept (fun k q hk => h2 q.1 (hP9 k q hk).lt), va_K.moved ht hK9, hD9⟩, ⟨Nat.le_trans hS.1 h1, fun q hq hn => (h2 q (Nat.lt_of_lt_of_le hq hS.1)).trans (hS.2.1 q hq hn)⟩⟩) hS.2.2 (Nat.le_of_ble_eq_true rfl) (Nat.le_of_ble_eq_true rfl)

set_option maxHeartbeats 4000000 in
set_option maxRecDepth 100000 in
theorem qX1_about (l : Launch) (hlt : l.stackTraces = false) (dC : Nat → ClassId) (dI : Nat → Nat → Nat) (sz : Nat) (h0 a b : Nat) (cI cJ : ClassId) (kf : Nat → Int32) (vf : Nat → Int64) (f t w : Int32)  : vx_Met l yX1_about wsX1_about ({ frames := 7, cells := 3, slots := 17, locals := 120 }) (va_Pc [.ref h0, .int f, .int t, .int w] (fun U => U.heap.size = sz ∧ va_P (dC, dI) vwCl [(h0, .inr (1, [.ref a, .ref b])), (a, .inl (cI, 256, .inl kf)), (b, .inl (cJ, 256, .inr (.inl vf)))] U.heap ∧ va_K (dC, dI) vwCl [(cI, .int), (cJ, .long)] U ∧ va_D (fun _ => True) [(h0, .inr (1, [.ref a, .ref b])), (a, .inl (cI, 256, .inl kf)), (b, .inl (cJ, 256, .inr (.inl vf)))] ∧ ev U ∧ ez (va_A [(h0, .inr (1, [.ref a, .ref b])), (a, .inl (cI, 256, .inl kf)), (b, .inl (cJ, 256, .inr (.inl vf)))] sz) U U.heap)) (va_Qi (fun (r : Int32) (u : Unit) => (okQ w ∧ okW f t ∧ r = e_ab kf vf f t w)) (fun (u : Unit) (t9 : State) => va_P (dC, dI) vwCl [(h0, .inr (1, [.ref a, .ref b])), (a, .inl (cI, 256, .inl kf)), (b, .inl (cJ, 256, .inr (.inl vf)))] t9.heap ∧ va_K (dC, dI) vwCl [(cI, .int), (cJ, .long)] t9 ∧ va_D (va_A [(h0, .inr (1, [.ref a, .ref b])), (a, .inl (cI, 256, .inl kf)), (b, .inl (cJ, 256, .inr (.inl vf)))] sz) [(h0, .inr (1, [.ref a, .ref b])), (a, .inl (cI, 256, .inl kf)), (b, .inl (cJ, 256, .inr (.inl vf)))]) (va_A [(h0, .inr (1, [.ref a, .ref b])), (a, .inl (cI, 256, .inl kf)), (b, .inl (cJ, 256, .inr (.inl vf)))] sz)) (vx_X (fun _ : Unit => True) (fun (E : String) (_ : Unit) (t9 : State) => ((E = IAE ∧ ¬ okQ w) ∨ (E = IOB ∧ okQ w ∧ ¬ okW f t)) ∧ va_P (dC, dI) vwCl [(h0, .inr (1, [.ref a, .ref b])), (a, .inl (cI, 256, .inl kf)), (b, .inl (cJ, 256, .inr (.inl vf)))] t9.heap ∧ va_K (dC, dI) vwCl [(cI, .int), (cJ, .long)] t9 ∧ va_D (va_A [(h0, .inr (1, [.ref a, .ref b])), (a, .inl (cI, 256, .inl kf)), (b, .inl (cJ, 256, .inr (.inl vf)))] sz) [(h0, .inr (1, [.ref a, .ref b])), (a, .inl (cI, 256, .inl kf)), (b, .inl (cJ, 256, .inr (.inl vf)))]) (va_A [(h0, .inr (1, [.ref a, .ref b])), (a, .inl (cI, 256, .inl kf)), (b, .inl (cJ, 256, .inr (.inl vf)))] sz)) 3 17 (va_A [(h0, .inr (1, [.ref a, .ref b])), (a, .inl (cI, 256, .inl kf)), (b, .inl (cJ, 256, .inr (.inl vf)))] sz) := by
  refine vx_ofW (cc := cX1_about) (maxL := 6) (ret := (some .int)) (by decide) rfl ?_
  intro p e s m args below meth c s₁ B hml htb hv
  obtain ⟨rfl, hsz, hP, hK, hD0, hE, hZ⟩ := hv
  have hx := B.exec
  have hb := B.bytes
  have hr := B.returns
  have hts := atoms_spec (ws := wsX1_about) B.pre
  have hown : s.vm.findClass RX1 = some m.cls := findClass_of_methodNamed B.named
  have hlocks := B.notSynchronized
  subst hsz
  have hD := hD0.self (sz := s.heap.size)
  generalize hAe : va_A [(h0, .inr (1, [.ref a, .ref b])), (a, .inl (cI, 256, .inl kf)), (b, .inl (cJ, 256, .inr (.inl vf)))] s.heap.size = A at hD hZ ⊢
  have hA : ∀ q : Nat, s.heap.size ≤ q → A q := fun q h => by rw [← hAe]; exact Or.inr h
  have hS : va_S A s.heap s.heap [] := va_S.rf
  have hP : va_P (dC, dI) vwCl [(h0, .inr (1, [.ref a, .ref b])), (a, .inl (cI, 256, .inl kf)), (b, .inl (cJ, 256, .inr (.inl vf)))] s.heap := hP
  have hl := lv_entry ([.ref h0, .int f, .int t, .int w]) (n := 6) (Nat.le_of_ble_eq_true rfl)
  rw [lg_entry_eq]
  generalize (lg_sl ([.ref h0, .int f, .int t, .int w]) ++ List.replicate (6 - (lg_sl ([.ref h0, .int f, .int t, .int w])).length) Slot.unset).toArray = ls at hl ⊢
  have hl : lv_has ls 6 [(0, .ref h0), (1, .int f), (2, .int t), (3, .int w)] := hl
  refine lv_iload_n hx hb dX1_about_0 rfl (lv_at hl 3 rfl) ?_
  have hPc := hP.sub (ws' := []) [] rfl
  have hDc := hD.sub (ws' := []) [] (by decide) rfl
  have hKc := hK.sub (tys' := []) [] rfl
  have hFc := va_free (wc := []) hD hS hA [] rfl
  refine vx_callv (vx_runS (As := [.int w]) (rest := []) ⟨hx, hb, hml, hown, hts⟩ (qX1_checkQuestion l hlt dC dI s.heap.size w) (va_cwS 1 hts gX1_about_X1_checkQuestion rfl rfl rfl (by decide +kernel) ⟨Nat.le_of_ble_eq_true rfl, Nat.le_of_ble_eq_true rfl⟩) ⟨fun a U g mk q => by obtain ⟨q0, q1, qP, qK, qD, qE, qZ⟩ := q; exact ⟨q0, q1, qP, va_K.moved (u := U) (U := U.calling g mk a) (Vm.Alike.refl U.vm) qK, qD, ev.same (u := U) rfl qE, ez.moved (U := U.calling g mk a) qZ (Vm.Alike.refl U.vm)⟩, fun U hU hW => ⟨rfl, by rw [hU], by rw [hU]; exact hPc, va_K.moved hW.alike hKc, hDc.weaken (fun _ _ _ _ => trivial), hE.warm hW, by rw [hU]; exact ((hZ.kept hS.2.1).narrow hFc).moved hW.alike⟩⟩ rfl rfl hl.1 rfl (lv_room (Nat.le_of_ble_eq_true rfl)) dX1_about_1 ⟨Nat.le_of_ble_eq_true rfl, Nat.le_of_ble_eq_true rfl⟩) hS (fun q _ h => hFc q h) hFc (fun q _ h => hFc q h) (fun E ce q9 u t9 H1 locs ht hvm hw hB hz1 hk1 hS hce hcv hcl => ?_) (fun u t9 H1 locs ht hvm hw hB hz1 hk1 hS => ?_)
  · obtain ⟨hex, hP1, hK1, hD1⟩ := hB
    rw [ht] at hP1
    have hK1 := va_K.moved hvm.symm hK1
    obtain ⟨hP, hD⟩ := va_join (wr := [(h0, .inr (1, [.ref a, .ref b])), (a, .inl (cI, 256, .inl kf)), (b, .inl (cJ, 256, .inr (.inl vf)))]) (w1 := []) hP hD [] [0, 1, 2] rfl rfl (by decide) (by decide) hk1 hFc hP1 hD1
    have hK := (hK.sub (tys' := [(cI, .int), (cJ, .long)]) [0, 1] rfl).app hK1
    generalize H1 = H at hP hS hce ⊢
    have hP : va_P (dC, dI) vwCl [(h0, .inr (1, [.ref a, .ref b])), (a, .inl (cI, 256, .inl kf)), (b, .inl (cJ, 256, .inr (.inl vf)))] H := hP
    have hD : va_D A [(h0, .inr (1, [.ref a, .ref b])), (a, .inl (cI, 256, .inl kf)), (b, .inl (cJ, 256, .inr (.inl vf)))] := hD
    have hK : va_K (dC, dI) vwCl [(cI, .int), (cJ, .long)] s := hK
    refine vx_widen (k := 1) (n := 6) (Nat.le_of_ble_eq_true rfl) (Nat.le_of_ble_eq_true rfl) ?_
    have hP9 := hP.sub (ws' := [(h0, .inr (1, [.ref a, .ref b])), (a, .inl (cI, 256, .inl kf)), (b, .inl (cJ, 256, .inr (.inl vf)))]) [0, 1, 2] rfl
    have hD9 := hD.sub (ws' := [(h0, .inr (1, [.ref a, .ref b])), (a, .inl (cI, 256, .inl kf)), (b, .inl (cJ, 256, .inr (.inl vf)))]) [0, 1, 2] (by decide) rfl
    have hK9 := hK.sub (tys' := [(cI, .int), (cJ, .long)]) [0, 1] rfl
    exact vx_out (fun x hx => (htb x hx).elim) hlocks hce hcv hcl (fun t9 ht hvm => ⟨(), trivial, ⟨Or.inl hex, by rw [ht]; exact hP9, va_K.moved hvm hK9, hD9⟩, hS.F ht⟩) hS.2.2 (Nat.le_of_ble_eq_true rfl) (Nat.le_of_ble_eq_true rfl)
  · obtain ⟨hP1, hK1, hD1⟩ := hB
    rw [ht] at hP1
    have h_2 := hw
    have hK1 := va_K.moved hvm.symm hK1
    obtain ⟨hP, hD⟩ := va_join (wr := [(h0, .inr (1, [.ref a, .ref b])), (a, .inl (cI, 256, .inl kf)), (b, .inl (cJ, 256, .inr (.inl vf)))]) (w1 := []) hP hD [] [0, 1, 2] rfl rfl (by decide) (by decide) hk1 hFc hP1 hD1
    have hK := (hK.sub (tys' := [(cI, .int), (cJ, .long)]) [0, 1] rfl).app hK1
    generalize H1 = H at hP hS ⊢
    have hP : va_P (dC, dI) vwCl [(h0, .inr (1, [.ref a, .ref b])), (a, .inl (cI, 256, .inl kf)), (b, .inl (cJ, 256, .inr (.inl vf)))] H := hP
    have hD : va_D A [(h0, .inr (1, [.ref a, .ref b])), (a, .inl (cI, 256, .inl kf)), (b, .inl (cJ, 256, .inr (.inl vf)))] := hD
    have hK : va_K (dC, dI) vwCl [(cI, .int), (cJ, .long)] s := hK
    refine W.widen (k := 1) (n := 6) (Nat.le_of_ble_eq_true rfl) (Nat.le_of_ble_eq_true rfl) ?_
    refine lv_iload_n hx hb dX1_about_4 rfl (lv_at hl 1 rfl) ?_
    refine lv_iload_n hx hb dX1_about_5 rfl (lv_at hl 2 rfl) ?_
    have hPc := hP.sub (ws' := []) [] rfl
    have hDc := hD.sub (ws' := []) [] (by decide) rfl
    have hKc := hK.sub (tys' := []) [] rfl
    have hFc := va_free (wc := []) hD hS hA [] rfl
    refine vx_callv (vx_runS (As := [.int f, .int t]) (rest := []) ⟨hx, hb, hml, hown, hts⟩ (qX1_checkPart l hlt dC dI H.size f t) (va_cwS 2 hts gX1_about_X1_checkPart rfl rfl rfl (by decide +kernel) ⟨Nat.le_of_ble_eq_true rfl, Nat.le_of_ble_eq_true rfl⟩) ⟨fun a U g mk q => by obtain ⟨q0, q1, qP, qK, qD, qE, qZ⟩ := q; exact ⟨q0, q1, qP, va_K.moved (u := U) (U := U.calling g mk a) (Vm.Alike.refl U.vm) qK, qD, ev.same (u := U) rfl qE, ez.moved (U := U.calling g mk a) qZ (Vm.Alike.refl U.vm)⟩, fun U hU hW => ⟨rfl, by rw [hU], by rw [hU]; exact hPc, va_K.moved hW.alike hKc, hDc.weaken (fun _ _ _ _ => trivial), hE.warm hW, by rw [hU]; exact ((hZ.kept hS.2.1).narrow hFc).moved hW.alike⟩⟩ rfl rfl hl.1 rfl (lv_room (Nat.le_of_ble_eq_true rfl)) dX1_about_6 ⟨Nat.le_of_ble_eq_true rfl, Nat.le_of_ble_eq_true rfl⟩) hS (fun q _ h => hFc q h) hFc (fun q _ h => hFc q h) (fun E ce q9 u t9 H1 locs ht hvm hw hB hz1 hk1 hS hce hcv hcl => ?_) (fun u t9 H1 locs ht hvm hw hB hz1 hk1 hS => ?_)
    · obtain ⟨hex, hP1, hK1, hD1⟩ := hB
      rw [ht] at hP1
      have hK1 := va_K.moved hvm.symm hK1
      obtain ⟨hP, hD⟩ := va_join (wr := [(h0, .inr (1, [.ref a, .ref b])), (a, .inl (cI, 256, .inl kf)), (b, .inl (cJ, 256, .inr (.inl vf)))]) (w1 := []) hP hD [] [0, 1, 2] rfl rfl (by decide) (by decide) hk1 hFc hP1 hD1
      have hK := (hK.sub (tys' := [(cI, .int), (cJ, .long)]) [0, 1] rfl).app hK1
      generalize H1 = H at hP hS hce ⊢
      have hP : va_P (dC, dI) vwCl [(h0, .inr (1, [.ref a, .ref b])), (a, .inl (cI, 256, .inl kf)), (b, .inl (cJ, 256, .inr (.inl vf)))] H := hP
      have hD : va_D A [(h0, .inr (1, [.ref a, .ref b])), (a, .inl (cI, 256, .inl kf)), (b, .inl (cJ, 256, .inr (.inl vf)))] := hD
      have hK : va_K (dC, dI) vwCl [(cI, .int), (cJ, .long)] s := hK
      refine vx_widen (k := 2) (n := 12) (Nat.le_of_ble_eq_true rfl) (Nat.le_of_ble_eq_true rfl) ?_
      have hP9 := hP.sub (ws' := [(h0, .inr (1, [.ref a, .ref b])), (a, .inl (cI, 256, .inl kf)), (b, .inl (cJ, 256, .inr (.inl vf)))]) [0, 1, 2] rfl
      have hD9 := hD.sub (ws' := [(h0, .inr (1, [.ref a, .ref b])), (a, .inl (cI, 256, .inl kf)), (b, .inl (cJ, 256, .inr (.inl vf)))]) [0, 1, 2] (by decide) rfl
      have hK9 := hK.sub (tys' := [(cI, .int), (cJ, .long)]) [0, 1] rfl
      exact vx_out (fun x hx => (htb x hx).elim) hlocks hce hcv hcl (fun t9 ht hvm => ⟨(), trivial, ⟨Or.inr ⟨hex.1, h_2, hex.2⟩, by rw [ht]; exact hP9, va_K.moved hvm hK9, hD9⟩, hS.F ht⟩) hS.2.2 (Nat.le_of_ble_eq_true rfl) (Nat.le_of_ble_eq_true rfl)
    · obtain ⟨hP1, hK1, hD1⟩ := hB
      rw [ht] at hP1
      have h_4 := hw
      have hK1 := va_K.moved hvm.symm hK1
      obtain ⟨hP, hD⟩ := va_join (wr := [(h0, .inr (1, [.ref a, .ref b])), (a, .inl (cI, 256, .inl kf)), (b, .inl (cJ, 256, .inr (.inl vf)))]) (w1 := []) hP hD [] [0, 1, 2] rfl rfl (by decide) (by decide) hk1 hFc hP1 hD1
      have hK := (hK.sub (tys' := [(cI, .int), (cJ, .long)]) [0, 1] rfl).app hK1
      generalize H1 = H at hP hS ⊢
      have hP : va_P (dC, dI) vwCl [(h0, .inr (1, [.ref a, .ref b])), (a, .inl (cI, 256, .inl kf)), (b, .inl (cJ, 256, .inr (.inl vf)))] H := hP
      have hD : va_D A [(h0, .inr (1, [.ref a, .ref b])), (a, .inl (cI, 256, .inl kf)), (b, .inl (cJ, 256, .inr (.inl vf)))] := hD
      have hK : va_K (dC, dI) vwCl [(cI, .int), (cJ, .long)] s := hK
      refine W.widen (k := 2) (n := 12) (Nat.le_of_ble_eq_true rfl) (Nat.le_of_ble_eq_true rfl) ?_
      refine lv_iload_n hx hb dX1_about_9 rfl (lv_at hl 3 rfl) ?_
      refine lv_iconst (v := 1) hx hb dX1_about_10 (by decide) ?_
      refine lv_icmp_ne (tgt := 21) hx hb dX1_about_11 (by decide) (fun c_5 => ?_) (fun c_5 => ?_)
      · refine lv_aload_n hx hb dX1_about_21 rfl (lv_at hl 0 rfl) ?_
        refine lv_iload_n hx hb dX1_about_22 rfl (lv_at hl 1 rfl) ?_
        refine lv_iload_n hx hb dX1_about_23 rfl (lv_at hl 2 rfl) ?_
        have hPc := hP.sub (ws' := [(h0, .inr (1, [.ref a, .ref b])), (a, .inl (cI, 256, .inl kf)), (b, .inl (cJ, 256, .inr (.inl vf)))]) [0, 1, 2] rfl
        have hDc := hD.sub (ws' := [(h0, .inr (1, [.ref a, .ref b])), (a, .inl (cI, 256, .inl kf)), (b, .inl (cJ, 256, .inr (.inl vf)))]) [0, 1, 2] (by decide) rfl
        have hKc := hK.sub (tys' := [(cI, .int), (cJ, .long)]) [0, 1] rfl
        have hFc := va_free (wc := [(h0, .inr (1, [.ref a, .ref b])), (a, .inl (cI, 256, .inl kf)), (b, .inl (cJ, 256, .inr (.inl vf)))]) hD hS hA [0, 1, 2] rfl
        refine va_callr (va_runV (As := [.int f, .int t]) (rest := []) ⟨hx, hb, hml, hown, hts⟩ (qX1_effectOf l hlt dC dI H.size h0 a b cI cJ kf vf f t h_4) (cwV 2 hts gX1_about_X1_effectOf rfl rfl rfl (by decide +kernel) ⟨Nat.le_of_ble_eq_true rfl, Nat.le_of_ble_eq_true rfl⟩) ⟨fun a U g mk q => by obtain ⟨q0, q1, qP, qK, qD, qE, qZ⟩ := q; exact ⟨q0, q1, qP, va_K.moved (u := U) (U := U.calling g mk a) (Vm.Alike.refl U.vm) qK, qD, ev.same (u := U) rfl qE, ez.moved (U := U.calling g mk a) qZ (Vm.Alike.refl U.vm)⟩, va_recv hKc hPc (ci := 1) (q0 := 0) rfl rfl, fun U hU hW => ⟨rfl, by rw [hU], by rw [hU]; exact hPc, va_K.moved hW.alike hKc, hDc.weaken (fun _ _ _ _ => trivial), hE.warm hW, by rw [hU]; exact ((hZ.kept hS.2.1).narrow hFc).moved hW.alike⟩⟩ rfl rfl hl.1 rfl (lv_room (Nat.le_of_ble_eq_true rfl)) dX1_about_24 ⟨Nat.le_of_ble_eq_true rfl, Nat.le_of_ble_eq_true rfl⟩) hS (fun q _ h => hFc q h) hFc (fun u r_6 t9 H1 locs ht hvm hw hB hz1 hk1 hS => ?_)
        obtain ⟨hP1, hK1, hD1⟩ := hB
        rw [ht] at hP1
        obtain rfl := hw
        have hK1 := va_K.moved hvm.symm hK1
        obtain ⟨hP, hD⟩ := va_join (wr := []) (w1 := [(h0, .inr (1, [.ref a, .ref b])), (a, .inl (cI, 256, .inl kf)), (b, .inl (cJ, 256, .inr (.inl vf))), (r_6, .inr (0, [.long ((eW kf vf f t).1), .int ((eW kf vf f t).2.1), .long ((eW kf vf f t).2.2.1), .int ((eW kf vf f t).2.2.2.1), .long ((eW kf vf f t).2.2.2.2)]))]) hP hD [0, 1, 2] [] rfl rfl (by decide) (by decide) hk1 hFc hP1 hD1
        have hK := (hK.sub (tys' := []) [] rfl).app hK1
        generalize H1 = H at hP hS ⊢
        have hP : va_P (dC, dI) vwCl [(h0, .inr (1, [.ref a, .ref b])), (a, .inl (cI, 256, .inl kf)), (b, .inl (cJ, 256, .inr (.inl vf))), (r_6, .inr (0, [.long ((eW kf vf f t).1), .int ((eW kf vf f t).2.1), .long ((eW kf vf f t).2.2.1), .int ((eW kf vf f t).2.2.2.1), .long ((eW kf vf f t).2.2.2.2)]))] H := hP
        have hD : va_D A [(h0, .inr (1, [.ref a, .ref b])), (a, .inl (cI, 256, .inl kf)), (b, .inl (cJ, 256, .inr (.inl vf))), (r_6, .inr (0, [.long ((eW kf vf f t).1), .int ((eW kf vf f t).2.1), .long ((eW kf vf f t).2.2.1), .int ((eW kf vf f t).2.2.2.1), .long ((eW kf vf f t).2.2.2.2)]))] := hD
        have hK : va_K (dC, dI) vwCl [(cI, .int), (cJ, .long)] s := hK
        refine W.widen (k := 3) (n := 17) (Nat.le_of_ble_eq_true rfl) (Nat.le_of_ble_eq_true rfl) ?_
        refine lv_astore (lv' := [(4, .ref r_6), (0, .ref h0), (1, .int f), (2, .int t), (3, .int w)]) hx hb dX1_about_27 hl (by decide) rfl (fun ls hl => ?_)
        refine lv_iload_n hx hb dX1_about_29 rfl (lv_at hl 4 rfl) ?_
        refine lv_if_ne (tgt := 41) hx hb dX1_about_30 (by decide) (fun c_8 => ?_) (fun c_8 => ?_)
        · refine lv_aload hx hb dX1_about_41 (lv_at hl 0 rfl) ?_
          have hPc := hP.sub (ws' := [(r_6, .inr (0, [.long ((eW kf vf f t).1), .int ((eW kf vf f t).2.1), .long ((eW kf vf f t).2.2.1), .int ((eW kf vf f t).2.2.2.1), .long ((eW kf vf f t).2.2.2.2)]))]) [3] rfl
          have hDc := hD.sub (ws' := [(r_6, .inr (0, [.long ((eW kf vf f t).1), .int ((eW kf vf f t).2.1), .long ((eW kf vf f t).2.2.1), .int ((eW kf vf f t).2.2.2.1), .long ((eW kf vf f t).2.2.2.2)]))]) [3] (by decide) rfl
          have hKc := hK.sub (tys' := []) [] rfl
          have hFc := va_free (wc := [(r_6, .inr (0, [.long ((eW kf vf f t).1), .int ((eW kf vf f t).2.1), .long ((eW kf vf f t).2.2.1), .int ((eW kf vf f t).2.2.2.1), .long ((eW kf vf f t).2.2.2.2)]))]) hD hS hA [3] rfl
          refine va_calli (va_runV (As := []) (rest := []) ⟨hx, hb, hml, hown, hts⟩ (qX0_leavesEachItself l dC dI H.size r_6 (eW kf vf f t)) (cwV 0 hts gX1_about_X0_leavesEachItself rfl rfl rfl (by decide +kernel) ⟨Nat.le_of_ble_eq_true rfl, Nat.le_of_ble_eq_true rfl⟩) ⟨fun a U g mk q => by obtain ⟨q0, q1, qP, qK, qD⟩ := q; exact ⟨q0, q1, qP, va_K.moved (u := U) (U := U.calling g mk a) (Vm.Alike.refl U.vm) qK, qD⟩, va_recv hKc hPc (ci := 0) (q0 := 0) rfl rfl, fun U hU hW => ⟨rfl, by rw [hU], by rw [hU]; exact hPc, va_K.moved hW.alike hKc, hDc.weaken (fun _ _ _ _ => trivial)⟩⟩ rfl rfl hl.1 rfl (lv_room (Nat.le_of_ble_eq_true rfl)) dX1_about_43 ⟨Nat.le_of_ble_eq_true rfl, Nat.le_of_ble_eq_true rfl⟩) hS (fun q _ h => hFc q h) hFc (fun r_9 u t9 H1 locs ht hvm hw hB hz1 hk1 hS => ?_)
          obtain ⟨hP1, hK1, hD1⟩ := hB
          rw [ht] at hP1
          have h_10 := hw
          have hK1 := va_K.moved hvm.symm hK1
          obtain ⟨hP, hD⟩ := va_join (wr := [(h0, .inr (1, [.ref a, .ref b])), (a, .inl (cI, 256, .inl kf)), (b, .inl (cJ, 256, .inr (.inl vf)))]) (w1 := [(r_6, .inr (0, [.long ((eW kf vf f t).1), .int ((eW kf vf f t).2.1), .long ((eW kf vf f t).2.2.1), .int ((eW kf vf f t).2.2.2.1), .long ((eW kf vf f t).2.2.2.2)]))]) hP hD [3] [0, 1, 2] rfl rfl (by decide) (by decide) hk1 hFc hP1 hD1
          have hK := (hK.sub (tys' := [(cI, .int), (cJ, .long)]) [0, 1] rfl).app hK1
          generalize H1 = H at hP hS ⊢
          have hP : va_P (dC, dI) vwCl [(h0, .inr (1, [.ref a, .ref b])), (a, .inl (cI, 256, .inl kf)), (b, .inl (cJ, 256, .inr (.inl vf))), (r_6, .inr (0, [.long ((eW kf vf f t).1), .int ((eW kf vf f t).2.1), .long ((eW kf vf f t).2.2.1), .int ((eW kf vf f t).2.2.2.1), .long ((eW kf vf f t).2.2.2.2)]))] H := hP
          have hD : va_D A [(h0, .inr (1, [.ref a, .ref b])), (a, .inl (cI, 256, .inl kf)), (b, .inl (cJ, 256, .inr (.inl vf))), (r_6, .inr (0, [.long ((eW kf vf f t).1), .int ((eW kf vf f t).2.1), .long ((eW kf vf f t).2.2.1), .int ((eW kf vf f t).2.2.2.1), .long ((eW kf vf f t).2.2.2.2)]))] := hD
          have hK : va_K (dC, dI) vwCl [(cI, .int), (cJ, .long)] s := hK
          refine W.widen (k := 3) (n := 17) (Nat.le_of_ble_eq_true rfl) (Nat.le_of_ble_eq_true rfl) ?_
          refine lv_istore (lv' := [(5, .int r_9), (4, .ref r_6), (0, .ref h0), (1, .int f), (2, .int t), (3, .int w)]) hx hb dX1_about_46 hl (by decide) rfl (fun ls hl => ?_)
          refine lv_iload hx hb dX1_about_48 (lv_at hl 0 rfl) ?_
          refine lv_if_eq (tgt := 57) hx hb dX1_about_50 (by decide) (fun c_11 => ?_) (fun c_11 => ?_)
          · refine lv_iconst (v := 0) hx hb dX1_about_57 (by decide) ?_
            have hP9 := hP.sub (ws' := [(h0, .inr (1, [.ref a, .ref b])), (a, .inl (cI, 256, .inl kf)), (b, .inl (cJ, 256, .inr (.inl vf)))]) [0, 1, 2] rfl
            have hD9 := hD.sub (ws' := [(h0, .inr (1, [.ref a, .ref b])), (a, .inl (cI, 256, .inl kf)), (b, .inl (cJ, 256, .inr (.inl vf)))]) [0, 1, 2] (by decide) rfl
            have hK9 := hK.sub (tys' := [(cI, .int), (cJ, .long)]) [0, 1] rfl
            refine vx_ret ?_
            refine W.widen (k := 3) (n := 17) (Nat.le_of_ble_eq_true rfl) (Nat.le_of_ble_eq_true rfl) ?_
            exact W.iret (v := 0) hx hb hr (fun t9 ht hW => ⟨⟨0, (), rfl, ⟨h_2, h_4, by first | (simp [e_ab, e_sa, e_id, h_2, h_4, c_5, c_8, h_10, c_11]; done) | (simp [e_ab, e_sa, e_id, h_2, h_4, c_5, c_8, h_10, c_11]; done) | grind [e_ab, e_sa, e_id]⟩, by rw [ht]; exact hP9, va_K.moved hW.alike hK9, hD9⟩, hS.F ht⟩) hS.2.2 dX1_about_58
          · refine lv_iconst (v := 1) hx hb dX1_about_53 (by decide) ?_
            refine lv_goto (tgt := 58) hx hb dX1_about_54 (by decide) ?_
            have hP9 := hP.sub (ws' := [(h0, .inr (1, [.ref a, .ref b])), (a, .inl (cI, 256, .inl kf)), (b, .inl (cJ, 256, .inr (.inl vf)))]) [0, 1, 2] rfl
            have hD9 := hD.sub (ws' := [(h0, .inr (1, [.ref a, .ref b])), (a, .inl (cI, 256, .inl kf)), (b, .inl (cJ, 256, .inr (.inl vf)))]) [0, 1, 2] (by decide) rfl
            have hK9 := hK.sub (tys' := [(cI, .int), (cJ, .long)]) [0, 1] rfl
            refine vx_ret ?_
            refine W.widen (k := 3) (n := 17) (Nat.le_of_ble_eq_true rfl) (Nat.le_of_ble_eq_true rfl) ?_
            exact W.iret (v := 1) hx hb hr (fun t9 ht hW => ⟨⟨1, (), rfl, ⟨h_2, h_4, by first | (simp [e_ab, e_sa, e_id, h_2, h_4, c_5, c_8, h_10, c_11]; done) | (simp [e_ab, e_sa, e_id, h_2, h_4, c_5, c_8, h_10, c_11]; done) | grind [e_ab, e_sa, e_id]⟩, by rw [ht]; exact hP9, va_K.moved hW.alike hK9, hD9⟩, hS.F ht⟩) hS.2.2 dX1_about_58
        · refine lv_aload hx hb dX1_about_33 (lv_at hl 0 rfl) ?_
          have hPc := hP.sub (ws' := [(r_6, .inr (0, [.long ((eW kf vf f t).1), .int ((eW kf vf f t).2.1), .long ((eW kf vf f t).2.2.1), .int ((eW kf vf f t).2.2.2.1), .long ((eW kf vf f t).2.2.2.2)]))]) [3] rfl
          have hDc := hD.sub (ws' := [(r_6, .inr (0, [.long ((eW kf vf f t).1), .int ((eW kf vf f t).2.1), .long ((eW kf vf f t).2.2.1), .int ((eW kf vf f t).2.2.2.1), .long ((eW kf vf f t).2.2.2.2)]))]) [3] (by decide) rfl
          have hKc := hK.sub (tys' := []) [] rfl
          have hFc := va_free (wc := [(r_6, .inr (0, [.long ((eW kf vf f t).1), .int ((eW kf vf f t).2.1), .long ((eW kf vf f t).2.2.1), .int ((eW kf vf f t).2.2.2.1), .long ((eW kf vf f t).2.2.2.2)]))]) hD hS hA [3] rfl
          refine va_calli (va_runV (As := []) (rest := []) ⟨hx, hb, hml, hown, hts⟩ (qX0_isSameOfAll l dC dI H.size r_6 (eW kf vf f t)) (cwV 0 hts gX1_about_X0_isSameOfAll rfl rfl rfl (by decide +kernel) ⟨Nat.le_of_ble_eq_true rfl, Nat.le_of_ble_eq_true rfl⟩) ⟨fun a U g mk q => by obtain ⟨q0, q1, qP, qK, qD⟩ := q; exact ⟨q0, q1, qP, va_K.moved (u := U) (U := U.calling g mk a) (Vm.Alike.refl U.vm) qK, qD⟩, va_recv hKc hPc (ci := 0) (q0 := 0) rfl rfl, fun U hU hW => ⟨rfl, by rw [hU], by rw [hU]; exact hPc, va_K.moved hW.alike hKc, hDc.weaken (fun _ _ _ _ => trivial)⟩⟩ rfl rfl hl.1 rfl (lv_room (Nat.le_of_ble_eq_true rfl)) dX1_about_35 ⟨Nat.le_of_ble_eq_true rfl, Nat.le_of_ble_eq_true rfl⟩) hS (fun q _ h => hFc q h) hFc (fun r_12 u t9 H1 locs ht hvm hw hB hz1 hk1 hS => ?_)
          obtain ⟨hP1, hK1, hD1⟩ := hB
          rw [ht] at hP1
          have h_13 := hw
          have hK1 := va_K.moved hvm.symm hK1
          obtain ⟨hP, hD⟩ := va_join (wr := [(h0, .inr (1, [.ref a, .ref b])), (a, .inl (cI, 256, .inl kf)), (b, .inl (cJ, 256, .inr (.inl vf)))]) (w1 := [(r_6, .inr (0, [.long ((eW kf vf f t).1), .int ((eW kf vf f t).2.1), .long ((eW kf vf f t).2.2.1), .int ((eW kf vf f t).2.2.2.1), .long ((eW kf vf f t).2.2.2.2)]))]) hP hD [3] [0, 1, 2] rfl rfl (by decide) (by decide) hk1 hFc hP1 hD1
          have hK := (hK.sub (tys' := [(cI, .int), (cJ, .long)]) [0, 1] rfl).app hK1
          generalize H1 = H at hP hS ⊢
          have hP : va_P (dC, dI) vwCl [(h0, .inr (1, [.ref a, .ref b])), (a, .inl (cI, 256, .inl kf)), (b, .inl (cJ, 256, .inr (.inl vf))), (r_6, .inr (0, [.long ((eW kf vf f t).1), .int ((eW kf vf f t).2.1), .long ((eW kf vf f t).2.2.1), .int ((eW kf vf f t).2.2.2.1), .long ((eW kf vf f t).2.2.2.2)]))] H := hP
          have hD : va_D A [(h0, .inr (1, [.ref a, .ref b])), (a, .inl (cI, 256, .inl kf)), (b, .inl (cJ, 256, .inr (.inl vf))), (r_6, .inr (0, [.long ((eW kf vf f t).1), .int ((eW kf vf f t).2.1), .long ((eW kf vf f t).2.2.1), .int ((eW kf vf f t).2.2.2.1), .long ((eW kf vf f t).2.2.2.2)]))] := hD
          have hK : va_K (dC, dI) vwCl [(cI, .int), (cJ, .long)] s := hK
          refine W.widen (k := 3) (n := 17) (Nat.le_of_ble_eq_true rfl) (Nat.le_of_ble_eq_true rfl) ?_
          refine lv_goto (tgt := 46) hx hb dX1_about_38 (by decide) ?_
          refine lv_istore (lv' := [(5, .int r_12), (4, .ref r_6), (0, .ref h0), (1, .int f), (2, .int t), (3, .int w)]) hx hb dX1_about_46 hl (by decide) rfl (fun ls hl => ?_)
          refine lv_iload hx hb dX1_about_48 (lv_at hl 0 rfl) ?_
          refine lv_if_eq (tgt := 57) hx hb dX1_about_50 (by decide) (fun c_14 => ?_) (fun c_14 => ?_)
          · refine lv_iconst (v := 0) hx hb dX1_about_57 (by decide) ?_
            have hP9 := hP.sub (ws' := [(h0, .inr (1, [.ref a, .ref b])), (a, .inl (cI, 256, .inl kf)), (b, .inl (cJ, 256, .inr (.inl vf)))]) [0, 1, 2] rfl
            have hD9 := hD.sub (ws' := [(h0, .inr (1, [.ref a, .ref b])), (a, .inl (cI, 256, .inl kf)), (b, .inl (cJ, 256, .inr (.inl vf)))]) [0, 1, 2] (by decide) rfl
            have hK9 := hK.sub (tys' := [(cI, .int), (cJ, .long)]) [0, 1] rfl
            refine vx_ret ?_
            refine W.widen (k := 3) (n := 17) (Nat.le_of_ble_eq_true rfl) (Nat.le_of_ble_eq_true rfl) ?_
            exact W.iret (v := 0) hx hb hr (fun t9 ht hW => ⟨⟨0, (), rfl, ⟨h_2, h_4, by first | (simp [e_ab, e_sa, e_id, h_2, h_4, c_5, c_8, h_13, c_14]; done) | (simp [e_ab, e_sa, e_id, h_2, h_4, c_5, c_8, h_13, c_14]; done) | grind [e_ab, e_sa, e_id]⟩, by rw [ht]; exact hP9, va_K.moved hW.alike hK9, hD9⟩, hS.F ht⟩) hS.2.2 dX1_about_58
          · refine lv_iconst (v := 1) hx hb dX1_about_53 (by decide) ?_
            refine lv_goto (tgt := 58) hx hb dX1_about_54 (by decide) ?_
            have hP9 := hP.sub (ws' := [(h0, .inr (1, [.ref a, .ref b])), (a, .inl (cI, 256, .inl kf)), (b, .inl (cJ, 256, .inr (.inl vf)))]) [0, 1, 2] rfl
            have hD9 := hD.sub (ws' := [(h0, .inr (1, [.ref a, .ref b])), (a, .inl (cI, 256, .inl kf)), (b, .inl (cJ, 256, .inr (.inl vf)))]) [0, 1, 2] (by decide) rfl
            have hK9 := hK.sub (tys' := [(cI, .int), (cJ, .long)]) [0, 1] rfl
            refine vx_ret ?_
            refine W.widen (k := 3) (n := 17) (Nat.le_of_ble_eq_true rfl) (Nat.le_of_ble_eq_true rfl) ?_
            exact W.iret (v := 1) hx hb hr (fun t9 ht hW => ⟨⟨1, (), rfl, ⟨h_2, h_4, by first | (simp [e_ab, e_sa, e_id, h_2, h_4, c_5, c_8, h_13, c_14]; done) | (simp [e_ab, e_sa, e_id, h_2, h_4, c_5, c_8, h_13, c_14]; done) | grind [e_ab, e_sa, e_id]⟩, by rw [ht]; exact hP9, va_K.moved hW.alike hK9, hD9⟩, hS.F ht⟩) hS.2.2 dX1_about_58
      · refine lv_aload_n hx hb dX1_about_14 rfl (lv_at hl 0 rfl) ?_
        refine lv_iload_n hx hb dX1_about_15 rfl (lv_at hl 1 rfl) ?_
        refine lv_iload_n hx hb dX1_about_16 rfl (lv_at hl 2 rfl) ?_
        have hPc := hP.sub (ws' := [(h0, .inr (1, [.ref a, .ref b])), (a, .inl (cI, 256, .inl kf)), (b, .inl (cJ, 256, .inr (.inl vf)))]) [0, 1, 2] rfl
        have hDc := hD.sub (ws' := [(h0, .inr (1, [.ref a, .ref b])), (a, .inl (cI, 256, .inl kf)), (b, .inl (cJ, 256, .inr (.inl vf)))]) [0, 1, 2] (by decide) rfl
        have hKc := hK.sub (tys' := [(cI, .int), (cJ, .long)]) [0, 1] rfl
        have hFc := va_free (wc := [(h0, .inr (1, [.ref a, .ref b])), (a, .inl (cI, 256, .inl kf)), (b, .inl (cJ, 256, .inr (.inl vf)))]) hD hS hA [0, 1, 2] rfl
        refine va_calli (va_runV (As := [.int f, .int t]) (rest := []) ⟨hx, hb, hml, hown, hts⟩ (qX1_countBusy l dC dI H.size h0 a b cI cJ kf vf f t h_4) (cwV 2 hts gX1_about_X1_countBusy rfl rfl rfl (by decide +kernel) ⟨Nat.le_of_ble_eq_true rfl, Nat.le_of_ble_eq_true rfl⟩) ⟨fun a U g mk q => by obtain ⟨q0, q1, qP, qK, qD⟩ := q; exact ⟨q0, q1, qP, va_K.moved (u := U) (U := U.calling g mk a) (Vm.Alike.refl U.vm) qK, qD⟩, va_recv hKc hPc (ci := 1) (q0 := 0) rfl rfl, fun U hU hW => ⟨rfl, by rw [hU], by rw [hU]; exact hPc, va_K.moved hW.alike hKc, hDc.weaken (fun _ _ _ _ => trivial)⟩⟩ rfl rfl hl.1 rfl (lv_room (Nat.le_of_ble_eq_true rfl)) dX1_about_17 ⟨Nat.le_of_ble_eq_true rfl, Nat.le_of_ble_eq_true rfl⟩) hS (fun q _ h => hFc q h) hFc (fun r_15 u t9 H1 locs ht hvm hw hB hz1 hk1 hS => ?_)
        obtain ⟨hP1, hK1, hD1⟩ := hB
        rw [ht] at hP1
        have h_16 := hw
        have hK1 := va_K.moved hvm.symm hK1
        obtain ⟨hP, hD⟩ := va_join (wr := []) (w1 := [(h0, .inr (1, [.ref a, .ref b])), (a, .inl (cI, 256, .inl kf)), (b, .inl (cJ, 256, .inr (.inl vf)))]) hP hD [0, 1, 2] [] rfl rfl (by decide) (by decide) hk1 hFc hP1 hD1
        have hK := (hK.sub (tys' := []) [] rfl).app hK1
        generalize H1 = H at hP hS ⊢
        have hP : va_P (dC, dI) vwCl [(h0, .inr (1, [.ref a, .ref b])), (a, .inl (cI, 256, .inl kf)), (b, .inl (cJ, 256, .inr (.inl vf)))] H := hP
        have hD : va_D A [(h0, .inr (1, [.ref a, .ref b])), (a, .inl (cI, 256, .inl kf)), (b, .inl (cJ, 256, .inr (.inl vf)))] := hD
        have hK : va_K (dC, dI) vwCl [(cI, .int), (cJ, .long)] s := hK
        refine W.widen (k := 2) (n := 12) (Nat.le_of_ble_eq_true rfl) (Nat.le_of_ble_eq_true rfl) ?_
        have hP9 := hP.sub (ws' := [(h0, .inr (1, [.ref a, .ref b])), (a, .inl (cI, 256, .inl kf)), (b, .inl (cJ, 256, .inr (.inl vf)))]) [0, 1, 2] rfl
        have hD9 := hD.sub (ws' := [(h0, .inr (1, [.ref a, .ref b])), (a, .inl (cI, 256, .inl kf)), (b, .inl (cJ, 256, .inr (.inl vf)))]) [0, 1, 2] (by decide) rfl
        have hK9 := hK.sub (tys' := [(cI, .int), (cJ, .long)]) [0, 1] rfl
        refine vx_ret ?_
        refine W.widen (k := 3) (n := 17) (Nat.le_of_ble_eq_true rfl) (Nat.le_of_ble_eq_true rfl) ?_
        exact W.iret (v := r_15) hx hb hr (fun t9 ht hW => ⟨⟨r_15, (), rfl, ⟨h_2, h_4, by first | (simp [e_ab, e_sa, e_id, h_2, h_4, c_5, h_16]; done) | (simp [e_ab, e_sa, e_id, h_2, h_4, c_5, h_16]; done) | grind [e_ab, e_sa, e_id]⟩, by rw [ht]; exact hP9, va_K.moved hW.alike hK9, hD9⟩, hS.F ht⟩) hS.2.2 dX1_about_20
end
section
/-! ===== the law's own helpers: what each answers, what it leaves ===== -/
def le_c (kf : Nat → Int32) (vf : Nat → Int64) (f t : Int32) : Int32 := if okW f t then (if (eW kf vf f t).2.1 = 0 then 2 else 0) else 1
def ge_c (kf : Nat → Int32) (vf : Nat → Int64) (f t : Int32) : Int32 := if okW f t then (if (eW kf vf f t).2.2.2.1 = 0 then 2 else 0) else 1
def fe_c (kf : Nat → Int32) (vf : Nat → Int64) (f t w : Int32) : Int32 := if okW f t then (if e_fo (eW kf vf f t) w = 0 then 2 else 0) else 1
theorem in_01 : vp_in (0 : Int32) 1 := by rw [vp_in_iff]; decide
set_option maxRecDepth 20000 in
theorem kL_set_0 : (.classLink RL 13 IAE : Cond) ∈ wsL_set := by decide +kernel
set_option maxRecDepth 20000 in
theorem kL_set_1 : (.classLink RL 15 IOB : Cond) ∈ wsL_set := by decide +kernel
set_option maxHeartbeats 4000000 in
set_option maxRecDepth 100000 in
theorem qL_set (l : Launch) (hlt : l.stackTraces = false) (dC : Nat → ClassId) (dI : Nat → Nat → Nat) (sz : Nat) (h0 a b : Nat) (cI cJ : ClassId) (kf : Nat → Int32) (vf : Nat → Int64) (k kd : Int32) (v : Int64)  : vx_Met l yL_set wsL_set ({ frames := 8, cells := 2, slots := 12, locals := 160 }) (va_Pc [.ref h0, .int k, .int kd, .long v] (fun U => U.heap.size = sz ∧ va_P (dC, dI) vwCl [(h0, .inr (1, [.ref a, .ref b])), (a, .inl (cI, 256, .inl kf)), (b, .inl (cJ, 256, .inr (.inl vf)))] U.heap ∧ va_K (dC, dI) vwCl [(cI, .int), (cJ, .long)] U ∧ va_D (fun _ => True) [(h0, .inr (1, [.ref a, .ref b])), (a, .inl (cI, 256, .inl kf)), (b, .inl (cJ, 256, .inr (.inl vf)))] ∧ ev U ∧ ez (va_A [(h0, .inr (1, [.ref a, .ref b])), (a, .inl (cI, 256, .inl kf)), (b, .inl (cJ, 256, .inr (.inl vf)))] sz) U U.heap)) (va_Qi (fun (r : Int32) (u : (Nat → Int32) × (Nat → Int64)) => (r = s_c k kd v) ∧ u = (s_k kf k kd v, s_v vf k kd v)) (fun (u : (Nat → Int32) × (Nat → Int64)) (t9 : State) => va_P (dC, dI) vwCl [(h0, .inr (1, [.ref a, .ref b])), (a, .inl (cI, 256, .inl u.1)), (b, .inl (cJ, 256, .inr (.inl u.2)))] t9.heap ∧ va_K (dC, dI) vwCl [(cI, .int), (cJ, .long)] t9 ∧ va_D (va_A [(h0, .inr (1, [.ref a, .ref b])), (a, .inl (cI, 256, .inl kf)), (b, .inl (cJ, 256, .inr (.inl vf)))] sz) [(h0, .inr (1, [.ref a, .ref b])), (a, .inl (cI, 256, .inl u.1)), (b, .inl (cJ, 256, .inr (.inl u.2)))]) (va_A [(h0, .inr (1, [.ref a, .ref b])), (a, .inl (cI, 256, .inl kf)), (b, .inl (cJ, 256, .inr (.inl vf)))] sz)) (vx_X (fun _ : Unit => True) (fun (E : String) (_ : Unit) (t9 : State) => (False) ∧ va_P (dC, dI) vwCl [(h0, .inr (1, [.ref a, .ref b])), (a, .inl (cI, 256, .inl kf)), (b, .inl (cJ, 256, .inr (.inl vf)))] t9.heap ∧ va_K (dC, dI) vwCl [(cI, .int), (cJ, .long)] t9 ∧ va_D (va_A [(h0, .inr (1, [.ref a, .ref b])), (a, .inl (cI, 256, .inl kf)), (b, .inl (cJ, 256, .inr (.inl vf)))] sz) [(h0, .inr (1, [.ref a, .ref b])), (a, .inl (cI, 256, .inl kf)), (b, .inl (cJ, 256, .inr (.inl vf)))]) (va_A [(h0, .inr (1, [.ref a, .ref b])), (a, .inl (cI, 256, .inl kf)), (b, .inl (cJ, 256, .inr (.inl vf)))] sz)) 2 12 (va_A [(h0, .inr (1, [.ref a, .ref b])), (a, .inl (cI, 256, .inl kf)), (b, .inl (cJ, 256, .inr (.inl vf)))] sz) := by
  refine vx_ofWH (cc := cL_set) (maxL := 6) (ret := (some .int)) (hh := [(0, 7, 10, 13), (0, 7, 14, 15)]) (by decide) rfl ?_
  intro p e s m args below meth c s₁ B hml hv
  obtain ⟨rfl, hsz, hP, hK, hD0, hE, hZ⟩ := hv
  have hx := B.exec
  have hb := B.bytes
  have hr := B.returns
  have hts := atoms_spec (ws := wsL_set) B.pre
  have hown : s.vm.findClass RL = some m.cls := findClass_of_methodNamed B.named
  have hlocks := B.notSynchronized
  have htb := vx_table (x := yL_set) B (hts _ List.mem_cons_self)
  subst hsz
  have hD := hD0.self (sz := s.heap.size)
  generalize hAe : va_A [(h0, .inr (1, [.ref a, .ref b])), (a, .inl (cI, 256, .inl kf)), (b, .inl (cJ, 256, .inr (.inl vf)))] s.heap.size = A at hD hZ ⊢
  have hA : ∀ q : Nat, s.heap.size ≤ q → A q := fun q h => by rw [← hAe]; exact Or.inr h
  have hS : va_S A s.heap s.heap [] := va_S.rf
  have hP : va_P (dC, dI) vwCl [(h0, .inr (1, [.ref a, .ref b])), (a, .inl (cI, 256, .inl kf)), (b, .inl (cJ, 256, .inr (.inl vf)))] s.heap := hP
  have hl := lv_entry ([.ref h0, .int k, .int kd, .long v]) (n := 6) (Nat.le_of_ble_eq_true rfl)
  rw [lg_entry_eq]
  generalize (lg_sl ([.ref h0, .int k, .int kd, .long v]) ++ List.replicate (6 - (lg_sl ([.ref h0, .int k, .int kd, .long v])).length) Slot.unset).toArray = ls at hl ⊢
  have hl : lv_has ls 6 [(0, .ref h0), (1, .int k), (2, .int kd), (3, .long v)] := hl
  refine lv_aload_n hx hb dL_set_0 rfl (lv_at hl 0 rfl) ?_
  refine lv_iload_n hx hb dL_set_1 rfl (lv_at hl 1 rfl) ?_
  refine lv_iload_n hx hb dL_set_2 rfl (lv_at hl 2 rfl) ?_
  refine lv_lload_n hx hb dL_set_3 rfl (lv_at hl 3 rfl) ?_
  have hPc := hP.sub (ws' := [(h0, .inr (1, [.ref a, .ref b])), (a, .inl (cI, 256, .inl kf)), (b, .inl (cJ, 256, .inr (.inl vf)))]) [0, 1, 2] rfl
  have hDc := hD.sub (ws' := [(h0, .inr (1, [.ref a, .ref b])), (a, .inl (cI, 256, .inl kf)), (b, .inl (cJ, 256, .inr (.inl vf)))]) [0, 1, 2] (by decide) rfl
  have hKc := hK.sub (tys' := [(cI, .int), (cJ, .long)]) [0, 1] rfl
  have hFc := va_free (wc := [(h0, .inr (1, [.ref a, .ref b])), (a, .inl (cI, 256, .inl kf)), (b, .inl (cJ, 256, .inr (.inl vf)))]) hD hS hA [0, 1, 2] rfl
  refine vx_callv (vx_runV (As := [.int k, .int kd, .long v]) (rest := []) ⟨hx, hb, hml, hown, hts⟩ (qX1_set l hlt dC dI s.heap.size h0 a b cI cJ kf vf k kd v) (cwV 3 hts gL_set_X1_set rfl rfl rfl (by decide +kernel) ⟨Nat.le_of_ble_eq_true rfl, Nat.le_of_ble_eq_true rfl⟩) ⟨fun a U g mk q => by obtain ⟨q0, q1, qP, qK, qD, qE, qZ⟩ := q; exact ⟨q0, q1, qP, va_K.moved (u := U) (U := U.calling g mk a) (Vm.Alike.refl U.vm) qK, qD, ev.same (u := U) rfl qE, ez.moved (U := U.calling g mk a) qZ (Vm.Alike.refl U.vm)⟩, va_recv hKc hPc (ci := 1) (q0 := 0) rfl rfl, fun U hU hW => ⟨rfl, by rw [hU], by rw [hU]; exact hPc, va_K.moved hW.alike hKc, hDc.weaken (fun _ _ _ _ => trivial), hE.warm hW, by rw [hU]; exact ((hZ.kept hS.2.1).narrow hFc).moved hW.alike⟩⟩ rfl rfl hl.1 rfl (lv_room (Nat.le_of_ble_eq_true rfl)) dL_set_4 ⟨Nat.le_of_ble_eq_true rfl, Nat.le_of_ble_eq_true rfl⟩) hS (fun q _ h => hFc q h) hFc (fun q _ h => hFc q h) (fun E ce q9 u t9 H1 locs ht hvm hw hB hz1 hk1 hS hce hcv hcl => ?_) (fun u t9 H1 locs ht hvm hw hB hz1 hk1 hS => ?_)
  · obtain ⟨hex, hP1, hK1, hD1⟩ := hB
    rw [ht] at hP1
    have hK1 := va_K.moved hvm.symm hK1
    obtain ⟨hP, hD⟩ := va_join (wr := []) (w1 := [(h0, .inr (1, [.ref a, .ref b])), (a, .inl (cI, 256, .inl kf)), (b, .inl (cJ, 256, .inr (.inl vf)))]) hP hD [0, 1, 2] [] rfl rfl (by decide) (by decide) hk1 hFc hP1 hD1
    have hK := (hK.sub (tys' := []) [] rfl).app hK1
    generalize H1 = H at hP hS hce ⊢
    have hP : va_P (dC, dI) vwCl [(h0, .inr (1, [.ref a, .ref b])), (a, .inl (cI, 256, .inl kf)), (b, .inl (cJ, 256, .inr (.inl vf)))] H := hP
    have hD : va_D A [(h0, .inr (1, [.ref a, .ref b])), (a, .inl (cI, 256, .inl kf)), (b, .inl (cJ, 256, .inr (.inl vf)))] := hD
    have hK : va_K (dC, dI) vwCl [(cI, .int), (cJ, .long)] s := hK
    refine vx_widen (k := 2) (n := 12) (Nat.le_of_ble_eq_true rfl) (Nat.le_of_ble_eq_true rfl) ?_
    rcases hex with ⟨hE9, hx9⟩ | ⟨hE9, hx9⟩
    · subst hE9
      refine vx_catch hown [] ⟨0, 7, 10, 13⟩ [⟨0, 7, 14, 15⟩] htb (fun z hz => absurd hz List.not_mem_nil) (by decide) (by decide) (hts (.classLink RL 13 IAE) kL_set_0) (va_Nw.use rfl (ev_ciae hE)) hce hcv hcl ?_
      refine lv_astore (lv' := [(5, .ref q9), (0, .ref h0), (1, .int k), (2, .int kd), (3, .long v)]) hx hb dL_set_10 hl (by decide) rfl (fun ls hl => ?_)
      refine lv_iconst (v := 1) hx hb dL_set_12 (by decide) ?_
      have hP9 := hP.sub (ws' := [(h0, .inr (1, [.ref a, .ref b])), (a, .inl (cI, 256, .inl kf)), (b, .inl (cJ, 256, .inr (.inl vf)))]) [0, 1, 2] rfl
      have hD9 := hD.sub (ws' := [(h0, .inr (1, [.ref a, .ref b])), (a, .inl (cI, 256, .inl kf)), (b, .inl (cJ, 256, .inr (.inl vf)))]) [0, 1, 2] (by decide) rfl
      have hK9 := hK.sub (tys' := [(cI, .int), (cJ, .long)]) [0, 1] rfl
      refine vx_ret ?_
      refine W.widen (k := 2) (n := 12) (Nat.le_of_ble_eq_true rfl) (Nat.le_of_ble_eq_true rfl) ?_
      exact W.iret (v := 1) hx hb hr (fun t9 ht hW => ⟨⟨1, (kf, vf), rfl, ⟨by first | (simp [s_c, s_k, s_v, hx9]; done) | (simp [s_c, s_k, s_v, hx9]; done) | grind [s_c, s_k, s_v], by first | (simp [s_c, s_k, s_v, hx9]; done) | (simp [s_c, s_k, s_v, hx9]; done) | grind [s_c, s_k, s_v]⟩, by rw [ht]; exact hP9, va_K.moved hW.alike hK9, hD9⟩, hS.F ht⟩) hS.2.2 dL_set_13
    · subst hE9
      refine vx_catch hown [⟨0, 7, 10, 13⟩] ⟨0, 7, 14, 15⟩ [] htb (fun z hz => by rw [List.mem_singleton.mp hz]; exact Or.inr ⟨by decide, IAE, (hts (.classLink RL 13 IAE) kL_set_0), hE.2.2.1⟩) (by decide) (by decide) (hts (.classLink RL 15 IOB) kL_set_1) (va_Nw.use rfl (ev_ciob hE)) hce hcv hcl ?_
      refine lv_astore (lv' := [(5, .ref q9), (0, .ref h0), (1, .int k), (2, .int kd), (3, .long v)]) hx hb dL_set_14 hl (by decide) rfl (fun ls hl => ?_)
      refine lv_iconst (v := 2) hx hb dL_set_16 (by decide) ?_
      have hP9 := hP.sub (ws' := [(h0, .inr (1, [.ref a, .ref b])), (a, .inl (cI, 256, .inl kf)), (b, .inl (cJ, 256, .inr (.inl vf)))]) [0, 1, 2] rfl
      have hD9 := hD.sub (ws' := [(h0, .inr (1, [.ref a, .ref b])), (a, .inl (cI, 256, .inl kf)), (b, .inl (cJ, 256, .inr (.inl vf)))]) [0, 1, 2] (by decide) rfl
      have hK9 := hK.sub (tys' := [(cI, .int), (cJ, .long)]) [0, 1] rfl
      refine vx_ret ?_
      refine W.widen (k := 2) (n := 12) (Nat.le_of_ble_eq_true rfl) (Nat.le_of_ble_eq_true rfl) ?_
      exact W.iret (v := 2) hx hb hr (fun t9 ht hW => ⟨⟨2, (kf, vf), rfl, ⟨by first | (simp [s_c, s_k, s_v, hx9]; done) | (simp [s_c, s_k, s_v, hx9]; done) | grind [s_c, s_k, s_v], by first | (simp [s_c, s_k, s_v, hx9]; done) | (simp [s_c, s_k, s_v, hx9]; done) | grind [s_c, s_k, s_v]⟩, by rw [ht]; exact hP9, va_K.moved hW.alike hK9, hD9⟩, hS.F ht⟩) hS.2.2 dL_set_17
  · obtain ⟨hP1, hK1, hD1⟩ := hB
    rw [ht] at hP1
    obtain ⟨h_2, rfl⟩ := hw
    have hK1 := va_K.moved hvm.symm hK1
    obtain ⟨hP, hD⟩ := va_join (wr := []) (w1 := [(h0, .inr (1, [.ref a, .ref b])), (a, .inl (cI, 256, .inl ((upd kf k.toNatClampNeg kd, vp_updL vf k.toNatClampNeg v).1))), (b, .inl (cJ, 256, .inr (.inl ((upd kf k.toNatClampNeg kd, vp_updL vf k.toNatClampNeg v).2))))]) hP hD [0, 1, 2] [] rfl rfl (by decide) (by decide) hk1 hFc hP1 hD1
    have hK := (hK.sub (tys' := []) [] rfl).app hK1
    generalize H1 = H at hP hS ⊢
    have hP : va_P (dC, dI) vwCl [(h0, .inr (1, [.ref a, .ref b])), (a, .inl (cI, 256, .inl ((upd kf k.toNatClampNeg kd, vp_updL vf k.toNatClampNeg v).1))), (b, .inl (cJ, 256, .inr (.inl ((upd kf k.toNatClampNeg kd, vp_updL vf k.toNatClampNeg v).2))))] H := hP
    have hD : va_D A [(h0, .inr (1, [.ref a, .ref b])), (a, .inl (cI, 256, .inl ((upd kf k.toNatClampNeg kd, vp_updL vf k.toNatClampNeg v).1))), (b, .inl (cJ, 256, .inr (.inl ((upd kf k.toNatClampNeg kd, vp_updL vf k.toNatClampNeg v).2))))] := hD
    have hK : va_K (dC, dI) vwCl [(cI, .int), (cJ, .long)] s := hK
    refine W.widen (k := 2) (n := 12) (Nat.le_of_ble_eq_true rfl) (Nat.le_of_ble_eq_true rfl) ?_
    refine lv_goto (tgt := 18) hx hb dL_set_7 (by decide) ?_
    refine lv_iconst (v := 0) hx hb dL_set_18 (by decide) ?_
    have hP9 := hP.sub (ws' := [(h0, .inr (1, [.ref a, .ref b])), (a, .inl (cI, 256, .inl ((upd kf k.toNatClampNeg kd, vp_updL vf k.toNatClampNeg v).1))), (b, .inl (cJ, 256, .inr (.inl ((upd kf k.toNatClampNeg kd, vp_updL vf k.toNatClampNeg v).2))))]) [0, 1, 2] rfl
    have hD9 := hD.sub (ws' := [(h0, .inr (1, [.ref a, .ref b])), (a, .inl (cI, 256, .inl ((upd kf k.toNatClampNeg kd, vp_updL vf k.toNatClampNeg v).1))), (b, .inl (cJ, 256, .inr (.inl ((upd kf k.toNatClampNeg kd, vp_updL vf k.toNatClampNeg v).2))))]) [0, 1, 2] (by decide) rfl
    have hK9 := hK.sub (tys' := [(cI, .int), (cJ, .long)]) [0, 1] rfl
    refine vx_ret ?_
    refine W.widen (k := 2) (n := 12) (Nat.le_of_ble_eq_true rfl) (Nat.le_of_ble_eq_true rfl) ?_
    exact W.iret (v := 0) hx hb hr (fun t9 ht hW => ⟨⟨0, ((upd kf k.toNatClampNeg kd, vp_updL vf k.toNatClampNeg v).1, (upd kf k.toNatClampNeg kd, vp_updL vf k.toNatClampNeg v).2), rfl, ⟨by first | (simp [s_c, s_k, s_v, h_2]; done) | (simp [s_c, s_k, s_v, h_2]; done) | grind [s_c, s_k, s_v], by first | (simp [s_c, s_k, s_v, h_2]; done) | (simp [s_c, s_k, s_v, h_2]; done) | grind [s_c, s_k, s_v]⟩, by rw [ht]; exact hP9, va_K.moved hW.alike hK9, hD9⟩, hS.F ht⟩) hS.2.2 dL_set_19

set_option maxRecDepth 20000 in
theorem kL_fill_0 : (.classLink RL 13 IAE : Cond) ∈ wsL_fill := by decide +kernel
set_option maxRecDepth 20000 in
theorem kL_fill_1 : (.classLink RL 15 IOB : Cond) ∈ wsL_fill := by decide +kernel
set_option maxHeartbeats 4000000 in
set_option maxRecDepth 100000 in
theorem qL_fill (l : Launch) (hlt : l.stackTraces = false) (dC : Nat → ClassId) (dI : Nat → Nat → Nat) (sz : Nat) (h0 a b : Nat) (cI cJ : ClassId) (kf : Nat → Int32) (vf : Nat → Int64) (f t kd : Int32) (v : Int64)  : vx_Met l yL_fill wsL_fill ({ frames := 8, cells := 2, slots := 12, locals := 160 }) (va_Pc [.ref h0, .int f, .int t, .int kd, .long v] (fun U => U.heap.size = sz ∧ va_P (dC, dI) vwCl [(h0, .inr (1, [.ref a, .ref b])), (a, .inl (cI, 256, .inl kf)), (b, .inl (cJ, 256, .inr (.inl vf)))] U.heap ∧ va_K (dC, dI) vwCl [(cI, .int), (cJ, .long)] U ∧ va_D (fun _ => True) [(h0, .inr (1, [.ref a, .ref b])), (a, .inl (cI, 256, .inl kf)), (b, .inl (cJ, 256, .inr (.inl vf)))] ∧ ev U ∧ ez (va_A [(h0, .inr (1, [.ref a, .ref b])), (a, .inl (cI, 256, .inl kf)), (b, .inl (cJ, 256, .inr (.inl vf)))] sz) U U.heap)) (va_Qi (fun (r : Int32) (u : (Nat → Int32) × (Nat → Int64)) => (r = f_c f t kd v) ∧ u = (f_k kf f t kd v, f_v vf f t kd v)) (fun (u : (Nat → Int32) × (Nat → Int64)) (t9 : State) => va_P (dC, dI) vwCl [(h0, .inr (1, [.ref a, .ref b])), (a, .inl (cI, 256, .inl u.1)), (b, .inl (cJ, 256, .inr (.inl u.2)))] t9.heap ∧ va_K (dC, dI) vwCl [(cI, .int), (cJ, .long)] t9 ∧ va_D (va_A [(h0, .inr (1, [.ref a, .ref b])), (a, .inl (cI, 256, .inl kf)), (b, .inl (cJ, 256, .inr (.inl vf)))] sz) [(h0, .inr (1, [.ref a, .ref b])), (a, .inl (cI, 256, .inl u.1)), (b, .inl (cJ, 256, .inr (.inl u.2)))]) (va_A [(h0, .inr (1, [.ref a, .ref b])), (a, .inl (cI, 256, .inl kf)), (b, .inl (cJ, 256, .inr (.inl vf)))] sz)) (vx_X (fun _ : Unit => True) (fun (E : String) (_ : Unit) (t9 : State) => (False) ∧ va_P (dC, dI) vwCl [(h0, .inr (1, [.ref a, .ref b])), (a, .inl (cI, 256, .inl kf)), (b, .inl (cJ, 256, .inr (.inl vf)))] t9.heap ∧ va_K (dC, dI) vwCl [(cI, .int), (cJ, .long)] t9 ∧ va_D (va_A [(h0, .inr (1, [.ref a, .ref b])), (a, .inl (cI, 256, .inl kf)), (b, .inl (cJ, 256, .inr (.inl vf)))] sz) [(h0, .inr (1, [.ref a, .ref b])), (a, .inl (cI, 256, .inl kf)), (b, .inl (cJ, 256, .inr (.inl vf)))]) (va_A [(h0, .inr (1, [.ref a, .ref b])), (a, .inl (cI, 256, .inl kf)), (b, .inl (cJ, 256, .inr (.inl vf)))] sz)) 2 12 (va_A [(h0, .inr (1, [.ref a, .ref b])), (a, .inl (cI, 256, .inl kf)), (b, .inl (cJ, 256, .inr (.inl vf)))] sz) := by
  refine vx_ofWH (cc := cL_fill) (maxL := 7) (ret := (some .int)) (hh := [(0, 9, 12, 13), (0, 9, 16, 15)]) (by decide) rfl ?_
  intro p e s m args below meth c s₁ B hml hv
  obtain ⟨rfl, hsz, hP, hK, hD0, hE, hZ⟩ := hv
  have hx := B.exec
  have hb := B.bytes
  have hr := B.returns
  have hts := atoms_spec (ws := wsL_fill) B.pre
  have hown : s.vm.findClass RL = some m.cls := findClass_of_methodNamed B.named
  have hlocks := B.notSynchronized
  have htb := vx_table (x := yL_fill) B (hts _ List.mem_cons_self)
  subst hsz
  have hD := hD0.self (sz := s.heap.size)
  generalize hAe : va_A [(h0, .inr (1, [.ref a, .ref b])), (a, .inl (cI, 256, .inl kf)), (b, .inl (cJ, 256, .inr (.inl vf)))] s.heap.size = A at hD hZ ⊢
  have hA : ∀ q : Nat, s.heap.size ≤ q → A q := fun q h => by rw [← hAe]; exact Or.inr h
  have hS : va_S A s.heap s.heap [] := va_S.rf
  have hP : va_P (dC, dI) vwCl [(h0, .inr (1, [.ref a, .ref b])), (a, .inl (cI, 256, .inl kf)), (b, .inl (cJ, 256, .inr (.inl vf)))] s.heap := hP
  have hl := lv_entry ([.ref h0, .int f, .int t, .int kd, .long v]) (n := 7) (Nat.le_of_ble_eq_true rfl)
  rw [lg_entry_eq]
  generalize (lg_sl ([.ref h0, .int f, .int t, .int kd, .long v]) ++ List.replicate (7 - (lg_sl ([.ref h0, .int f, .int t, .int kd, .long v])).length) Slot.unset).toArray = ls at hl ⊢
  have hl : lv_has ls 7 [(0, .ref h0), (1, .int f), (2, .int t), (3, .int kd), (4, .long v)] := hl
  refine lv_aload_n hx hb dL_fill_0 rfl (lv_at hl 0 rfl) ?_
  refine lv_iload_n hx hb dL_fill_1 rfl (lv_at hl 1 rfl) ?_
  refine lv_iload_n hx hb dL_fill_2 rfl (lv_at hl 2 rfl) ?_
  refine lv_iload_n hx hb dL_fill_3 rfl (lv_at hl 3 rfl) ?_
  refine lv_lload hx hb dL_fill_4 (lv_at hl 4 rfl) ?_
  have hPc := hP.sub (ws' := [(h0, .inr (1, [.ref a, .ref b])), (a, .inl (cI, 256, .inl kf)), (b, .inl (cJ, 256, .inr (.inl vf)))]) [0, 1, 2] rfl
  have hDc := hD.sub (ws' := [(h0, .inr (1, [.ref a, .ref b])), (a, .inl (cI, 256, .inl kf)), (b, .inl (cJ, 256, .inr (.inl vf)))]) [0, 1, 2] (by decide) rfl
  have hKc := hK.sub (tys' := [(cI, .int), (cJ, .long)]) [0, 1] rfl
  have hFc := va_free (wc := [(h0, .inr (1, [.ref a, .ref b])), (a, .inl (cI, 256, .inl kf)), (b, .inl (cJ, 256, .inr (.inl vf)))]) hD hS hA [0, 1, 2] rfl
  refine vx_callv (vx_runV (As := [.int f, .int t, .int kd, .long v]) (rest := []) ⟨hx, hb, hml, hown, hts⟩ (qX1_fill l hlt dC dI s.heap.size h0 a b cI cJ kf vf f t kd v) (cwV 4 hts gL_fill_X1_fill rfl rfl rfl (by decide +kernel) ⟨Nat.le_of_ble_eq_true rfl, Nat.le_of_ble_eq_true rfl⟩) ⟨fun a U g mk q => by obtain ⟨q0, q1, qP, qK, qD, qE, qZ⟩ := q; exact ⟨q0, q1, qP, va_K.moved (u := U) (U := U.calling g mk a) (Vm.Alike.refl U.vm) qK, qD, ev.same (u := U) rfl qE, ez.moved (U := U.calling g mk a) qZ (Vm.Alike.refl U.vm)⟩, va_recv hKc hPc (ci := 1) (q0 := 0) rfl rfl, fun U hU hW => ⟨rfl, by rw [hU], by rw [hU]; exact hPc, va_K.moved hW.alike hKc, hDc.weaken (fun _ _ _ _ => trivial), hE.warm hW, by rw [hU]; exact ((hZ.kept hS.2.1).narrow hFc).moved hW.alike⟩⟩ rfl rfl hl.1 rfl (lv_room (Nat.le_of_ble_eq_true rfl)) dL_fill_6 ⟨Nat.le_of_ble_eq_true rfl, Nat.le_of_ble_eq_true rfl⟩) hS (fun q _ h => hFc q h) hFc (fun q _ h => hFc q h) (fun E ce q9 u t9 H1 locs ht hvm hw hB hz1 hk1 hS hce hcv hcl => ?_) (fun u t9 H1 locs ht hvm hw hB hz1 hk1 hS => ?_)
  · obtain ⟨hex, hP1, hK1, hD1⟩ := hB
    rw [ht] at hP1
    have hK1 := va_K.moved hvm.symm hK1
    obtain ⟨hP, hD⟩ := va_join (wr := []) (w1 := [(h0, .inr (1, [.ref a, .ref b])), (a, .inl (cI, 256, .inl kf)), (b, .inl (cJ, 256, .inr (.inl vf)))]) hP hD [0, 1, 2] [] rfl rfl (by decide) (by decide) hk1 hFc hP1 hD1
    have hK := (hK.sub (tys' := []) [] rfl).app hK1
    generalize H1 = H at hP hS hce ⊢
    have hP : va_P (dC, dI) vwCl [(h0, .inr (1, [.ref a, .ref b])), (a, .inl (cI, 256, .inl kf)), (b, .inl (cJ, 256, .inr (.inl vf)))] H := hP
    have hD : va_D A [(h0, .inr (1, [.ref a, .ref b])), (a, .inl (cI, 256, .inl kf)), (b, .inl (cJ, 256, .inr (.inl vf)))] := hD
    have hK : va_K (dC, dI) vwCl [(cI, .int), (cJ, .long)] s := hK
    refine vx_widen (k := 2) (n := 12) (Nat.le_of_ble_eq_true rfl) (Nat.le_of_ble_eq_true rfl) ?_
    rcases hex with ⟨hE9, hx9⟩ | ⟨hE9, hx9⟩
    · subst hE9
      refine vx_catch hown [] ⟨0, 9, 12, 13⟩ [⟨0, 9, 16, 15⟩] htb (fun z hz => absurd hz List.not_mem_nil) (by decide) (by decide) (hts (.classLink RL 13 IAE) kL_fill_0) (va_Nw.use rfl (ev_ciae hE)) hce hcv hcl ?_
      refine lv_astore (lv' := [(6, .ref q9), (0, .ref h0), (1, .int f), (2, .int t), (3, .int kd), (4, .long v)]) hx hb dL_fill_12 hl (by decide) rfl (fun ls hl => ?_)
      refine lv_iconst (v := 1) hx hb dL_fill_14 (by decide) ?_
      have hP9 := hP.sub (ws' := [(h0, .inr (1, [.ref a, .ref b])), (a, .inl (cI, 256, .inl kf)), (b, .inl (cJ, 256, .inr (.inl vf)))]) [0, 1, 2] rfl
      have hD9 := hD.sub (ws' := [(h0, .inr (1, [.ref a, .ref b])), (a, .inl (cI, 256, .inl kf)), (b, .inl (cJ, 256, .inr (.inl vf)))]) [0, 1, 2] (by decide) rfl
      have hK9 := hK.sub (tys' := [(cI, .int), (cJ, .long)]) [0, 1] rfl
      refine vx_ret ?_
      refine W.widen (k := 2) (n := 12) (Nat.le_of_ble_eq_true rfl) (Nat.le_of_ble_eq_true rfl) ?_
      exact W.iret (v := 1) hx hb hr (fun t9 ht hW => ⟨⟨1, (kf, vf), rfl, ⟨by first | (simp [f_c, f_k, f_v, hx9]; done) | (simp [f_c, f_k, f_v, hx9]; done) | grind [f_c, f_k, f_v], by first | (simp [f_c, f_k, f_v, hx9]; done) | (simp [f_c, f_k, f_v, hx9]; done) | grind [f_c, f_k, f_v]⟩, by rw [ht]; exact hP9, va_K.moved hW.alike hK9, hD9⟩, hS.F ht⟩) hS.2.2 dL_fill_15
    · subst hE9
      refine vx_catch hown [⟨0, 9, 12, 13⟩] ⟨0, 9, 16, 15⟩ [] htb (fun z hz => by rw [List.mem_singleton.mp hz]; exact Or.inr ⟨by decide, IAE, (hts (.classLink RL 13 IAE) kL_fill_0), hE.2.2.1⟩) (by decide) (by decide) (hts (.classLink RL 15 IOB) kL_fill_1) (va_Nw.use rfl (ev_ciob hE)) hce hcv hcl ?_
      refine lv_astore (lv' := [(6, .ref q9), (0, .ref h0), (1, .int f), (2, .int t), (3, .int kd), (4, .long v)]) hx hb dL_fill_16 hl (by decide) rfl (fun ls hl => ?_)
      refine lv_iconst (v := 2) hx hb dL_fill_18 (by decide) ?_
      have hP9 := hP.sub (ws' := [(h0, .inr (1, [.ref a, .ref b])), (a, .inl (cI, 256, .inl kf)), (b, .inl (cJ, 256, .inr (.inl vf)))]) [0, 1, 2] rfl
      have hD9 := hD.sub (ws' := [(h0, .inr (1, [.ref a, .ref b])), (a, .inl (cI, 256, .inl kf)), (b, .inl (cJ, 256, .inr (.inl vf)))]) [0, 1, 2] (by decide) rfl
      have hK9 := hK.sub (tys' := [(cI, .int), (cJ, .long)]) [0, 1] rfl
      refine vx_ret ?_
      refine W.widen (k := 2) (n := 12) (Nat.le_of_ble_eq_true rfl) (Nat.le_of_ble_eq_true rfl) ?_
      exact W.iret (v := 2) hx hb hr (fun t9 ht hW => ⟨⟨2, (kf, vf), rfl, ⟨by first | (simp [f_c, f_k, f_v, hx9]; done) | (simp [f_c, f_k, f_v, hx9]; done) | grind [f_c, f_k, f_v], by first | (simp [f_c, f_k, f_v, hx9]; done) | (simp [f_c, f_k, f_v, hx9]; done) | grind [f_c, f_k, f_v]⟩, by rw [ht]; exact hP9, va_K.moved hW.alike hK9, hD9⟩, hS.F ht⟩) hS.2.2 dL_fill_19
  · obtain ⟨hP1, hK1, hD1⟩ := hB
    rw [ht] at hP1
    obtain ⟨h_2, rfl⟩ := hw
    have hK1 := va_K.moved hvm.symm hK1
    obtain ⟨hP, hD⟩ := va_join (wr := []) (w1 := [(h0, .inr (1, [.ref a, .ref b])), (a, .inl (cI, 256, .inl ((f_fi kf f.toNatClampNeg (ln f t) kd, f_fi vf f.toNatClampNeg (ln f t) v).1))), (b, .inl (cJ, 256, .inr (.inl ((f_fi kf f.toNatClampNeg (ln f t) kd, f_fi vf f.toNatClampNeg (ln f t) v).2))))]) hP hD [0, 1, 2] [] rfl rfl (by decide) (by decide) hk1 hFc hP1 hD1
    have hK := (hK.sub (tys' := []) [] rfl).app hK1
    generalize H1 = H at hP hS ⊢
    have hP : va_P (dC, dI) vwCl [(h0, .inr (1, [.ref a, .ref b])), (a, .inl (cI, 256, .inl ((f_fi kf f.toNatClampNeg (ln f t) kd, f_fi vf f.toNatClampNeg (ln f t) v).1))), (b, .inl (cJ, 256, .inr (.inl ((f_fi kf f.toNatClampNeg (ln f t) kd, f_fi vf f.toNatClampNeg (ln f t) v).2))))] H := hP
    have hD : va_D A [(h0, .inr (1, [.ref a, .ref b])), (a, .inl (cI, 256, .inl ((f_fi kf f.toNatClampNeg (ln f t) kd, f_fi vf f.toNatClampNeg (ln f t) v).1))), (b, .inl (cJ, 256, .inr (.inl ((f_fi kf f.toNatClampNeg (ln f t) kd, f_fi vf f.toNatClampNeg (ln f t) v).2))))] := hD
    have hK : va_K (dC, dI) vwCl [(cI, .int), (cJ, .long)] s := hK
    refine W.widen (k := 2) (n := 12) (Nat.le_of_ble_eq_true rfl) (Nat.le_of_ble_eq_true rfl) ?_
    refine lv_goto (tgt := 20) hx hb dL_fill_9 (by decide) ?_
    refine lv_iconst (v := 0) hx hb dL_fill_20 (by decide) ?_
    have hP9 := hP.sub (ws' := [(h0, .inr (1, [.ref a, .ref b])), (a, .inl (cI, 256, .inl ((f_fi kf f.toNatClampNeg (ln f t) kd, f_fi vf f.toNatClampNeg (ln f t) v).1))), (b, .inl (cJ, 256, .inr (.inl ((f_fi kf f.toNatClampNeg (ln f t) kd, f_fi vf f.toNatClampNeg (ln f t) v).2))))]) [0, 1, 2] rfl
    have hD9 := hD.sub (ws' := [(h0, .inr (1, [.ref a, .ref b])), (a, .inl (cI, 256, .inl ((f_fi kf f.toNatClampNeg (ln f t) kd, f_fi vf f.toNatClampNeg (ln f t) v).1))), (b, .inl (cJ, 256, .inr (.inl ((f_fi kf f.toNatClampNeg (ln f t) kd, f_fi vf f.toNatClampNeg (ln f t) v).2))))]) [0, 1, 2] (by decide) rfl
    have hK9 := hK.sub (tys' := [(cI, .int), (cJ, .long)]) [0, 1] rfl
    refine vx_ret ?_
    refine W.widen (k := 2) (n := 12) (Nat.le_of_ble_eq_true rfl) (Nat.le_of_ble_eq_true rfl) ?_
    exact W.iret (v := 0) hx hb hr (fun t9 ht hW => ⟨⟨0, ((f_fi kf f.toNatClampNeg (ln f t) kd, f_fi vf f.toNatClampNeg (ln f t) v).1, (f_fi kf f.toNatClampNeg (ln f t) kd, f_fi vf f.toNatClampNeg (ln f t) v).2), rfl, ⟨by first | (simp [f_c, f_k, f_v, h_2]; done) | (simp [f_c, f_k, f_v, h_2]; done) | grind [f_c, f_k, f_v], by first | (simp [f_c, f_k, f_v, h_2]; done) | (simp [f_c, f_k, f_v, h_2]; done) | grind [f_c, f_k, f_v]⟩, by rw [ht]; exact hP9, va_K.moved hW.alike hK9, hD9⟩, hS.F ht⟩) hS.2.2 dL_fill_21

set_option maxRecDepth 20000 in
theorem kL_swap_0 : (.classLink RL 15 IOB : Cond) ∈ wsL_swap := by decide +kernel
set_option maxHeartbeats 4000000 in
set_option maxRecDepth 100000 in
theorem qL_swap (l : Launch) (hlt : l.stackTraces = false) (dC : Nat → ClassId) (dI : Nat → Nat → Nat) (sz : Nat) (h0 a b : Nat) (cI cJ : ClassId) (kf : Nat → Int32) (vf : Nat → Int64) (i k : Int32)  : vx_Met l yL_swap wsL_swap ({ frames := 8, cells := 2, slots := 12, locals := 160 }) (va_Pc [.ref h0, .int i, .int k] (fun U => U.heap.size = sz ∧ va_P (dC, dI) vwCl [(h0, .inr (1, [.ref a, .ref b])), (a, .inl (cI, 256, .inl kf)), (b, .inl (cJ, 256, .inr (.inl vf)))] U.heap ∧ va_K (dC, dI) vwCl [(cI, .int), (cJ, .long)] U ∧ va_D (fun _ => True) [(h0, .inr (1, [.ref a, .ref b])), (a, .inl (cI, 256, .inl kf)), (b, .inl (cJ, 256, .inr (.inl vf)))] ∧ ev U ∧ ez (va_A [(h0, .inr (1, [.ref a, .ref b])), (a, .inl (cI, 256, .inl kf)), (b, .inl (cJ, 256, .inr (.inl vf)))] sz) U U.heap)) (va_Qi (fun (r : Int32) (u : (Nat → Int32) × (Nat → Int64)) => (r = w_c i k) ∧ u = (w_k kf i k, w_v vf i k)) (fun (u : (Nat → Int32) × (Nat → Int64)) (t9 : State) => va_P (dC, dI) vwCl [(h0, .inr (1, [.ref a, .ref b])), (a, .inl (cI, 256, .inl u.1)), (b, .inl (cJ, 256, .inr (.inl u.2)))] t9.heap ∧ va_K (dC, dI) vwCl [(cI, .int), (cJ, .long)] t9 ∧ va_D (va_A [(h0, .inr (1, [.ref a, .ref b])), (a, .inl (cI, 256, .inl kf)), (b, .inl (cJ, 256, .inr (.inl vf)))] sz) [(h0, .inr (1, [.ref a, .ref b])), (a, .inl (cI, 256, .inl u.1)), (b, .inl (cJ, 256, .inr (.inl u.2)))]) (va_A [(h0, .inr (1, [.ref a, .ref b])), (a, .inl (cI, 256, .inl kf)), (b, .inl (cJ, 256, .inr (.inl vf)))] sz)) (vx_X (fun _ : Unit => True) (fun (E : String) (_ : Unit) (t9 : State) => (False) ∧ va_P (dC, dI) vwCl [(h0, .inr (1, [.ref a, .ref b])), (a, .inl (cI, 256, .inl kf)), (b, .inl (cJ, 256, .inr (.inl vf)))] t9.heap ∧ va_K (dC, dI) vwCl [(cI, .int), (cJ, .long)] t9 ∧ va_D (va_A [(h0, .inr (1, [.ref a, .ref b])), (a, .inl (cI, 256, .inl kf)), (b, .inl (cJ, 256, .inr (.inl vf)))] sz) [(h0, .inr (1, [.ref a, .ref b])), (a, .inl (cI, 256, .inl kf)), (b, .inl (cJ, 256, .inr (.inl vf)))]) (va_A [(h0, .inr (1, [.ref a, .ref b])), (a, .inl (cI, 256, .inl kf)), (b, .inl (cJ, 256, .inr (.inl vf)))] sz)) 2 12 (va_A [(h0, .inr (1, [.ref a, .ref b])), (a, .inl (cI, 256, .inl kf)), (b, .inl (cJ, 256, .inr (.inl vf)))] sz) := by
  refine vx_ofWH (cc := cL_swap) (maxL := 4) (ret := (some .int)) (hh := [(0, 6, 9, 15)]) (by decide) rfl ?_
  intro p e s m args below meth c s₁ B hml hv
  obtain ⟨rfl, hsz, hP, hK, hD0, hE, hZ⟩ := hv
  have hx := B.exec
  have hb := B.bytes
  have hr := B.returns
  have hts := atoms_spec (ws := wsL_swap) B.pre
  have hown : s.vm.findClass RL = some m.cls := findClass_of_methodNamed B.named
  have hlocks := B.notSynchronized
  have htb := vx_table (x := yL_swap) B (hts _ List.mem_cons_self)
  subst hsz
  have hD := hD0.self (sz := s.heap.size)
  generalize hAe : va_A [(h0, .inr (1, [.ref a, .ref b])), (a, .inl (cI, 256, .inl kf)), (b, .inl (cJ, 256, .inr (.inl vf)))] s.heap.size = A at hD hZ ⊢
  have hA : ∀ q : Nat, s.heap.size ≤ q → A q := fun q h => by rw [← hAe]; exact Or.inr h
  have hS : va_S A s.heap s.heap [] := va_S.rf
  have hP : va_P (dC, dI) vwCl [(h0, .inr (1, [.ref a, .ref b])), (a, .inl (cI, 256, .inl kf)), (b, .inl (cJ, 256, .inr (.inl vf)))] s.heap := hP
  have hl := lv_entry ([.ref h0, .int i, .int k]) (n := 4) (Nat.le_of_ble_eq_true rfl)
  rw [lg_entry_eq]
  generalize (lg_sl ([.ref h0, .int i, .int k]) ++ List.replicate (4 - (lg_sl ([.ref h0, .int i, .int k])).length) Slot.unset).toArray = ls at hl ⊢
  have hl : lv_has ls 4 [(0, .ref h0), (1, .int i), (2, .int k)] := hl
  refine lv_aload_n hx hb dL_swap_0 rfl (lv_at hl 0 rfl) ?_
  refine lv_iload_n hx hb dL_swap_1 rfl (lv_at hl 1 rfl) ?_
  refine lv_iload_n hx hb dL_swap_2 rfl (lv_at hl 2 rfl) ?_
  have hPc := hP.sub (ws' := [(h0, .inr (1, [.ref a, .ref b])), (a, .inl (cI, 256, .inl kf)), (b, .inl (cJ, 256, .inr (.inl vf)))]) [0, 1, 2] rfl
  have hDc := hD.sub (ws' := [(h0, .inr (1, [.ref a, .ref b])), (a, .inl (cI, 256, .inl kf)), (b, .inl (cJ, 256, .inr (.inl vf)))]) [0, 1, 2] (by decide) rfl
  have hKc := hK.sub (tys' := [(cI, .int), (cJ, .long)]) [0, 1] rfl
  have hFc := va_free (wc := [(h0, .inr (1, [.ref a, .ref b])), (a, .inl (cI, 256, .inl kf)), (b, .inl (cJ, 256, .inr (.inl vf)))]) hD hS hA [0, 1, 2] rfl
  refine vx_callv (vx_runV (As := [.int i, .int k]) (rest := []) ⟨hx, hb, hml, hown, hts⟩ (qX1_swap l hlt dC dI s.heap.size h0 a b cI cJ kf vf i k) (cwV 2 hts gL_swap_X1_swap rfl rfl rfl (by decide +kernel) ⟨Nat.le_of_ble_eq_true rfl, Nat.le_of_ble_eq_true rfl⟩) ⟨fun a U g mk q => by obtain ⟨q0, q1, qP, qK, qD, qE, qZ⟩ := q; exact ⟨q0, q1, qP, va_K.moved (u := U) (U := U.calling g mk a) (Vm.Alike.refl U.vm) qK, qD, ev.same (u := U) rfl qE, ez.moved (U := U.calling g mk a) qZ (Vm.Alike.refl U.vm)⟩, va_recv hKc hPc (ci := 1) (q0 := 0) rfl rfl, fun U hU hW => ⟨rfl, by rw [hU], by rw [hU]; exact hPc, va_K.moved hW.alike hKc, hDc.weaken (fun _ _ _ _ => trivial), hE.warm hW, by rw [hU]; exact ((hZ.kept hS.2.1).narrow hFc).moved hW.alike⟩⟩ rfl rfl hl.1 rfl (lv_room (Nat.le_of_ble_eq_true rfl)) dL_swap_3 ⟨Nat.le_of_ble_eq_true rfl, Nat.le_of_ble_eq_true rfl⟩) hS (fun q _ h => hFc q h) hFc (fun q _ h => hFc q h) (fun E ce q9 u t9 H1 locs ht hvm hw hB hz1 hk1 hS hce hcv hcl => ?_) (fun u t9 H1 locs ht hvm hw hB hz1 hk1 hS => ?_)
  · obtain ⟨hex, hP1, hK1, hD1⟩ := hB
    rw [ht] at hP1
    have hK1 := va_K.moved hvm.symm hK1
    obtain ⟨hP, hD⟩ := va_join (wr := []) (w1 := [(h0, .inr (1, [.ref a, .ref b])), (a, .inl (cI, 256, .inl kf)), (b, .inl (cJ, 256, .inr (.inl vf)))]) hP hD [0, 1, 2] [] rfl rfl (by decide) (by decide) hk1 hFc hP1 hD1
    have hK := (hK.sub (tys' := []) [] rfl).app hK1
    generalize H1 = H at hP hS hce ⊢
    have hP : va_P (dC, dI) vwCl [(h0, .inr (1, [.ref a, .ref b])), (a, .inl (cI, 256, .inl kf)), (b, .inl (cJ, 256, .inr (.inl vf)))] H := hP
    have hD : va_D A [(h0, .inr (1, [.ref a, .ref b])), (a, .inl (cI, 256, .inl kf)), (b, .inl (cJ, 256, .inr (.inl vf)))] := hD
    have hK : va_K (dC, dI) vwCl [(cI, .int), (cJ, .long)] s := hK
    refine vx_widen (k := 2) (n := 12) (Nat.le_of_ble_eq_true rfl) (Nat.le_of_ble_eq_true rfl) ?_
    obtain ⟨hE9, hx9⟩ := hex
    subst hE9
    refine vx_catch hown [] ⟨0, 6, 9, 15⟩ [] htb (fun z hz => absurd hz List.not_mem_nil) (by decide) (by decide) (hts (.classLink RL 15 IOB) kL_swap_0) (va_Nw.use rfl (ev_ciob hE)) hce hcv hcl ?_
    refine lv_astore_n (lv' := [(3, .ref q9), (0, .ref h0), (1, .int i), (2, .int k)]) hx hb dL_swap_9 rfl hl (by decide) rfl (fun ls hl => ?_)
    refine lv_iconst (v := 1) hx hb dL_swap_10 (by decide) ?_
    have hP9 := hP.sub (ws' := [(h0, .inr (1, [.ref a, .ref b])), (a, .inl (cI, 256, .inl kf)), (b, .inl (cJ, 256, .inr (.inl vf)))]) [0, 1, 2] rfl
    have hD9 := hD.sub (ws' := [(h0, .inr (1, [.ref a, .ref b])), (a, .inl (cI, 256, .inl kf)), (b, .inl (cJ, 256, .inr (.inl vf)))]) [0, 1, 2] (by decide) rfl
    have hK9 := hK.sub (tys' := [(cI, .int), (cJ, .long)]) [0, 1] rfl
    refine vx_ret ?_
    refine W.widen (k := 2) (n := 12) (Nat.le_of_ble_eq_true rfl) (Nat.le_of_ble_eq_true rfl) ?_
    exact W.iret (v := 1) hx hb hr (fun t9 ht hW => ⟨⟨1, (kf, vf), rfl, ⟨by first | (simp [w_c, w_k, w_v, hx9]; done) | (simp [w_c, w_k, w_v, hx9]; done) | grind [w_c, w_k, w_v], by first | (simp [w_c, w_k, w_v, hx9]; done) | (simp [w_c, w_k, w_v, hx9]; done) | grind [w_c, w_k, w_v]⟩, by rw [ht]; exact hP9, va_K.moved hW.alike hK9, hD9⟩, hS.F ht⟩) hS.2.2 dL_swap_11
  · obtain ⟨hP1, hK1, hD1⟩ := hB
    rw [ht] at hP1
    obtain ⟨h_2, rfl⟩ := hw
    have hK1 := va_K.moved hvm.symm hK1
    obtain ⟨hP, hD⟩ := va_join (wr := []) (w1 := [(h0, .inr (1, [.ref a, .ref b])), (a, .inl (cI, 256, .inl ((upd (upd kf i.toNatClampNeg (kf k.toNatClampNeg)) k.toNatClampNeg (kf i.toNatClampNeg), vp_updL (vp_updL vf i.toNatClampNeg (vf k.toNatClampNeg)) k.toNatClampNeg (vf i.toNatClampNeg)).1))), (b, .inl (cJ, 256, .inr (.inl ((upd (upd kf i.toNatClampNeg (kf k.toNatClampNeg)) k.toNatClampNeg (kf i.toNatClampNeg), vp_updL (vp_updL vf i.toNatClampNeg (vf k.toNatClampNeg)) k.toNatClampNeg (vf i.toNatClampNeg)).2))))]) hP hD [0, 1, 2] [] rfl rfl (by decide) (by decide) hk1 hFc hP1 hD1
    have hK := (hK.sub (tys' := []) [] rfl).app hK1
    generalize H1 = H at hP hS ⊢
    have hP : va_P (dC, dI) vwCl [(h0, .inr (1, [.ref a, .ref b])), (a, .inl (cI, 256, .inl ((upd (upd kf i.toNatClampNeg (kf k.toNatClampNeg)) k.toNatClampNeg (kf i.toNatClampNeg), vp_updL (vp_updL vf i.toNatClampNeg (vf k.toNatClampNeg)) k.toNatClampNeg (vf i.toNatClampNeg)).1))), (b, .inl (cJ, 256, .inr (.inl ((upd (upd kf i.toNatClampNeg (kf k.toNatClampNeg)) k.toNatClampNeg (kf i.toNatClampNeg), vp_updL (vp_updL vf i.toNatClampNeg (vf k.toNatClampNeg)) k.toNatClampNeg (vf i.toNatClampNeg)).2))))] H := hP
    have hD : va_D A [(h0, .inr (1, [.ref a, .ref b])), (a, .inl (cI, 256, .inl ((upd (upd kf i.toNatClampNeg (kf k.toNatClampNeg)) k.toNatClampNeg (kf i.toNatClampNeg), vp_updL (vp_updL vf i.toNatClampNeg (vf k.toNatClampNeg)) k.toNatClampNeg (vf i.toNatClampNeg)).1))), (b, .inl (cJ, 256, .inr (.inl ((upd (upd kf i.toNatClampNeg (kf k.toNatClampNeg)) k.toNatClampNeg (kf i.toNatClampNeg), vp_updL (vp_updL vf i.toNatClampNeg (vf k.toNatClampNeg)) k.toNatClampNeg (vf i.toNatClampNeg)).2))))] := hD
    have hK : va_K (dC, dI) vwCl [(cI, .int), (cJ, .long)] s := hK
    refine W.widen (k := 2) (n := 12) (Nat.le_of_ble_eq_true rfl) (Nat.le_of_ble_eq_true rfl) ?_
    refine lv_goto (tgt := 12) hx hb dL_swap_6 (by decide) ?_
    refine lv_iconst (v := 0) hx hb dL_swap_12 (by decide) ?_
    have hP9 := hP.sub (ws' := [(h0, .inr (1, [.ref a, .ref b])), (a, .inl (cI, 256, .inl ((upd (upd kf i.toNatClampNeg (kf k.toNatClampNeg)) k.toNatClampNeg (kf i.toNatClampNeg), vp_updL (vp_updL vf i.toNatClampNeg (vf k.toNatClampNeg)) k.toNatClampNeg (vf i.toNatClampNeg)).1))), (b, .inl (cJ, 256, .inr (.inl ((upd (upd kf i.toNatClampNeg (kf k.toNatClampNeg)) k.toNatClampNeg (kf i.toNatClampNeg), vp_updL (vp_updL vf i.toNatClampNeg (vf k.toNatClampNeg)) k.toNatClampNeg (vf i.toNatClampNeg)).2))))]) [0, 1, 2] rfl
    have hD9 := hD.sub (ws' := [(h0, .inr (1, [.ref a, .ref b])), (a, .inl (cI, 256, .inl ((upd (upd kf i.toNatClampNeg (kf k.toNatClampNeg)) k.toNatClampNeg (kf i.toNatClampNeg), vp_updL (vp_updL vf i.toNatClampNeg (vf k.toNatClampNeg)) k.toNatClampNeg (vf i.toNatClampNeg)).1))), (b, .inl (cJ, 256, .inr (.inl ((upd (upd kf i.toNatClampNeg (kf k.toNatClampNeg)) k.toNatClampNeg (kf i.toNatClampNeg), vp_updL (vp_updL vf i.toNatClampNeg (vf k.toNatClampNeg)) k.toNatClampNeg (vf i.toNatClampNeg)).2))))]) [0, 1, 2] (by decide) rfl
    have hK9 := hK.sub (tys' := [(cI, .int), (cJ, .long)]) [0, 1] rfl
    refine vx_ret ?_
    refine W.widen (k := 2) (n := 12) (Nat.le_of_ble_eq_true rfl) (Nat.le_of_ble_eq_true rfl) ?_
    exact W.iret (v := 0) hx hb hr (fun t9 ht hW => ⟨⟨0, ((upd (upd kf i.toNatClampNeg (kf k.toNatClampNeg)) k.toNatClampNeg (kf i.toNatClampNeg), vp_updL (vp_updL vf i.toNatClampNeg (vf k.toNatClampNeg)) k.toNatClampNeg (vf i.toNatClampNeg)).1, (upd (upd kf i.toNatClampNeg (kf k.toNatClampNeg)) k.toNatClampNeg (kf i.toNatClampNeg), vp_updL (vp_updL vf i.toNatClampNeg (vf k.toNatClampNeg)) k.toNatClampNeg (vf i.toNatClampNeg)).2), rfl, ⟨by first | (simp [w_c, w_k, w_v, h_2]; done) | (simp [w_c, w_k, w_v, h_2]; done) | grind [w_c, w_k, w_v], by first | (simp [w_c, w_k, w_v, h_2]; done) | (simp [w_c, w_k, w_v, h_2]; done) | grind [w_c, w_k, w_v]⟩, by rw [ht]; exact hP9, va_K.moved hW.alike hK9, hD9⟩, hS.F ht⟩) hS.2.2 dL_swap_13

set_option maxRecDepth 20000 in
theorem kL_fold_0 : (.classLink RL 13 IAE : Cond) ∈ wsL_fold := by decide +kernel
set_option maxRecDepth 20000 in
theorem kL_fold_1 : (.classLink RL 15 IOB : Cond) ∈ wsL_fold := by decide +kernel
set_option maxHeartbeats 4000000 in
set_option maxRecDepth 100000 in
theorem qL_fold (l : Launch) (hlt : l.stackTraces = false) (dC : Nat → ClassId) (dI : Nat → Nat → Nat) (sz : Nat) (h0 a b : Nat) (cI cJ : ClassId) (kf : Nat → Int32) (vf : Nat → Int64) (o : Nat) (cO : ClassId) (ov : Nat → Int64) (f t : Int32) (x : Int64)  : vx_Met l yL_fold wsL_fold ({ frames := 8, cells := 3, slots := 17, locals := 160 }) (va_Pc [.ref h0, .int f, .int t, .long x, .ref o] (fun U => U.heap.size = sz ∧ va_P (dC, dI) vwCl [(h0, .inr (1, [.ref a, .ref b])), (a, .inl (cI, 256, .inl kf)), (b, .inl (cJ, 256, .inr (.inl vf))), (o, .inl (cO, 1, .inr (.inl ov)))] U.heap ∧ va_K (dC, dI) vwCl [(cI, .int), (cJ, .long), (cO, .long)] U ∧ va_D (fun _ => True) [(h0, .inr (1, [.ref a, .ref b])), (a, .inl (cI, 256, .inl kf)), (b, .inl (cJ, 256, .inr (.inl vf))), (o, .inl (cO, 1, .inr (.inl ov)))] ∧ ev U ∧ ez (va_A [(h0, .inr (1, [.ref a, .ref b])), (a, .inl (cI, 256, .inl kf)), (b, .inl (cJ, 256, .inr (.inl vf))), (o, .inl (cO, 1, .inr (.inl ov)))] sz) U U.heap)) (va_Qi (fun (r : Int32) (u : Nat → Int64) => (r = o_c f t x) ∧ u = (if okX x ∧ okW f t then vp_updL ov (0 : Int32).toNatClampNeg (e_on (eW kf vf f t) x) else ov)) (fun (u : Nat → Int64) (t9 : State) => va_P (dC, dI) vwCl [(h0, .inr (1, [.ref a, .ref b])), (a, .inl (cI, 256, .inl kf)), (b, .inl (cJ, 256, .inr (.inl vf))), (o, .inl (cO, 1, .inr (.inl u)))] t9.heap ∧ va_K (dC, dI) vwCl [(cI, .int), (cJ, .long), (cO, .long)] t9 ∧ va_D (va_A [(h0, .inr (1, [.ref a, .ref b])), (a, .inl (cI, 256, .inl kf)), (b, .inl (cJ, 256, .inr (.inl vf))), (o, .inl (cO, 1, .inr (.inl ov)))] sz) [(h0, .inr (1, [.ref a, .ref b])), (a, .inl (cI, 256, .inl kf)), (b, .inl (cJ, 256, .inr (.inl vf))), (o, .inl (cO, 1, .inr (.inl u)))]) (va_A [(h0, .inr (1, [.ref a, .ref b])), (a, .inl (cI, 256, .inl kf)), (b, .inl (cJ, 256, .inr (.inl vf))), (o, .inl (cO, 1, .inr (.inl ov)))] sz)) (vx_X (fun _ : Unit => True) (fun (E : String) (_ : Unit) (t9 : State) => (False) ∧ va_P (dC, dI) vwCl [(h0, .inr (1, [.ref a, .ref b])), (a, .inl (cI, 256, .inl kf)), (b, .inl (cJ, 256, .inr (.inl vf))), (o, .inl (cO, 1, .inr (.inl ov)))] t9.heap ∧ va_K (dC, dI) vwCl [(cI, .int), (cJ, .long), (cO, .long)] t9 ∧ va_D (va_A [(h0, .inr (1, [.ref a, .ref b])), (a, .inl (cI, 256, .inl kf)), (b, .inl (cJ, 256, .inr (.inl vf))), (o, .inl (cO, 1, .inr (.inl ov)))] sz) [(h0, .inr (1, [.ref a, .ref b])), (a, .inl (cI, 256, .inl kf)), (b, .inl (cJ, 256, .inr (.inl vf))), (o, .inl (cO, 1, .inr (.inl ov)))]) (va_A [(h0, .inr (1, [.ref a, .ref b])), (a, .inl (cI, 256, .inl kf)), (b, .inl (cJ, 256, .inr (.inl vf))), (o, .inl (cO, 1, .inr (.inl ov)))] sz)) 3 17 (va_A [(h0, .inr (1, [.ref a, .ref b])), (a, .inl (cI, 256, .inl kf)), (b, .inl (cJ, 256, .inr (.inl vf))), (o, .inl (cO, 1, .inr (.inl ov)))] sz) := by
  refine vx_ofWH (cc := cL_fold) (maxL := 7) (ret := (some .int)) (hh := [(0, 11, 14, 13), (0, 11, 18, 15)]) (by decide) rfl ?_
  intro p e s m args below meth c s₁ B hml hv
  obtain ⟨rfl, hsz, hP, hK, hD0, hE, hZ⟩ := hv
  have hx := B.exec
  have hb := B.bytes
  have hr := B.returns
  have hts := atoms_spec (ws := wsL_fold) B.pre
  have hown : s.vm.findClass RL = some m.cls := findClass_of_methodNamed B.named
  have hlocks := B.notSynchronized
  have htb := vx_table (x := yL_fold) B (hts _ List.mem_cons_self)
  subst hsz
  have hD := hD0.self (sz := s.heap.size)
  generalize hAe : va_A [(h0, .inr (1, [.ref a, .ref b])), (a, .inl (cI, 256, .inl kf)), (b, .inl (cJ, 256, .inr (.inl vf))), (o, .inl (cO, 1, .inr (.inl ov)))] s.heap.size = A at hD hZ ⊢
  have hA : ∀ q : Nat, s.heap.size ≤ q → A q := fun q h => by rw [← hAe]; exact Or.inr h
  have hS : va_S A s.heap s.heap [] := va_S.rf
  have hP : va_P (dC, dI) vwCl [(h0, .inr (1, [.ref a, .ref b])), (a, .inl (cI, 256, .inl kf)), (b, .inl (cJ, 256, .inr (.inl vf))), (o, .inl (cO, 1, .inr (.inl ov)))] s.heap := hP
  have hl := lv_entry ([.ref h0, .int f, .int t, .long x, .ref o]) (n := 7) (Nat.le_of_ble_eq_true rfl)
  rw [lg_entry_eq]
  generalize (lg_sl ([.ref h0, .int f, .int t, .long x, .ref o]) ++ List.replicate (7 - (lg_sl ([.ref h0, .int f, .int t, .long x, .ref o])).length) Slot.unset).toArray = ls at hl ⊢
  have hl : lv_has ls 7 [(0, .ref h0), (1, .int f), (2, .int t), (3, .long x), (5, .ref o)] := hl
  refine lv_aload hx hb dL_fold_0 (lv_at hl 4 rfl) ?_
  refine lv_iconst (v := 0) hx hb dL_fold_2 (by decide) ?_
  refine lv_aload_n hx hb dL_fold_3 rfl (lv_at hl 0 rfl) ?_
  refine lv_iload_n hx hb dL_fold_4 rfl (lv_at hl 1 rfl) ?_
  refine lv_iload_n hx hb dL_fold_5 rfl (lv_at hl 2 rfl) ?_
  refine lv_lload_n hx hb dL_fold_6 rfl (lv_at hl 3 rfl) ?_
  have hPc := hP.sub (ws' := [(h0, .inr (1, [.ref a, .ref b])), (a, .inl (cI, 256, .inl kf)), (b, .inl (cJ, 256, .inr (.inl vf)))]) [0, 1, 2] rfl
  have hDc := hD.sub (ws' := [(h0, .inr (1, [.ref a, .ref b])), (a, .inl (cI, 256, .inl kf)), (b, .inl (cJ, 256, .inr (.inl vf)))]) [0, 1, 2] (by decide) rfl
  have hKc := hK.sub (tys' := [(cI, .int), (cJ, .long)]) [0, 1] rfl
  have hFc := va_free (wc := [(h0, .inr (1, [.ref a, .ref b])), (a, .inl (cI, 256, .inl kf)), (b, .inl (cJ, 256, .inr (.inl vf)))]) hD hS hA [0, 1, 2] rfl
  refine vx_calll (vx_runV (As := [.int f, .int t, .long x]) (rest := [.int 0, .ref o]) ⟨hx, hb, hml, hown, hts⟩ (qX1_fold l hlt dC dI s.heap.size h0 a b cI cJ kf vf f t x) (cwV 3 hts gL_fold_X1_fold rfl rfl rfl (by decide +kernel) ⟨Nat.le_of_ble_eq_true rfl, Nat.le_of_ble_eq_true rfl⟩) ⟨fun a U g mk q => by obtain ⟨q0, q1, qP, qK, qD, qE, qZ⟩ := q; exact ⟨q0, q1, qP, va_K.moved (u := U) (U := U.calling g mk a) (Vm.Alike.refl U.vm) qK, qD, ev.same (u := U) rfl qE, ez.moved (U := U.calling g mk a) qZ (Vm.Alike.refl U.vm)⟩, va_recv hKc hPc (ci := 1) (q0 := 0) rfl rfl, fun U hU hW => ⟨rfl, by rw [hU], by rw [hU]; exact hPc, va_K.moved hW.alike hKc, hDc.weaken (fun _ _ _ _ => trivial), hE.warm hW, by rw [hU]; exact ((hZ.kept hS.2.1).narrow hFc).moved hW.alike⟩⟩ rfl rfl hl.1 rfl (lv_room (Nat.le_of_ble_eq_true rfl)) dL_fold_7 ⟨Nat.le_of_ble_eq_true rfl, Nat.le_of_ble_eq_true rfl⟩) hS (fun q _ h => hFc q h) hFc (fun q _ h => hFc q h) (fun E ce q9 u t9 H1 locs ht hvm hw hB hz1 hk1 hS hce hcv hcl => ?_) (fun r_1 u t9 H1 locs ht hvm hw hB hz1 hk1 hS => ?_)
  · obtain ⟨hex, hP1, hK1, hD1⟩ := hB
    rw [ht] at hP1
    have hK1 := va_K.moved hvm.symm hK1
    obtain ⟨hP, hD⟩ := va_join (wr := [(o, .inl (cO, 1, .inr (.inl ov)))]) (w1 := [(h0, .inr (1, [.ref a, .ref b])), (a, .inl (cI, 256, .inl kf)), (b, .inl (cJ, 256, .inr (.inl vf)))]) hP hD [0, 1, 2] [3] rfl rfl (by decide) (by decide) hk1 hFc hP1 hD1
    have hK := (hK.sub (tys' := [(cO, .long)]) [2] rfl).app hK1
    generalize H1 = H at hP hS hce ⊢
    have hP : va_P (dC, dI) vwCl [(o, .inl (cO, 1, .inr (.inl ov))), (h0, .inr (1, [.ref a, .ref b])), (a, .inl (cI, 256, .inl kf)), (b, .inl (cJ, 256, .inr (.inl vf)))] H := hP
    have hD : va_D A [(o, .inl (cO, 1, .inr (.inl ov))), (h0, .inr (1, [.ref a, .ref b])), (a, .inl (cI, 256, .inl kf)), (b, .inl (cJ, 256, .inr (.inl vf)))] := hD
    have hK : va_K (dC, dI) vwCl [(cO, .long), (cI, .int), (cJ, .long)] s := hK
    refine vx_widen (k := 3) (n := 17) (Nat.le_of_ble_eq_true rfl) (Nat.le_of_ble_eq_true rfl) ?_
    rcases hex with ⟨hE9, hx9⟩ | ⟨hE9, hx9⟩
    · subst hE9
      refine vx_catch hown [] ⟨0, 11, 14, 13⟩ [⟨0, 11, 18, 15⟩] htb (fun z hz => absurd hz List.not_mem_nil) (by decide) (by decide) (hts (.classLink RL 13 IAE) kL_fold_0) (va_Nw.use rfl (ev_ciae hE)) hce hcv hcl ?_
      refine lv_astore (lv' := [(6, .ref q9), (0, .ref h0), (1, .int f), (2, .int t), (3, .long x), (5, .ref o)]) hx hb dL_fold_14 hl (by decide) rfl (fun ls hl => ?_)
      refine lv_iconst (v := 1) hx hb dL_fold_16 (by decide) ?_
      have hP9 := hP.sub (ws' := [(h0, .inr (1, [.ref a, .ref b])), (a, .inl (cI, 256, .inl kf)), (b, .inl (cJ, 256, .inr (.inl vf))), (o, .inl (cO, 1, .inr (.inl ov)))]) [1, 2, 3, 0] rfl
      have hD9 := hD.sub (ws' := [(h0, .inr (1, [.ref a, .ref b])), (a, .inl (cI, 256, .inl kf)), (b, .inl (cJ, 256, .inr (.inl vf))), (o, .inl (cO, 1, .inr (.inl ov)))]) [1, 2, 3, 0] (by decide) rfl
      have hK9 := hK.sub (tys' := [(cI, .int), (cJ, .long), (cO, .long)]) [1, 2, 0] rfl
      refine vx_ret ?_
      refine W.widen (k := 3) (n := 17) (Nat.le_of_ble_eq_true rfl) (Nat.le_of_ble_eq_true rfl) ?_
      exact W.iret (v := 1) hx hb hr (fun t9 ht hW => ⟨⟨1, ov, rfl, ⟨by first | (simp [o_c, hx9]; done) | (simp [o_c, hx9]; done) | grind [o_c], by first | (simp [o_c, hx9]; done) | (simp [o_c, hx9]; done) | grind [o_c]⟩, by rw [ht]; exact hP9, va_K.moved hW.alike hK9, hD9⟩, hS.F ht⟩) hS.2.2 dL_fold_17
    · subst hE9
      refine vx_catch hown [⟨0, 11, 14, 13⟩] ⟨0, 11, 18, 15⟩ [] htb (fun z hz => by rw [List.mem_singleton.mp hz]; exact Or.inr ⟨by decide, IAE, (hts (.classLink RL 13 IAE) kL_fold_0), hE.2.2.1⟩) (by decide) (by decide) (hts (.classLink RL 15 IOB) kL_fold_1) (va_Nw.use rfl (ev_ciob hE)) hce hcv hcl ?_
      refine lv_astore (lv' := [(6, .ref q9), (0, .ref h0), (1, .int f), (2, .int t), (3, .long x), (5, .ref o)]) hx hb dL_fold_18 hl (by decide) rfl (fun ls hl => ?_)
      refine lv_iconst (v := 2) hx hb dL_fold_20 (by decide) ?_
      have hP9 := hP.sub (ws' := [(h0, .inr (1, [.ref a, .ref b])), (a, .inl (cI, 256, .inl kf)), (b, .inl (cJ, 256, .inr (.inl vf))), (o, .inl (cO, 1, .inr (.inl ov)))]) [1, 2, 3, 0] rfl
      have hD9 := hD.sub (ws' := [(h0, .inr (1, [.ref a, .ref b])), (a, .inl (cI, 256, .inl kf)), (b, .inl (cJ, 256, .inr (.inl vf))), (o, .inl (cO, 1, .inr (.inl ov)))]) [1, 2, 3, 0] (by decide) rfl
      have hK9 := hK.sub (tys' := [(cI, .int), (cJ, .long), (cO, .long)]) [1, 2, 0] rfl
      refine vx_ret ?_
      refine W.widen (k := 3) (n := 17) (Nat.le_of_ble_eq_true rfl) (Nat.le_of_ble_eq_true rfl) ?_
      exact W.iret (v := 2) hx hb hr (fun t9 ht hW => ⟨⟨2, ov, rfl, ⟨by first | (simp [o_c, hx9]; done) | (simp [o_c, hx9]; done) | grind [o_c], by first | (simp [o_c, hx9]; done) | (simp [o_c, hx9]; done) | grind [o_c]⟩, by rw [ht]; exact hP9, va_K.moved hW.alike hK9, hD9⟩, hS.F ht⟩) hS.2.2 dL_fold_21
  · obtain ⟨hP1, hK1, hD1⟩ := hB
    rw [ht] at hP1
    have h_2 := hw
    have hK1 := va_K.moved hvm.symm hK1
    obtain ⟨hP, hD⟩ := va_join (wr := [(o, .inl (cO, 1, .inr (.inl ov)))]) (w1 := [(h0, .inr (1, [.ref a, .ref b])), (a, .inl (cI, 256, .inl kf)), (b, .inl (cJ, 256, .inr (.inl vf)))]) hP hD [0, 1, 2] [3] rfl rfl (by decide) (by decide) hk1 hFc hP1 hD1
    have hK := (hK.sub (tys' := [(cO, .long)]) [2] rfl).app hK1
    generalize H1 = H at hP hS ⊢
    have hP : va_P (dC, dI) vwCl [(o, .inl (cO, 1, .inr (.inl ov))), (h0, .inr (1, [.ref a, .ref b])), (a, .inl (cI, 256, .inl kf)), (b, .inl (cJ, 256, .inr (.inl vf)))] H := hP
    have hD : va_D A [(o, .inl (cO, 1, .inr (.inl ov))), (h0, .inr (1, [.ref a, .ref b])), (a, .inl (cI, 256, .inl kf)), (b, .inl (cJ, 256, .inr (.inl vf)))] := hD
    have hK : va_K (dC, dI) vwCl [(cO, .long), (cI, .int), (cJ, .long)] s := hK
    refine W.widen (k := 3) (n := 17) (Nat.le_of_ble_eq_true rfl) (Nat.le_of_ble_eq_true rfl) ?_
    refine va_last hx hb hK hP hD hS 0 0 rfl rfl in_01 dL_fold_10 (fun H locs hP hD hS => ?_)
    have hP : va_P (dC, dI) vwCl [(o, .inl (cO, 1, .inr (.inl (vp_updL ov (0 : Int32).toNatClampNeg r_1)))), (h0, .inr (1, [.ref a, .ref b])), (a, .inl (cI, 256, .inl kf)), (b, .inl (cJ, 256, .inr (.inl vf)))] H := hP
    have hD : va_D A [(o, .inl (cO, 1, .inr (.inl (vp_updL ov (0 : Int32).toNatClampNeg r_1)))), (h0, .inr (1, [.ref a, .ref b])), (a, .inl (cI, 256, .inl kf)), (b, .inl (cJ, 256, .inr (.inl vf)))] := hD
    refine lv_goto (tgt := 22) hx hb dL_fold_11 (by decide) ?_
    refine lv_iconst (v := 0) hx hb dL_fold_22 (by decide) ?_
    have hP9 := hP.sub (ws' := [(h0, .inr (1, [.ref a, .ref b])), (a, .inl (cI, 256, .inl kf)), (b, .inl (cJ, 256, .inr (.inl vf))), (o, .inl (cO, 1, .inr (.inl (vp_updL ov (0 : Int32).toNatClampNeg r_1))))]) [1, 2, 3, 0] rfl
    have hD9 := hD.sub (ws' := [(h0, .inr (1, [.ref a, .ref b])), (a, .inl (cI, 256, .inl kf)), (b, .inl (cJ, 256, .inr (.inl vf))), (o, .inl (cO, 1, .inr (.inl (vp_updL ov (0 : Int32).toNatClampNeg r_1))))]) [1, 2, 3, 0] (by decide) rfl
    have hK9 := hK.sub (tys' := [(cI, .int), (cJ, .long), (cO, .long)]) [1, 2, 0] rfl
    refine vx_ret ?_
    refine W.widen (k := 3) (n := 17) (Nat.le_of_ble_eq_true rfl) (Nat.le_of_ble_eq_true rfl) ?_
    exact W.iret (v := 0) hx hb hr (fun t9 ht hW => ⟨⟨0, vp_updL ov (0 : Int32).toNatClampNeg r_1, rfl, ⟨by first | (simp [o_c, h_2]; done) | (simp [o_c, h_2]; done) | grind [o_c], by first | (simp [o_c, h_2]; done) | (simp [o_c, h_2]; done) | grind [o_c]⟩, by rw [ht]; exact hP9, va_K.moved hW.alike hK9, hD9⟩, hS.F ht⟩) hS.2.2 dL_fold_23

set_option maxRecDepth 20000 in
theorem kL_again_0 : (.classLink RL 13 IAE : Cond) ∈ wsL_again := by decide +kernel
set_option maxRecDepth 20000 in
theorem kL_again_1 : (.classLink RL 15 IOB : Cond) ∈ wsL_again := by decide +kernel
set_option maxHeartbeats 4000000 in
set_option maxRecDepth 100000 in
theorem qL_again (l : Launch) (hlt : l.stackTraces = false) (dC : Nat → ClassId) (dI : Nat → Nat → Nat) (sz : Nat) (h0 a b : Nat) (cI cJ : ClassId) (kf : Nat → Int32) (vf : Nat → Int64) (o : Nat) (cO : ClassId) (ov : Nat → Int64) (f t : Int32) (x : Int64) (n : Int32)  : vx_Met l yL_again wsL_again ({ frames := 8, cells := 4, slots := 23, locals := 160 }) (va_Pc [.ref h0, .int f, .int t, .long x, .int n, .ref o] (fun U => U.heap.size = sz ∧ va_P (dC, dI) vwCl [(h0, .inr (1, [.ref a, .ref b])), (a, .inl (cI, 256, .inl kf)), (b, .inl (cJ, 256, .inr (.inl vf))), (o, .inl (cO, 1, .inr (.inl ov)))] U.heap ∧ va_K (dC, dI) vwCl [(cI, .int), (cJ, .long), (cO, .long)] U ∧ va_D (fun _ => True) [(h0, .inr (1, [.ref a, .ref b])), (a, .inl (cI, 256, .inl kf)), (b, .inl (cJ, 256, .inr (.inl vf))), (o, .inl (cO, 1, .inr (.inl ov)))] ∧ ev U ∧ ez (va_A [(h0, .inr (1, [.ref a, .ref b])), (a, .inl (cI, 256, .inl kf)), (b, .inl (cJ, 256, .inr (.inl vf))), (o, .inl (cO, 1, .inr (.inl ov)))] sz) U U.heap)) (va_Qi (fun (r : Int32) (u : Nat → Int64) => (r = a_c f t x n) ∧ u = (if (okX x ∧ okN n) ∧ okW f t then vp_updL ov (0 : Int32).toNatClampNeg (e_it (eW kf vf f t) x n.toNatClampNeg) else ov)) (fun (u : Nat → Int64) (t9 : State) => va_P (dC, dI) vwCl [(h0, .inr (1, [.ref a, .ref b])), (a, .inl (cI, 256, .inl kf)), (b, .inl (cJ, 256, .inr (.inl vf))), (o, .inl (cO, 1, .inr (.inl u)))] t9.heap ∧ va_K (dC, dI) vwCl [(cI, .int), (cJ, .long), (cO, .long)] t9 ∧ va_D (va_A [(h0, .inr (1, [.ref a, .ref b])), (a, .inl (cI, 256, .inl kf)), (b, .inl (cJ, 256, .inr (.inl vf))), (o, .inl (cO, 1, .inr (.inl ov)))] sz) [(h0, .inr (1, [.ref a, .ref b])), (a, .inl (cI, 256, .inl kf)), (b, .inl (cJ, 256, .inr (.inl vf))), (o, .inl (cO, 1, .inr (.inl u)))]) (va_A [(h0, .inr (1, [.ref a, .ref b])), (a, .inl (cI, 256, .inl kf)), (b, .inl (cJ, 256, .inr (.inl vf))), (o, .inl (cO, 1, .inr (.inl ov)))] sz)) (vx_X (fun _ : Unit => True) (fun (E : String) (_ : Unit) (t9 : State) => (False) ∧ va_P (dC, dI) vwCl [(h0, .inr (1, [.ref a, .ref b])), (a, .inl (cI, 256, .inl kf)), (b, .inl (cJ, 256, .inr (.inl vf))), (o, .inl (cO, 1, .inr (.inl ov)))] t9.heap ∧ va_K (dC, dI) vwCl [(cI, .int), (cJ, .long), (cO, .long)] t9 ∧ va_D (va_A [(h0, .inr (1, [.ref a, .ref b])), (a, .inl (cI, 256, .inl kf)), (b, .inl (cJ, 256, .inr (.inl vf))), (o, .inl (cO, 1, .inr (.inl ov)))] sz) [(h0, .inr (1, [.ref a, .ref b])), (a, .inl (cI, 256, .inl kf)), (b, .inl (cJ, 256, .inr (.inl vf))), (o, .inl (cO, 1, .inr (.inl ov)))]) (va_A [(h0, .inr (1, [.ref a, .ref b])), (a, .inl (cI, 256, .inl kf)), (b, .inl (cJ, 256, .inr (.inl vf))), (o, .inl (cO, 1, .inr (.inl ov)))] sz)) 4 23 (va_A [(h0, .inr (1, [.ref a, .ref b])), (a, .inl (cI, 256, .inl kf)), (b, .inl (cJ, 256, .inr (.inl vf))), (o, .inl (cO, 1, .inr (.inl ov)))] sz) := by
  refine vx_ofWH (cc := cL_again) (maxL := 8) (ret := (some .int)) (hh := [(0, 13, 16, 13), (0, 13, 20, 15)]) (by decide) rfl ?_
  intro p e s m args below meth c s₁ B hml hv
  obtain ⟨rfl, hsz, hP, hK, hD0, hE, hZ⟩ := hv
  have hx := B.exec
  have hb := B.bytes
  have hr := B.returns
  have hts := atoms_spec (ws := wsL_again) B.pre
  have hown : s.vm.findClass RL = some m.cls := findClass_of_methodNamed B.named
  have hlocks := B.notSynchronized
  have htb := vx_table (x := yL_again) B (hts _ List.mem_cons_self)
  subst hsz
  have hD := hD0.self (sz := s.heap.size)
  generalize hAe : va_A [(h0, .inr (1, [.ref a, .ref b])), (a, .inl (cI, 256, .inl kf)), (b, .inl (cJ, 256, .inr (.inl vf))), (o, .inl (cO, 1, .inr (.inl ov)))] s.heap.size = A at hD hZ ⊢
  have hA : ∀ q : Nat, s.heap.size ≤ q → A q := fun q h => by rw [← hAe]; exact Or.inr h
  have hS : va_S A s.heap s.heap [] := va_S.rf
  have hP : va_P (dC, dI) vwCl [(h0, .inr (1, [.ref a, .ref b])), (a, .inl (cI, 256, .inl kf)), (b, .inl (cJ, 256, .inr (.inl vf))), (o, .inl (cO, 1, .inr (.inl ov)))] s.heap := hP
  have hl := lv_entry ([.ref h0, .int f, .int t, .long x, .int n, .ref o]) (n := 8) (Nat.le_of_ble_eq_true rfl)
  rw [lg_entry_eq]
  generalize (lg_sl ([.ref h0, .int f, .int t, .long x, .int n, .ref o]) ++ List.replicate (8 - (lg_sl ([.ref h0, .int f, .int t, .long x, .int n, .ref o])).length) Slot.unset).toArray = ls at hl ⊢
  have hl : lv_has ls 8 [(0, .ref h0), (1, .int f), (2, .int t), (3, .long x), (5, .int n), (6, .ref o)] := hl
  refine lv_aload hx hb dL_again_0 (lv_at hl 5 rfl) ?_
  refine lv_iconst (v := 0) hx hb dL_again_2 (by decide) ?_
  refine lv_aload_n hx hb dL_again_3 rfl (lv_at hl 0 rfl) ?_
  refine lv_iload_n hx hb dL_again_4 rfl (lv_at hl 1 rfl) ?_
  refine lv_iload_n hx hb dL_again_5 rfl (lv_at hl 2 rfl) ?_
  refine lv_lload_n hx hb dL_again_6 rfl (lv_at hl 3 rfl) ?_
  refine lv_iload hx hb dL_again_7 (lv_at hl 4 rfl) ?_
  have hPc := hP.sub (ws' := [(h0, .inr (1, [.ref a, .ref b])), (a, .inl (cI, 256, .inl kf)), (b, .inl (cJ, 256, .inr (.inl vf)))]) [0, 1, 2] rfl
  have hDc := hD.sub (ws' := [(h0, .inr (1, [.ref a, .ref b])), (a, .inl (cI, 256, .inl kf)), (b, .inl (cJ, 256, .inr (.inl vf)))]) [0, 1, 2] (by decide) rfl
  have hKc := hK.sub (tys' := [(cI, .int), (cJ, .long)]) [0, 1] rfl
  have hFc := va_free (wc := [(h0, .inr (1, [.ref a, .ref b])), (a, .inl (cI, 256, .inl kf)), (b, .inl (cJ, 256, .inr (.inl vf)))]) hD hS hA [0, 1, 2] rfl
  refine vx_calll (vx_runV (As := [.int f, .int t, .long x, .int n]) (rest := [.int 0, .ref o]) ⟨hx, hb, hml, hown, hts⟩ (qX1_again l hlt dC dI s.heap.size h0 a b cI cJ kf vf f t x n) (cwV 4 hts gL_again_X1_again rfl rfl rfl (by decide +kernel) ⟨Nat.le_of_ble_eq_true rfl, Nat.le_of_ble_eq_true rfl⟩) ⟨fun a U g mk q => by obtain ⟨q0, q1, qP, qK, qD, qE, qZ⟩ := q; exact ⟨q0, q1, qP, va_K.moved (u := U) (U := U.calling g mk a) (Vm.Alike.refl U.vm) qK, qD, ev.same (u := U) rfl qE, ez.moved (U := U.calling g mk a) qZ (Vm.Alike.refl U.vm)⟩, va_recv hKc hPc (ci := 1) (q0 := 0) rfl rfl, fun U hU hW => ⟨rfl, by rw [hU], by rw [hU]; exact hPc, va_K.moved hW.alike hKc, hDc.weaken (fun _ _ _ _ => trivial), hE.warm hW, by rw [hU]; exact ((hZ.kept hS.2.1).narrow hFc).moved hW.alike⟩⟩ rfl rfl hl.1 rfl (lv_room (Nat.le_of_ble_eq_true rfl)) dL_again_9 ⟨Nat.le_of_ble_eq_true rfl, Nat.le_of_ble_eq_true rfl⟩) hS (fun q _ h => hFc q h) hFc (fun q _ h => hFc q h) (fun E ce q9 u t9 H1 locs ht hvm hw hB hz1 hk1 hS hce hcv hcl => ?_) (fun r_1 u t9 H1 locs ht hvm hw hB hz1 hk1 hS => ?_)
  · obtain ⟨hex, hP1, hK1, hD1⟩ := hB
    rw [ht] at hP1
    have hK1 := va_K.moved hvm.symm hK1
    obtain ⟨hP, hD⟩ := va_join (wr := [(o, .inl (cO, 1, .inr (.inl ov)))]) (w1 := [(h0, .inr (1, [.ref a, .ref b])), (a, .inl (cI, 256, .inl kf)), (b, .inl (cJ, 256, .inr (.inl vf)))]) hP hD [0, 1, 2] [3] rfl rfl (by decide) (by decide) hk1 hFc hP1 hD1
    have hK := (hK.sub (tys' := [(cO, .long)]) [2] rfl).app hK1
    generalize H1 = H at hP hS hce ⊢
    have hP : va_P (dC, dI) vwCl [(o, .inl (cO, 1, .inr (.inl ov))), (h0, .inr (1, [.ref a, .ref b])), (a, .inl (cI, 256, .inl kf)), (b, .inl (cJ, 256, .inr (.inl vf)))] H := hP
    have hD : va_D A [(o, .inl (cO, 1, .inr (.inl ov))), (h0, .inr (1, [.ref a, .ref b])), (a, .inl (cI, 256, .inl kf)), (b, .inl (cJ, 256, .inr (.inl vf)))] := hD
    have hK : va_K (dC, dI) vwCl [(cO, .long), (cI, .int), (cJ, .long)] s := hK
    refine vx_widen (k := 4) (n := 23) (Nat.le_of_ble_eq_true rfl) (Nat.le_of_ble_eq_true rfl) ?_
    rcases hex with ⟨hE9, hx9⟩ | ⟨hE9, hx9⟩
    · subst hE9
      refine vx_catch hown [] ⟨0, 13, 16, 13⟩ [⟨0, 13, 20, 15⟩] htb (fun z hz => absurd hz List.not_mem_nil) (by decide) (by decide) (hts (.classLink RL 13 IAE) kL_again_0) (va_Nw.use rfl (ev_ciae hE)) hce hcv hcl ?_
      refine lv_astore (lv' := [(7, .ref q9), (0, .ref h0), (1, .int f), (2, .int t), (3, .long x), (5, .int n), (6, .ref o)]) hx hb dL_again_16 hl (by decide) rfl (fun ls hl => ?_)
      refine lv_iconst (v := 1) hx hb dL_again_18 (by decide) ?_
      have hP9 := hP.sub (ws' := [(h0, .inr (1, [.ref a, .ref b])), (a, .inl (cI, 256, .inl kf)), (b, .inl (cJ, 256, .inr (.inl vf))), (o, .inl (cO, 1, .inr (.inl ov)))]) [1, 2, 3, 0] rfl
      have hD9 := hD.sub (ws' := [(h0, .inr (1, [.ref a, .ref b])), (a, .inl (cI, 256, .inl kf)), (b, .inl (cJ, 256, .inr (.inl vf))), (o, .inl (cO, 1, .inr (.inl ov)))]) [1, 2, 3, 0] (by decide) rfl
      have hK9 := hK.sub (tys' := [(cI, .int), (cJ, .long), (cO, .long)]) [1, 2, 0] rfl
      refine vx_ret ?_
      refine W.widen (k := 4) (n := 23) (Nat.le_of_ble_eq_true rfl) (Nat.le_of_ble_eq_true rfl) ?_
      exact W.iret (v := 1) hx hb hr (fun t9 ht hW => ⟨⟨1, ov, rfl, ⟨by first | (simp [a_c, hx9]; done) | (simp [a_c, hx9]; done) | grind [a_c], by first | (simp [a_c, hx9]; done) | (simp [a_c, hx9]; done) | grind [a_c]⟩, by rw [ht]; exact hP9, va_K.moved hW.alike hK9, hD9⟩, hS.F ht⟩) hS.2.2 dL_again_19
    · subst hE9
      refine vx_catch hown [⟨0, 13, 16, 13⟩] ⟨0, 13, 20, 15⟩ [] htb (fun z hz => by rw [List.mem_singleton.mp hz]; exact Or.inr ⟨by decide, IAE, (hts (.classLink RL 13 IAE) kL_again_0), hE.2.2.1⟩) (by decide) (by decide) (hts (.classLink RL 15 IOB) kL_again_1) (va_Nw.use rfl (ev_ciob hE)) hce hcv hcl ?_
      refine lv_astore (lv' := [(7, .ref q9), (0, .ref h0), (1, .int f), (2, .int t), (3, .long x), (5, .int n), (6, .ref o)]) hx hb dL_again_20 hl (by decide) rfl (fun ls hl => ?_)
      refine lv_iconst (v := 2) hx hb dL_again_22 (by decide) ?_
      have hP9 := hP.sub (ws' := [(h0, .inr (1, [.ref a, .ref b])), (a, .inl (cI, 256, .inl kf)), (b, .inl (cJ, 256, .inr (.inl vf))), (o, .inl (cO, 1, .inr (.inl ov)))]) [1, 2, 3, 0] rfl
      have hD9 := hD.sub (ws' := [(h0, .inr (1, [.ref a, .ref b])), (a, .inl (cI, 256, .inl kf)), (b, .inl (cJ, 256, .inr (.inl vf))), (o, .inl (cO, 1, .inr (.inl ov)))]) [1, 2, 3, 0] (by decide) rfl
      have hK9 := hK.sub (tys' := [(cI, .int), (cJ, .long), (cO, .long)]) [1, 2, 0] rfl
      refine vx_ret ?_
      refine W.widen (k := 4) (n := 23) (Nat.le_of_ble_eq_true rfl) (Nat.le_of_ble_eq_true rfl) ?_
      exact W.iret (v := 2) hx hb hr (fun t9 ht hW => ⟨⟨2, ov, rfl, ⟨by first | (simp [a_c, hx9]; done) | (simp [a_c, hx9]; done) | grind [a_c], by first | (simp [a_c, hx9]; done) | (simp [a_c, hx9]; done) | grind [a_c]⟩, by rw [ht]; exact hP9, va_K.moved hW.alike hK9, hD9⟩, hS.F ht⟩) hS.2.2 dL_again_23
  · obtain ⟨hP1, hK1, hD1⟩ := hB
    rw [ht] at hP1
    have h_2 := hw
    have hK1 := va_K.moved hvm.symm hK1
    obtain ⟨hP, hD⟩ := va_join (wr := [(o, .inl (cO, 1, .inr (.inl ov)))]) (w1 := [(h0, .inr (1, [.ref a, .ref b])), (a, .inl (cI, 256, .inl kf)), (b, .inl (cJ, 256, .inr (.inl vf)))]) hP hD [0, 1, 2] [3] rfl rfl (by decide) (by decide) hk1 hFc hP1 hD1
    have hK := (hK.sub (tys' := [(cO, .long)]) [2] rfl).app hK1
    generalize H1 = H at hP hS ⊢
    have hP : va_P (dC, dI) vwCl [(o, .inl (cO, 1, .inr (.inl ov))), (h0, .inr (1, [.ref a, .ref b])), (a, .inl (cI, 256, .inl kf)), (b, .inl (cJ, 256, .inr (.inl vf)))] H := hP
    have hD : va_D A [(o, .inl (cO, 1, .inr (.inl ov))), (h0, .inr (1, [.ref a, .ref b])), (a, .inl (cI, 256, .inl kf)), (b, .inl (cJ, 256, .inr (.inl vf)))] := hD
    have hK : va_K (dC, dI) vwCl [(cO, .long), (cI, .int), (cJ, .long)] s := hK
    refine W.widen (k := 4) (n := 23) (Nat.le_of_ble_eq_true rfl) (Nat.le_of_ble_eq_true rfl) ?_
    refine va_last hx hb hK hP hD hS 0 0 rfl rfl in_01 dL_again_12 (fun H locs hP hD hS => ?_)
    have hP : va_P (dC, dI) vwCl [(o, .inl (cO, 1, .inr (.inl (vp_updL ov (0 : Int32).toNatClampNeg r_1)))), (h0, .inr (1, [.ref a, .ref b])), (a, .inl (cI, 256, .inl kf)), (b, .inl (cJ, 256, .inr (.inl vf)))] H := hP
    have hD : va_D A [(o, .inl (cO, 1, .inr (.inl (vp_updL ov (0 : Int32).toNatClampNeg r_1)))), (h0, .inr (1, [.ref a, .ref b])), (a, .inl (cI, 256, .inl kf)), (b, .inl (cJ, 256, .inr (.inl vf)))] := hD
    refine lv_goto (tgt := 24) hx hb dL_again_13 (by decide) ?_
    refine lv_iconst (v := 0) hx hb dL_again_24 (by decide) ?_
    have hP9 := hP.sub (ws' := [(h0, .inr (1, [.ref a, .ref b])), (a, .inl (cI, 256, .inl kf)), (b, .inl (cJ, 256, .inr (.inl vf))), (o, .inl (cO, 1, .inr (.inl (vp_updL ov (0 : Int32).toNatClampNeg r_1))))]) [1, 2, 3, 0] rfl
    have hD9 := hD.sub (ws' := [(h0, .inr (1, [.ref a, .ref b])), (a, .inl (cI, 256, .inl kf)), (b, .inl (cJ, 256, .inr (.inl vf))), (o, .inl (cO, 1, .inr (.inl (vp_updL ov (0 : Int32).toNatClampNeg r_1))))]) [1, 2, 3, 0] (by decide) rfl
    have hK9 := hK.sub (tys' := [(cI, .int), (cJ, .long), (cO, .long)]) [1, 2, 0] rfl
    refine vx_ret ?_
    refine W.widen (k := 4) (n := 23) (Nat.le_of_ble_eq_true rfl) (Nat.le_of_ble_eq_true rfl) ?_
    exact W.iret (v := 0) hx hb hr (fun t9 ht hW => ⟨⟨0, vp_updL ov (0 : Int32).toNatClampNeg r_1, rfl, ⟨by first | (simp [a_c, h_2]; done) | (simp [a_c, h_2]; done) | grind [a_c], by first | (simp [a_c, h_2]; done) | (simp [a_c, h_2]; done) | grind [a_c]⟩, by rw [ht]; exact hP9, va_K.moved hW.alike hK9, hD9⟩, hS.F ht⟩) hS.2.2 dL_again_25

set_option maxRecDepth 20000 in
theorem kL_least_0 : (.classLink RL 15 IOB : Cond) ∈ wsL_least := by decide +kernel
set_option maxRecDepth 20000 in
theorem kL_least_1 : (.classLink RL 37 UOE : Cond) ∈ wsL_least := by decide +kernel
set_option maxHeartbeats 4000000 in
set_option maxRecDepth 100000 in
theorem qL_least (l : Launch) (hlt : l.stackTraces = false) (dC : Nat → ClassId) (dI : Nat → Nat → Nat) (sz : Nat) (h0 a b : Nat) (cI cJ : ClassId) (kf : Nat → Int32) (vf : Nat → Int64) (o : Nat) (cO : ClassId) (ov : Nat → Int64) (f t : Int32)  : vx_Met l yL_least wsL_least ({ frames := 8, cells := 3, slots := 17, locals := 160 }) (va_Pc [.ref h0, .int f, .int t, .ref o] (fun U => U.heap.size = sz ∧ va_P (dC, dI) vwCl [(h0, .inr (1, [.ref a, .ref b])), (a, .inl (cI, 256, .inl kf)), (b, .inl (cJ, 256, .inr (.inl vf))), (o, .inl (cO, 1, .inr (.inl ov)))] U.heap ∧ va_K (dC, dI) vwCl [(cI, .int), (cJ, .long), (cO, .long)] U ∧ va_D (fun _ => True) [(h0, .inr (1, [.ref a, .ref b])), (a, .inl (cI, 256, .inl kf)), (b, .inl (cJ, 256, .inr (.inl vf))), (o, .inl (cO, 1, .inr (.inl ov)))] ∧ ev U ∧ ez (va_A [(h0, .inr (1, [.ref a, .ref b])), (a, .inl (cI, 256, .inl kf)), (b, .inl (cJ, 256, .inr (.inl vf))), (o, .inl (cO, 1, .inr (.inl ov)))] sz) U U.heap)) (va_Qi (fun (r : Int32) (u : Nat → Int64) => (r = le_c kf vf f t) ∧ u = (if okW f t ∧ ¬ (eW kf vf f t).2.1 = 0 then vp_updL ov (0 : Int32).toNatClampNeg (eW kf vf f t).2.2.1 else ov)) (fun (u : Nat → Int64) (t9 : State) => va_P (dC, dI) vwCl [(h0, .inr (1, [.ref a, .ref b])), (a, .inl (cI, 256, .inl kf)), (b, .inl (cJ, 256, .inr (.inl vf))), (o, .inl (cO, 1, .inr (.inl u)))] t9.heap ∧ va_K (dC, dI) vwCl [(cI, .int), (cJ, .long), (cO, .long)] t9 ∧ va_D (va_A [(h0, .inr (1, [.ref a, .ref b])), (a, .inl (cI, 256, .inl kf)), (b, .inl (cJ, 256, .inr (.inl vf))), (o, .inl (cO, 1, .inr (.inl ov)))] sz) [(h0, .inr (1, [.ref a, .ref b])), (a, .inl (cI, 256, .inl kf)), (b, .inl (cJ, 256, .inr (.inl vf))), (o, .inl (cO, 1, .inr (.inl u)))]) (va_A [(h0, .inr (1, [.ref a, .ref b])), (a, .inl (cI, 256, .inl kf)), (b, .inl (cJ, 256, .inr (.inl vf))), (o, .inl (cO, 1, .inr (.inl ov)))] sz)) (vx_X (fun _ : Unit => True) (fun (E : String) (_ : Unit) (t9 : State) => (False) ∧ va_P (dC, dI) vwCl [(h0, .inr (1, [.ref a, .ref b])), (a, .inl (cI, 256, .inl kf)), (b, .inl (cJ, 256, .inr (.inl vf))), (o, .inl (cO, 1, .inr (.inl ov)))] t9.heap ∧ va_K (dC, dI) vwCl [(cI, .int), (cJ, .long), (cO, .long)] t9 ∧ va_D (va_A [(h0, .inr (1, [.ref a, .ref b])), (a, .inl (cI, 256, .inl kf)), (b, .inl (cJ, 256, .inr (.inl vf))), (o, .inl (cO, 1, .inr (.inl ov)))] sz) [(h0, .inr (1, [.ref a, .ref b])), (a, .inl (cI, 256, .inl kf)), (b, .inl (cJ, 256, .inr (.inl vf))), (o, .inl (cO, 1, .inr (.inl ov)))]) (va_A [(h0, .inr (1, [.ref a, .ref b])), (a, .inl (cI, 256, .inl kf)), (b, .inl (cJ, 256, .inr (.inl vf))), (o, .inl (cO, 1, .inr (.inl ov)))] sz)) 3 17 (va_A [(h0, .inr (1, [.ref a, .ref b])), (a, .inl (cI, 256, .inl kf)), (b, .inl (cJ, 256, .inr (.inl vf))), (o, .inl (cO, 1, .inr (.inl ov)))] sz) := by
  refine vx_ofWH (cc := cL_least) (maxL := 5) (ret := (some .int)) (hh := [(0, 9, 12, 15), (0, 9, 16, 37)]) (by decide) rfl ?_
  intro p e s m args below meth c s₁ B hml hv
  obtain ⟨rfl, hsz, hP, hK, hD0, hE, hZ⟩ := hv
  have hx := B.exec
  have hb := B.bytes
  have hr := B.returns
  have hts := atoms_spec (ws := wsL_least) B.pre
  have hown : s.vm.findClass RL = some m.cls := findClass_of_methodNamed B.named
  have hlocks := B.notSynchronized
  have htb := vx_table (x := yL_least) B (hts _ List.mem_cons_self)
  subst hsz
  have hD := hD0.self (sz := s.heap.size)
  generalize hAe : va_A [(h0, .inr (1, [.ref a, .ref b])), (a, .inl (cI, 256, .inl kf)), (b, .inl (cJ, 256, .inr (.inl vf))), (o, .inl (cO, 1, .inr (.inl ov)))] s.heap.size = A at hD hZ ⊢
  have hA : ∀ q : Nat, s.heap.size ≤ q → A q := fun q h => by rw [← hAe]; exact Or.inr h
  have hS : va_S A s.heap s.heap [] := va_S.rf
  have hP : va_P (dC, dI) vwCl [(h0, .inr (1, [.ref a, .ref b])), (a, .inl (cI, 256, .inl kf)), (b, .inl (cJ, 256, .inr (.inl vf))), (o, .inl (cO, 1, .inr (.inl ov)))] s.heap := hP
  have hl := lv_entry ([.ref h0, .int f, .int t, .ref o]) (n := 5) (Nat.le_of_ble_eq_true rfl)
  rw [lg_entry_eq]
  generalize (lg_sl ([.ref h0, .int f, .int t, .ref o]) ++ List.replicate (5 - (lg_sl ([.ref h0, .int f, .int t, .ref o])).length) Slot.unset).toArray = ls at hl ⊢
  have hl : lv_has ls 5 [(0, .ref h0), (1, .int f), (2, .int t), (3, .ref o)] := hl
  refine lv_aload_n hx hb dL_least_0 rfl (lv_at hl 3 rfl) ?_
  refine lv_iconst (v := 0) hx hb dL_least_1 (by decide) ?_
  refine lv_aload_n hx hb dL_least_2 rfl (lv_at hl 0 rfl) ?_
  refine lv_iload_n hx hb dL_least_3 rfl (lv_at hl 1 rfl) ?_
  refine lv_iload_n hx hb dL_least_4 rfl (lv_at hl 2 rfl) ?_
  have hPc := hP.sub (ws' := [(h0, .inr (1, [.ref a, .ref b])), (a, .inl (cI, 256, .inl kf)), (b, .inl (cJ, 256, .inr (.inl vf)))]) [0, 1, 2] rfl
  have hDc := hD.sub (ws' := [(h0, .inr (1, [.ref a, .ref b])), (a, .inl (cI, 256, .inl kf)), (b, .inl (cJ, 256, .inr (.inl vf)))]) [0, 1, 2] (by decide) rfl
  have hKc := hK.sub (tys' := [(cI, .int), (cJ, .long)]) [0, 1] rfl
  have hFc := va_free (wc := [(h0, .inr (1, [.ref a, .ref b])), (a, .inl (cI, 256, .inl kf)), (b, .inl (cJ, 256, .inr (.inl vf)))]) hD hS hA [0, 1, 2] rfl
  refine vx_calll (vx_runV (As := [.int f, .int t]) (rest := [.int 0, .ref o]) ⟨hx, hb, hml, hown, hts⟩ (qX1_least l hlt dC dI s.heap.size h0 a b cI cJ kf vf f t) (cwV 2 hts gL_least_X1_least rfl rfl rfl (by decide +kernel) ⟨Nat.le_of_ble_eq_true rfl, Nat.le_of_ble_eq_true rfl⟩) ⟨fun a U g mk q => by obtain ⟨q0, q1, qP, qK, qD, qE, qZ⟩ := q; exact ⟨q0, q1, qP, va_K.moved (u := U) (U := U.calling g mk a) (Vm.Alike.refl U.vm) qK, qD, ev.same (u := U) rfl qE, ez.moved (U := U.calling g mk a) qZ (Vm.Alike.refl U.vm)⟩, va_recv hKc hPc (ci := 1) (q0 := 0) rfl rfl, fun U hU hW => ⟨rfl, by rw [hU], by rw [hU]; exact hPc, va_K.moved hW.alike hKc, hDc.weaken (fun _ _ _ _ => trivial), hE.warm hW, by rw [hU]; exact ((hZ.kept hS.2.1).narrow hFc).moved hW.alike⟩⟩ rfl rfl hl.1 rfl (lv_room (Nat.le_of_ble_eq_true rfl)) dL_least_5 ⟨Nat.le_of_ble_eq_true rfl, Nat.le_of_ble_eq_true rfl⟩) hS (fun q _ h => hFc q h) hFc (fun q _ h => hFc q h) (fun E ce q9 u t9 H1 locs ht hvm hw hB hz1 hk1 hS hce hcv hcl => ?_) (fun r_1 u t9 H1 locs ht hvm hw hB hz1 hk1 hS => ?_)
  · obtain ⟨hex, hP1, hK1, hD1⟩ := hB
    rw [ht] at hP1
    have hK1 := va_K.moved hvm.symm hK1
    obtain ⟨hP, hD⟩ := va_join (wr := [(o, .inl (cO, 1, .inr (.inl ov)))]) (w1 := [(h0, .inr (1, [.ref a, .ref b])), (a, .inl (cI, 256, .inl kf)), (b, .inl (cJ, 256, .inr (.inl vf)))]) hP hD [0, 1, 2] [3] rfl rfl (by decide) (by decide) hk1 hFc hP1 hD1
    have hK := (hK.sub (tys' := [(cO, .long)]) [2] rfl).app hK1
    generalize H1 = H at hP hS hce ⊢
    have hP : va_P (dC, dI) vwCl [(o, .inl (cO, 1, .inr (.inl ov))), (h0, .inr (1, [.ref a, .ref b])), (a, .inl (cI, 256, .inl kf)), (b, .inl (cJ, 256, .inr (.inl vf)))] H := hP
    have hD : va_D A [(o, .inl (cO, 1, .inr (.inl ov))), (h0, .inr (1, [.ref a, .ref b])), (a, .inl (cI, 256, .inl kf)), (b, .inl (cJ, 256, .inr (.inl vf)))] := hD
    have hK : va_K (dC, dI) vwCl [(cO, .long), (cI, .int), (cJ, .long)] s := hK
    refine vx_widen (k := 3) (n := 17) (Nat.le_of_ble_eq_true rfl) (Nat.le_of_ble_eq_true rfl) ?_
    rcases hex with ⟨hE9, hx9⟩ | ⟨hE9, hx9⟩
    · subst hE9
      refine vx_catch hown [] ⟨0, 9, 12, 15⟩ [⟨0, 9, 16, 37⟩] htb (fun z hz => absurd hz List.not_mem_nil) (by decide) (by decide) (hts (.classLink RL 15 IOB) kL_least_0) (va_Nw.use rfl (ev_ciob hE)) hce hcv hcl ?_
      refine lv_astore (lv' := [(4, .ref q9), (0, .ref h0), (1, .int f), (2, .int t), (3, .ref o)]) hx hb dL_least_12 hl (by decide) rfl (fun ls hl => ?_)
      refine lv_iconst (v := 1) hx hb dL_least_14 (by decide) ?_
      have hP9 := hP.sub (ws' := [(h0, .inr (1, [.ref a, .ref b])), (a, .inl (cI, 256, .inl kf)), (b, .inl (cJ, 256, .inr (.inl vf))), (o, .inl (cO, 1, .inr (.inl ov)))]) [1, 2, 3, 0] rfl
      have hD9 := hD.sub (ws' := [(h0, .inr (1, [.ref a, .ref b])), (a, .inl (cI, 256, .inl kf)), (b, .inl (cJ, 256, .inr (.inl vf))), (o, .inl (cO, 1, .inr (.inl ov)))]) [1, 2, 3, 0] (by decide) rfl
      have hK9 := hK.sub (tys' := [(cI, .int), (cJ, .long), (cO, .long)]) [1, 2, 0] rfl
      refine vx_ret ?_
      refine W.widen (k := 3) (n := 17) (Nat.le_of_ble_eq_true rfl) (Nat.le_of_ble_eq_true rfl) ?_
      exact W.iret (v := 1) hx hb hr (fun t9 ht hW => ⟨⟨1, ov, rfl, ⟨by first | (simp [le_c, hx9]; done) | (simp [le_c, hx9]; done) | grind [], by first | (simp [le_c, hx9]; done) | (simp [le_c, hx9]; done) | grind []⟩, by rw [ht]; exact hP9, va_K.moved hW.alike hK9, hD9⟩, hS.F ht⟩) hS.2.2 dL_least_15
    · subst hE9
      refine vx_catch hown [⟨0, 9, 12, 15⟩] ⟨0, 9, 16, 37⟩ [] htb (fun z hz => by rw [List.mem_singleton.mp hz]; exact Or.inr ⟨by decide, IOB, (hts (.classLink RL 15 IOB) kL_least_0), hE.2.2.2⟩) (by decide) (by decide) (hts (.classLink RL 37 UOE) kL_least_1) (va_Nw.use rfl (ev_cuoe hE)) hce hcv hcl ?_
      refine lv_astore (lv' := [(4, .ref q9), (0, .ref h0), (1, .int f), (2, .int t), (3, .ref o)]) hx hb dL_least_16 hl (by decide) rfl (fun ls hl => ?_)
      refine lv_iconst (v := 2) hx hb dL_least_18 (by decide) ?_
      have hP9 := hP.sub (ws' := [(h0, .inr (1, [.ref a, .ref b])), (a, .inl (cI, 256, .inl kf)), (b, .inl (cJ, 256, .inr (.inl vf))), (o, .inl (cO, 1, .inr (.inl ov)))]) [1, 2, 3, 0] rfl
      have hD9 := hD.sub (ws' := [(h0, .inr (1, [.ref a, .ref b])), (a, .inl (cI, 256, .inl kf)), (b, .inl (cJ, 256, .inr (.inl vf))), (o, .inl (cO, 1, .inr (.inl ov)))]) [1, 2, 3, 0] (by decide) rfl
      have hK9 := hK.sub (tys' := [(cI, .int), (cJ, .long), (cO, .long)]) [1, 2, 0] rfl
      refine vx_ret ?_
      refine W.widen (k := 3) (n := 17) (Nat.le_of_ble_eq_true rfl) (Nat.le_of_ble_eq_true rfl) ?_
      exact W.iret (v := 2) hx hb hr (fun t9 ht hW => ⟨⟨2, ov, rfl, ⟨by first | (simp [le_c, hx9]; done) | (simp [le_c, hx9]; done) | grind [], by first | (simp [le_c, hx9]; done) | (simp [le_c, hx9]; done) | grind []⟩, by rw [ht]; exact hP9, va_K.moved hW.alike hK9, hD9⟩, hS.F ht⟩) hS.2.2 dL_least_19
  · obtain ⟨hP1, hK1, hD1⟩ := hB
    rw [ht] at hP1
    have h_2 := hw
    have hK1 := va_K.moved hvm.symm hK1
    obtain ⟨hP, hD⟩ := va_join (wr := [(o, .inl (cO, 1, .inr (.inl ov)))]) (w1 := [(h0, .inr (1, [.ref a, .ref b])), (a, .inl (cI, 256, .inl kf)), (b, .inl (cJ, 256, .inr (.inl vf)))]) hP hD [0, 1, 2] [3] rfl rfl (by decide) (by decide) hk1 hFc hP1 hD1
    have hK := (hK.sub (tys' := [(cO, .long)]) [2] rfl).app hK1
    generalize H1 = H at hP hS ⊢
    have hP : va_P (dC, dI) vwCl [(o, .inl (cO, 1, .inr (.inl ov))), (h0, .inr (1, [.ref a, .ref b])), (a, .inl (cI, 256, .inl kf)), (b, .inl (cJ, 256, .inr (.inl vf)))] H := hP
    have hD : va_D A [(o, .inl (cO, 1, .inr (.inl ov))), (h0, .inr (1, [.ref a, .ref b])), (a, .inl (cI, 256, .inl kf)), (b, .inl (cJ, 256, .inr (.inl vf)))] := hD
    have hK : va_K (dC, dI) vwCl [(cO, .long), (cI, .int), (cJ, .long)] s := hK
    refine W.widen (k := 3) (n := 17) (Nat.le_of_ble_eq_true rfl) (Nat.le_of_ble_eq_true rfl) ?_
    refine va_last hx hb hK hP hD hS 0 0 rfl rfl in_01 dL_least_8 (fun H locs hP hD hS => ?_)
    have hP : va_P (dC, dI) vwCl [(o, .inl (cO, 1, .inr (.inl (vp_updL ov (0 : Int32).toNatClampNeg r_1)))), (h0, .inr (1, [.ref a, .ref b])), (a, .inl (cI, 256, .inl kf)), (b, .inl (cJ, 256, .inr (.inl vf)))] H := hP
    have hD : va_D A [(o, .inl (cO, 1, .inr (.inl (vp_updL ov (0 : Int32).toNatClampNeg r_1)))), (h0, .inr (1, [.ref a, .ref b])), (a, .inl (cI, 256, .inl kf)), (b, .inl (cJ, 256, .inr (.inl vf)))] := hD
    refine lv_goto (tgt := 20) hx hb dL_least_9 (by decide) ?_
    refine lv_iconst (v := 0) hx hb dL_least_20 (by decide) ?_
    have hP9 := hP.sub (ws' := [(h0, .inr (1, [.ref a, .ref b])), (a, .inl (cI, 256, .inl kf)), (b, .inl (cJ, 256, .inr (.inl vf))), (o, .inl (cO, 1, .inr (.inl (vp_updL ov (0 : Int32).toNatClampNeg r_1))))]) [1, 2, 3, 0] rfl
    have hD9 := hD.sub (ws' := [(h0, .inr (1, [.ref a, .ref b])), (a, .inl (cI, 256, .inl kf)), (b, .inl (cJ, 256, .inr (.inl vf))), (o, .inl (cO, 1, .inr (.inl (vp_updL ov (0 : Int32).toNatClampNeg r_1))))]) [1, 2, 3, 0] (by decide) rfl
    have hK9 := hK.sub (tys' := [(cI, .int), (cJ, .long), (cO, .long)]) [1, 2, 0] rfl
    refine vx_ret ?_
    refine W.widen (k := 3) (n := 17) (Nat.le_of_ble_eq_true rfl) (Nat.le_of_ble_eq_true rfl) ?_
    exact W.iret (v := 0) hx hb hr (fun t9 ht hW => ⟨⟨0, vp_updL ov (0 : Int32).toNatClampNeg r_1, rfl, ⟨by first | (simp [le_c, h_2]; done) | (simp [le_c, h_2]; done) | grind [], by first | (simp [le_c, h_2]; done) | (simp [le_c, h_2]; done) | grind []⟩, by rw [ht]; exact hP9, va_K.moved hW.alike hK9, hD9⟩, hS.F ht⟩) hS.2.2 dL_least_21

set_option maxRecDepth 20000 in
theorem kL_greatest_0 : (.classLink RL 15 IOB : Cond) ∈ wsL_greatest := by decide +kernel
set_option maxRecDepth 20000 in
theorem kL_greatest_1 : (.classLink RL 37 UOE : Cond) ∈ wsL_greatest := by decide +kernel
set_option maxHeartbeats 4000000 in
set_option maxRecDepth 100000 in
theorem qL_greatest (l : Launch) (hlt : l.stackTraces = false) (dC : Nat → ClassId) (dI : Nat → Nat → Nat) (sz : Nat) (h0 a b : Nat) (cI cJ : ClassId) (kf : Nat → Int32) (vf : Nat → Int64) (o : Nat) (cO : ClassId) (ov : Nat → Int64) (f t : Int32)  : vx_Met l yL_greatest wsL_greatest ({ frames := 8, cells := 3, slots := 17, locals := 160 }) (va_Pc [.ref h0, .int f, .int t, .ref o] (fun U => U.heap.size = sz ∧ va_P (dC, dI) vwCl [(h0, .inr (1, [.ref a, .ref b])), (a, .inl (cI, 256, .inl kf)), (b, .inl (cJ, 256, .inr (.inl vf))), (o, .inl (cO, 1, .inr (.inl ov)))] U.heap ∧ va_K (dC, dI) vwCl [(cI, .int), (cJ, .long), (cO, .long)] U ∧ va_D (fun _ => True) [(h0, .inr (1, [.ref a, .ref b])), (a, .inl (cI, 256, .inl kf)), (b, .inl (cJ, 256, .inr (.inl vf))), (o, .inl (cO, 1, .inr (.inl ov)))] ∧ ev U ∧ ez (va_A [(h0, .inr (1, [.ref a, .ref b])), (a, .inl (cI, 256, .inl kf)), (b, .inl (cJ, 256, .inr (.inl vf))), (o, .inl (cO, 1, .inr (.inl ov)))] sz) U U.heap)) (va_Qi (fun (r : Int32) (u : Nat → Int64) => (r = ge_c kf vf f t) ∧ u = (if okW f t ∧ ¬ (eW kf vf f t).2.2.2.1 = 0 then vp_updL ov (0 : Int32).toNatClampNeg (eW kf vf f t).2.2.2.2 else ov)) (fun (u : Nat → Int64) (t9 : State) => va_P (dC, dI) vwCl [(h0, .inr (1, [.ref a, .ref b])), (a, .inl (cI, 256, .inl kf)), (b, .inl (cJ, 256, .inr (.inl vf))), (o, .inl (cO, 1, .inr (.inl u)))] t9.heap ∧ va_K (dC, dI) vwCl [(cI, .int), (cJ, .long), (cO, .long)] t9 ∧ va_D (va_A [(h0, .inr (1, [.ref a, .ref b])), (a, .inl (cI, 256, .inl kf)), (b, .inl (cJ, 256, .inr (.inl vf))), (o, .inl (cO, 1, .inr (.inl ov)))] sz) [(h0, .inr (1, [.ref a, .ref b])), (a, .inl (cI, 256, .inl kf)), (b, .inl (cJ, 256, .inr (.inl vf))), (o, .inl (cO, 1, .inr (.inl u)))]) (va_A [(h0, .inr (1, [.ref a, .ref b])), (a, .inl (cI, 256, .inl kf)), (b, .inl (cJ, 256, .inr (.inl vf))), (o, .inl (cO, 1, .inr (.inl ov)))] sz)) (vx_X (fun _ : Unit => True) (fun (E : String) (_ : Unit) (t9 : State) => (False) ∧ va_P (dC, dI) vwCl [(h0, .inr (1, [.ref a, .ref b])), (a, .inl (cI, 256, .inl kf)), (b, .inl (cJ, 256, .inr (.inl vf))), (o, .inl (cO, 1, .inr (.inl ov)))] t9.heap ∧ va_K (dC, dI) vwCl [(cI, .int), (cJ, .long), (cO, .long)] t9 ∧ va_D (va_A [(h0, .inr (1, [.ref a, .ref b])), (a, .inl (cI, 256, .inl kf)), (b, .inl (cJ, 256, .inr (.inl vf))), (o, .inl (cO, 1, .inr (.inl ov)))] sz) [(h0, .inr (1, [.ref a, .ref b])), (a, .inl (cI, 256, .inl kf)), (b, .inl (cJ, 256, .inr (.inl vf))), (o, .inl (cO, 1, .inr (.inl ov)))]) (va_A [(h0, .inr (1, [.ref a, .ref b])), (a, .inl (cI, 256, .inl kf)), (b, .inl (cJ, 256, .inr (.inl vf))), (o, .inl (cO, 1, .inr (.inl ov)))] sz)) 3 17 (va_A [(h0, .inr (1, [.ref a, .ref b])), (a, .inl (cI, 256, .inl kf)), (b, .inl (cJ, 256, .inr (.inl vf))), (o, .inl (cO, 1, .inr (.inl ov)))] sz) := by
  refine vx_ofWH (cc := cL_greatest) (maxL := 5) (ret := (some .int)) (hh := [(0, 9, 12, 15), (0, 9, 16, 37)]) (by decide) rfl ?_
  intro p e s m args below meth c s₁ B hml hv
  obtain ⟨rfl, hsz, hP, hK, hD0, hE, hZ⟩ := hv
  have hx := B.exec
  have hb := B.bytes
  have hr := B.returns
  have hts := atoms_spec (ws := wsL_greatest) B.pre
  have hown : s.vm.findClass RL = some m.cls := findClass_of_methodNamed B.named
  have hlocks := B.notSynchronized
  have htb := vx_table (x := yL_greatest) B (hts _ List.mem_cons_self)
  subst hsz
  have hD := hD0.self (sz := s.heap.size)
  generalize hAe : va_A [(h0, .inr (1, [.ref a, .ref b])), (a, .inl (cI, 256, .inl kf)), (b, .inl (cJ, 256, .inr (.inl vf))), (o, .inl (cO, 1, .inr (.inl ov)))] s.heap.size = A at hD hZ ⊢
  have hA : ∀ q : Nat, s.heap.size ≤ q → A q := fun q h => by rw [← hAe]; exact Or.inr h
  have hS : va_S A s.heap s.heap [] := va_S.rf
  have hP : va_P (dC, dI) vwCl [(h0, .inr (1, [.ref a, .ref b])), (a, .inl (cI, 256, .inl kf)), (b, .inl (cJ, 256, .inr (.inl vf))), (o, .inl (cO, 1, .inr (.inl ov)))] s.heap := hP
  have hl := lv_entry ([.ref h0, .int f, .int t, .ref o]) (n := 5) (Nat.le_of_ble_eq_true rfl)
  rw [lg_entry_eq]
  generalize (lg_sl ([.ref h0, .int f, .int t, .ref o]) ++ List.replicate (5 - (lg_sl ([.ref h0, .int f, .int t, .ref o])).length) Slot.unset).toArray = ls at hl ⊢
  have hl : lv_has ls 5 [(0, .ref h0), (1, .int f), (2, .int t), (3, .ref o)] := hl
  refine lv_aload_n hx hb dL_greatest_0 rfl (lv_at hl 3 rfl) ?_
  refine lv_iconst (v := 0) hx hb dL_greatest_1 (by decide) ?_
  refine lv_aload_n hx hb dL_greatest_2 rfl (lv_at hl 0 rfl) ?_
  refine lv_iload_n hx hb dL_greatest_3 rfl (lv_at hl 1 rfl) ?_
  refine lv_iload_n hx hb dL_greatest_4 rfl (lv_at hl 2 rfl) ?_
  have hPc := hP.sub (ws' := [(h0, .inr (1, [.ref a, .ref b])), (a, .inl (cI, 256, .inl kf)), (b, .inl (cJ, 256, .inr (.inl vf)))]) [0, 1, 2] rfl
  have hDc := hD.sub (ws' := [(h0, .inr (1, [.ref a, .ref b])), (a, .inl (cI, 256, .inl kf)), (b, .inl (cJ, 256, .inr (.inl vf)))]) [0, 1, 2] (by decide) rfl
  have hKc := hK.sub (tys' := [(cI, .int), (cJ, .long)]) [0, 1] rfl
  have hFc := va_free (wc := [(h0, .inr (1, [.ref a, .ref b])), (a, .inl (cI, 256, .inl kf)), (b, .inl (cJ, 256, .inr (.inl vf)))]) hD hS hA [0, 1, 2] rfl
  refine vx_calll (vx_runV (As := [.int f, .int t]) (rest := [.int 0, .ref o]) ⟨hx, hb, hml, hown, hts⟩ (qX1_greatest l hlt dC dI s.heap.size h0 a b cI cJ kf vf f t) (cwV 2 hts gL_greatest_X1_greatest rfl rfl rfl (by decide +kernel) ⟨Nat.le_of_ble_eq_true rfl, Nat.le_of_ble_eq_true rfl⟩) ⟨fun a U g mk q => by obtain ⟨q0, q1, qP, qK, qD, qE, qZ⟩ := q; exact ⟨q0, q1, qP, va_K.moved (u := U) (U := U.calling g mk a) (Vm.Alike.refl U.vm) qK, qD, ev.same (u := U) rfl qE, ez.moved (U := U.calling g mk a) qZ (Vm.Alike.refl U.vm)⟩, va_recv hKc hPc (ci := 1) (q0 := 0) rfl rfl, fun U hU hW => ⟨rfl, by rw [hU], by rw [hU]; exact hPc, va_K.moved hW.alike hKc, hDc.weaken (fun _ _ _ _ => trivial), hE.warm hW, by rw [hU]; exact ((hZ.kept hS.2.1).narrow hFc).moved hW.alike⟩⟩ rfl rfl hl.1 rfl (lv_room (Nat.le_of_ble_eq_true rfl)) dL_greatest_5 ⟨Nat.le_of_ble_eq_true rfl, Nat.le_of_ble_eq_true rfl⟩) hS (fun q _ h => hFc q h) hFc (fun q _ h => hFc q h) (fun E ce q9 u t9 H1 locs ht hvm hw hB hz1 hk1 hS hce hcv hcl => ?_) (fun r_1 u t9 H1 locs ht hvm hw hB hz1 hk1 hS => ?_)
  · obtain ⟨hex, hP1, hK1, hD1⟩ := hB
    rw [ht] at hP1
    have hK1 := va_K.moved hvm.symm hK1
    obtain ⟨hP, hD⟩ := va_join (wr := [(o, .inl (cO, 1, .inr (.inl ov)))]) (w1 := [(h0, .inr (1, [.ref a, .ref b])), (a, .inl (cI, 256, .inl kf)), (b, .inl (cJ, 256, .inr (.inl vf)))]) hP hD [0, 1, 2] [3] rfl rfl (by decide) (by decide) hk1 hFc hP1 hD1
    have hK := (hK.sub (tys' := [(cO, .long)]) [2] rfl).app hK1
    generalize H1 = H at hP hS hce ⊢
    have hP : va_P (dC, dI) vwCl [(o, .inl (cO, 1, .inr (.inl ov))), (h0, .inr (1, [.ref a, .ref b])), (a, .inl (cI, 256, .inl kf)), (b, .inl (cJ, 256, .inr (.inl vf)))] H := hP
    have hD : va_D A [(o, .inl (cO, 1, .inr (.inl ov))), (h0, .inr (1, [.ref a, .ref b])), (a, .inl (cI, 256, .inl kf)), (b, .inl (cJ, 256, .inr (.inl vf)))] := hD
    have hK : va_K (dC, dI) vwCl [(cO, .long), (cI, .int), (cJ, .long)] s := hK
    refine vx_widen (k := 3) (n := 17) (Nat.le_of_ble_eq_true rfl) (Nat.le_of_ble_eq_true rfl) ?_
    rcases hex with ⟨hE9, hx9⟩ | ⟨hE9, hx9⟩
    · subst hE9
      refine vx_catch hown [] ⟨0, 9, 12, 15⟩ [⟨0, 9, 16, 37⟩] htb (fun z hz => absurd hz List.not_mem_nil) (by decide) (by decide) (hts (.classLink RL 15 IOB) kL_greatest_0) (va_Nw.use rfl (ev_ciob hE)) hce hcv hcl ?_
      refine lv_astore (lv' := [(4, .ref q9), (0, .ref h0), (1, .int f), (2, .int t), (3, .ref o)]) hx hb dL_greatest_12 hl (by decide) rfl (fun ls hl => ?_)
      refine lv_iconst (v := 1) hx hb dL_greatest_14 (by decide) ?_
      have hP9 := hP.sub (ws' := [(h0, .inr (1, [.ref a, .ref b])), (a, .inl (cI, 256, .inl kf)), (b, .inl (cJ, 256, .inr (.inl vf))), (o, .inl (cO, 1, .inr (.inl ov)))]) [1, 2, 3, 0] rfl
      have hD9 := hD.sub (ws' := [(h0, .inr (1, [.ref a, .ref b])), (a, .inl (cI, 256, .inl kf)), (b, .inl (cJ, 256, .inr (.inl vf))), (o, .inl (cO, 1, .inr (.inl ov)))]) [1, 2, 3, 0] (by decide) rfl
      have hK9 := hK.sub (tys' := [(cI, .int), (cJ, .long), (cO, .long)]) [1, 2, 0] rfl
      refine vx_ret ?_
      refine W.widen (k := 3) (n := 17) (Nat.le_of_ble_eq_true rfl) (Nat.le_of_ble_eq_true rfl) ?_
      exact W.iret (v := 1) hx hb hr (fun t9 ht hW => ⟨⟨1, ov, rfl, ⟨by first | (simp [ge_c, hx9]; done) | (simp [ge_c, hx9]; done) | grind [], by first | (simp [ge_c, hx9]; done) | (simp [ge_c, hx9]; done) | grind []⟩, by rw [ht]; exact hP9, va_K.moved hW.alike hK9, hD9⟩, hS.F ht⟩) hS.2.2 dL_greatest_15
    · subst hE9
      refine vx_catch hown [⟨0, 9, 12, 15⟩] ⟨0, 9, 16, 37⟩ [] htb (fun z hz => by rw [List.mem_singleton.mp hz]; exact Or.inr ⟨by decide, IOB, (hts (.classLink RL 15 IOB) kL_greatest_0), hE.2.2.2⟩) (by decide) (by decide) (hts (.classLink RL 37 UOE) kL_greatest_1) (va_Nw.use rfl (ev_cuoe hE)) hce hcv hcl ?_
      refine lv_astore (lv' := [(4, .ref q9), (0, .ref h0), (1, .int f), (2, .int t), (3, .ref o)]) hx hb dL_greatest_16 hl (by decide) rfl (fun ls hl => ?_)
      refine lv_iconst (v := 2) hx hb dL_greatest_18 (by decide) ?_
      have hP9 := hP.sub (ws' := [(h0, .inr (1, [.ref a, .ref b])), (a, .inl (cI, 256, .inl kf)), (b, .inl (cJ, 256, .inr (.inl vf))), (o, .inl (cO, 1, .inr (.inl ov)))]) [1, 2, 3, 0] rfl
      have hD9 := hD.sub (ws' := [(h0, .inr (1, [.ref a, .ref b])), (a, .inl (cI, 256, .inl kf)), (b, .inl (cJ, 256, .inr (.inl vf))), (o, .inl (cO, 1, .inr (.inl ov)))]) [1, 2, 3, 0] (by decide) rfl
      have hK9 := hK.sub (tys' := [(cI, .int), (cJ, .long), (cO, .long)]) [1, 2, 0] rfl
      refine vx_ret ?_
      refine W.widen (k := 3) (n := 17) (Nat.le_of_ble_eq_true rfl) (Nat.le_of_ble_eq_true rfl) ?_
      exact W.iret (v := 2) hx hb hr (fun t9 ht hW => ⟨⟨2, ov, rfl, ⟨by first | (simp [ge_c, hx9]; done) | (simp [ge_c, hx9]; done) | grind [], by first | (simp [ge_c, hx9]; done) | (simp [ge_c, hx9]; done) | grind []⟩, by rw [ht]; exact hP9, va_K.moved hW.alike hK9, hD9⟩, hS.F ht⟩) hS.2.2 dL_greatest_19
  · obtain ⟨hP1, hK1, hD1⟩ := hB
    rw [ht] at hP1
    have h_2 := hw
    have hK1 := va_K.moved hvm.symm hK1
    obtain ⟨hP, hD⟩ := va_join (wr := [(o, .inl (cO, 1, .inr (.inl ov)))]) (w1 := [(h0, .inr (1, [.ref a, .ref b])), (a, .inl (cI, 256, .inl kf)), (b, .inl (cJ, 256, .inr (.inl vf)))]) hP hD [0, 1, 2] [3] rfl rfl (by decide) (by decide) hk1 hFc hP1 hD1
    have hK := (hK.sub (tys' := [(cO, .long)]) [2] rfl).app hK1
    generalize H1 = H at hP hS ⊢
    have hP : va_P (dC, dI) vwCl [(o, .inl (cO, 1, .inr (.inl ov))), (h0, .inr (1, [.ref a, .ref b])), (a, .inl (cI, 256, .inl kf)), (b, .inl (cJ, 256, .inr (.inl vf)))] H := hP
    have hD : va_D A [(o, .inl (cO, 1, .inr (.inl ov))), (h0, .inr (1, [.ref a, .ref b])), (a, .inl (cI, 256, .inl kf)), (b, .inl (cJ, 256, .inr (.inl vf)))] := hD
    have hK : va_K (dC, dI) vwCl [(cO, .long), (cI, .int), (cJ, .long)] s := hK
    refine W.widen (k := 3) (n := 17) (Nat.le_of_ble_eq_true rfl) (Nat.le_of_ble_eq_true rfl) ?_
    refine va_last hx hb hK hP hD hS 0 0 rfl rfl in_01 dL_greatest_8 (fun H locs hP hD hS => ?_)
    have hP : va_P (dC, dI) vwCl [(o, .inl (cO, 1, .inr (.inl (vp_updL ov (0 : Int32).toNatClampNeg r_1)))), (h0, .inr (1, [.ref a, .ref b])), (a, .inl (cI, 256, .inl kf)), (b, .inl (cJ, 256, .inr (.inl vf)))] H := hP
    have hD : va_D A [(o, .inl (cO, 1, .inr (.inl (vp_updL ov (0 : Int32).toNatClampNeg r_1)))), (h0, .inr (1, [.ref a, .ref b])), (a, .inl (cI, 256, .inl kf)), (b, .inl (cJ, 256, .inr (.inl vf)))] := hD
    refine lv_goto (tgt := 20) hx hb dL_greatest_9 (by decide) ?_
    refine lv_iconst (v := 0) hx hb dL_greatest_20 (by decide) ?_
    have hP9 := hP.sub (ws' := [(h0, .inr (1, [.ref a, .ref b])), (a, .inl (cI, 256, .inl kf)), (b, .inl (cJ, 256, .inr (.inl vf))), (o, .inl (cO, 1, .inr (.inl (vp_updL ov (0 : Int32).toNatClampNeg r_1))))]) [1, 2, 3, 0] rfl
    have hD9 := hD.sub (ws' := [(h0, .inr (1, [.ref a, .ref b])), (a, .inl (cI, 256, .inl kf)), (b, .inl (cJ, 256, .inr (.inl vf))), (o, .inl (cO, 1, .inr (.inl (vp_updL ov (0 : Int32).toNatClampNeg r_1))))]) [1, 2, 3, 0] (by decide) rfl
    have hK9 := hK.sub (tys' := [(cI, .int), (cJ, .long), (cO, .long)]) [1, 2, 0] rfl
    refine vx_ret ?_
    refine W.widen (k := 3) (n := 17) (Nat.le_of_ble_eq_true rfl) (Nat.le_of_ble_eq_true rfl) ?_
    exact W.iret (v := 0) hx hb hr (fun t9 ht hW => ⟨⟨0, vp_updL ov (0 : Int32).toNatClampNeg r_1, rfl, ⟨by first | (simp [ge_c, h_2]; done) | (simp [ge_c, h_2]; done) | grind [], by first | (simp [ge_c, h_2]; done) | (simp [ge_c, h_2]; done) | grind []⟩, by rw [ht]; exact hP9, va_K.moved hW.alike hK9, hD9⟩, hS.F ht⟩) hS.2.2 dL_greatest_21

set_option maxRecDepth 20000 in
theorem kL_fixed_0 : (.classLink RL 15 IOB : Cond) ∈ wsL_fixed := by decide +kernel
set_option maxRecDepth 20000 in
theorem kL_fixed_1 : (.classLink RL 37 UOE : Cond) ∈ wsL_fixed := by decide +kernel
set_option maxHeartbeats 4000000 in
set_option maxRecDepth 100000 in
theorem qL_fixed (l : Launch) (hlt : l.stackTraces = false) (dC : Nat → ClassId) (dI : Nat → Nat → Nat) (sz : Nat) (h0 a b : Nat) (cI cJ : ClassId) (kf : Nat → Int32) (vf : Nat → Int64) (o : Nat) (cO : ClassId) (ov : Nat → Int64) (f t w : Int32) (hwb : w = 0 ∨ w = 1) : vx_Met l yL_fixed wsL_fixed ({ frames := 8, cells := 3, slots := 17, locals := 160 }) (va_Pc [.ref h0, .int f, .int t, .int w, .ref o] (fun U => U.heap.size = sz ∧ va_P (dC, dI) vwCl [(h0, .inr (1, [.ref a, .ref b])), (a, .inl (cI, 256, .inl kf)), (b, .inl (cJ, 256, .inr (.inl vf))), (o, .inl (cO, 1, .inr (.inl ov)))] U.heap ∧ va_K (dC, dI) vwCl [(cI, .int), (cJ, .long), (cO, .long)] U ∧ va_D (fun _ => True) [(h0, .inr (1, [.ref a, .ref b])), (a, .inl (cI, 256, .inl kf)), (b, .inl (cJ, 256, .inr (.inl vf))), (o, .inl (cO, 1, .inr (.inl ov)))] ∧ ev U ∧ ez (va_A [(h0, .inr (1, [.ref a, .ref b])), (a, .inl (cI, 256, .inl kf)), (b, .inl (cJ, 256, .inr (.inl vf))), (o, .inl (cO, 1, .inr (.inl ov)))] sz) U U.heap)) (va_Qi (fun (r : Int32) (u : Nat → Int64) => (r = fe_c kf vf f t w) ∧ u = (if okW f t ∧ ¬ e_fo (eW kf vf f t) w = 0 then vp_updL ov (0 : Int32).toNatClampNeg (e_fv (eW kf vf f t) w) else ov)) (fun (u : Nat → Int64) (t9 : State) => va_P (dC, dI) vwCl [(h0, .inr (1, [.ref a, .ref b])), (a, .inl (cI, 256, .inl kf)), (b, .inl (cJ, 256, .inr (.inl vf))), (o, .inl (cO, 1, .inr (.inl u)))] t9.heap ∧ va_K (dC, dI) vwCl [(cI, .int), (cJ, .long), (cO, .long)] t9 ∧ va_D (va_A [(h0, .inr (1, [.ref a, .ref b])), (a, .inl (cI, 256, .inl kf)), (b, .inl (cJ, 256, .inr (.inl vf))), (o, .inl (cO, 1, .inr (.inl ov)))] sz) [(h0, .inr (1, [.ref a, .ref b])), (a, .inl (cI, 256, .inl kf)), (b, .inl (cJ, 256, .inr (.inl vf))), (o, .inl (cO, 1, .inr (.inl u)))]) (va_A [(h0, .inr (1, [.ref a, .ref b])), (a, .inl (cI, 256, .inl kf)), (b, .inl (cJ, 256, .inr (.inl vf))), (o, .inl (cO, 1, .inr (.inl ov)))] sz)) (vx_X (fun _ : Unit => True) (fun (E : String) (_ : Unit) (t9 : State) => (False) ∧ va_P (dC, dI) vwCl [(h0, .inr (1, [.ref a, .ref b])), (a, .inl (cI, 256, .inl kf)), (b, .inl (cJ, 256, .inr (.inl vf))), (o, .inl (cO, 1, .inr (.inl ov)))] t9.heap ∧ va_K (dC, dI) vwCl [(cI, .int), (cJ, .long), (cO, .long)] t9 ∧ va_D (va_A [(h0, .inr (1, [.ref a, .ref b])), (a, .inl (cI, 256, .inl kf)), (b, .inl (cJ, 256, .inr (.inl vf))), (o, .inl (cO, 1, .inr (.inl ov)))] sz) [(h0, .inr (1, [.ref a, .ref b])), (a, .inl (cI, 256, .inl kf)), (b, .inl (cJ, 256, .inr (.inl vf))), (o, .inl (cO, 1, .inr (.inl ov)))]) (va_A [(h0, .inr (1, [.ref a, .ref b])), (a, .inl (cI, 256, .inl kf)), (b, .inl (cJ, 256, .inr (.inl vf))), (o, .inl (cO, 1, .inr (.inl ov)))] sz)) 3 17 (va_A [(h0, .inr (1, [.ref a, .ref b])), (a, .inl (cI, 256, .inl kf)), (b, .inl (cJ, 256, .inr (.inl vf))), (o, .inl (cO, 1, .inr (.inl ov)))] sz) := by
  refine vx_ofWH (cc := cL_fixed) (maxL := 6) (ret := (some .int)) (hh := [(0, 11, 14, 15), (0, 11, 18, 37)]) (by decide) rfl ?_
  intro p e s m args below meth c s₁ B hml hv
  obtain ⟨rfl, hsz, hP, hK, hD0, hE, hZ⟩ := hv
  have hx := B.exec
  have hb := B.bytes
  have hr := B.returns
  have hts := atoms_spec (ws := wsL_fixed) B.pre
  have hown : s.vm.findClass RL = some m.cls := findClass_of_methodNamed B.named
  have hlocks := B.notSynchronized
  have htb := vx_table (x := yL_fixed) B (hts _ List.mem_cons_self)
  subst hsz
  have hD := hD0.self (sz := s.heap.size)
  generalize hAe : va_A [(h0, .inr (1, [.ref a, .ref b])), (a, .inl (cI, 256, .inl kf)), (b, .inl (cJ, 256, .inr (.inl vf))), (o, .inl (cO, 1, .inr (.inl ov)))] s.heap.size = A at hD hZ ⊢
  have hA : ∀ q : Nat, s.heap.size ≤ q → A q := fun q h => by rw [← hAe]; exact Or.inr h
  have hS : va_S A s.heap s.heap [] := va_S.rf
  have hP : va_P (dC, dI) vwCl [(h0, .inr (1, [.ref a, .ref b])), (a, .inl (cI, 256, .inl kf)), (b, .inl (cJ, 256, .inr (.inl vf))), (o, .inl (cO, 1, .inr (.inl ov)))] s.heap := hP
  have hl := lv_entry ([.ref h0, .int f, .int t, .int w, .ref o]) (n := 6) (Nat.le_of_ble_eq_true rfl)
  rw [lg_entry_eq]
  generalize (lg_sl ([.ref h0, .int f, .int t, .int w, .ref o]) ++ List.replicate (6 - (lg_sl ([.ref h0, .int f, .int t, .int w, .ref o])).length) Slot.unset).toArray = ls at hl ⊢
  have hl : lv_has ls 6 [(0, .ref h0), (1, .int f), (2, .int t), (3, .int w), (4, .ref o)] := hl
  refine lv_aload hx hb dL_fixed_0 (lv_at hl 4 rfl) ?_
  refine lv_iconst (v := 0) hx hb dL_fixed_2 (by decide) ?_
  refine lv_aload_n hx hb dL_fixed_3 rfl (lv_at hl 0 rfl) ?_
  refine lv_iload_n hx hb dL_fixed_4 rfl (lv_at hl 1 rfl) ?_
  refine lv_iload_n hx hb dL_fixed_5 rfl (lv_at hl 2 rfl) ?_
  refine lv_iload_n hx hb dL_fixed_6 rfl (lv_at hl 3 rfl) ?_
  have hPc := hP.sub (ws' := [(h0, .inr (1, [.ref a, .ref b])), (a, .inl (cI, 256, .inl kf)), (b, .inl (cJ, 256, .inr (.inl vf)))]) [0, 1, 2] rfl
  have hDc := hD.sub (ws' := [(h0, .inr (1, [.ref a, .ref b])), (a, .inl (cI, 256, .inl kf)), (b, .inl (cJ, 256, .inr (.inl vf)))]) [0, 1, 2] (by decide) rfl
  have hKc := hK.sub (tys' := [(cI, .int), (cJ, .long)]) [0, 1] rfl
  have hFc := va_free (wc := [(h0, .inr (1, [.ref a, .ref b])), (a, .inl (cI, 256, .inl kf)), (b, .inl (cJ, 256, .inr (.inl vf)))]) hD hS hA [0, 1, 2] rfl
  refine vx_calll (vx_runV (As := [.int f, .int t, .int w]) (rest := [.int 0, .ref o]) ⟨hx, hb, hml, hown, hts⟩ (qX1_fixed l hlt dC dI s.heap.size h0 a b cI cJ kf vf f t w hwb) (cwV 3 hts gL_fixed_X1_fixed rfl rfl rfl (by decide +kernel) ⟨Nat.le_of_ble_eq_true rfl, Nat.le_of_ble_eq_true rfl⟩) ⟨fun a U g mk q => by obtain ⟨q0, q1, qP, qK, qD, qE, qZ⟩ := q; exact ⟨q0, q1, qP, va_K.moved (u := U) (U := U.calling g mk a) (Vm.Alike.refl U.vm) qK, qD, ev.same (u := U) rfl qE, ez.moved (U := U.calling g mk a) qZ (Vm.Alike.refl U.vm)⟩, va_recv hKc hPc (ci := 1) (q0 := 0) rfl rfl, fun U hU hW => ⟨rfl, by rw [hU], by rw [hU]; exact hPc, va_K.moved hW.alike hKc, hDc.weaken (fun _ _ _ _ => trivial), hE.warm hW, by rw [hU]; exact ((hZ.kept hS.2.1).narrow hFc).moved hW.alike⟩⟩ rfl rfl hl.1 rfl (lv_room (Nat.le_of_ble_eq_true rfl)) dL_fixed_7 ⟨Nat.le_of_ble_eq_true rfl, Nat.le_of_ble_eq_true rfl⟩) hS (fun q _ h => hFc q h) hFc (fun q _ h => hFc q h) (fun E ce q9 u t9 H1 locs ht hvm hw hB hz1 hk1 hS hce hcv hcl => ?_) (fun r_1 u t9 H1 locs ht hvm hw hB hz1 hk1 hS => ?_)
  · obtain ⟨hex, hP1, hK1, hD1⟩ := hB
    rw [ht] at hP1
    have hK1 := va_K.moved hvm.symm hK1
    obtain ⟨hP, hD⟩ := va_join (wr := [(o, .inl (cO, 1, .inr (.inl ov)))]) (w1 := [(h0, .inr (1, [.ref a, .ref b])), (a, .inl (cI, 256, .inl kf)), (b, .inl (cJ, 256, .inr (.inl vf)))]) hP hD [0, 1, 2] [3] rfl rfl (by decide) (by decide) hk1 hFc hP1 hD1
    have hK := (hK.sub (tys' := [(cO, .long)]) [2] rfl).app hK1
    generalize H1 = H at hP hS hce ⊢
    have hP : va_P (dC, dI) vwCl [(o, .inl (cO, 1, .inr (.inl ov))), (h0, .inr (1, [.ref a, .ref b])), (a, .inl (cI, 256, .inl kf)), (b, .inl (cJ, 256, .inr (.inl vf)))] H := hP
    have hD : va_D A [(o, .inl (cO, 1, .inr (.inl ov))), (h0, .inr (1, [.ref a, .ref b])), (a, .inl (cI, 256, .inl kf)), (b, .inl (cJ, 256, .inr (.inl vf)))] := hD
    have hK : va_K (dC, dI) vwCl [(cO, .long), (cI, .int), (cJ, .long)] s := hK
    refine vx_widen (k := 3) (n := 17) (Nat.le_of_ble_eq_true rfl) (Nat.le_of_ble_eq_true rfl) ?_
    rcases hex with ⟨hE9, hx9⟩ | ⟨hE9, hx9⟩
    · subst hE9
      refine vx_catch hown [] ⟨0, 11, 14, 15⟩ [⟨0, 11, 18, 37⟩] htb (fun z hz => absurd hz List.not_mem_nil) (by decide) (by decide) (hts (.classLink RL 15 IOB) kL_fixed_0) (va_Nw.use rfl (ev_ciob hE)) hce hcv hcl ?_
      refine lv_astore (lv' := [(5, .ref q9), (0, .ref h0), (1, .int f), (2, .int t), (3, .int w), (4, .ref o)]) hx hb dL_fixed_14 hl (by decide) rfl (fun ls hl => ?_)
      refine lv_iconst (v := 1) hx hb dL_fixed_16 (by decide) ?_
      have hP9 := hP.sub (ws' := [(h0, .inr (1, [.ref a, .ref b])), (a, .inl (cI, 256, .inl kf)), (b, .inl (cJ, 256, .inr (.inl vf))), (o, .inl (cO, 1, .inr (.inl ov)))]) [1, 2, 3, 0] rfl
      have hD9 := hD.sub (ws' := [(h0, .inr (1, [.ref a, .ref b])), (a, .inl (cI, 256, .inl kf)), (b, .inl (cJ, 256, .inr (.inl vf))), (o, .inl (cO, 1, .inr (.inl ov)))]) [1, 2, 3, 0] (by decide) rfl
      have hK9 := hK.sub (tys' := [(cI, .int), (cJ, .long), (cO, .long)]) [1, 2, 0] rfl
      refine vx_ret ?_
      refine W.widen (k := 3) (n := 17) (Nat.le_of_ble_eq_true rfl) (Nat.le_of_ble_eq_true rfl) ?_
      exact W.iret (v := 1) hx hb hr (fun t9 ht hW => ⟨⟨1, ov, rfl, ⟨by first | (simp [fe_c, hx9]; done) | (simp [fe_c, hx9]; done) | grind [], by first | (simp [fe_c, hx9]; done) | (simp [fe_c, hx9]; done) | grind []⟩, by rw [ht]; exact hP9, va_K.moved hW.alike hK9, hD9⟩, hS.F ht⟩) hS.2.2 dL_fixed_17
    · subst hE9
      refine vx_catch hown [⟨0, 11, 14, 15⟩] ⟨0, 11, 18, 37⟩ [] htb (fun z hz => by rw [List.mem_singleton.mp hz]; exact Or.inr ⟨by decide, IOB, (hts (.classLink RL 15 IOB) kL_fixed_0), hE.2.2.2⟩) (by decide) (by decide) (hts (.classLink RL 37 UOE) kL_fixed_1) (va_Nw.use rfl (ev_cuoe hE)) hce hcv hcl ?_
      refine lv_astore (lv' := [(5, .ref q9), (0, .ref h0), (1, .int f), (2, .int t), (3, .int w), (4, .ref o)]) hx hb dL_fixed_18 hl (by decide) rfl (fun ls hl => ?_)
      refine lv_iconst (v := 2) hx hb dL_fixed_20 (by decide) ?_
      have hP9 := hP.sub (ws' := [(h0, .inr (1, [.ref a, .ref b])), (a, .inl (cI, 256, .inl kf)), (b, .inl (cJ, 256, .inr (.inl vf))), (o, .inl (cO, 1, .inr (.inl ov)))]) [1, 2, 3, 0] rfl
      have hD9 := hD.sub (ws' := [(h0, .inr (1, [.ref a, .ref b])), (a, .inl (cI, 256, .inl kf)), (b, .inl (cJ, 256, .inr (.inl vf))), (o, .inl (cO, 1, .inr (.inl ov)))]) [1, 2, 3, 0] (by decide) rfl
      have hK9 := hK.sub (tys' := [(cI, .int), (cJ, .long), (cO, .long)]) [1, 2, 0] rfl
      refine vx_ret ?_
      refine W.widen (k := 3) (n := 17) (Nat.le_of_ble_eq_true rfl) (Nat.le_of_ble_eq_true rfl) ?_
      exact W.iret (v := 2) hx hb hr (fun t9 ht hW => ⟨⟨2, ov, rfl, ⟨by first | (simp [fe_c, hx9]; done) | (simp [fe_c, hx9]; done) | grind [], by first | (simp [fe_c, hx9]; done) | (simp [fe_c, hx9]; done) | grind []⟩, by rw [ht]; exact hP9, va_K.moved hW.alike hK9, hD9⟩, hS.F ht⟩) hS.2.2 dL_fixed_21
  · obtain ⟨hP1, hK1, hD1⟩ := hB
    rw [ht] at hP1
    have h_2 := hw
    have hK1 := va_K.moved hvm.symm hK1
    obtain ⟨hP, hD⟩ := va_join (wr := [(o, .inl (cO, 1, .inr (.inl ov)))]) (w1 := [(h0, .inr (1, [.ref a, .ref b])), (a, .inl (cI, 256, .inl kf)), (b, .inl (cJ, 256, .inr (.inl vf)))]) hP hD [0, 1, 2] [3] rfl rfl (by decide) (by decide) hk1 hFc hP1 hD1
    have hK := (hK.sub (tys' := [(cO, .long)]) [2] rfl).app hK1
    generalize H1 = H at hP hS ⊢
    have hP : va_P (dC, dI) vwCl [(o, .inl (cO, 1, .inr (.inl ov))), (h0, .inr (1, [.ref a, .ref b])), (a, .inl (cI, 256, .inl kf)), (b, .inl (cJ, 256, .inr (.inl vf)))] H := hP
    have hD : va_D A [(o, .inl (cO, 1, .inr (.inl ov))), (h0, .inr (1, [.ref a, .ref b])), (a, .inl (cI, 256, .inl kf)), (b, .inl (cJ, 256, .inr (.inl vf)))] := hD
    have hK : va_K (dC, dI) vwCl [(cO, .long), (cI, .int), (cJ, .long)] s := hK
    refine W.widen (k := 3) (n := 17) (Nat.le_of_ble_eq_true rfl) (Nat.le_of_ble_eq_true rfl) ?_
    refine va_last hx hb hK hP hD hS 0 0 rfl rfl in_01 dL_fixed_10 (fun H locs hP hD hS => ?_)
    have hP : va_P (dC, dI) vwCl [(o, .inl (cO, 1, .inr (.inl (vp_updL ov (0 : Int32).toNatClampNeg r_1)))), (h0, .inr (1, [.ref a, .ref b])), (a, .inl (cI, 256, .inl kf)), (b, .inl (cJ, 256, .inr (.inl vf)))] H := hP
    have hD : va_D A [(o, .inl (cO, 1, .inr (.inl (vp_updL ov (0 : Int32).toNatClampNeg r_1)))), (h0, .inr (1, [.ref a, .ref b])), (a, .inl (cI, 256, .inl kf)), (b, .inl (cJ, 256, .inr (.inl vf)))] := hD
    refine lv_goto (tgt := 22) hx hb dL_fixed_11 (by decide) ?_
    refine lv_iconst (v := 0) hx hb dL_fixed_22 (by decide) ?_
    have hP9 := hP.sub (ws' := [(h0, .inr (1, [.ref a, .ref b])), (a, .inl (cI, 256, .inl kf)), (b, .inl (cJ, 256, .inr (.inl vf))), (o, .inl (cO, 1, .inr (.inl (vp_updL ov (0 : Int32).toNatClampNeg r_1))))]) [1, 2, 3, 0] rfl
    have hD9 := hD.sub (ws' := [(h0, .inr (1, [.ref a, .ref b])), (a, .inl (cI, 256, .inl kf)), (b, .inl (cJ, 256, .inr (.inl vf))), (o, .inl (cO, 1, .inr (.inl (vp_updL ov (0 : Int32).toNatClampNeg r_1))))]) [1, 2, 3, 0] (by decide) rfl
    have hK9 := hK.sub (tys' := [(cI, .int), (cJ, .long), (cO, .long)]) [1, 2, 0] rfl
    refine vx_ret ?_
    refine W.widen (k := 3) (n := 17) (Nat.le_of_ble_eq_true rfl) (Nat.le_of_ble_eq_true rfl) ?_
    exact W.iret (v := 0) hx hb hr (fun t9 ht hW => ⟨⟨0, vp_updL ov (0 : Int32).toNatClampNeg r_1, rfl, ⟨by first | (simp [fe_c, h_2]; done) | (simp [fe_c, h_2]; done) | grind [], by first | (simp [fe_c, h_2]; done) | (simp [fe_c, h_2]; done) | grind []⟩, by rw [ht]; exact hP9, va_K.moved hW.alike hK9, hD9⟩, hS.F ht⟩) hS.2.2 dL_fixed_23

set_option maxRecDepth 20000 in
theorem kL_about_0 : (.classLink RL 13 IAE : Cond) ∈ wsL_about := by decide +kernel
set_option maxRecDepth 20000 in
theorem kL_about_1 : (.classLink RL 15 IOB : Cond) ∈ wsL_about := by decide +kernel
set_option maxHeartbeats 4000000 in
set_option maxRecDepth 100000 in
theorem qL_about (l : Launch) (hlt : l.stackTraces = false) (dC : Nat → ClassId) (dI : Nat → Nat → Nat) (sz : Nat) (h0 a b : Nat) (cI cJ : ClassId) (kf : Nat → Int32) (vf : Nat → Int64) (o : Nat) (cO : ClassId) (ov : Nat → Int64) (f t w : Int32)  : vx_Met l yL_about wsL_about ({ frames := 8, cells := 3, slots := 17, locals := 160 }) (va_Pc [.ref h0, .int f, .int t, .int w, .ref o] (fun U => U.heap.size = sz ∧ va_P (dC, dI) vwCl [(h0, .inr (1, [.ref a, .ref b])), (a, .inl (cI, 256, .inl kf)), (b, .inl (cJ, 256, .inr (.inl vf))), (o, .inl (cO, 1, .inr (.inl ov)))] U.heap ∧ va_K (dC, dI) vwCl [(cI, .int), (cJ, .long), (cO, .long)] U ∧ va_D (fun _ => True) [(h0, .inr (1, [.ref a, .ref b])), (a, .inl (cI, 256, .inl kf)), (b, .inl (cJ, 256, .inr (.inl vf))), (o, .inl (cO, 1, .inr (.inl ov)))] ∧ ev U ∧ ez (va_A [(h0, .inr (1, [.ref a, .ref b])), (a, .inl (cI, 256, .inl kf)), (b, .inl (cJ, 256, .inr (.inl vf))), (o, .inl (cO, 1, .inr (.inl ov)))] sz) U U.heap)) (va_Qi (fun (r : Int32) (u : Nat → Int64) => (r = b_c f t w) ∧ u = (if okQ w ∧ okW f t then vp_updL ov (0 : Int32).toNatClampNeg (e_ab kf vf f t w).toInt64 else ov)) (fun (u : Nat → Int64) (t9 : State) => va_P (dC, dI) vwCl [(h0, .inr (1, [.ref a, .ref b])), (a, .inl (cI, 256, .inl kf)), (b, .inl (cJ, 256, .inr (.inl vf))), (o, .inl (cO, 1, .inr (.inl u)))] t9.heap ∧ va_K (dC, dI) vwCl [(cI, .int), (cJ, .long), (cO, .long)] t9 ∧ va_D (va_A [(h0, .inr (1, [.ref a, .ref b])), (a, .inl (cI, 256, .inl kf)), (b, .inl (cJ, 256, .inr (.inl vf))), (o, .inl (cO, 1, .inr (.inl ov)))] sz) [(h0, .inr (1, [.ref a, .ref b])), (a, .inl (cI, 256, .inl kf)), (b, .inl (cJ, 256, .inr (.inl vf))), (o, .inl (cO, 1, .inr (.inl u)))]) (va_A [(h0, .inr (1, [.ref a, .ref b])), (a, .inl (cI, 256, .inl kf)), (b, .inl (cJ, 256, .inr (.inl vf))), (o, .inl (cO, 1, .inr (.inl ov)))] sz)) (vx_X (fun _ : Unit => True) (fun (E : String) (_ : Unit) (t9 : State) => (False) ∧ va_P (dC, dI) vwCl [(h0, .inr (1, [.ref a, .ref b])), (a, .inl (cI, 256, .inl kf)), (b, .inl (cJ, 256, .inr (.inl vf))), (o, .inl (cO, 1, .inr (.inl ov)))] t9.heap ∧ va_K (dC, dI) vwCl [(cI, .int), (cJ, .long), (cO, .long)] t9 ∧ va_D (va_A [(h0, .inr (1, [.ref a, .ref b])), (a, .inl (cI, 256, .inl kf)), (b, .inl (cJ, 256, .inr (.inl vf))), (o, .inl (cO, 1, .inr (.inl ov)))] sz) [(h0, .inr (1, [.ref a, .ref b])), (a, .inl (cI, 256, .inl kf)), (b, .inl (cJ, 256, .inr (.inl vf))), (o, .inl (cO, 1, .inr (.inl ov)))]) (va_A [(h0, .inr (1, [.ref a, .ref b])), (a, .inl (cI, 256, .inl kf)), (b, .inl (cJ, 256, .inr (.inl vf))), (o, .inl (cO, 1, .inr (.inl ov)))] sz)) 3 17 (va_A [(h0, .inr (1, [.ref a, .ref b])), (a, .inl (cI, 256, .inl kf)), (b, .inl (cJ, 256, .inr (.inl vf))), (o, .inl (cO, 1, .inr (.inl ov)))] sz) := by
  refine vx_ofWH (cc := cL_about) (maxL := 6) (ret := (some .int)) (hh := [(0, 12, 15, 13), (0, 12, 19, 15)]) (by decide) rfl ?_
  intro p e s m args below meth c s₁ B hml hv
  obtain ⟨rfl, hsz, hP, hK, hD0, hE, hZ⟩ := hv
  have hx := B.exec
  have hb := B.bytes
  have hr := B.returns
  have hts := atoms_spec (ws := wsL_about) B.pre
  have hown : s.vm.findClass RL = some m.cls := findClass_of_methodNamed B.named
  have hlocks := B.notSynchronized
  have htb := vx_table (x := yL_about) B (hts _ List.mem_cons_self)
  subst hsz
  have hD := hD0.self (sz := s.heap.size)
  generalize hAe : va_A [(h0, .inr (1, [.ref a, .ref b])), (a, .inl (cI, 256, .inl kf)), (b, .inl (cJ, 256, .inr (.inl vf))), (o, .inl (cO, 1, .inr (.inl ov)))] s.heap.size = A at hD hZ ⊢
  have hA : ∀ q : Nat, s.heap.size ≤ q → A q := fun q h => by rw [← hAe]; exact Or.inr h
  have hS : va_S A s.heap s.heap [] := va_S.rf
  have hP : va_P (dC, dI) vwCl [(h0, .inr (1, [.ref a, .ref b])), (a, .inl (cI, 256, .inl kf)), (b, .inl (cJ, 256, .inr (.inl vf))), (o, .inl (cO, 1, .inr (.inl ov)))] s.heap := hP
  have hl := lv_entry ([.ref h0, .int f, .int t, .int w, .ref o]) (n := 6) (Nat.le_of_ble_eq_true rfl)
  rw [lg_entry_eq]
  generalize (lg_sl ([.ref h0, .int f, .int t, .int w, .ref o]) ++ List.replicate (6 - (lg_sl ([.ref h0, .int f, .int t, .int w, .ref o])).length) Slot.unset).toArray = ls at hl ⊢
  have hl : lv_has ls 6 [(0, .ref h0), (1, .int f), (2, .int t), (3, .int w), (4, .ref o)] := hl
  refine lv_aload hx hb dL_about_0 (lv_at hl 4 rfl) ?_
  refine lv_iconst (v := 0) hx hb dL_about_2 (by decide) ?_
  refine lv_aload_n hx hb dL_about_3 rfl (lv_at hl 0 rfl) ?_
  refine lv_iload_n hx hb dL_about_4 rfl (lv_at hl 1 rfl) ?_
  refine lv_iload_n hx hb dL_about_5 rfl (lv_at hl 2 rfl) ?_
  refine lv_iload_n hx hb dL_about_6 rfl (lv_at hl 3 rfl) ?_
  have hPc := hP.sub (ws' := [(h0, .inr (1, [.ref a, .ref b])), (a, .inl (cI, 256, .inl kf)), (b, .inl (cJ, 256, .inr (.inl vf)))]) [0, 1, 2] rfl
  have hDc := hD.sub (ws' := [(h0, .inr (1, [.ref a, .ref b])), (a, .inl (cI, 256, .inl kf)), (b, .inl (cJ, 256, .inr (.inl vf)))]) [0, 1, 2] (by decide) rfl
  have hKc := hK.sub (tys' := [(cI, .int), (cJ, .long)]) [0, 1] rfl
  have hFc := va_free (wc := [(h0, .inr (1, [.ref a, .ref b])), (a, .inl (cI, 256, .inl kf)), (b, .inl (cJ, 256, .inr (.inl vf)))]) hD hS hA [0, 1, 2] rfl
  refine vx_calli (vx_runV (As := [.int f, .int t, .int w]) (rest := [.int 0, .ref o]) ⟨hx, hb, hml, hown, hts⟩ (qX1_about l hlt dC dI s.heap.size h0 a b cI cJ kf vf f t w) (cwV 3 hts gL_about_X1_about rfl rfl rfl (by decide +kernel) ⟨Nat.le_of_ble_eq_true rfl, Nat.le_of_ble_eq_true rfl⟩) ⟨fun a U g mk q => by obtain ⟨q0, q1, qP, qK, qD, qE, qZ⟩ := q; exact ⟨q0, q1, qP, va_K.moved (u := U) (U := U.calling g mk a) (Vm.Alike.refl U.vm) qK, qD, ev.same (u := U) rfl qE, ez.moved (U := U.calling g mk a) qZ (Vm.Alike.refl U.vm)⟩, va_recv hKc hPc (ci := 1) (q0 := 0) rfl rfl, fun U hU hW => ⟨rfl, by rw [hU], by rw [hU]; exact hPc, va_K.moved hW.alike hKc, hDc.weaken (fun _ _ _ _ => trivial), hE.warm hW, by rw [hU]; exact ((hZ.kept hS.2.1).narrow hFc).moved hW.alike⟩⟩ rfl rfl hl.1 rfl (lv_room (Nat.le_of_ble_eq_true rfl)) dL_about_7 ⟨Nat.le_of_ble_eq_true rfl, Nat.le_of_ble_eq_true rfl⟩) hS (fun q _ h => hFc q h) hFc (fun q _ h => hFc q h) (fun E ce q9 u t9 H1 locs ht hvm hw hB hz1 hk1 hS hce hcv hcl => ?_) (fun r_1 u t9 H1 locs ht hvm hw hB hz1 hk1 hS => ?_)
  · obtain ⟨hex, hP1, hK1, hD1⟩ := hB
    rw [ht] at hP1
    have hK1 := va_K.moved hvm.symm hK1
    obtain ⟨hP, hD⟩ := va_join (wr := [(o, .inl (cO, 1, .inr (.inl ov)))]) (w1 := [(h0, .inr (1, [.ref a, .ref b])), (a, .inl (cI, 256, .inl kf)), (b, .inl (cJ, 256, .inr (.inl vf)))]) hP hD [0, 1, 2] [3] rfl rfl (by decide) (by decide) hk1 hFc hP1 hD1
    have hK := (hK.sub (tys' := [(cO, .long)]) [2] rfl).app hK1
    generalize H1 = H at hP hS hce ⊢
    have hP : va_P (dC, dI) vwCl [(o, .inl (cO, 1, .inr (.inl ov))), (h0, .inr (1, [.ref a, .ref b])), (a, .inl (cI, 256, .inl kf)), (b, .inl (cJ, 256, .inr (.inl vf)))] H := hP
    have hD : va_D A [(o, .inl (cO, 1, .inr (.inl ov))), (h0, .inr (1, [.ref a, .ref b])), (a, .inl (cI, 256, .inl kf)), (b, .inl (cJ, 256, .inr (.inl vf)))] := hD
    have hK : va_K (dC, dI) vwCl [(cO, .long), (cI, .int), (cJ, .long)] s := hK
    refine vx_widen (k := 3) (n := 17) (Nat.le_of_ble_eq_true rfl) (Nat.le_of_ble_eq_true rfl) ?_
    rcases hex with ⟨hE9, hx9⟩ | ⟨hE9, hx9⟩
    · subst hE9
      refine vx_catch hown [] ⟨0, 12, 15, 13⟩ [⟨0, 12, 19, 15⟩] htb (fun z hz => absurd hz List.not_mem_nil) (by decide) (by decide) (hts (.classLink RL 13 IAE) kL_about_0) (va_Nw.use rfl (ev_ciae hE)) hce hcv hcl ?_
      refine lv_astore (lv' := [(5, .ref q9), (0, .ref h0), (1, .int f), (2, .int t), (3, .int w), (4, .ref o)]) hx hb dL_about_15 hl (by decide) rfl (fun ls hl => ?_)
      refine lv_iconst (v := 1) hx hb dL_about_17 (by decide) ?_
      have hP9 := hP.sub (ws' := [(h0, .inr (1, [.ref a, .ref b])), (a, .inl (cI, 256, .inl kf)), (b, .inl (cJ, 256, .inr (.inl vf))), (o, .inl (cO, 1, .inr (.inl ov)))]) [1, 2, 3, 0] rfl
      have hD9 := hD.sub (ws' := [(h0, .inr (1, [.ref a, .ref b])), (a, .inl (cI, 256, .inl kf)), (b, .inl (cJ, 256, .inr (.inl vf))), (o, .inl (cO, 1, .inr (.inl ov)))]) [1, 2, 3, 0] (by decide) rfl
      have hK9 := hK.sub (tys' := [(cI, .int), (cJ, .long), (cO, .long)]) [1, 2, 0] rfl
      refine vx_ret ?_
      refine W.widen (k := 3) (n := 17) (Nat.le_of_ble_eq_true rfl) (Nat.le_of_ble_eq_true rfl) ?_
      exact W.iret (v := 1) hx hb hr (fun t9 ht hW => ⟨⟨1, ov, rfl, ⟨by first | (simp [b_c, hx9]; done) | (simp [b_c, hx9]; done) | grind [b_c], by first | (simp [b_c, hx9]; done) | (simp [b_c, hx9]; done) | grind [b_c]⟩, by rw [ht]; exact hP9, va_K.moved hW.alike hK9, hD9⟩, hS.F ht⟩) hS.2.2 dL_about_18
    · subst hE9
      refine vx_catch hown [⟨0, 12, 15, 13⟩] ⟨0, 12, 19, 15⟩ [] htb (fun z hz => by rw [List.mem_singleton.mp hz]; exact Or.inr ⟨by decide, IAE, (hts (.classLink RL 13 IAE) kL_about_0), hE.2.2.1⟩) (by decide) (by decide) (hts (.classLink RL 15 IOB) kL_about_1) (va_Nw.use rfl (ev_ciob hE)) hce hcv hcl ?_
      refine lv_astore (lv' := [(5, .ref q9), (0, .ref h0), (1, .int f), (2, .int t), (3, .int w), (4, .ref o)]) hx hb dL_about_19 hl (by decide) rfl (fun ls hl => ?_)
      refine lv_iconst (v := 2) hx hb dL_about_21 (by decide) ?_
      have hP9 := hP.sub (ws' := [(h0, .inr (1, [.ref a, .ref b])), (a, .inl (cI, 256, .inl kf)), (b, .inl (cJ, 256, .inr (.inl vf))), (o, .inl (cO, 1, .inr (.inl ov)))]) [1, 2, 3, 0] rfl
      have hD9 := hD.sub (ws' := [(h0, .inr (1, [.ref a, .ref b])), (a, .inl (cI, 256, .inl kf)), (b, .inl (cJ, 256, .inr (.inl vf))), (o, .inl (cO, 1, .inr (.inl ov)))]) [1, 2, 3, 0] (by decide) rfl
      have hK9 := hK.sub (tys' := [(cI, .int), (cJ, .long), (cO, .long)]) [1, 2, 0] rfl
      refine vx_ret ?_
      refine W.widen (k := 3) (n := 17) (Nat.le_of_ble_eq_true rfl) (Nat.le_of_ble_eq_true rfl) ?_
      exact W.iret (v := 2) hx hb hr (fun t9 ht hW => ⟨⟨2, ov, rfl, ⟨by first | (simp [b_c, hx9]; done) | (simp [b_c, hx9]; done) | grind [b_c], by first | (simp [b_c, hx9]; done) | (simp [b_c, hx9]; done) | grind [b_c]⟩, by rw [ht]; exact hP9, va_K.moved hW.alike hK9, hD9⟩, hS.F ht⟩) hS.2.2 dL_about_22
  · obtain ⟨hP1, hK1, hD1⟩ := hB
    rw [ht] at hP1
    have h_2 := hw
    have hK1 := va_K.moved hvm.symm hK1
    obtain ⟨hP, hD⟩ := va_join (wr := [(o, .inl (cO, 1, .inr (.inl ov)))]) (w1 := [(h0, .inr (1, [.ref a, .ref b])), (a, .inl (cI, 256, .inl kf)), (b, .inl (cJ, 256, .inr (.inl vf)))]) hP hD [0, 1, 2] [3] rfl rfl (by decide) (by decide) hk1 hFc hP1 hD1
    have hK := (hK.sub (tys' := [(cO, .long)]) [2] rfl).app hK1
    generalize H1 = H at hP hS ⊢
    have hP : va_P (dC, dI) vwCl [(o, .inl (cO, 1, .inr (.inl ov))), (h0, .inr (1, [.ref a, .ref b])), (a, .inl (cI, 256, .inl kf)), (b, .inl (cJ, 256, .inr (.inl vf)))] H := hP
    have hD : va_D A [(o, .inl (cO, 1, .inr (.inl ov))), (h0, .inr (1, [.ref a, .ref b])), (a, .inl (cI, 256, .inl kf)), (b, .inl (cJ, 256, .inr (.inl vf)))] := hD
    have hK : va_K (dC, dI) vwCl [(cO, .long), (cI, .int), (cJ, .long)] s := hK
    refine W.widen (k := 3) (n := 17) (Nat.le_of_ble_eq_true rfl) (Nat.le_of_ble_eq_true rfl) ?_
    refine lv_i2l (v := r_1.toInt64) hx hb dL_about_10 rfl ?_
    refine va_last hx hb hK hP hD hS 0 0 rfl rfl in_01 dL_about_11 (fun H locs hP hD hS => ?_)
    have hP : va_P (dC, dI) vwCl [(o, .inl (cO, 1, .inr (.inl (vp_updL ov (0 : Int32).toNatClampNeg r_1.toInt64)))), (h0, .inr (1, [.ref a, .ref b])), (a, .inl (cI, 256, .inl kf)), (b, .inl (cJ, 256, .inr (.inl vf)))] H := hP
    have hD : va_D A [(o, .inl (cO, 1, .inr (.inl (vp_updL ov (0 : Int32).toNatClampNeg r_1.toInt64)))), (h0, .inr (1, [.ref a, .ref b])), (a, .inl (cI, 256, .inl kf)), (b, .inl (cJ, 256, .inr (.inl vf)))] := hD
    refine lv_goto (tgt := 23) hx hb dL_about_12 (by decide) ?_
    refine lv_iconst (v := 0) hx hb dL_about_23 (by decide) ?_
    have hP9 := hP.sub (ws' := [(h0, .inr (1, [.ref a, .ref b])), (a, .inl (cI, 256, .inl kf)), (b, .inl (cJ, 256, .inr (.inl vf))), (o, .inl (cO, 1, .inr (.inl (vp_updL ov (0 : Int32).toNatClampNeg r_1.toInt64))))]) [1, 2, 3, 0] rfl
    have hD9 := hD.sub (ws' := [(h0, .inr (1, [.ref a, .ref b])), (a, .inl (cI, 256, .inl kf)), (b, .inl (cJ, 256, .inr (.inl vf))), (o, .inl (cO, 1, .inr (.inl (vp_updL ov (0 : Int32).toNatClampNeg r_1.toInt64))))]) [1, 2, 3, 0] (by decide) rfl
    have hK9 := hK.sub (tys' := [(cI, .int), (cJ, .long), (cO, .long)]) [1, 2, 0] rfl
    refine vx_ret ?_
    refine W.widen (k := 3) (n := 17) (Nat.le_of_ble_eq_true rfl) (Nat.le_of_ble_eq_true rfl) ?_
    exact W.iret (v := 0) hx hb hr (fun t9 ht hW => ⟨⟨0, vp_updL ov (0 : Int32).toNatClampNeg r_1.toInt64, rfl, ⟨by first | (simp [b_c, h_2]; done) | (simp [b_c, h_2]; done) | grind [b_c], by first | (simp [b_c, h_2]; done) | (simp [b_c, h_2]; done) | grind [b_c]⟩, by rw [ht]; exact hP9, va_K.moved hW.alike hK9, hD9⟩, hS.F ht⟩) hS.2.2 dL_about_24
end
section
/-! ===== the class's sums and the reference's walk are the same numbers ===== -/
theorem z_add {a b : Int64} (h1 : -9000000000000000000 ≤ a.toInt + b.toInt) (h2 : a.toInt + b.toInt ≤ 9000000000000000000) : (a + b).toInt = a.toInt + b.toInt := by
  rw [Int64.toInt_add, Int.bmod_def]; omega
theorem z_mx (x y : Int64) : (e_mx x y).toInt = if y.toInt < x.toInt then x.toInt else y.toInt := by
  unfold e_mx; rw [apply_ite Int64.toInt]; simp only [Int64.lt_iff_toInt_lt]
theorem z_mn (x y : Int64) : (e_mn x y).toInt = if y.toInt < x.toInt then y.toInt else x.toInt := by
  unfold e_mn; rw [apply_ite Int64.toInt]; simp only [Int64.lt_iff_toInt_lt]
/-- a number between two bounds, each of which may be missing -/
def zc (hl hh : Int32) (L M y : Int) : Int := if ¬ hh = 0 ∧ M < (if ¬ hl = 0 ∧ y < L then L else y) then M else (if ¬ hl = 0 ∧ y < L then L else y)
theorem z_on (E : Ef) (x : Int64) (h1 : -9000000000000000000 ≤ x.toInt + E.1.toInt) (h2 : x.toInt + E.1.toInt ≤ 9000000000000000000) :
    (e_on E x).toInt = zc E.2.1 E.2.2.2.1 E.2.2.1.toInt E.2.2.2.2.toInt (x.toInt + E.1.toInt) := by
  unfold e_on e_cl zc
  simp only [apply_ite Int64.toInt, Int64.lt_iff_toInt_lt, z_add h1 h2]
def okE (B : Int) (E : Ef) : Prop := (-B ≤ E.1.toInt ∧ E.1.toInt ≤ B) ∧ (-B ≤ E.2.2.1.toInt ∧ E.2.2.1.toInt ≤ B) ∧ (-B ≤ E.2.2.2.2.toInt ∧ E.2.2.2.2.toInt ≤ B) ∧ (E.2.1 = 0 ∨ E.2.1 = 1) ∧ (E.2.2.2.1 = 0 ∨ E.2.2.2.1 = 1) ∧ (¬ E.2.1 = 0 → ¬ E.2.2.2.1 = 0 → E.2.2.1.toInt ≤ E.2.2.2.2.toInt)
theorem okE_0 : okE 1000000000 e_0 := by
  have z : (0 : Int64).toInt = 0 := rfl
  refine ⟨?_, ?_, ?_, Or.inl rfl, Or.inl rfl, fun h => absurd rfl h⟩ <;> simp only [e_0, z] <;> omega
theorem okR_z {k : Int32} {v : Int64} (h : okR k v) : -1000000000 ≤ v.toInt ∧ v.toInt ≤ 1000000000 := by
  obtain ⟨-, -, h3, h4⟩ := h
  rw [Int64.lt_iff_toInt_lt] at h3 h4
  have e1 : (-1000000000 : Int64).toInt = -1000000000 := rfl
  have e2 : (1000000000 : Int64).toInt = 1000000000 := rfl
  omega
theorem okR_k {k : Int32} {v : Int64} (h : okR k v) : k = 0 ∨ k = 1 ∨ k = 2 ∨ k = 3 ∨ k = 4 := by
  obtain ⟨h1, h2, -, -⟩ := h
  obtain ⟨a, ha, rfl⟩ := nI_of h1
  rw [show (4 : Int32) = nI 4 from rfl, nI_ltI (by omega) ha] at h2
  have : a = 0 ∨ a = 1 ∨ a = 2 ∨ a = 3 ∨ a = 4 := by omega
  rcases this with rfl | rfl | rfl | rfl | rfl
  · exact Or.inl rfl
  · exact Or.inr (Or.inl rfl)
  · exact Or.inr (Or.inr (Or.inl rfl))
  · exact Or.inr (Or.inr (Or.inr (Or.inl rfl)))
  · exact Or.inr (Or.inr (Or.inr (Or.inr rfl)))
theorem okE_add {B : Int} {E : Ef} {v : Int64} (h : okE B E) (hB : 1000000000 ≤ B) (hM : B ≤ 300000000000) (hv : -1000000000 ≤ v.toInt ∧ v.toInt ≤ 1000000000) : okE (B + 1000000000) (e_add v E) := by
  obtain ⟨h1, h2, h3, h4, h5, h6⟩ := h
  have a1 := z_add (a := E.1) (b := v) (by omega) (by omega)
  have a2 := z_add (a := E.2.2.1) (b := v) (by omega) (by omega)
  have a3 := z_add (a := E.2.2.2.2) (b := v) (by omega) (by omega)
  refine ⟨?_, ?_, ?_, h4, h5, ?_⟩ <;> simp only [e_add, a1, a2, a3]
  · omega
  · omega
  · omega
  · intro q1 q2; have := h6 q1 q2; omega
theorem okE_gr {B : Int} {E : Ef} {v : Int64} (h : okE B E) (hB : 1000000000 ≤ B) (hv : -1000000000 ≤ v.toInt ∧ v.toInt ≤ 1000000000) : okE B (e_gr v E) := by
  obtain ⟨h1, h2, h3, h4, h5, h6⟩ := h
  refine ⟨h1, ?_, ?_, Or.inr rfl, h5, ?_⟩ <;> simp only [e_gr, apply_ite Int64.toInt, z_mx]
  · by_cases q : E.2.1 = 0 <;> simp only [q, if_true, if_false] <;> (repeat' split) <;> omega
  · split <;> omega
  · intro q1 q2
    by_cases q : E.2.1 = 0
    · simp only [q, if_true]; split <;> omega
    · have := h6 q q2; simp only [q, if_false]; split <;> split <;> omega
theorem okE_ls {B : Int} {E : Ef} {v : Int64} (h : okE B E) (hB : 1000000000 ≤ B) (hv : -1000000000 ≤ v.toInt ∧ v.toInt ≤ 1000000000) : okE B (e_ls v E) := by
  obtain ⟨h1, h2, h3, h4, h5, h6⟩ := h
  refine ⟨h1, ?_, ?_, h4, Or.inr rfl, ?_⟩ <;> simp only [e_ls, apply_ite Int64.toInt, z_mn]
  · split <;> omega
  · by_cases q : E.2.2.2.1 = 0 <;> simp only [q, if_true, if_false] <;> (repeat' split) <;> omega
  · intro q1 q2
    by_cases q : E.2.2.2.1 = 0
    · simp only [q, if_true]; split <;> omega
    · have := h6 q1 q; simp only [q, if_false]; split <;> split <;> omega
theorem okE_up {B C : Int} {E : Ef} (h : okE B E) (hBC : B ≤ C) : okE C E := by
  obtain ⟨h1, h2, h3, h4, h5, h6⟩ := h
  exact ⟨by omega, by omega, by omega, h4, h5, h6⟩
/-- the numbers of the reference behind a rule -/
theorem z_step {B : Int} {E : Ef} {k : Int32} {v x : Int64} (h : okE B E) (hB : 1000000000 ≤ B) (hM : B ≤ 300000000000) (hr : okR k v) (hx : -4000000000000000 ≤ x.toInt ∧ x.toInt ≤ 4000000000000000) :
    okE (B + 1000000000) (e_th k v E) ∧ e_on (e_th k v E) x = m_ap k v (e_on E x) := by
  have hv := okR_z hr
  have h0 := z_on E x (by have := h.1; omega) (by have := h.1; omega)
  have hon : -9000000000000000 ≤ (e_on E x).toInt ∧ (e_on E x).toInt ≤ 9000000000000000 := by
    rw [h0]; obtain ⟨h1, h2, h3, h4, h5, h6⟩ := h; unfold zc
    by_cases q1 : E.2.1 = 0 <;> by_cases q2 : E.2.2.2.1 = 0 <;> simp only [q1, q2, not_true_eq_false, not_false_eq_true, false_and, true_and, if_false] <;> (repeat' split) <;> omega
  rcases okR_k hr with rfl | rfl | rfl | rfl | rfl
  · exact ⟨okE_up h (by omega), by simp [e_th, m_ap]⟩
  · refine ⟨by simpa [e_th] using okE_add h hB hM hv, ?_⟩
    have e1 : e_th 1 v E = e_add v E := by simp [e_th]
    have e2 : m_ap 1 v (e_on E x) = e_on E x + v := by simp [m_ap]
    rw [e1, e2]
    apply Int64.toInt_inj.mp
    obtain ⟨h1, h2, h3, h4, h5, h6⟩ := h
    have a1 := z_add (a := E.1) (b := v) (by omega) (by omega)
    have a2 := z_add (a := E.2.2.1) (b := v) (by omega) (by omega)
    have a3 := z_add (a := E.2.2.2.2) (b := v) (by omega) (by omega)
    have b1 : (e_add v E).1.toInt = E.1.toInt + v.toInt := a1
    have b2 : (e_add v E).2.2.1.toInt = E.2.2.1.toInt + v.toInt := a2
    have b3 : (e_add v E).2.2.2.2.toInt = E.2.2.2.2.toInt + v.toInt := a3
    have b4 : (e_add v E).2.1 = E.2.1 := rfl
    have b5 : (e_add v E).2.2.2.1 = E.2.2.2.1 := rfl
    rw [z_on _ _ (by rw [b1]; omega) (by rw [b1]; omega), z_add (by omega) (by omega), h0, b1, b2, b3, b4, b5]
    unfold zc
    by_cases q1 : E.2.1 = 0 <;> by_cases q2 : E.2.2.2.1 = 0 <;> simp only [q1, q2, not_true_eq_false, not_false_eq_true, false_and, true_and, if_false] <;> (repeat' split) <;> omega
  · have e1 : e_th 2 v E = e_ls v (e_gr v E) := by simp [e_th]
    have e2 : m_ap 2 v (e_on E x) = v := by simp [m_ap]
    rw [e1, e2]
    refine ⟨okE_up (okE_ls (okE_gr h hB hv) hB hv) (by omega), ?_⟩
    apply Int64.toInt_inj.mp
    obtain ⟨h1, h2, h3, h4, h5, h6⟩ := h
    have b1 : (e_ls v (e_gr v E)).1 = E.1 := rfl
    have b4 : (e_ls v (e_gr v E)).2.1 = 1 := rfl
    have b5 : (e_ls v (e_gr v E)).2.2.2.1 = 1 := rfl
    have b2 : (e_ls v (e_gr v E)).2.2.1.toInt = v.toInt := by
      simp only [e_ls, e_gr, z_mn, apply_ite Int64.toInt, z_mx]
      by_cases q1 : E.2.1 = 0 <;> simp only [q1, if_true, if_false] <;> (repeat' split) <;> omega
    have b3 : (e_ls v (e_gr v E)).2.2.2.2.toInt = v.toInt := by
      simp only [e_ls, e_gr, z_mn, apply_ite Int64.toInt, z_mx]
      by_cases q1 : E.2.2.2.1 = 0 <;> simp only [q1, if_true, if_false, z_mn, z_mx] <;> (repeat' split) <;> omega
    rw [z_on _ _ (by rw [b1]; omega) (by rw [b1]; omega), b1, b2, b3, b4, b5]
    unfold zc
    have n1 : ¬ (1 : Int32) = 0 := by decide
    simp only [n1, not_false_eq_true, true_and]
    (repeat' split) <;> omega
  · have e1 : e_th 3 v E = e_gr v E := by simp [e_th]
    have e2 : m_ap 3 v (e_on E x) = if e_on E x < v then v else e_on E x := by simp [m_ap]
    rw [e1, e2]
    refine ⟨okE_up (okE_gr h hB hv) (by omega), ?_⟩
    apply Int64.toInt_inj.mp
    obtain ⟨h1, h2, h3, h4, h5, h6⟩ := h
    have b1 : (e_gr v E).1 = E.1 := rfl
    have b4 : (e_gr v E).2.1 = 1 := rfl
    have b5 : (e_gr v E).2.2.2.1 = E.2.2.2.1 := rfl
    rw [z_on _ _ (by rw [b1]; omega) (by rw [b1]; omega), b1, b4, b5, apply_ite Int64.toInt]
    simp only [Int64.lt_iff_toInt_lt, h0]
    simp only [e_gr, z_mx, apply_ite Int64.toInt]
    unfold zc
    have n1 : ¬ (1 : Int32) = 0 := by decide
    by_cases q1 : E.2.1 = 0
    · by_cases q2 : E.2.2.2.1 = 0 <;> simp only [q1, q2, n1, not_true_eq_false, not_false_eq_true, false_and, true_and, if_false, if_true] <;> (repeat' split) <;> omega
    · by_cases q2 : E.2.2.2.1 = 0
      · simp only [q1, q2, n1, not_true_eq_false, not_false_eq_true, false_and, true_and, if_false, if_true] <;> (repeat' split) <;> omega
      · have := h6 q1 q2
        simp only [q1, q2, n1, not_true_eq_false, not_false_eq_true, false_and, true_and, if_false, if_true] <;> (repeat' split) <;> omega
  · have e1 : e_th 4 v E = e_ls v E := by simp [e_th]
    have e2 : m_ap 4 v (e_on E x) = if v < e_on E x then v else e_on E x := by simp [m_ap]
    rw [e1, e2]
    refine ⟨okE_up (okE_ls h hB hv) (by omega), ?_⟩
    apply Int64.toInt_inj.mp
    obtain ⟨h1, h2, h3, h4, h5, h6⟩ := h
    have b1 : (e_ls v E).1 = E.1 := rfl
    have b4 : (e_ls v E).2.1 = E.2.1 := rfl
    have b5 : (e_ls v E).2.2.2.1 = 1 := rfl
    rw [z_on _ _ (by rw [b1]; omega) (by rw [b1]; omega), b1, b4, b5, apply_ite Int64.toInt]
    simp only [Int64.lt_iff_toInt_lt, h0]
    simp only [e_ls, z_mn, apply_ite Int64.toInt]
    unfold zc
    have n1 : ¬ (1 : Int32) = 0 := by decide
    by_cases q1 : E.2.1 = 0
    · by_cases q2 : E.2.2.2.1 = 0 <;> simp only [q1, q2, n1, not_true_eq_false, not_false_eq_true, false_and, true_and, if_false, if_true] <;> (repeat' split) <;> omega
    · by_cases q2 : E.2.2.2.1 = 0
      · simp only [q1, q2, n1, not_true_eq_false, not_false_eq_true, false_and, true_and, if_false, if_true] <;> (repeat' split) <;> omega
      · have := h6 q1 q2
        simp only [q1, q2, n1, not_true_eq_false, not_false_eq_true, false_and, true_and, if_false, if_true] <;> (repeat' split) <;> omega
/-- the whole row of rules is right -/
def okA (kf : Nat → Int32) (vf : Nat → Int64) : Prop := ∀ j : Nat, j < 256 → okR (kf j) (vf j)
theorem z_of {kf : Nat → Int32} {vf : Nat → Int64} (hA : okA kf vf) (a : Nat) : ∀ n : Nat, a + n ≤ 256 → okE (1000000000 * ((n : Int) + 1)) (e_of kf vf a n) ∧ ∀ x : Int64, (-4000000000000000 ≤ x.toInt ∧ x.toInt ≤ 4000000000000000) → e_on (e_of kf vf a n) x = m_of kf vf a x n := by
  intro n
  induction n with
  | zero =>
    intro _
    refine ⟨okE_0, fun x _ => ?_⟩
    show e_on e_0 x = x
    simp [e_on, e_cl, e_0]
  | succ n ih =>
    intro hn
    obtain ⟨h1, h2⟩ := ih (by omega)
    have hr := hA (a + n) (by omega)
    refine ⟨?_, fun x hx => ?_⟩
    · have := (z_step (x := 0) h1 (by omega) (by omega) hr (by decide)).1
      have e : (1000000000 * (((n + 1 : Nat) : Int) + 1)) = 1000000000 * ((n : Int) + 1) + 1000000000 := by omega
      rw [e]; exact this
    · show e_on (e_th (kf (a + n)) (vf (a + n)) (e_of kf vf a n)) x = m_ap (kf (a + n)) (vf (a + n)) (m_of kf vf a x n)
      rw [(z_step h1 (by omega) (by omega) hr hx).2, h2 x hx]
/-- for a part: the class's sum E, and what the reference makes of a number, in whole numbers -/
theorem z_W {kf : Nat → Int32} {vf : Nat → Int64} (hA : okA kf vf) {f t : Int32} (hok : okW f t) : okE 257000000000 (eW kf vf f t) ∧ (∀ x : Int64, (-4000000000000000 ≤ x.toInt ∧ x.toInt ≤ 4000000000000000) → e_on (eW kf vf f t) x = mW kf vf f t x) ∧
    (∀ x : Int64, (-4000000000000000 ≤ x.toInt ∧ x.toInt ≤ 4000000000000000) → (mW kf vf f t x).toInt = zc (eW kf vf f t).2.1 (eW kf vf f t).2.2.2.1 (eW kf vf f t).2.2.1.toInt (eW kf vf f t).2.2.2.2.toInt (x.toInt + (eW kf vf f t).1.toInt)) := by
  obtain ⟨a, n, han, -, -, hfa, hln⟩ := okW_nat hok
  obtain ⟨h1, h2⟩ := z_of hA a n han
  have e1 : eW kf vf f t = e_of kf vf a n := by show e_of kf vf _ _ = _; rw [hfa, hln]
  have e2 : ∀ x, mW kf vf f t x = m_of kf vf a x n := fun x => by show m_of kf vf _ x _ = _; rw [hfa, hln]
  have h3 : okE 257000000000 (eW kf vf f t) := by rw [e1]; exact okE_up h1 (by omega)
  have h4 : ∀ x : Int64, (-4000000000000000 ≤ x.toInt ∧ x.toInt ≤ 4000000000000000) → e_on (eW kf vf f t) x = mW kf vf f t x := fun x hx => by rw [e1, e2]; exact h2 x hx
  refine ⟨h3, h4, fun x hx => ?_⟩
  rw [← h4 x hx]
  exact z_on _ _ (by have := h3.1; omega) (by have := h3.1; omega)
theorem okX_z {x : Int64} (h : okX x) : -1000000000000 ≤ x.toInt ∧ x.toInt ≤ 1000000000000 := by
  obtain ⟨h3, h4⟩ := h
  rw [Int64.lt_iff_toInt_lt] at h3 h4
  have e1 : (-1000000000000 : Int64).toInt = -1000000000000 := rfl
  have e2 : (1000000000000 : Int64).toInt = 1000000000000 := rfl
  omega
/-- fold -/
theorem j_fold {kf : Nat → Int32} {vf : Nat → Int64} (hA : okA kf vf) {f t : Int32} {x : Int64} (hok : okW f t) (hx : okX x) : e_on (eW kf vf f t) x = mW kf vf f t x :=
  (z_W hA hok).2.1 x (by have := okX_z hx; omega)
theorem zc_3 (hl hh : Int32) (L M y : Int) : zc hl hh L M y = M ∨ zc hl hh L M y = L ∨ zc hl hh L M y = y := by
  by_cases h : ¬ hh = 0 ∧ M < (if ¬ hl = 0 ∧ y < L then L else y)
  · exact Or.inl (if_pos h)
  · have e : zc hl hh L M y = (if ¬ hl = 0 ∧ y < L then L else y) := if_neg h
    rw [e]
    by_cases h2 : ¬ hl = 0 ∧ y < L
    · exact Or.inr (Or.inl (if_pos h2))
    · exact Or.inr (Or.inr (if_neg h2))
/-- again -/
theorem j_again {kf : Nat → Int32} {vf : Nat → Int64} (hA : okA kf vf) {f t : Int32} {x : Int64} (hok : okW f t) (hx : okX x) : ∀ n : Nat, n ≤ 1000 → e_it (eW kf vf f t) x n = m_it kf vf f.toNatClampNeg (ln f t) x n ∧ (-1000000000000 - 257000000000 * (n : Int) ≤ (e_it (eW kf vf f t) x n).toInt ∧ (e_it (eW kf vf f t) x n).toInt ≤ 1000000000000 + 257000000000 * (n : Int)) := by
  obtain ⟨hE, h1, h2⟩ := z_W hA hok
  intro n
  induction n with
  | zero => intro _; have := okX_z hx; exact ⟨rfl, by show _ ≤ x.toInt ∧ x.toInt ≤ _; omega⟩
  | succ n ih =>
    intro hn
    obtain ⟨i1, i2⟩ := ih (by omega)
    have hy : -4000000000000000 ≤ (e_it (eW kf vf f t) x n).toInt ∧ (e_it (eW kf vf f t) x n).toInt ≤ 4000000000000000 := by omega
    have e1 : e_it (eW kf vf f t) x (n + 1) = mW kf vf f t (e_it (eW kf vf f t) x n) := h1 _ hy
    refine ⟨by rw [e1, i1]; rfl, ?_⟩
    rw [e1, h2 _ hy]
    have := zc_3 (eW kf vf f t).2.1 (eW kf vf f t).2.2.2.1 (eW kf vf f t).2.2.1.toInt (eW kf vf f t).2.2.2.2.toInt ((e_it (eW kf vf f t) x n).toInt + (eW kf vf f t).1.toInt)
    have := hE.2.1
    have := hE.2.2.1
    have := hE.1
    omega
/-! in whole numbers: what bounds and a shift do far away -/
theorem zc_lo {hl hh : Int32} {L M y : Int} (h : ¬ hl = 0) (hy : y < L) (hLM : ¬ hh = 0 → L ≤ M) : zc hl hh L M y = L := by
  unfold zc
  by_cases q2 : hh = 0
  · simp [h, hy, q2]
  · have := hLM q2
    simp only [h, q2, hy, not_false_eq_true, and_self, true_and, if_true]
    rw [if_neg (by omega)]
theorem zc_no {hl hh : Int32} {L M y : Int} (h1 : ¬ hl = 0 → L ≤ y) (h2 : ¬ hh = 0 → y ≤ M) : zc hl hh L M y = y := by
  unfold zc
  have e : (if ¬ hl = 0 ∧ y < L then L else y) = y := if_neg (fun h => by have := h1 h.1; omega)
  rw [e]
  exact if_neg (fun h => by have := h2 h.1; omega)
theorem zc_hi {hl hh : Int32} {L M y : Int} (h : ¬ hh = 0) (hy : M < y) (hL : ¬ hl = 0 → L ≤ y) : zc hl hh L M y = M := by
  unfold zc
  have e : (if ¬ hl = 0 ∧ y < L then L else y) = y := if_neg (fun h => by have := hL h.1; omega)
  rw [e]
  exact if_pos ⟨h, hy⟩
theorem far_m : (-1000000000000000 : Int64).toInt = -1000000000000000 := rfl
theorem far_p : (1000000000000000 : Int64).toInt = 1000000000000000 := rfl
theorem far_2m : (2 * (-1000000000000000) : Int64).toInt = -2000000000000000 := rfl
theorem far_2p : (2 * 1000000000000000 : Int64).toInt = 2000000000000000 := rfl
/-- least: the reference's far number and twice it come to one number if and only if there is a low bound, and that's it -/
theorem j_lo {kf : Nat → Int32} {vf : Nat → Int64} (hA : okA kf vf) {f t : Int32} (hok : okW f t) :
    (¬ (eW kf vf f t).2.1 = 0 → m_en kf vf f t (-1000000000000000) ∧ mW kf vf f t (-1000000000000000) = (eW kf vf f t).2.2.1) ∧
    ((eW kf vf f t).2.1 = 0 → ¬ m_en kf vf f t (-1000000000000000) ∧ (mW kf vf f t (-1000000000000000)).toInt = -1000000000000000 + (eW kf vf f t).1.toInt) := by
  obtain ⟨⟨h1, h2, h3, h4, h5, h6⟩, -, g⟩ := z_W hA hok
  have g1 := g (-1000000000000000) (by rw [far_m]; omega)
  have g2 := g (2 * (-1000000000000000)) (by rw [far_2m]; omega)
  rw [far_m] at g1
  rw [far_2m] at g2
  refine ⟨fun q => ?_, fun q => ?_⟩
  · rw [zc_lo q (by omega) (h6 q)] at g1 g2
    exact ⟨Int64.toInt_inj.mp (g1.trans g2.symm), Int64.toInt_inj.mp g1⟩
  · rw [zc_no (fun z => absurd q z) (fun _ => by omega)] at g1 g2
    exact ⟨fun z => by have : (mW kf vf f t (-1000000000000000)).toInt = (mW kf vf f t (2 * (-1000000000000000))).toInt := by rw [z]
                       omega, g1⟩
theorem j_hi {kf : Nat → Int32} {vf : Nat → Int64} (hA : okA kf vf) {f t : Int32} (hok : okW f t) :
    (¬ (eW kf vf f t).2.2.2.1 = 0 → m_en kf vf f t 1000000000000000 ∧ mW kf vf f t 1000000000000000 = (eW kf vf f t).2.2.2.2) ∧
    ((eW kf vf f t).2.2.2.1 = 0 → ¬ m_en kf vf f t 1000000000000000 ∧ (mW kf vf f t 1000000000000000).toInt = 1000000000000000 + (eW kf vf f t).1.toInt) := by
  obtain ⟨⟨h1, h2, h3, h4, h5, h6⟩, -, g⟩ := z_W hA hok
  have g1 := g 1000000000000000 (by rw [far_p]; omega)
  have g2 := g (2 * 1000000000000000) (by rw [far_2p]; omega)
  rw [far_p] at g1
  rw [far_2p] at g2
  refine ⟨fun q => ?_, fun q => ?_⟩
  · rw [zc_hi q (by omega) (fun _ => by omega)] at g1 g2
    exact ⟨Int64.toInt_inj.mp (g1.trans g2.symm), Int64.toInt_inj.mp g1⟩
  · rw [zc_no (fun _ => by omega) (fun z => absurd q z)] at g1 g2
    exact ⟨fun z => by have : (mW kf vf f t 1000000000000000).toInt = (mW kf vf f t (2 * 1000000000000000)).toInt := by rw [z]
                       omega, g1⟩
theorem j_least {kf : Nat → Int32} {vf : Nat → Int64} (hA : okA kf vf) (f t : Int32) : le_c kf vf f t = l_c kf vf f t (-1000000000000000) ∧ (okW f t ∧ ¬ (eW kf vf f t).2.1 = 0 → (eW kf vf f t).2.2.1 = mW kf vf f t (-1000000000000000)) := by
  refine ⟨?_, fun h => ((j_lo hA h.1).1 h.2).2.symm⟩
  unfold le_c l_c
  by_cases hok : okW f t
  · rw [if_pos hok, if_pos hok]
    by_cases q : (eW kf vf f t).2.1 = 0
    · rw [if_pos q, if_neg ((j_lo hA hok).2 q).1]
    · rw [if_neg q, if_pos ((j_lo hA hok).1 q).1]
  · rw [if_neg hok, if_neg hok]
theorem j_greatest {kf : Nat → Int32} {vf : Nat → Int64} (hA : okA kf vf) (f t : Int32) : ge_c kf vf f t = l_c kf vf f t 1000000000000000 ∧ (okW f t ∧ ¬ (eW kf vf f t).2.2.2.1 = 0 → (eW kf vf f t).2.2.2.2 = mW kf vf f t 1000000000000000) := by
  refine ⟨?_, fun h => ((j_hi hA h.1).1 h.2).2.symm⟩
  unfold ge_c l_c
  by_cases hok : okW f t
  · rw [if_pos hok, if_pos hok]
    by_cases q : (eW kf vf f t).2.2.2.1 = 0
    · rw [if_pos q, if_neg ((j_hi hA hok).2 q).1]
    · rw [if_neg q, if_pos ((j_hi hA hok).1 q).1]
  · rw [if_neg hok, if_neg hok]
end
section
/-! ===== fixed and about ===== -/
theorem x_sel {P A B C : Prop} [Decidable P] [Decidable A] [Decidable B] [Decidable C] {v p q : Int64} (h2 : P → A ∨ (¬ A ∧ ¬ B ∧ ¬ C)) (h0 : ¬ P → ¬ A ∧ ((B ∧ v = p) ∨ (¬ B ∧ C ∧ v = q))) :
    (if P then (2 : Int32) else 0) = (if A then 2 else if B then 0 else if C then 0 else 2) ∧ (¬ P → v = if B then p else q) := by
  by_cases hP : P
  · rw [if_pos hP]
    refine ⟨?_, fun h => absurd hP h⟩
    rcases h2 hP with a | ⟨a, b, c⟩
    · rw [if_pos a]
    · rw [if_neg a, if_neg b, if_neg c]
  · rw [if_neg hP]
    obtain ⟨a, b | ⟨b, c, d⟩⟩ := h0 hP
    · exact ⟨by rw [if_neg a, if_pos b.1], fun _ => by rw [if_pos b.1]; exact b.2⟩
    · exact ⟨by rw [if_neg a, if_neg b, if_pos c], fun _ => by rw [if_neg b]; exact d⟩
/-- in whole numbers, for E of a part: what the reference makes -/
theorem j_fix {kf : Nat → Int32} {vf : Nat → Int64} (hA : okA kf vf) {f t : Int32} (hok : okW f t) (w : Int32) (hw : w = 0 ∨ w = 1) :
    fe_c kf vf f t w = x_c kf vf f t (x_f w) ∧ (¬ e_fo (eW kf vf f t) w = 0 → e_fv (eW kf vf f t) w = x_v kf vf f t (x_f w)) := by
  obtain ⟨⟨h1, h2, h3, h4, h5, h6⟩, -, g⟩ := z_W hA hok
  have lo := j_lo hA hok
  have hi := j_hi hA hok
  have n1 : ¬ (1 : Int32) = 0 := by decide
  have z0 : (0 : Int64).toInt = 0 := rfl
  have nm : (-(-1000000000000000) : Int64) = 1000000000000000 := by decide
  -- the two candidates, and when they stay
  have sLo : ¬ (eW kf vf f t).2.1 = 0 → (x_t kf vf f t (-1000000000000000) ↔ zc (eW kf vf f t).2.1 (eW kf vf f t).2.2.2.1 (eW kf vf f t).2.2.1.toInt (eW kf vf f t).2.2.2.2.toInt ((eW kf vf f t).2.2.1.toInt + (eW kf vf f t).1.toInt) = (eW kf vf f t).2.2.1.toInt) := by
    intro q
    obtain ⟨e1, e2⟩ := lo.1 q
    have g1 := g (eW kf vf f t).2.2.1 (by omega)
    refine ⟨fun z => ?_, fun z => ⟨e1, ?_⟩⟩
    · have := z.2; rw [e2] at this; rw [← g1, this]
    · rw [e2]; exact Int64.toInt_inj.mp (g1.trans z)
  have sHi : ¬ (eW kf vf f t).2.2.2.1 = 0 → (x_t kf vf f t 1000000000000000 ↔ zc (eW kf vf f t).2.1 (eW kf vf f t).2.2.2.1 (eW kf vf f t).2.2.1.toInt (eW kf vf f t).2.2.2.2.toInt ((eW kf vf f t).2.2.2.2.toInt + (eW kf vf f t).1.toInt) = (eW kf vf f t).2.2.2.2.toInt) := by
    intro q
    obtain ⟨e1, e2⟩ := hi.1 q
    have g1 := g (eW kf vf f t).2.2.2.2 (by omega)
    refine ⟨fun z => ?_, fun z => ⟨e1, ?_⟩⟩
    · have := z.2; rw [e2] at this; rw [← g1, this]
    · rw [e2]; exact Int64.toInt_inj.mp (g1.trans z)
  have nLo : (eW kf vf f t).2.1 = 0 → ¬ x_t kf vf f t (-1000000000000000) := fun q z => (lo.2 q).1 z.1
  have nHi : (eW kf vf f t).2.2.2.1 = 0 → ¬ x_t kf vf f t 1000000000000000 := fun q z => (hi.2 q).1 z.1
  -- a far number never stays, but without a bound and a shift
  have fLo : mW kf vf f t (-1000000000000000) = -1000000000000000 ↔ (eW kf vf f t).2.1 = 0 ∧ (eW kf vf f t).1.toInt = 0 := by
    by_cases q : (eW kf vf f t).2.1 = 0
    · have := (lo.2 q).2
      refine ⟨fun z => ⟨q, ?_⟩, fun z => Int64.toInt_inj.mp ?_⟩
      · rw [z, far_m] at this; omega
      · rw [this, far_m]; omega
    · have := (lo.1 q).2
      refine ⟨fun z => ?_, fun z => absurd z.1 q⟩
      have e := congrArg Int64.toInt (this.symm.trans z); rw [far_m] at e; omega
  have fHi : mW kf vf f t 1000000000000000 = 1000000000000000 ↔ (eW kf vf f t).2.2.2.1 = 0 ∧ (eW kf vf f t).1.toInt = 0 := by
    by_cases q : (eW kf vf f t).2.2.2.1 = 0
    · have := (hi.2 q).2
      refine ⟨fun z => ⟨q, ?_⟩, fun z => Int64.toInt_inj.mp ?_⟩
      · rw [z, far_p] at this; omega
      · rw [this, far_p]; omega
    · have := (hi.1 q).2
      refine ⟨fun z => ?_, fun z => absurd z.1 q⟩
      have e := congrArg Int64.toInt (this.symm.trans z); rw [far_p] at e; omega
  have vLo : ¬ (eW kf vf f t).2.1 = 0 → mW kf vf f t (-1000000000000000) = (eW kf vf f t).2.2.1 := fun q => (lo.1 q).2
  have vHi : ¬ (eW kf vf f t).2.2.2.1 = 0 → mW kf vf f t 1000000000000000 = (eW kf vf f t).2.2.2.2 := fun q => (hi.1 q).2
  have s0 : (eW kf vf f t).1 = 0 ↔ (eW kf vf f t).1.toInt = 0 := by rw [← Int64.toInt_inj, z0]
  have s1 : 0 < (eW kf vf f t).1 ↔ 0 < (eW kf vf f t).1.toInt := by rw [Int64.lt_iff_toInt_lt, z0]
  have inj : ∀ a b : Int64, a.toInt = b.toInt → a = b := fun a b h => Int64.toInt_inj.mp h
  have nn : (eW kf vf f t).1.toInt = 0 ∨ 0 < (eW kf vf f t).1.toInt ∨ (eW kf vf f t).1.toInt < 0 := by omega
  unfold fe_c x_c x_v
  rw [if_pos hok, if_pos hok]
  rcases hw with rfl | rfl
  · -- the least one
    have xf : x_f 0 = -1000000000000000 := by simp [x_f]
    rw [xf, nm]
    rcases nn with q | q | q
    · have hst : e_st (eW kf vf f t) 0 = 0 := by unfold e_st; rw [if_pos (s0.mpr q)]
      have hfo : e_fo (eW kf vf f t) 0 = (eW kf vf f t).2.1 := by unfold e_fo; rw [hst, if_pos rfl]
      have hfv : e_fv (eW kf vf f t) 0 = (eW kf vf f t).2.2.1 := by unfold e_fv; rw [hst, if_pos rfl]
      rw [hfo, hfv]
      refine x_sel (fun p => Or.inl (fLo.mpr ⟨p, q⟩)) (fun p => ⟨fun z => p (fLo.mp z).1, Or.inl ⟨(sLo p).mpr ?_, (vLo p).symm⟩⟩)
      rw [zc_no (fun _ => by omega) (fun z => by have := h6 p z; omega)]; omega
    · have hst : e_st (eW kf vf f t) 0 = 1 := by unfold e_st; rw [if_neg (fun z => by have := s0.mp z; omega), if_pos (s1.mpr q)]
      have hfo : e_fo (eW kf vf f t) 0 = (eW kf vf f t).2.2.2.1 := by unfold e_fo; rw [hst, if_neg n1]
      have hfv : e_fv (eW kf vf f t) 0 = (eW kf vf f t).2.2.2.2 := by unfold e_fv; rw [hst, if_neg n1]
      rw [hfo, hfv]
      refine x_sel (fun p => Or.inr ⟨fun z => by have := (fLo.mp z).2; omega, fun z => ?_, nHi p⟩) (fun p => ⟨fun z => by have := (fLo.mp z).2; omega, ?_⟩)
      · by_cases u : (eW kf vf f t).2.1 = 0
        · exact nLo u z
        · have := (sLo u).mp z; rw [zc_no (fun _ => by omega) (fun y => absurd p y)] at this; omega
      · have tH : x_t kf vf f t 1000000000000000 := (sHi p).mpr (zc_hi p (by omega) (fun u => by have := h6 u p; omega))
        by_cases u : (eW kf vf f t).2.1 = 0
        · exact Or.inr ⟨nLo u, tH, (vHi p).symm⟩
        · have hLM := h6 u p
          by_cases y : (eW kf vf f t).2.2.1.toInt = (eW kf vf f t).2.2.2.2.toInt
          · refine Or.inl ⟨(sLo u).mpr ?_, ?_⟩
            · rw [zc_hi p (by omega) (fun _ => by omega)]; omega
            · rw [vLo u]; exact (inj _ _ y).symm
          · refine Or.inr ⟨fun z => ?_, tH, (vHi p).symm⟩
            have := (sLo u).mp z
            rcases Int.lt_or_le (eW kf vf f t).2.2.2.2.toInt ((eW kf vf f t).2.2.1.toInt + (eW kf vf f t).1.toInt) with r | r
            · rw [zc_hi p r (fun _ => by omega)] at this; omega
            · rw [zc_no (fun _ => by omega) (fun _ => r)] at this; omega
    · have hst : e_st (eW kf vf f t) 0 = 0 := by unfold e_st; rw [if_neg (fun z => by have := s0.mp z; omega), if_neg (fun z => by have := s1.mp z; omega)]
      have hfo : e_fo (eW kf vf f t) 0 = (eW kf vf f t).2.1 := by unfold e_fo; rw [hst, if_pos rfl]
      have hfv : e_fv (eW kf vf f t) 0 = (eW kf vf f t).2.2.1 := by unfold e_fv; rw [hst, if_pos rfl]
      rw [hfo, hfv]
      refine x_sel (fun p => Or.inr ⟨fun z => by have := (fLo.mp z).2; omega, nLo p, fun z => ?_⟩) (fun p => ⟨fun z => by have := (fLo.mp z).2; omega, Or.inl ⟨(sLo p).mpr (zc_lo p (by omega) (fun u => h6 p u)), (vLo p).symm⟩⟩)
      by_cases u : (eW kf vf f t).2.2.2.1 = 0
      · exact nHi u z
      · have := (sHi u).mp z; rw [zc_no (fun y => absurd p y) (fun _ => by omega)] at this; omega
  · -- the greatest one
    have xf : x_f 1 = 1000000000000000 := by simp [x_f]
    rw [xf]
    rcases nn with q | q | q
    · have hst : e_st (eW kf vf f t) 1 = 1 := by unfold e_st; rw [if_pos (s0.mpr q)]
      have hfo : e_fo (eW kf vf f t) 1 = (eW kf vf f t).2.2.2.1 := by unfold e_fo; rw [hst, if_neg n1]
      have hfv : e_fv (eW kf vf f t) 1 = (eW kf vf f t).2.2.2.2 := by unfold e_fv; rw [hst, if_neg n1]
      rw [hfo, hfv]
      refine x_sel (fun p => Or.inl (fHi.mpr ⟨p, q⟩)) (fun p => ⟨fun z => p (fHi.mp z).1, Or.inl ⟨(sHi p).mpr ?_, (vHi p).symm⟩⟩)
      rw [zc_no (fun z => by have := h6 z p; omega) (fun _ => by omega)]; omega
    · have hst : e_st (eW kf vf f t) 1 = 1 := by unfold e_st; rw [if_neg (fun z => by have := s0.mp z; omega), if_pos (s1.mpr q)]
      have hfo : e_fo (eW kf vf f t) 1 = (eW kf vf f t).2.2.2.1 := by unfold e_fo; rw [hst, if_neg n1]
      have hfv : e_fv (eW kf vf f t) 1 = (eW kf vf f t).2.2.2.2 := by unfold e_fv; rw [hst, if_neg n1]
      rw [hfo, hfv]
      refine x_sel (fun p => Or.inr ⟨fun z => by have := (fHi.mp z).2; omega, nHi p, fun z => ?_⟩) (fun p => ⟨fun z => by have := (fHi.mp z).2; omega, Or.inl ⟨(sHi p).mpr (zc_hi p (by omega) (fun u => by have := h6 u p; omega)), (vHi p).symm⟩⟩)
      by_cases u : (eW kf vf f t).2.1 = 0
      · exact nLo u z
      · have := (sLo u).mp z; rw [zc_no (fun _ => by omega) (fun y => absurd p y)] at this; omega
    · have hst : e_st (eW kf vf f t) 1 = 0 := by unfold e_st; rw [if_neg (fun z => by have := s0.mp z; omega), if_neg (fun z => by have := s1.mp z; omega)]
      have hfo : e_fo (eW kf vf f t) 1 = (eW kf vf f t).2.1 := by unfold e_fo; rw [hst, if_pos rfl]
      have hfv : e_fv (eW kf vf f t) 1 = (eW kf vf f t).2.2.1 := by unfold e_fv; rw [hst, if_pos rfl]
      rw [hfo, hfv]
      refine x_sel (fun p => Or.inr ⟨fun z => by have := (fHi.mp z).2; omega, fun z => ?_, nLo p⟩) (fun p => ⟨fun z => by have := (fHi.mp z).2; omega, ?_⟩)
      · by_cases u : (eW kf vf f t).2.2.2.1 = 0
        · exact nHi u z
        · have := (sHi u).mp z; rw [zc_no (fun y => absurd p y) (fun _ => by omega)] at this; omega
      · have tL : x_t kf vf f t (-1000000000000000) := (sLo p).mpr (zc_lo p (by omega) (fun u => h6 p u))
        by_cases u : (eW kf vf f t).2.2.2.1 = 0
        · exact Or.inr ⟨nHi u, tL, (vLo p).symm⟩
        · have hLM := h6 p u
          by_cases y : (eW kf vf f t).2.2.1.toInt = (eW kf vf f t).2.2.2.2.toInt
          · refine Or.inl ⟨(sHi u).mpr ?_, ?_⟩
            · rw [zc_lo p (by omega) (fun _ => hLM)]; omega
            · rw [vHi u]; exact inj _ _ y
          · refine Or.inr ⟨fun z => ?_, tL, (vLo p).symm⟩
            have := (sHi u).mp z
            rcases Int.lt_or_le ((eW kf vf f t).2.2.2.2.toInt + (eW kf vf f t).1.toInt) (eW kf vf f t).2.2.1.toInt with r | r
            · rw [zc_lo p r (fun _ => hLM)] at this; omega
            · rw [zc_no (fun _ => r) (fun _ => by omega)] at this; omega
theorem j_fixed {kf : Nat → Int32} {vf : Nat → Int64} (hA : okA kf vf) (f t w : Int32) (hw : w = 0 ∨ w = 1) : fe_c kf vf f t w = x_c kf vf f t (x_f w) ∧ (okW f t ∧ ¬ e_fo (eW kf vf f t) w = 0 → e_fv (eW kf vf f t) w = x_v kf vf f t (x_f w)) := by
  by_cases hok : okW f t
  · exact ⟨(j_fix hA hok w hw).1, fun h => (j_fix hA hok w hw).2 h.2⟩
  · exact ⟨by unfold fe_c x_c; rw [if_neg hok, if_neg hok], fun h => absurd h.1 hok⟩
theorem j_about {kf : Nat → Int32} {vf : Nat → Int64} (hA : okA kf vf) {f t w : Int32} (hok : okW f t) (hq : okQ w) : e_ab kf vf f t w = b_v kf vf f t w := by
  obtain ⟨⟨h1, h2, h3, h4, h5, h6⟩, -, g⟩ := z_W hA hok
  have lo := j_lo hA hok
  have hi := j_hi hA hok
  have z0 : (0 : Int64).toInt = 0 := rfl
  have hw : w = 0 ∨ w = 1 ∨ w = 2 := by
    obtain ⟨q1, q2⟩ := hq
    obtain ⟨a, ha, rfl⟩ := nI_of q1
    rw [show (2 : Int32) = nI 2 from rfl, nI_ltI (by omega) ha] at q2
    have : a = 0 ∨ a = 1 ∨ a = 2 := by omega
    rcases this with rfl | rfl | rfl
    · exact Or.inl rfl
    · exact Or.inr (Or.inl rfl)
    · exact Or.inr (Or.inr rfl)
  unfold e_ab b_v
  rcases hw with rfl | rfl | rfl
  · have e1 : ¬ (0 : Int32) = 1 := by decide
    simp only [e1, if_false, if_true]
    unfold e_sa
    have key : (¬ (eW kf vf f t).2.1 = 0 ∧ ¬ (eW kf vf f t).2.2.2.1 = 0 ∧ (eW kf vf f t).2.2.1 = (eW kf vf f t).2.2.2.2) ↔ mW kf vf f t (-1000000000000000) = mW kf vf f t 1000000000000000 := by
      by_cases q1 : (eW kf vf f t).2.1 = 0
      · refine ⟨fun z => absurd q1 z.1, fun z => ?_⟩
        have a := (lo.2 q1).2
        by_cases q2 : (eW kf vf f t).2.2.2.1 = 0
        · have b := (hi.2 q2).2; rw [z] at a; omega
        · have b := (hi.1 q2).2; rw [z, b] at a; omega
      · have a := (lo.1 q1).2
        by_cases q2 : (eW kf vf f t).2.2.2.1 = 0
        · refine ⟨fun z => absurd q2 z.2.1, fun z => ?_⟩
          have b := (hi.2 q2).2; rw [← z, a] at b; omega
        · have b := (hi.1 q2).2
          rw [a, b]
          exact ⟨fun z => z.2.2, fun z => ⟨q1, q2, z⟩⟩
    simp only [key]
  · have e1 : ¬ (1 : Int32) = 0 := by decide
    have e2 : ¬ (1 : Int32) = 2 := by decide
    simp only [e1, e2, if_false, if_true]
  · have e1 : ¬ (2 : Int32) = 1 := by decide
    have e2 : ¬ (2 : Int32) = 0 := by decide
    simp only [e1, e2, if_false, if_true]
    unfold e_id
    have s0 : (eW kf vf f t).1 = 0 ↔ (eW kf vf f t).1.toInt = 0 := by rw [← Int64.toInt_inj, z0]
    have key : ((eW kf vf f t).1 = 0 ∧ (eW kf vf f t).2.1 = 0 ∧ (eW kf vf f t).2.2.2.1 = 0) ↔ (mW kf vf f t (-1000000000000000) = -1000000000000000 ∧ mW kf vf f t 1000000000000000 = 1000000000000000) := by
      by_cases q1 : (eW kf vf f t).2.1 = 0
      · have a := (lo.2 q1).2
        by_cases q2 : (eW kf vf f t).2.2.2.1 = 0
        · have b := (hi.2 q2).2
          refine ⟨fun z => ⟨Int64.toInt_inj.mp ?_, Int64.toInt_inj.mp ?_⟩, fun z => ⟨s0.mpr ?_, q1, q2⟩⟩
          · have := s0.mp z.1; rw [a, far_m]; omega
          · have := s0.mp z.1; rw [b, far_p]; omega
          · rw [z.1, far_m] at a; omega
        · have b := (hi.1 q2).2
          refine ⟨fun z => absurd z.2.2 q2, fun z => ?_⟩
          have e := congrArg Int64.toInt (b.symm.trans z.2); rw [far_p] at e; omega
      · have a := (lo.1 q1).2
        refine ⟨fun z => absurd z.2.1 q1, fun z => ?_⟩
        have e := congrArg Int64.toInt (a.symm.trans z.1); rw [far_m] at e; omega
    simp only [key]
end
section
theorem zz_last : True := trivial
end
