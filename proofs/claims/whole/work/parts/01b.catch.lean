/-! ===== catching by a row of the method's own table, behind rows that name other classes (own proofs over the base library) ===== -/
section CA
/-- one row that holds the pc and whose class links: the object is taken, or the search goes on; the link is noted either way -/
theorem ca_row {Q : Handler → Pre} {E : CtlPost} {e : Env} {d : Bool} {acts : List Action} {s : State} {f : JFrame} {a : Addr} {x : ExceptionTableEntry} {t : List ExceptionTableEntry} {k : ClassId} {ce : Cell}
    (hx : covers x f.pc = true) (h0 : x.catchType ≠ 0) (hl : s.vm.ClassLinks e.platform f.method.cls x.catchType k) (hce : s.heap[a]? = some ce) (hv : ce.vm = .none)
    (h1 : ∃ q, s.vm.classes[ce.cls]? = some q) (h2 : ∃ q, s.vm.classes[k]? = some q) :
    wp (findHandler.go f a (x :: t)) Q E e d acts s ↔
      if s.vm.assignable ce.cls k = true then Q (.found x.handlerPc) d acts (s.setVm (s.vm.noted f.method.cls x.catchType (.cls k)))
      else wp (findHandler.go f a t) Q E e d acts (s.setVm (s.vm.noted f.method.cls x.catchType (.cls k))) := by
  simp only [covers] at hx
  obtain ⟨r1, r2⟩ := (resolveClass_links e.toSetting hl).op (op := VmOp.resolveClass f.method.cls x.catchType) rfl
  have al : s.vm.Alike (s.vm.noted f.method.cls x.catchType (.cls k)) := (Vm.Alike.refl s.vm).noted _ _ _
  obtain ⟨q1, e1⟩ := h1
  obtain ⟨q2, e2⟩ := h2
  obtain ⟨q3, e3, -⟩ := al.2.2 _ _ e1
  obtain ⟨q4, e4, -⟩ := al.2.2 _ _ e2
  have as := al.assignable ce.cls k
  have ho : ∀ z, ce.vm ≠ .statics z := fun z h => by rw [hv] at h; cases h
  cases hfit : s.vm.assignable ce.cls k <;> rw [hfit] at as <;> simp [findHandler.go, hx, h0, r1, r2, hce, ho, e3, e4, as, VmOp.dirties, VmOp.acts]
/-- the whole search: the rows 'pre' are passed, x takes it -/
theorem ca_go {e : Env} {s₀ : State} {f : JFrame} {a : Addr} {ce : Cell} (hv : ce.vm = .none) (hk0 : ∃ q, s₀.vm.classes[ce.cls]? = some q) {x : ExceptionTableEntry} {suf : List ExceptionTableEntry}
    (hx : covers x f.pc = true) (h0 : x.catchType ≠ 0) {k : ClassId} (hl : s₀.vm.ClassLinks e.platform f.method.cls x.catchType k) (hfit : s₀.vm.assignable ce.cls k = true) :
    ∀ (pre : List ExceptionTableEntry) (S : State), s₀.WarmedH S.vm → S.heap[a]? = some ce →
      (∀ z ∈ pre, covers z f.pc = false ∨ (z.catchType ≠ 0 ∧ ∃ k', s₀.vm.ClassLinks e.platform f.method.cls z.catchType k' ∧ s₀.vm.assignable ce.cls k' = false)) →
      ∃ vm', s₀.WarmedH vm' ∧ ∀ (Q : Handler → Pre) (E : CtlPost) (d : Bool) (acts : List Action), wp (findHandler.go f a (pre ++ x :: suf)) Q E e d acts S ↔ Q (.found x.handlerPc) d acts (S.setVm vm') := by
  obtain ⟨q0, hq0⟩ := hk0
  have row : ∀ (z : ExceptionTableEntry) (kz : ClassId) (S : State), s₀.WarmedH S.vm → s₀.vm.ClassLinks e.platform f.method.cls z.catchType kz →
      s₀.WarmedH (S.vm.noted f.method.cls z.catchType (.cls kz)) ∧ S.vm.ClassLinks e.platform f.method.cls z.catchType kz ∧ (∃ q, S.vm.classes[ce.cls]? = some q) ∧ (∃ q, S.vm.classes[kz]? = some q) ∧ S.vm.assignable ce.cls kz = s₀.vm.assignable ce.cls kz := by
    intro z kz S hW hz
    obtain ⟨dk, _, _, kt, hd, _, _, _, _, hkt, _, hopen⟩ := hz.here
    obtain ⟨q1, h1, -⟩ := hW.alike.2.2 _ _ hq0
    obtain ⟨q2, h2, -⟩ := hW.alike.2.2 _ _ hkt
    exact ⟨hW.noted hd hopen (State.rightAt_cls hz), hW.classLinks hz, ⟨q1, h1⟩, ⟨q2, h2⟩, hW.alike.assignable _ _⟩
  intro pre
  induction pre with
  | nil =>
    intro S hW hc _
    obtain ⟨w1, w2, w3, w4, w5⟩ := row x k S hW hl
    refine ⟨_, w1, fun Q E d acts => ?_⟩
    rw [List.nil_append, ca_row hx h0 w2 hc hv w3 w4, if_pos (w5.trans hfit)]
  | cons z zs ih =>
    intro S hW hc hp
    rcases hp z List.mem_cons_self with hn | ⟨hz0, kz, hz, hno⟩
    · obtain ⟨vm', w1, w2⟩ := ih S hW hc (fun y hy => hp y (List.mem_cons_of_mem _ hy))
      refine ⟨vm', w1, fun Q E d acts => ?_⟩
      rw [List.cons_append, Jvm.W.findHandler_go_skip hn]
      exact w2 Q E d acts
    · by_cases hcov : covers z f.pc = true
      · obtain ⟨v1, v2, v3, v4, v5⟩ := row z kz S hW hz
        obtain ⟨vm', w1, w2⟩ := ih (S.setVm (S.vm.noted f.method.cls z.catchType (.cls kz))) v1 hc (fun y hy => hp y (List.mem_cons_of_mem _ hy))
        refine ⟨vm', w1, fun Q E d acts => ?_⟩
        rw [List.cons_append, ca_row hcov hz0 v2 hc hv v3 v4, if_neg (by rw [v5, hno]; decide)]
        exact w2 Q E d acts
      · obtain ⟨vm', w1, w2⟩ := ih S hW hc (fun y hy => hp y (List.mem_cons_of_mem _ hy))
        refine ⟨vm', w1, fun Q E d acts => ?_⟩
        rw [List.cons_append, Jvm.W.findHandler_go_skip (by simpa using hcov)]
        exact w2 Q E d acts
end CA
section CB
variable {p : Program} {l : Launch} {e : Env} {R : Room} {s : State} {m : MethodId} {args : Array Value} {below : List Frame} {meth : Method} {c : Code} {H : Heap} {locs : List Loc} {cells slots : Nat} {Q : State → Prop}
variable {pc : Nat} {ls : Array Slot} {rest : List Value}
/-- caught by the row x of this method's table; the rows ahead don't take it -/
theorem vx_catch {own name : String} {E : String} {ce : Cell} {q : Addr} (hown : s.vm.findClass own = some m.cls) (pre : List ExceptionTableEntry) (x : ExceptionTableEntry) (suf : List ExceptionTableEntry) (hsplit : c.exceptionTable.toList = pre ++ x :: suf)
    (hpass : ∀ z ∈ pre, covers z pc = false ∨ (z.catchType ≠ 0 ∧ ∃ nm : String, (Cond.classLink own z.catchType nm).before args s = true ∧ va_Nc E nm s)) (hx : covers x pc = true) (h0 : x.catchType ≠ 0)
    (hlink : (Cond.classLink own x.catchType name).before args s = true) (hcast : (Cond.castable E name).before args s = true) (hcell : H[q]? = some ce) (hv : ce.vm = .none) (hcl : s.vm.findClass E = some ce.cls)
    (kk : W p l e R s m args below meth c H locs cells slots Q (F0 m x.handlerPc ls [.ref q])) : vx_W p l e R s m args below meth c H locs cells slots Q (F0 m pc ls rest) q := by
  intro T hT X
  have hpl : e.platform.magicAccessors = ({} : Platform).magicAccessors := by rw [X.admits.platform]
  obtain ⟨c3, c4, hc3, hc4, hasg⟩ := Cond.castable_spec hcast
  cases Option.some.inj (hc3.symm.trans hcl)
  obtain ⟨c5, hc5, hcl5⟩ := Cond.classLink_spec hown hlink e.platform hpl
  cases Option.some.inj (hc4.symm.trans hc5)
  have hk0 : ∃ q, s.vm.classes[ce.cls]? = some q := by obtain ⟨k9, h9, -⟩ := Vm.findClass_spec hcl; exact ⟨k9, h9⟩
  have hheap : ((T.setTop (F0 m pc ls rest)).pushFrame (.throwing q)).heap[q]? = some ce := by rw [Stand.throwing_heap, hT]; exact hcell
  have hvm : ((T.setTop (F0 m pc ls rest)).pushFrame (.throwing q)).vm = T.vm := Stand.throwing_vm T _ q
  obtain ⟨vm', hW', hq⟩ := ca_go (e := e) (s₀ := s) (f := F0 m pc ls rest) (a := q) (suf := suf) hv hk0 hx h0 hcl5 hasg pre ((T.setTop (F0 m pc ls rest)).pushFrame (.throwing q)) (by rw [hvm]; exact X.warmed) hheap
    (fun z hz => by
      rcases hpass z hz with h | ⟨hz0, nm, hl1, hn1⟩
      · exact Or.inl h
      · obtain ⟨c6, hc6, hcl6⟩ := Cond.classLink_spec hown hl1 e.platform hpl
        obtain ⟨a8, b8, h1, h2, h3⟩ := hn1
        cases Option.some.inj (h1.symm.trans hcl)
        cases Option.some.inj (h2.symm.trans hc6)
        exact Or.inr ⟨hz0, _, hcl6, h3⟩)
  obtain ⟨t, a1, b1⟩ := kk (T.setVm vm') hT (X.noted hW')
  refine ⟨t, ?_, b1⟩
  have hfind : ∀ (Q : Handler → Pre) (E : CtlPost) (d : Bool) (acts : List Action), wp (findHandler (F0 m pc ls rest) q) Q E e d acts ((T.setTop (F0 m pc ls rest)).pushFrame (.throwing q)) ↔ Q (.found x.handlerPc) d acts (((T.setTop (F0 m pc ls rest)).pushFrame (.throwing q)).setVm vm') := by
    intro Q E d acts
    rw [Jvm.W.findHandler_eq (meth := meth) (code := c) (by rw [hvm]; exact X.method') X.code, hsplit]
    exact hq Q E d acts
  have hat : At T (F0 m pc ls rest).method c below := X.here
  obtain ⟨hgo, hw⟩ := hat.throwing q
  refine Steps.head hgo hw ?_
  rw [stepThread_throwing (frames_entered hat.top _)]
  have hstep : (stepThrowing e ((T.setTop (F0 m pc ls rest)).pushFrame (.throwing q)) q (.java (F0 m pc ls rest) :: T.frames.tail)).1 = (((T.setTop (F0 m pc ls rest)).pushFrame (.throwing q)).setVm vm').setFrames (.java { (F0 m pc ls rest) with pc := x.handlerPc, stack := [.ref q] } :: T.frames.tail) := by
    simp only [stepThrowing, searchFrame, vmDo]
    generalize hr : Sem.go _ e false [] ((T.setTop (F0 m pc ls rest)).pushFrame (.throwing q)) = res
    obtain ⟨as, rfl, ha⟩ := Sem.eq_ok_of hr (a := Handler.found x.handlerPc) (s' := ((T.setTop (F0 m pc ls rest)).pushFrame (.throwing q)).setVm vm') (acts' := []) (by simp [hfind _ _ _ _])
    rfl
  rw [hstep]
  obtain ⟨g₀, hg⟩ := Option.isSome_iff_exists.mp hat.top
  obtain ⟨r, hr⟩ := State.topJava?_eq_some.mp hg
  have hr' : (T.setVm vm').frames = .java g₀ :: r := hr
  rw [State.setTop_of_frames _ hr'] at a1
  have e9 : ∀ (u : State) (F G : List Frame), ((u.setFrames F).setVm vm').setFrames G = (u.setVm vm').setFrames G := by
    intro u F G
    rw [show (u.setFrames F).setVm vm' = (u.setVm vm').setFrames F from rfl, State.setFrames_setFrames]
  rw [hr, List.tail_cons, State.pushFrame, e9, State.setTop_of_frames _ hr, e9]
  exact a1
end CB
