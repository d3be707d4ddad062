/-! ===== the law from its entry; the claim ===== -/
theorem lw_evw : ∀ w ∈ ev_ws, w ∈ lw_tbl := by decide +kernel
theorem lw_evt : ∀ q ∈ ev_tx, (Cond.stringRef RX1 q.1 q.2) ∈ lw_tbl := by decide +kernel
theorem lw_evx : ∀ q ∈ ev_tx, (Cond.exactly (.string RX1 q.1) "java/lang/String") ∈ flatC (Jvm.Cond.and given_1 narrow_1) := by decide +kernel
theorem lw_ev {s : State} {b : Nat} (hts0 : ∀ w ∈ lw_tbl, w.before #[Value.ref b] s = true) (hgv : (Jvm.Cond.and given_1 narrow_1).before #[Value.ref b] s = true) : ev s := by
  have hf := flat_of_before _ hgv
  refine ⟨fun w hw => va_Nw.of (ev_tabs w hw) (hts0 w (lw_evw w hw)), fun q hq => ?_, va_Nc.of (hf _ (by decide +kernel)), va_Nc.of (hf _ (by decide +kernel))⟩
  obtain ⟨a, c, cA, kA, q1, -⟩ := Cond.exactly_spec (args := #[Value.ref b]) (first := s) (o := none) (s := s) (idx := []) (t := .string RX1 q.1) (cls := "java/lang/String") (hf _ (lw_evx q hq))
  exact ⟨a, vk_R.of (hts0 _ (lw_evt q hq)) q1⟩
theorem lw_ez {s : State} {b : Nat} {A : Nat → Prop} (hts0 : ∀ w ∈ lw_tbl, w.before #[Value.ref b] s = true) (hgv : (Jvm.Cond.and given_1 narrow_1).before #[Value.ref b] s = true) (hA : ∀ a : Nat, a < s.heap.size → ¬ A a) : ez A s s.heap := by
  have hf := flat_of_before _ hgv
  exact ⟨vx_Zqof (hts0 _ (by decide +kernel)) (hts0 _ (by decide +kernel)) (hf _ (by decide +kernel)) hA, vx_Zqof (hts0 _ (by decide +kernel)) (hts0 _ (by decide +kernel)) (hf _ (by decide +kernel)) hA⟩
/-- the law's own end, with 1 on the stack, nothing written that was there before, its room as the claim has it -/
theorem lw_ret {p : Program} {l : Launch} {e : Env} {s : State} {m : MethodId} {below : List Frame} {meth : Method} {c : Code} {b : Nat} (hx : p.tables.exec = Jvm.exec) (hb : c.code = code) (hr : meth.sig.returnType = ret) (hlocks : meth.locks = false) {pc : Nat} {H : Heap} {ls : Array Slot} (hdg : decode code pc = .ok (.ireturn, 1)) : W p l e room_1 s m #[Value.ref b] below meth c H [] 601024 7293034 (lw_Z below #[Value.ref b] s) (F0 m pc ls [.int 1]) := by
  intro T hT X
  obtain ⟨fs, hret, hrun, hended, hW, hframe⟩ := X.leave (v := some (.int 1)) (hlocks := hlocks) (fun h => by rw [hr] at h; cases h)
  have hmeth' : T.vm.method? m = some meth := X.method'
  refine ⟨T.setFrames fs, ?_, .returned (some (.int 1)), hrun, hended, rfl, ⟨_, rfl⟩, hW, hframe⟩
  jvm_step X.here [X.here.top, hx, hb, hdg, hmeth', hr, ret, narrow_b1]
  (try refine ⟨rfl, ?_⟩); (try refine ⟨rfl, ?_⟩)
  first | (intro acts; rw [hret _ acts rfl rfl rfl]) | rw [hret _ _ rfl rfl rfl]
  exact Steps.refl _
/-- what holds at the law's entry: the machine, the code, the tables' words (any of lw_tbl by 'hts w (by decide +kernel)'), the script of L ints xs at the cell b, what the Statement gives of the start (any of its parts by flat_of_before) -/
def lw_At (p : Program) (s : State) (m : MethodId) (meth : Method) (c : Code) (b L : Nat) (xs : Nat → Int32) : Prop :=
  p.tables.exec = Jvm.exec ∧ c.code = code ∧ meth.sig.returnType = ret ∧ c.maxLocals = 8 ∧ s.vm.findClass R_law = some m.cls ∧ (∀ w ∈ lw_tbl, w.before #[Value.ref b] s = true) ∧ va_X b L xs s s.heap ∧ b < s.heap.size ∧ meth.locks = false ∧ (Jvm.Cond.and given_1 narrow_1).before #[Value.ref b] s = true
set_option maxRecDepth 20000 in
theorem kL_law_0 : ∀ w ∈ wsX10, w ∈ wsL_law := by decide +kernel
set_option maxRecDepth 20000 in
theorem kL_law_1 : (.classLink RL 8 RX1 : Cond) ∈ wsL_law := by decide +kernel
set_option maxRecDepth 20000 in
theorem kL_law_2 : (.instantiable RX1 2 : Cond) ∈ wsL_law := by decide +kernel
set_option maxRecDepth 20000 in
theorem kL_law_3 : (.initialized RX1 : Cond) ∈ wsL_law := by decide +kernel
set_option maxRecDepth 20000 in
theorem kL_law_4 : (.methodLink RL 50 yX1_init : Cond) ∈ wsL_law := by decide +kernel
set_option maxRecDepth 20000 in
theorem kL_law_5 : (.instanceMethod yX1_init : Cond) ∈ wsL_law := by decide +kernel
set_option maxRecDepth 20000 in
theorem kL_law_6 : ∀ w ∈ wsX20, w ∈ wsL_law := by decide +kernel
set_option maxRecDepth 20000 in
theorem kL_law_7 : (.classLink RL 51 RX2 : Cond) ∈ wsL_law := by decide +kernel
set_option maxRecDepth 20000 in
theorem kL_law_8 : (.instantiable RX2 3 : Cond) ∈ wsL_law := by decide +kernel
set_option maxRecDepth 20000 in
theorem kL_law_9 : (.initialized RX2 : Cond) ∈ wsL_law := by decide +kernel
set_option maxRecDepth 20000 in
theorem kL_law_10 : (.methodLink RL 53 yX2_init : Cond) ∈ wsL_law := by decide +kernel
set_option maxRecDepth 20000 in
theorem kL_law_11 : (.instanceMethod yX2_init : Cond) ∈ wsL_law := by decide +kernel
set_option maxRecDepth 20000 in
theorem kL_law_12 : (.arrayClass .long : Cond) ∈ wsL_law := by decide +kernel
set_option maxHeartbeats 4000000 in
set_option maxRecDepth 100000 in
/-- THE LAW, from its entry: for every script of at most 3072 ints it comes to its end with true -/
theorem whole_start {p : Program} {e : Env} {s : State} {m : MethodId} {below : List Frame} {meth : Method} {c : Code} (l : Launch) (hlt : l.stackTraces = false) {b L : Nat} {xs : Nat → Int32} (hL : L ≤ 3072) (C0 : lw_At p s m meth c b L xs) : W p l e room_1 s m #[Value.ref b] below meth c s.heap [] 0 0 (lw_Z below #[Value.ref b] s) (entryFrame m ([Value.ref b] : List Value).toArray 8) := by
  obtain ⟨hx, hb, hr, hml, hown, hts0, hX, hbl, hlocks, hgv⟩ := C0
  have hts : ∀ w ∈ wsL_law, w.before #[Value.ref b] s = true := fun w h => hts0 w (wsL_law_in w h)
  obtain ⟨A, hAd⟩ : ∃ A : Nat → Prop, A = fun q => s.heap.size ≤ q := ⟨_, rfl⟩
  have hA : ∀ q : Nat, s.heap.size ≤ q → A q := fun q h => by rw [hAd]; exact h
  have hfin : ∀ q : Nat, A q → s.heap.size ≤ q := fun q h => by rw [hAd] at h; exact h
  have hbA : ¬ A b := fun h => by have := hfin b h; omega
  have hE : ev s := lw_ev hts0 hgv
  have hZ : ez A s s.heap := lw_ez hts0 hgv (fun q hq h => by have := hfin q h; omega)
  obtain ⟨c0, iS0, hKn0⟩ := u_known (C := RX0) (T := TX0) (N := 5) (n := 5) hts0 inX0 (hts0 (.instantiable RX0 5) (by decide +kernel))
  obtain ⟨c1, iS1, hKn1⟩ := u_known (C := RX1) (T := TX1) (N := 2) (n := 2) hts0 inX1 (hts0 (.instantiable RX1 2) (by decide +kernel))
  obtain ⟨c2, iS2, hKn2⟩ := u_known (C := RX2) (T := TX2) (N := 3) (n := 3) hts0 inX2 (hts0 (.instantiable RX2 3) (by decide +kernel))
  obtain ⟨dC, dI, hKc⟩ : ∃ (dC : Nat → ClassId) (dI : Nat → Nat → Nat), ∀ (k : Nat) (q : vw_C), vwCl[k]? = some q → u_Kn s q.1 q.2.1 q.2.2 (dC k) (dI k) := by
    refine ⟨fun k => if k = 0 then c0 else if k = 1 then c1 else c2, fun k => if k = 0 then iS0 else if k = 1 then iS1 else iS2, ?_⟩
    intro k q hq
    match k, hq with
    | 0, hq => cases hq; exact hKn0
    | 1, hq => cases hq; exact hKn1
    | 2, hq => cases hq; exact hKn2
    | k + 3, hq => simp [vwCl] at hq
  have C9 : lw_C p l s m c b L xs A := ⟨hx, hb, hml, hown, hts, hX, hbl, hbA, hA, hlt, hE, hZ, hL⟩
  have hS : va_S A s.heap s.heap [] := va_S.rf
  have hK : va_K (dC, dI) vwCl [] s := ⟨hKc, fun k q h => by simp at h⟩
  have hP : va_P (dC, dI) vwCl [] s.heap := fun k q h => by simp at h
  have hD : va_D A [] := ⟨fun i j p q h => by simp at h, fun k q h => by simp at h⟩
  have hl := lv_entry ([.ref b]) (n := 8) (Nat.le_of_ble_eq_true rfl)
  rw [lg_entry_eq]
  generalize (lg_sl ([.ref b]) ++ List.replicate (8 - (lg_sl ([.ref b])).length) Slot.unset).toArray = ls at hl ⊢
  have hl : lv_has ls 8 [(0, .ref b)] := hl
  refine va_new (ci := 1) (fs := [.null, .null]) (C := RX1) (T := TX1) (N := 2) hx hb hts kL_law_0 tyX1 tyX1_ok hown (hts (.classLink RL 8 RX1) kL_law_1) (hts (.instantiable RX1 2) kL_law_2) (hts (.initialized RX1) kL_law_3) hK hP hD hS hA rfl (fun j hj => by rcases (show j = 0 ∨ j = 1 by omega) with rfl | rfl <;> rfl) (Nat.le_of_ble_eq_true rfl) (Nat.le_of_ble_eq_true rfl) dL_law_0 (fun q_1 H hP hD hS => ?_)
  have hP : va_P (dC, dI) vwCl [(q_1, .inr (1, [.null, .null]))] H := hP
  have hD : va_D A [(q_1, .inr (1, [.null, .null]))] := hD
  refine W.widen (k := 1) (n := 2) (Nat.le_of_ble_eq_true rfl) (Nat.le_of_ble_eq_true rfl) ?_
  refine lv_dup hx hb dL_law_3 rfl ?_
  have hPc := hP.sub (ws' := [(q_1, .inr (1, [.null, .null]))]) [0] rfl
  have hDc := hD.sub (ws' := [(q_1, .inr (1, [.null, .null]))]) [0] (by decide) rfl
  have hKc := hK.sub (tys' := []) [] rfl
  have hFc := va_free (wc := [(q_1, .inr (1, [.null, .null]))]) hD hS hA [0] rfl
  refine va_callv (va_runI (As := []) (rest := [.ref q_1]) ⟨hx, hb, hml, hown, hts⟩ (qX1_init l dC dI H.size q_1) (cwI 0 hts gL_law_X1_init rfl rfl rfl (hts (.initialized RX1) kL_law_3) (hts (.methodLink RL 50 yX1_init) kL_law_4) (hts (.instanceMethod yX1_init) kL_law_5) rfl (by decide +kernel) ⟨Nat.le_of_ble_eq_true rfl, Nat.le_of_ble_eq_true rfl⟩) ⟨fun a U g mk q => by obtain ⟨q0, q1, qP, qK, qD⟩ := q; exact ⟨q0, q1, qP, va_K.moved (u := U) (U := U.calling g mk a) (Vm.Alike.refl U.vm) qK, qD⟩, fun U hU hW => ⟨rfl, by rw [hU], by rw [hU]; exact hPc, va_K.moved hW.alike hKc, hDc.weaken (fun _ _ _ _ => trivial)⟩⟩ rfl rfl hl.1 rfl (lv_room (Nat.le_of_ble_eq_true rfl)) dL_law_4 ⟨Nat.le_of_ble_eq_true rfl, Nat.le_of_ble_eq_true rfl⟩) hS (fun q _ h => hFc q h) hFc (fun u t9 H1 locs ht hvm hw hB hz1 hk1 hS => ?_)
  obtain ⟨a_3, b_4, cI_5, cJ_6, hP1, hK1, hD1⟩ := hB
  rw [ht] at hP1
  have hK1 := va_K.moved hvm.symm hK1
  obtain ⟨hP, hD⟩ := va_join (wr := []) (w1 := [(q_1, .inr (1, [.ref a_3, .ref b_4])), (a_3, .inl (cI_5, 256, .inl (fun _ => 0))), (b_4, .inl (cJ_6, 256, .inr (.inl (fun _ => 0))))]) hP hD [0] [] rfl rfl (by decide) (by decide) hk1 hFc hP1 hD1
  have hK := (hK.sub (tys' := []) [] rfl).app hK1
  generalize H1 = H at hP hS ⊢
  have hP : va_P (dC, dI) vwCl [(q_1, .inr (1, [.ref a_3, .ref b_4])), (a_3, .inl (cI_5, 256, .inl (fun _ => 0))), (b_4, .inl (cJ_6, 256, .inr (.inl (fun _ => 0))))] H := hP
  have hD : va_D A [(q_1, .inr (1, [.ref a_3, .ref b_4])), (a_3, .inl (cI_5, 256, .inl (fun _ => 0))), (b_4, .inl (cJ_6, 256, .inr (.inl (fun _ => 0))))] := hD
  have hK : va_K (dC, dI) vwCl [(cI_5, .int), (cJ_6, .long)] s := hK
  refine W.widen (k := 3) (n := 514) (Nat.le_of_ble_eq_true rfl) (Nat.le_of_ble_eq_true rfl) ?_
  refine lv_astore_n (lv' := [(1, .ref q_1), (0, .ref b)]) hx hb dL_law_7 rfl hl (by decide) rfl (fun ls hl => ?_)
  refine va_new (ci := 2) (fs := [.int 0, .null, .null]) (C := RX2) (T := TX2) (N := 3) hx hb hts kL_law_6 tyX2 tyX2_ok hown (hts (.classLink RL 51 RX2) kL_law_7) (hts (.instantiable RX2 3) kL_law_8) (hts (.initialized RX2) kL_law_9) hK hP hD hS hA rfl (fun j hj => by rcases (show j = 0 ∨ j = 1 ∨ j = 2 by omega) with rfl | rfl | rfl <;> rfl) (Nat.le_of_ble_eq_true rfl) (Nat.le_of_ble_eq_true rfl) dL_law_8 (fun q_8 H hP hD hS => ?_)
  have hP : va_P (dC, dI) vwCl [(q_1, .inr (1, [.ref a_3, .ref b_4])), (a_3, .inl (cI_5, 256, .inl (fun _ => 0))), (b_4, .inl (cJ_6, 256, .inr (.inl (fun _ => 0)))), (q_8, .inr (2, [.int 0, .null, .null]))] H := hP
  have hD : va_D A [(q_1, .inr (1, [.ref a_3, .ref b_4])), (a_3, .inl (cI_5, 256, .inl (fun _ => 0))), (b_4, .inl (cJ_6, 256, .inr (.inl (fun _ => 0)))), (q_8, .inr (2, [.int 0, .null, .null]))] := hD
  refine W.widen (k := 4) (n := 517) (Nat.le_of_ble_eq_true rfl) (Nat.le_of_ble_eq_true rfl) ?_
  refine lv_dup hx hb dL_law_11 rfl ?_
  have hPc := hP.sub (ws' := [(q_8, .inr (2, [.int 0, .null, .null]))]) [3] rfl
  have hDc := hD.sub (ws' := [(q_8, .inr (2, [.int 0, .null, .null]))]) [3] (by decide) rfl
  have hKc := hK.sub (tys' := []) [] rfl
  have hFc := va_free (wc := [(q_8, .inr (2, [.int 0, .null, .null]))]) hD hS hA [3] rfl
  refine va_callv (va_runI (As := []) (rest := [.ref q_8]) ⟨hx, hb, hml, hown, hts⟩ (qX2_init l dC dI H.size q_8) (cwI 0 hts gL_law_X2_init rfl rfl rfl (hts (.initialized RX2) kL_law_9) (hts (.methodLink RL 53 yX2_init) kL_law_10) (hts (.instanceMethod yX2_init) kL_law_11) rfl (by decide +kernel) ⟨Nat.le_of_ble_eq_true rfl, Nat.le_of_ble_eq_true rfl⟩) ⟨fun a U g mk q => by obtain ⟨q0, q1, qP, qK, qD⟩ := q; exact ⟨q0, q1, qP, va_K.moved (u := U) (U := U.calling g mk a) (Vm.Alike.refl U.vm) qK, qD⟩, fun U hU hW => ⟨rfl, by rw [hU], by rw [hU]; exact hPc, va_K.moved hW.alike hKc, hDc.weaken (fun _ _ _ _ => trivial)⟩⟩ rfl rfl hl.1 rfl (lv_room (Nat.le_of_ble_eq_true rfl)) dL_law_12 ⟨Nat.le_of_ble_eq_true rfl, Nat.le_of_ble_eq_true rfl⟩) hS (fun q _ h => hFc q h) hFc (fun u t9 H1 locs ht hvm hw hB hz1 hk1 hS => ?_)
  obtain ⟨a_10, b_11, cI_12, cJ_13, hP1, hK1, hD1⟩ := hB
  rw [ht] at hP1
  have hK1 := va_K.moved hvm.symm hK1
  obtain ⟨hP, hD⟩ := va_join (wr := [(q_1, .inr (1, [.ref a_3, .ref b_4])), (a_3, .inl (cI_5, 256, .inl (fun _ => 0))), (b_4, .inl (cJ_6, 256, .inr (.inl (fun _ => 0))))]) (w1 := [(q_8, .inr (2, [.int 0, .ref a_10, .ref b_11])), (a_10, .inl (cI_12, 256, .inl (fun _ => 0))), (b_11, .inl (cJ_13, 256, .inr (.inl (fun _ => 0))))]) hP hD [3] [0, 1, 2] rfl rfl (by decide) (by decide) hk1 hFc hP1 hD1
  have hK := (hK.sub (tys' := [(cI_5, .int), (cJ_6, .long)]) [0, 1] rfl).app hK1
  generalize H1 = H at hP hS ⊢
  have hP : va_P (dC, dI) vwCl [(q_1, .inr (1, [.ref a_3, .ref b_4])), (a_3, .inl (cI_5, 256, .inl (fun _ => 0))), (b_4, .inl (cJ_6, 256, .inr (.inl (fun _ => 0)))), (q_8, .inr (2, [.int 0, .ref a_10, .ref b_11])), (a_10, .inl (cI_12, 256, .inl (fun _ => 0))), (b_11, .inl (cJ_13, 256, .inr (.inl (fun _ => 0))))] H := hP
  have hD : va_D A [(q_1, .inr (1, [.ref a_3, .ref b_4])), (a_3, .inl (cI_5, 256, .inl (fun _ => 0))), (b_4, .inl (cJ_6, 256, .inr (.inl (fun _ => 0)))), (q_8, .inr (2, [.int 0, .ref a_10, .ref b_11])), (a_10, .inl (cI_12, 256, .inl (fun _ => 0))), (b_11, .inl (cJ_13, 256, .inr (.inl (fun _ => 0))))] := hD
  have hK : va_K (dC, dI) vwCl [(cI_5, .int), (cJ_6, .long), (cI_12, .int), (cJ_13, .long)] s := hK
  refine W.widen (k := 6) (n := 1029) (Nat.le_of_ble_eq_true rfl) (Nat.le_of_ble_eq_true rfl) ?_
  refine lv_astore_n (lv' := [(2, .ref q_8), (1, .ref q_1), (0, .ref b)]) hx hb dL_law_15 rfl hl (by decide) rfl (fun ls hl => ?_)
  refine lv_iconst (v := 1) hx hb dL_law_16 (by decide) ?_
  refine va_newa (atype := .long) (n := 1) (ty := .long) (N' := 1) (a0 := (1, .inr (.inl (fun _ => 0)))) hx hb (hts (.arrayClass .long) kL_law_12) rfl hK hP hD hS hA (fun _ => rfl) nn_1 nc_1 nb1_long (Nat.le_of_ble_eq_true rfl) (Nat.le_of_ble_eq_true rfl) dL_law_17 (fun a_15 k_16 H hK hP hD hS => ?_)
  have hP : va_P (dC, dI) vwCl [(q_1, .inr (1, [.ref a_3, .ref b_4])), (a_3, .inl (cI_5, 256, .inl (fun _ => 0))), (b_4, .inl (cJ_6, 256, .inr (.inl (fun _ => 0)))), (q_8, .inr (2, [.int 0, .ref a_10, .ref b_11])), (a_10, .inl (cI_12, 256, .inl (fun _ => 0))), (b_11, .inl (cJ_13, 256, .inr (.inl (fun _ => 0)))), (a_15, .inl (k_16, 1, .inr (.inl (fun _ => 0))))] H := hP
  have hD : va_D A [(q_1, .inr (1, [.ref a_3, .ref b_4])), (a_3, .inl (cI_5, 256, .inl (fun _ => 0))), (b_4, .inl (cJ_6, 256, .inr (.inl (fun _ => 0)))), (q_8, .inr (2, [.int 0, .ref a_10, .ref b_11])), (a_10, .inl (cI_12, 256, .inl (fun _ => 0))), (b_11, .inl (cJ_13, 256, .inr (.inl (fun _ => 0)))), (a_15, .inl (k_16, 1, .inr (.inl (fun _ => 0))))] := hD
  have hK : va_K (dC, dI) vwCl [(cI_5, .int), (cJ_6, .long), (cI_12, .int), (cJ_13, .long), (k_16, .long)] s := hK
  refine W.widen (k := 7) (n := 1030) (Nat.le_of_ble_eq_true rfl) (Nat.le_of_ble_eq_true rfl) ?_
  refine lv_astore_n (lv' := [(3, .ref a_15), (2, .ref q_8), (1, .ref q_1), (0, .ref b)]) hx hb dL_law_19 rfl hl (by decide) rfl (fun ls hl => ?_)
  refine lv_iconst (v := 0) hx hb dL_law_20 (by decide) ?_
  refine lv_istore (lv' := [(4, .int 0), (3, .ref a_15), (2, .ref q_8), (1, .ref q_1), (0, .ref b)]) hx hb dL_law_21 hl (by decide) rfl (fun ls hl => ?_)
  have hK : va_K (dC, dI) vwCl [(cI_5, .int), (cJ_6, .long), (cI_12, .int), (cJ_13, .long), (k_16, .long)] s := hK.sub [0, 1, 2, 3, 4] rfl
  refine lp_lw (N := L / 6) (c0 := 7) (s0 := 1030) (dc := 5) (ds := 30) (α := (Nat → Int32) × (Nat → Int64) × (Nat → Int64) × Int32) (fun j z9 H locs ls => okA z9.1 z9.2.1 ∧ va_P (dC, dI) vwCl [(q_1, .inr (1, [.ref a_3, .ref b_4])), (a_3, .inl (cI_5, 256, .inl z9.1)), (b_4, .inl (cJ_6, 256, .inr (.inl z9.2.1))), (q_8, .inr (2, [.int z9.2.2.2, .ref a_10, .ref b_11])), (a_10, .inl (cI_12, 256, .inl z9.1)), (b_11, .inl (cJ_13, 256, .inr (.inl z9.2.1))), (a_15, .inl (k_16, 1, .inr (.inl z9.2.2.1)))] H ∧ va_D A [(q_1, .inr (1, [.ref a_3, .ref b_4])), (a_3, .inl (cI_5, 256, .inl z9.1)), (b_4, .inl (cJ_6, 256, .inr (.inl z9.2.1))), (q_8, .inr (2, [.int z9.2.2.2, .ref a_10, .ref b_11])), (a_10, .inl (cI_12, 256, .inl z9.1)), (b_11, .inl (cJ_13, 256, .inr (.inl z9.2.1))), (a_15, .inl (k_16, 1, .inr (.inl z9.2.2.1)))] ∧ va_S A s.heap H locs ∧ lv_has ls 8 [(0, .ref b), (1, .ref q_1), (2, .ref q_8), (3, .ref a_15), (4, .int (nI (6 * j)))]) ?_ (fun _ => 0, fun _ => 0, fun _ => 0, 0) H _ ls ⟨okA_0, hP.sub [0, 1, 2, 3, 4, 5, 6] rfl, hD.sub [0, 1, 2, 3, 4, 5, 6] (by decide) rfl, hS, lv_sub hl [4, 3, 2, 1, 0] rfl⟩
  intro j z9 H locs ls hj hI hnx
  obtain ⟨kf, vf, ov, er⟩ := z9
  dsimp only at hI
  obtain ⟨hR, hP, hD, hS, hl⟩ := hI
  have hj6 : 6 * j ≤ L := by omega
  refine lv_iload hx hb dL_law_23 (lv_at hl 4 rfl) ?_
  refine lv_aload_n hx hb dL_law_25 rfl (lv_at hl 0 rfl) ?_
  refine va_slen hx hb hX hbl hbA hS dL_law_26 ?_
  refine lv_bipush (v := 6) hx hb dL_law_27 (by decide) ?_
  refine lv_isub hx hb dL_law_29 ?_
  refine lv_icmp_gt (tgt := 885) hx hb dL_law_30 (by decide) (fun c_17 => ?_) (fun c_17 => ?_)
  · refine lv_iconst (v := 1) hx hb dL_law_885 (by decide) ?_
    refine va_forget (fun q hq => hfin _ (hS.2.2 q hq)) ?_
    refine W.widen (k := 601024) (n := 7293034) (by omega) (by omega) ?_
    exact lw_ret hx hb hr hlocks dL_law_886
  · have hn : 6 * j + 5 < L := by rw [lw_gt hL (by omega)] at c_17; omega
    have hjn : j < L / 6 := by omega
    have hrc : 7 + 5 * j + 5 ≤ room_1.cells := by show _ ≤ 601024; omega
    have hrs : 1030 + 30 * j + 30 ≤ room_1.slots := by show _ ≤ 7293034; omega
    have K : ∀ (kf : Nat → Int32) (vf ov : Nat → Int64) (er : Int32) (H : Heap) (locs : List Loc) (ls : Array Slot), okA kf vf → va_P (dC, dI) vwCl [(q_1, .inr (1, [.ref a_3, .ref b_4])), (a_3, .inl (cI_5, 256, .inl kf)), (b_4, .inl (cJ_6, 256, .inr (.inl vf))), (q_8, .inr (2, [.int er, .ref a_10, .ref b_11])), (a_10, .inl (cI_12, 256, .inl kf)), (b_11, .inl (cJ_13, 256, .inr (.inl vf))), (a_15, .inl (k_16, 1, .inr (.inl ov)))] H → va_D A [(q_1, .inr (1, [.ref a_3, .ref b_4])), (a_3, .inl (cI_5, 256, .inl kf)), (b_4, .inl (cJ_6, 256, .inr (.inl vf))), (q_8, .inr (2, [.int er, .ref a_10, .ref b_11])), (a_10, .inl (cI_12, 256, .inl kf)), (b_11, .inl (cJ_13, 256, .inr (.inl vf))), (a_15, .inl (k_16, 1, .inr (.inl ov)))] → va_S A s.heap H locs → lv_has ls 8 [(0, .ref b), (1, .ref q_1), (2, .ref q_8), (3, .ref a_15), (4, .int (nI (6 * j)))] → W p l e room_1 s m #[Value.ref b] below meth c H locs (7 + 5 * j + 5) (1030 + 30 * j + 30) (lw_Z below #[Value.ref b] s) (F0 m 879 ls []) := by
      intro kf vf ov er H locs ls hR hP hD hS hl
      refine lv_iinc (v := nI (6 * (j + 1))) (lv' := [(4, .int (nI (6 * (j + 1)))), (0, .ref b), (1, .ref q_1), (2, .ref q_8), (3, .ref a_15)]) hx hb dL_law_879 hl (k := 4) rfl (nI_add (6 * j) 6) (by decide) rfl (fun ls hl => ?_)
      refine lv_goto (tgt := 23) hx hb dL_law_882 (by decide) ?_
      refine W.widen (k := 7 + 5 * (j + 1)) (n := 1030 + 30 * (j + 1)) (by omega) (by omega) ?_
      exact hnx hjn (kf, vf, ov, er) H locs ls ⟨hR, hP, hD, hS, lv_sub hl [1, 2, 3, 4, 0] rfl⟩
    refine lv_aload_n hx hb dL_law_33 rfl (lv_at hl 0 rfl) ?_
    refine lv_iload hx hb dL_law_34 (lv_at hl 4 rfl) ?_
    refine lw_sld0 hx hb hX hbl hbA hS (by omega) hL dL_law_36 ?_
    refine lv_bipush (v := 15) hx hb dL_law_37 (by decide) ?_
    refine lv_iand hx hb dL_law_39 ?_
    refine lv_topi (fun g9 eg9 => ?_)
    by_cases d_0 : g9 = 0
    · refine lv_tableIn (off := 52) (tgt := 92) hx hb dL_law_40 (by rw [d_0]; decide) (by rw [d_0]; decide) (by rw [d_0]; rfl) (by decide) ?_
      exact law_set C9 hK hn hrc hrs hR hP hD hS hl K
    by_cases d_1 : g9 = 1
    · refine lv_tableIn (off := 144) (tgt := 184) hx hb dL_law_40 (by rw [d_1]; decide) (by rw [d_1]; decide) (by rw [d_1]; rfl) (by decide) ?_
      exact law_fill C9 hK hn hrc hrs hR hP hD hS hl K
    by_cases d_2 : g9 = 2
    · refine lv_tableIn (off := 248) (tgt := 288) hx hb dL_law_40 (by rw [d_2]; decide) (by rw [d_2]; decide) (by rw [d_2]; rfl) (by decide) ?_
      exact law_swap C9 hK hn hrc hrs hR hP hD hS hl K
    by_cases d_3 : g9 = 3
    · refine lv_tableIn (off := 296) (tgt := 336) hx hb dL_law_40 (by rw [d_3]; decide) (by rw [d_3]; decide) (by rw [d_3]; rfl) (by decide) ?_
      exact law_fold C9 hK hn hrc hrs hR hP hD hS hl K
    by_cases d_4 : g9 = 4
    · refine lv_tableIn (off := 407) (tgt := 447) hx hb dL_law_40 (by rw [d_4]; decide) (by rw [d_4]; decide) (by rw [d_4]; rfl) (by decide) ?_
      exact law_again C9 hK hn hrc hrs hR hP hD hS hl K
    by_cases d_5 : g9 = 5
    · refine lv_tableIn (off := 530) (tgt := 570) hx hb dL_law_40 (by rw [d_5]; decide) (by rw [d_5]; decide) (by rw [d_5]; rfl) (by decide) ?_
      exact law_least C9 hK hn hrc hrs hR hP hD hS hl K
    by_cases d_6 : g9 = 6
    · refine lv_tableIn (off := 597) (tgt := 637) hx hb dL_law_40 (by rw [d_6]; decide) (by rw [d_6]; decide) (by rw [d_6]; rfl) (by decide) ?_
      exact law_greatest C9 hK hn hrc hrs hR hP hD hS hl K
    by_cases d_7 : g9 = 7
    · refine lv_tableIn (off := 664) (tgt := 704) hx hb dL_law_40 (by rw [d_7]; decide) (by rw [d_7]; decide) (by rw [d_7]; rfl) (by decide) ?_
      exact law_fixed C9 hK hn hrc hrs hR hP hD hS hl K
    by_cases d_8 : g9 = 8
    · refine lv_tableIn (off := 759) (tgt := 799) hx hb dL_law_40 (by rw [d_8]; decide) (by rw [d_8]; decide) (by rw [d_8]; rfl) (by decide) ?_
      exact law_about C9 hK hn hrc hrs hR hP hD hS hl K
    refine lv_tableOut (tgt := 879) hx hb dL_law_40 (sw_0_8 d_0 d_1 d_2 d_3 d_4 d_5 d_6 d_7 d_8) (by decide) ?_
    refine W.widen (k := 7 + 5 * j + 5) (n := 1030 + 30 * j + 30) (by omega) (by omega) ?_
    exact K kf vf ov er H locs ls hR hP hD hS hl
