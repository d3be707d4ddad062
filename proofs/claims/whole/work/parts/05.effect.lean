/-! ===== FoldRow$Effect: its methods, one contract each ===== -/
theorem sw_1_4 {x : Int32} (h1 : ¬ x = 1) (h2 : ¬ x = 2) (h3 : ¬ x = 3) (h4 : ¬ x = 4) : x.toInt < 1 ∨ 4 < x.toInt := by
  have a1 := lv_neT h1 (a := 1) rfl
  have a2 := lv_neT h2 (a := 2) rfl
  have a3 := lv_neT h3 (a := 3) rfl
  have a4 := lv_neT h4 (a := 4) rfl
  omega
set_option maxRecDepth 20000 in
theorem kX0_init_0 : (.methodLink RX0 3 objectInit : Cond) ∈ wsX0_init := by decide +kernel
set_option maxRecDepth 20000 in
theorem kX0_init_1 : (.instanceMethod objectInit : Cond) ∈ wsX0_init := by decide +kernel
set_option maxRecDepth 20000 in
theorem kX0_init_2 : (.code objectInit ⟨#[0xb1]⟩ 1 none : Cond) ∈ wsX0_init := by decide +kernel
set_option maxRecDepth 20000 in
theorem kX0_init_3 : ∀ w ∈ wsX00, w ∈ wsX0_init := by decide +kernel
set_option maxRecDepth 20000 in
theorem kX0_init_4 : (.fieldLink RX0 9 "FoldRow$Effect" "shift" "J" : Cond) ∈ wsX0_init := by decide +kernel
set_option maxRecDepth 20000 in
theorem kX0_init_5 : (.fieldLink RX0 15 "FoldRow$Effect" "hasLow" "Z" : Cond) ∈ wsX0_init := by decide +kernel
set_option maxRecDepth 20000 in
theorem kX0_init_6 : (.fieldLink RX0 19 "FoldRow$Effect" "low" "J" : Cond) ∈ wsX0_init := by decide +kernel
set_option maxRecDepth 20000 in
theorem kX0_init_7 : (.fieldLink RX0 22 "FoldRow$Effect" "hasHigh" "Z" : Cond) ∈ wsX0_init := by decide +kernel
set_option maxRecDepth 20000 in
theorem kX0_init_8 : (.fieldLink RX0 25 "FoldRow$Effect" "high" "J" : Cond) ∈ wsX0_init := by decide +kernel
set_option maxHeartbeats 4000000 in
set_option maxRecDepth 100000 in
/-- Effect(): all is 0 -/
theorem qX0_init (l : Launch) (dC : Nat → ClassId) (dI : Nat → Nat → Nat) (sz : Nat) (h0 : Nat)  : Met l yX0_init wsX0_init ({ frames := 1, cells := 0, slots := 0, locals := 12 }) (va_Pc [.ref h0] (fun U => U.heap.size = sz ∧ va_P (dC, dI) vwCl [(h0, .inr (0, [.long 0, .int 0, .long 0, .int 0, .long 0]))] U.heap ∧ va_K (dC, dI) vwCl [] U ∧ va_D (fun _ => True) [(h0, .inr (0, [.long 0, .int 0, .long 0, .int 0, .long 0]))])) (va_Qv (fun (u : Ef) => u = e_0) (fun (u : Ef) (t9 : State) => va_P (dC, dI) vwCl [(h0, .inr (0, [.long u.1, .int u.2.1, .long u.2.2.1, .int u.2.2.2.1, .long u.2.2.2.2]))] t9.heap ∧ va_K (dC, dI) vwCl [] t9 ∧ va_D (va_A [(h0, .inr (0, [.long 0, .int 0, .long 0, .int 0, .long 0]))] sz) [(h0, .inr (0, [.long u.1, .int u.2.1, .long u.2.2.1, .int u.2.2.2.1, .long u.2.2.2.2]))]) (va_A [(h0, .inr (0, [.long 0, .int 0, .long 0, .int 0, .long 0]))] sz)) 0 0 (va_A [(h0, .inr (0, [.long 0, .int 0, .long 0, .int 0, .long 0]))] sz) := by
  refine Met.ofW (cc := cX0_init) (maxL := 1) (ret := none) (by decide) rfl ?_
  intro p e s m args below meth c s₁ B hml hv
  obtain ⟨rfl, hsz, hP, hK, hD0⟩ := hv
  have hx := B.exec
  have hb := B.bytes
  have hr := B.returns
  have hts := atoms_spec (ws := wsX0_init) B.pre
  have hown : s.vm.findClass RX0 = some m.cls := findClass_of_methodNamed B.named
  have hlocks := B.notSynchronized
  have hin : meth.name = "<init>" := (name_of_methodNamed B.named B.method).1
  subst hsz
  have hD := hD0.self (sz := s.heap.size)
  generalize hAe : va_A [(h0, .inr (0, [.long 0, .int 0, .long 0, .int 0, .long 0]))] s.heap.size = A at hD ⊢
  have hA : ∀ q : Nat, s.heap.size ≤ q → A q := fun q h => by rw [← hAe]; exact Or.inr h
  have hS : va_S A s.heap s.heap [] := va_S.rf
  have hP : va_P (dC, dI) vwCl [(h0, .inr (0, [.long 0, .int 0, .long 0, .int 0, .long 0]))] s.heap := hP
  have hl := lv_entry ([.ref h0]) (n := 1) (Nat.le_of_ble_eq_true rfl)
  rw [lg_entry_eq]
  generalize (lg_sl ([.ref h0]) ++ List.replicate (1 - (lg_sl ([.ref h0])).length) Slot.unset).toArray = ls at hl ⊢
  have hl : lv_has ls 1 [(0, .ref h0)] := hl
  refine lv_aload_n hx hb dX0_init_0 rfl (lv_at hl 0 rfl) ?_
  refine W.objInit hx hb hown (hts (.methodLink RX0 3 objectInit) kX0_init_0) (hts (.instanceMethod objectInit) kX0_init_1) (hts (.code objectInit ⟨#[0xb1]⟩ 1 none) kX0_init_2) rfl (by rw [hml]; exact hl.1) rfl dX0_init_1 (Nat.le_of_ble_eq_true rfl) (Nat.le_of_ble_eq_true rfl) ?_
  refine W.eq (g2 := F0 m 4 ls []) rfl ?_
  refine lv_aload_n hx hb dX0_init_4 rfl (lv_at hl 0 rfl) ?_
  refine lv_lconst (v := 0) hx hb dX0_init_5 (by decide) ?_
  refine va_put (D := (dC, dI)) (ci := 0) (v := .long 0) (ty := .long) (C := RX0) (T := TX0) (N := 5) hx hb hts kX0_init_3 tyX0 tyX0_ok nmX0 hown hK hP hD hS 0 rfl rfl 0 (by decide) (hts (.fieldLink RX0 9 "FoldRow$Effect" "shift" "J") kX0_init_4) (fun _ h9 => h9) rfl (by decide +kernel) rfl rfl (Nat.le_of_ble_eq_true rfl) dX0_init_6 (fun H locs hP hD hS => ?_)
  have hP : va_P (dC, dI) vwCl [(h0, .inr (0, [.long 0, .int 0, .long 0, .int 0, .long 0]))] H := hP
  have hD : va_D A [(h0, .inr (0, [.long 0, .int 0, .long 0, .int 0, .long 0]))] := hD
  refine lv_aload_n hx hb dX0_init_9 rfl (lv_at hl 0 rfl) ?_
  refine lv_iconst (v := 0) hx hb dX0_init_10 (by decide) ?_
  refine va_put (D := (dC, dI)) (ci := 0) (v := .int 0) (ty := .boolean) (C := RX0) (T := TX0) (N := 5) hx hb hts kX0_init_3 tyX0 tyX0_ok nmX0 hown hK hP hD hS 0 rfl rfl 1 (by decide) (hts (.fieldLink RX0 15 "FoldRow$Effect" "hasLow" "Z") kX0_init_5) (fun _ h9 => h9) rfl (by decide +kernel) rfl rfl (Nat.le_of_ble_eq_true rfl) dX0_init_11 (fun H locs hP hD hS => ?_)
  have hP : va_P (dC, dI) vwCl [(h0, .inr (0, [.long 0, .int 0, .long 0, .int 0, .long 0]))] H := hP
  have hD : va_D A [(h0, .inr (0, [.long 0, .int 0, .long 0, .int 0, .long 0]))] := hD
  refine lv_aload_n hx hb dX0_init_14 rfl (lv_at hl 0 rfl) ?_
  refine lv_lconst (v := 0) hx hb dX0_init_15 (by decide) ?_
  refine va_put (D := (dC, dI)) (ci := 0) (v := .long 0) (ty := .long) (C := RX0) (T := TX0) (N := 5) hx hb hts kX0_init_3 tyX0 tyX0_ok nmX0 hown hK hP hD hS 0 rfl rfl 2 (by decide) (hts (.fieldLink RX0 19 "FoldRow$Effect" "low" "J") kX0_init_6) (fun _ h9 => h9) rfl (by decide +kernel) rfl rfl (Nat.le_of_ble_eq_true rfl) dX0_init_16 (fun H locs hP hD hS => ?_)
  have hP : va_P (dC, dI) vwCl [(h0, .inr (0, [.long 0, .int 0, .long 0, .int 0, .long 0]))] H := hP
  have hD : va_D A [(h0, .inr (0, [.long 0, .int 0, .long 0, .int 0, .long 0]))] := hD
  refine lv_aload_n hx hb dX0_init_19 rfl (lv_at hl 0 rfl) ?_
  refine lv_iconst (v := 0) hx hb dX0_init_20 (by decide) ?_
  refine va_put (D := (dC, dI)) (ci := 0) (v := .int 0) (ty := .boolean) (C := RX0) (T := TX0) (N := 5) hx hb hts kX0_init_3 tyX0 tyX0_ok nmX0 hown hK hP hD hS 0 rfl rfl 3 (by decide) (hts (.fieldLink RX0 22 "FoldRow$Effect" "hasHigh" "Z") kX0_init_7) (fun _ h9 => h9) rfl (by decide +kernel) rfl rfl (Nat.le_of_ble_eq_true rfl) dX0_init_21 (fun H locs hP hD hS => ?_)
  have hP : va_P (dC, dI) vwCl [(h0, .inr (0, [.long 0, .int 0, .long 0, .int 0, .long 0]))] H := hP
  have hD : va_D A [(h0, .inr (0, [.long 0, .int 0, .long 0, .int 0, .long 0]))] := hD
  refine lv_aload_n hx hb dX0_init_24 rfl (lv_at hl 0 rfl) ?_
  refine lv_lconst (v := 0) hx hb dX0_init_25 (by decide) ?_
  refine va_put (D := (dC, dI)) (ci := 0) (v := .long 0) (ty := .long) (C := RX0) (T := TX0) (N := 5) hx hb hts kX0_init_3 tyX0 tyX0_ok nmX0 hown hK hP hD hS 0 rfl rfl 4 (by decide) (hts (.fieldLink RX0 25 "FoldRow$Effect" "high" "J") kX0_init_8) (fun _ h9 => h9) rfl (by decide +kernel) rfl rfl (Nat.le_of_ble_eq_true rfl) dX0_init_26 (fun H locs hP hD hS => ?_)
  have hP : va_P (dC, dI) vwCl [(h0, .inr (0, [.long 0, .int 0, .long 0, .int 0, .long 0]))] H := hP
  have hD : va_D A [(h0, .inr (0, [.long 0, .int 0, .long 0, .int 0, .long 0]))] := hD
  have hP9 := hP.sub (ws' := [(h0, .inr (0, [.long 0, .int 0, .long 0, .int 0, .long 0]))]) [0] rfl
  have hD9 := hD.sub (ws' := [(h0, .inr (0, [.long 0, .int 0, .long 0, .int 0, .long 0]))]) [0] (by decide) rfl
  have hK9 := hK.sub (tys' := []) [] rfl
  refine W.widen (k := 0) (n := 0) (Nat.le_of_ble_eq_true rfl) (Nat.le_of_ble_eq_true rfl) ?_
  exact W.vret hx hb hr (fun t9 ht hW => ⟨⟨(0, 0, 0, 0, 0), rfl, rfl, by rw [ht]; exact hP9, va_K.moved hW.alike hK9, hD9⟩, hS.F ht⟩) hS.2.2 dX0_init_29

set_option maxRecDepth 20000 in
theorem kX0_thenAdd_0 : ∀ w ∈ wsX00, w ∈ wsX0_thenAdd := by decide +kernel
set_option maxRecDepth 20000 in
theorem kX0_thenAdd_1 : (.fieldLink RX0 9 "FoldRow$Effect" "shift" "J" : Cond) ∈ wsX0_thenAdd := by decide +kernel
set_option maxRecDepth 20000 in
theorem kX0_thenAdd_2 : (.fieldLink RX0 19 "FoldRow$Effect" "low" "J" : Cond) ∈ wsX0_thenAdd := by decide +kernel
set_option maxRecDepth 20000 in
theorem kX0_thenAdd_3 : (.fieldLink RX0 25 "FoldRow$Effect" "high" "J" : Cond) ∈ wsX0_thenAdd := by decide +kernel
set_option maxHeartbeats 4000000 in
set_option maxRecDepth 100000 in
theorem qX0_thenAdd (l : Launch) (dC : Nat → ClassId) (dI : Nat → Nat → Nat) (sz : Nat) (h0 : Nat) (E : Ef) (v : Int64)  : Met l yX0_thenAdd wsX0_thenAdd ({ frames := 0, cells := 0, slots := 0, locals := 0 }) (va_Pc [.ref h0, .long v] (fun U => U.heap.size = sz ∧ va_P (dC, dI) vwCl [(h0, .inr (0, [.long E.1, .int E.2.1, .long E.2.2.1, .int E.2.2.2.1, .long E.2.2.2.2]))] U.heap ∧ va_K (dC, dI) vwCl [] U ∧ va_D (fun _ => True) [(h0, .inr (0, [.long E.1, .int E.2.1, .long E.2.2.1, .int E.2.2.2.1, .long E.2.2.2.2]))])) (va_Qv (fun (u : Ef) => u = e_add v E) (fun (u : Ef) (t9 : State) => va_P (dC, dI) vwCl [(h0, .inr (0, [.long u.1, .int u.2.1, .long u.2.2.1, .int u.2.2.2.1, .long u.2.2.2.2]))] t9.heap ∧ va_K (dC, dI) vwCl [] t9 ∧ va_D (va_A [(h0, .inr (0, [.long E.1, .int E.2.1, .long E.2.2.1, .int E.2.2.2.1, .long E.2.2.2.2]))] sz) [(h0, .inr (0, [.long u.1, .int u.2.1, .long u.2.2.1, .int u.2.2.2.1, .long u.2.2.2.2]))]) (va_A [(h0, .inr (0, [.long E.1, .int E.2.1, .long E.2.2.1, .int E.2.2.2.1, .long E.2.2.2.2]))] sz)) 0 0 (va_A [(h0, .inr (0, [.long E.1, .int E.2.1, .long E.2.2.1, .int E.2.2.2.1, .long E.2.2.2.2]))] sz) := by
  refine Met.ofW (cc := cX0_thenAdd) (maxL := 3) (ret := none) (by decide) rfl ?_
  intro p e s m args below meth c s₁ B hml hv
  obtain ⟨rfl, hsz, hP, hK, hD0⟩ := hv
  have hx := B.exec
  have hb := B.bytes
  have hr := B.returns
  have hts := atoms_spec (ws := wsX0_thenAdd) B.pre
  have hown : s.vm.findClass RX0 = some m.cls := findClass_of_methodNamed B.named
  have hlocks := B.notSynchronized
  subst hsz
  have hD := hD0.self (sz := s.heap.size)
  generalize hAe : va_A [(h0, .inr (0, [.long E.1, .int E.2.1, .long E.2.2.1, .int E.2.2.2.1, .long E.2.2.2.2]))] s.heap.size = A at hD ⊢
  have hA : ∀ q : Nat, s.heap.size ≤ q → A q := fun q h => by rw [← hAe]; exact Or.inr h
  have hS : va_S A s.heap s.heap [] := va_S.rf
  have hP : va_P (dC, dI) vwCl [(h0, .inr (0, [.long E.1, .int E.2.1, .long E.2.2.1, .int E.2.2.2.1, .long E.2.2.2.2]))] s.heap := hP
  have hl := lv_entry ([.ref h0, .long v]) (n := 3) (Nat.le_of_ble_eq_true rfl)
  rw [lg_entry_eq]
  generalize (lg_sl ([.ref h0, .long v]) ++ List.replicate (3 - (lg_sl ([.ref h0, .long v])).length) Slot.unset).toArray = ls at hl ⊢
  have hl : lv_has ls 3 [(0, .ref h0), (1, .long v)] := hl
  refine lv_aload_n hx hb dX0_thenAdd_0 rfl (lv_at hl 0 rfl) ?_
  refine lv_dup hx hb dX0_thenAdd_1 rfl ?_
  refine va_get (D := (dC, dI)) (ci := 0) (v := .long E.1) (C := RX0) (T := TX0) (N := 5) hx hb hts kX0_thenAdd_0 hown hK hP 0 rfl rfl 0 (by decide) (hts (.fieldLink RX0 9 "FoldRow$Effect" "shift" "J") kX0_thenAdd_1) (fun _ h9 => h9) rfl dX0_thenAdd_2 ?_
  refine lv_lload_n hx hb dX0_thenAdd_5 rfl (lv_at hl 1 rfl) ?_
  refine lv_ladd hx hb dX0_thenAdd_6 ?_
  refine lv_topl (fun v_1 ev_1 => ?_)
  refine va_put (D := (dC, dI)) (ci := 0) (v := .long v_1) (ty := .long) (C := RX0) (T := TX0) (N := 5) hx hb hts kX0_thenAdd_0 tyX0 tyX0_ok nmX0 hown hK hP hD hS 0 rfl rfl 0 (by decide) (hts (.fieldLink RX0 9 "FoldRow$Effect" "shift" "J") kX0_thenAdd_1) (fun _ h9 => h9) rfl (by decide +kernel) rfl rfl (Nat.le_of_ble_eq_true rfl) dX0_thenAdd_7 (fun H locs hP hD hS => ?_)
  have hP : va_P (dC, dI) vwCl [(h0, .inr (0, [.long v_1, .int E.2.1, .long E.2.2.1, .int E.2.2.2.1, .long E.2.2.2.2]))] H := hP
  have hD : va_D A [(h0, .inr (0, [.long v_1, .int E.2.1, .long E.2.2.1, .int E.2.2.2.1, .long E.2.2.2.2]))] := hD
  refine lv_aload_n hx hb dX0_thenAdd_10 rfl (lv_at hl 0 rfl) ?_
  refine lv_dup hx hb dX0_thenAdd_11 rfl ?_
  refine va_get (D := (dC, dI)) (ci := 0) (v := .long E.2.2.1) (C := RX0) (T := TX0) (N := 5) hx hb hts kX0_thenAdd_0 hown hK hP 0 rfl rfl 2 (by decide) (hts (.fieldLink RX0 19 "FoldRow$Effect" "low" "J") kX0_thenAdd_2) (fun _ h9 => h9) rfl dX0_thenAdd_12 ?_
  refine lv_lload_n hx hb dX0_thenAdd_15 rfl (lv_at hl 1 rfl) ?_
  refine lv_ladd hx hb dX0_thenAdd_16 ?_
  refine lv_topl (fun v_2 ev_2 => ?_)
  refine va_put (D := (dC, dI)) (ci := 0) (v := .long v_2) (ty := .long) (C := RX0) (T := TX0) (N := 5) hx hb hts kX0_thenAdd_0 tyX0 tyX0_ok nmX0 hown hK hP hD hS 0 rfl rfl 2 (by decide) (hts (.fieldLink RX0 19 "FoldRow$Effect" "low" "J") kX0_thenAdd_2) (fun _ h9 => h9) rfl (by decide +kernel) rfl rfl (Nat.le_of_ble_eq_true rfl) dX0_thenAdd_17 (fun H locs hP hD hS => ?_)
  have hP : va_P (dC, dI) vwCl [(h0, .inr (0, [.long v_1, .int E.2.1, .long v_2, .int E.2.2.2.1, .long E.2.2.2.2]))] H := hP
  have hD : va_D A [(h0, .inr (0, [.long v_1, .int E.2.1, .long v_2, .int E.2.2.2.1, .long E.2.2.2.2]))] := hD
  refine lv_aload_n hx hb dX0_thenAdd_20 rfl (lv_at hl 0 rfl) ?_
  refine lv_dup hx hb dX0_thenAdd_21 rfl ?_
  refine va_get (D := (dC, dI)) (ci := 0) (v := .long E.2.2.2.2) (C := RX0) (T := TX0) (N := 5) hx hb hts kX0_thenAdd_0 hown hK hP 0 rfl rfl 4 (by decide) (hts (.fieldLink RX0 25 "FoldRow$Effect" "high" "J") kX0_thenAdd_3) (fun _ h9 => h9) rfl dX0_thenAdd_22 ?_
  refine lv_lload_n hx hb dX0_thenAdd_25 rfl (lv_at hl 1 rfl) ?_
  refine lv_ladd hx hb dX0_thenAdd_26 ?_
  refine lv_topl (fun v_3 ev_3 => ?_)
  refine va_put (D := (dC, dI)) (ci := 0) (v := .long v_3) (ty := .long) (C := RX0) (T := TX0) (N := 5) hx hb hts kX0_thenAdd_0 tyX0 tyX0_ok nmX0 hown hK hP hD hS 0 rfl rfl 4 (by decide) (hts (.fieldLink RX0 25 "FoldRow$Effect" "high" "J") kX0_thenAdd_3) (fun _ h9 => h9) rfl (by decide +kernel) rfl rfl (Nat.le_of_ble_eq_true rfl) dX0_thenAdd_27 (fun H locs hP hD hS => ?_)
  have hP : va_P (dC, dI) vwCl [(h0, .inr (0, [.long v_1, .int E.2.1, .long v_2, .int E.2.2.2.1, .long v_3]))] H := hP
  have hD : va_D A [(h0, .inr (0, [.long v_1, .int E.2.1, .long v_2, .int E.2.2.2.1, .long v_3]))] := hD
  have hP9 := hP.sub (ws' := [(h0, .inr (0, [.long v_1, .int E.2.1, .long v_2, .int E.2.2.2.1, .long v_3]))]) [0] rfl
  have hD9 := hD.sub (ws' := [(h0, .inr (0, [.long v_1, .int E.2.1, .long v_2, .int E.2.2.2.1, .long v_3]))]) [0] (by decide) rfl
  have hK9 := hK.sub (tys' := []) [] rfl
  refine W.widen (k := 0) (n := 0) (Nat.le_of_ble_eq_true rfl) (Nat.le_of_ble_eq_true rfl) ?_
  exact W.vret hx hb hr (fun t9 ht hW => ⟨⟨(v_1, E.2.1, v_2, E.2.2.2.1, v_3), rfl, by first | (simp [e_add, ev_1, ev_2, ev_3]; done) | (simp [e_add, ← ev_1, ← ev_2, ← ev_3]; done) | grind [e_add], by rw [ht]; exact hP9, va_K.moved hW.alike hK9, hD9⟩, hS.F ht⟩) hS.2.2 dX0_thenAdd_30

set_option maxRecDepth 20000 in
theorem kX0_thenGreater_0 : ∀ w ∈ wsX00, w ∈ wsX0_thenGreater := by decide +kernel
set_option maxRecDepth 20000 in
theorem kX0_thenGreater_1 : (.fieldLink RX0 15 "FoldRow$Effect" "hasLow" "Z" : Cond) ∈ wsX0_thenGreater := by decide +kernel
set_option maxRecDepth 20000 in
theorem kX0_thenGreater_2 : (.fieldLink RX0 19 "FoldRow$Effect" "low" "J" : Cond) ∈ wsX0_thenGreater := by decide +kernel
set_option maxRecDepth 20000 in
theorem kX0_thenGreater_3 : (.fieldLink RX0 25 "FoldRow$Effect" "high" "J" : Cond) ∈ wsX0_thenGreater := by decide +kernel
set_option maxRecDepth 20000 in
theorem kX0_thenGreater_4 : (.methodLink RX0 38 Lib.MathLoose.max_long.x : Cond) ∈ wsX0_thenGreater := by decide +kernel
set_option maxRecDepth 20000 in
theorem kX0_thenGreater_5 : (.static Lib.MathLoose.max_long.x : Cond) ∈ wsX0_thenGreater := by decide +kernel
set_option maxRecDepth 20000 in
theorem kX0_thenGreater_6 : (.initialized "java/lang/Math" : Cond) ∈ wsX0_thenGreater := by decide +kernel
set_option maxRecDepth 20000 in
theorem kX0_thenGreater_7 : (.code Lib.MathLoose.max_long.x Lib.MathLoose.max_long.code 4 (some .long) : Cond) ∈ wsX0_thenGreater := by decide +kernel
set_option maxHeartbeats 4000000 in
set_option maxRecDepth 100000 in
theorem qX0_thenGreater (l : Launch) (dC : Nat → ClassId) (dI : Nat → Nat → Nat) (sz : Nat) (h0 : Nat) (E : Ef) (v : Int64)  : Met l yX0_thenGreater wsX0_thenGreater ({ frames := 1, cells := 0, slots := 0, locals := 32 }) (va_Pc [.ref h0, .long v] (fun U => U.heap.size = sz ∧ va_P (dC, dI) vwCl [(h0, .inr (0, [.long E.1, .int E.2.1, .long E.2.2.1, .int E.2.2.2.1, .long E.2.2.2.2]))] U.heap ∧ va_K (dC, dI) vwCl [] U ∧ va_D (fun _ => True) [(h0, .inr (0, [.long E.1, .int E.2.1, .long E.2.2.1, .int E.2.2.2.1, .long E.2.2.2.2]))])) (va_Qv (fun (u : Ef) => u = e_gr v E) (fun (u : Ef) (t9 : State) => va_P (dC, dI) vwCl [(h0, .inr (0, [.long u.1, .int u.2.1, .long u.2.2.1, .int u.2.2.2.1, .long u.2.2.2.2]))] t9.heap ∧ va_K (dC, dI) vwCl [] t9 ∧ va_D (va_A [(h0, .inr (0, [.long E.1, .int E.2.1, .long E.2.2.1, .int E.2.2.2.1, .long E.2.2.2.2]))] sz) [(h0, .inr (0, [.long u.1, .int u.2.1, .long u.2.2.1, .int u.2.2.2.1, .long u.2.2.2.2]))]) (va_A [(h0, .inr (0, [.long E.1, .int E.2.1, .long E.2.2.1, .int E.2.2.2.1, .long E.2.2.2.2]))] sz)) 0 0 (va_A [(h0, .inr (0, [.long E.1, .int E.2.1, .long E.2.2.1, .int E.2.2.2.1, .long E.2.2.2.2]))] sz) := by
  refine Met.ofW (cc := cX0_thenGreater) (maxL := 3) (ret := none) (by decide) rfl ?_
  intro p e s m args below meth c s₁ B hml hv
  obtain ⟨rfl, hsz, hP, hK, hD0⟩ := hv
  have hx := B.exec
  have hb := B.bytes
  have hr := B.returns
  have hts := atoms_spec (ws := wsX0_thenGreater) B.pre
  have hown : s.vm.findClass RX0 = some m.cls := findClass_of_methodNamed B.named
  have hlocks := B.notSynchronized
  subst hsz
  have hD := hD0.self (sz := s.heap.size)
  generalize hAe : va_A [(h0, .inr (0, [.long E.1, .int E.2.1, .long E.2.2.1, .int E.2.2.2.1, .long E.2.2.2.2]))] s.heap.size = A at hD ⊢
  have hA : ∀ q : Nat, s.heap.size ≤ q → A q := fun q h => by rw [← hAe]; exact Or.inr h
  have hS : va_S A s.heap s.heap [] := va_S.rf
  have hP : va_P (dC, dI) vwCl [(h0, .inr (0, [.long E.1, .int E.2.1, .long E.2.2.1, .int E.2.2.2.1, .long E.2.2.2.2]))] s.heap := hP
  have hl := lv_entry ([.ref h0, .long v]) (n := 3) (Nat.le_of_ble_eq_true rfl)
  rw [lg_entry_eq]
  generalize (lg_sl ([.ref h0, .long v]) ++ List.replicate (3 - (lg_sl ([.ref h0, .long v])).length) Slot.unset).toArray = ls at hl ⊢
  have hl : lv_has ls 3 [(0, .ref h0), (1, .long v)] := hl
  refine lv_aload_n hx hb dX0_thenGreater_0 rfl (lv_at hl 0 rfl) ?_
  refine lv_aload_n hx hb dX0_thenGreater_1 rfl (lv_at hl 0 rfl) ?_
  refine va_get (D := (dC, dI)) (ci := 0) (v := .int E.2.1) (C := RX0) (T := TX0) (N := 5) hx hb hts kX0_thenGreater_0 hown hK hP 0 rfl rfl 1 (by decide) (hts (.fieldLink RX0 15 "FoldRow$Effect" "hasLow" "Z") kX0_thenGreater_1) (fun _ h9 => h9) rfl dX0_thenGreater_2 ?_
  refine lv_if_eq (tgt := 19) hx hb dX0_thenGreater_5 (by decide) (fun c_1 => ?_) (fun c_1 => ?_)
  · refine lv_lload_n hx hb dX0_thenGreater_19 rfl (lv_at hl 1 rfl) ?_
    refine va_put (D := (dC, dI)) (ci := 0) (v := .long v) (ty := .long) (C := RX0) (T := TX0) (N := 5) hx hb hts kX0_thenGreater_0 tyX0 tyX0_ok nmX0 hown hK hP hD hS 0 rfl rfl 2 (by decide) (hts (.fieldLink RX0 19 "FoldRow$Effect" "low" "J") kX0_thenGreater_2) (fun _ h9 => h9) rfl (by decide +kernel) rfl rfl (Nat.le_of_ble_eq_true rfl) dX0_thenGreater_20 (fun H locs hP hD hS => ?_)
    have hP : va_P (dC, dI) vwCl [(h0, .inr (0, [.long E.1, .int E.2.1, .long v, .int E.2.2.2.1, .long E.2.2.2.2]))] H := hP
    have hD : va_D A [(h0, .inr (0, [.long E.1, .int E.2.1, .long v, .int E.2.2.2.1, .long E.2.2.2.2]))] := hD
    refine lv_aload_n hx hb dX0_thenGreater_23 rfl (lv_at hl 0 rfl) ?_
    refine lv_iconst (v := 1) hx hb dX0_thenGreater_24 (by decide) ?_
    refine va_put (D := (dC, dI)) (ci := 0) (v := .int 1) (ty := .boolean) (C := RX0) (T := TX0) (N := 5) hx hb hts kX0_thenGreater_0 tyX0 tyX0_ok nmX0 hown hK hP hD hS 0 rfl rfl 1 (by decide) (hts (.fieldLink RX0 15 "FoldRow$Effect" "hasLow" "Z") kX0_thenGreater_1) (fun _ h9 => h9) rfl (by decide +kernel) rfl rfl (Nat.le_of_ble_eq_true rfl) dX0_thenGreater_25 (fun H locs hP hD hS => ?_)
    have hP : va_P (dC, dI) vwCl [(h0, .inr (0, [.long E.1, .int 1, .long v, .int E.2.2.2.1, .long E.2.2.2.2]))] H := hP
    have hD : va_D A [(h0, .inr (0, [.long E.1, .int 1, .long v, .int E.2.2.2.1, .long E.2.2.2.2]))] := hD
    refine lv_aload_n hx hb dX0_thenGreater_28 rfl (lv_at hl 0 rfl) ?_
    refine lv_aload_n hx hb dX0_thenGreater_29 rfl (lv_at hl 0 rfl) ?_
    refine va_get (D := (dC, dI)) (ci := 0) (v := .long E.2.2.2.2) (C := RX0) (T := TX0) (N := 5) hx hb hts kX0_thenGreater_0 hown hK hP 0 rfl rfl 4 (by decide) (hts (.fieldLink RX0 25 "FoldRow$Effect" "high" "J") kX0_thenGreater_3) (fun _ h9 => h9) rfl dX0_thenGreater_30 ?_
    refine lv_lload_n hx hb dX0_thenGreater_33 rfl (lv_at hl 1 rfl) ?_
    refine va_mmax_long hx hb (by rw [hml]; exact hl.1.symm) hown (hts (.methodLink RX0 38 Lib.MathLoose.max_long.x) kX0_thenGreater_4) (hts (.static Lib.MathLoose.max_long.x) kX0_thenGreater_5) (hts (.initialized "java/lang/Math") kX0_thenGreater_6) (hts (.code Lib.MathLoose.max_long.x Lib.MathLoose.max_long.code 4 (some .long)) kX0_thenGreater_7) (Nat.le_of_ble_eq_true rfl) (Nat.le_of_ble_eq_true rfl) (Nat.zero_le _) (Nat.zero_le _) dX0_thenGreater_34 ?_
    refine lv_mx ?_
    refine lv_topl (fun v_2 ev_2 => ?_)
    refine va_put (D := (dC, dI)) (ci := 0) (v := .long v_2) (ty := .long) (C := RX0) (T := TX0) (N := 5) hx hb hts kX0_thenGreater_0 tyX0 tyX0_ok nmX0 hown hK hP hD hS 0 rfl rfl 4 (by decide) (hts (.fieldLink RX0 25 "FoldRow$Effect" "high" "J") kX0_thenGreater_3) (fun _ h9 => h9) rfl (by decide +kernel) rfl rfl (Nat.le_of_ble_eq_true rfl) dX0_thenGreater_37 (fun H locs hP hD hS => ?_)
    have hP : va_P (dC, dI) vwCl [(h0, .inr (0, [.long E.1, .int 1, .long v, .int E.2.2.2.1, .long v_2]))] H := hP
    have hD : va_D A [(h0, .inr (0, [.long E.1, .int 1, .long v, .int E.2.2.2.1, .long v_2]))] := hD
    have hP9 := hP.sub (ws' := [(h0, .inr (0, [.long E.1, .int 1, .long v, .int E.2.2.2.1, .long v_2]))]) [0] rfl
    have hD9 := hD.sub (ws' := [(h0, .inr (0, [.long E.1, .int 1, .long v, .int E.2.2.2.1, .long v_2]))]) [0] (by decide) rfl
    have hK9 := hK.sub (tys' := []) [] rfl
    refine W.widen (k := 0) (n := 0) (Nat.le_of_ble_eq_true rfl) (Nat.le_of_ble_eq_true rfl) ?_
    exact W.vret hx hb hr (fun t9 ht hW => ⟨⟨(E.1, 1, v, E.2.2.2.1, v_2), rfl, by first | (simp [e_gr, c_1, ev_2]; done) | (simp [e_gr, ← ev_2, c_1]; done) | grind [e_gr], by rw [ht]; exact hP9, va_K.moved hW.alike hK9, hD9⟩, hS.F ht⟩) hS.2.2 dX0_thenGreater_40
  · refine lv_aload_n hx hb dX0_thenGreater_8 rfl (lv_at hl 0 rfl) ?_
    refine va_get (D := (dC, dI)) (ci := 0) (v := .long E.2.2.1) (C := RX0) (T := TX0) (N := 5) hx hb hts kX0_thenGreater_0 hown hK hP 0 rfl rfl 2 (by decide) (hts (.fieldLink RX0 19 "FoldRow$Effect" "low" "J") kX0_thenGreater_2) (fun _ h9 => h9) rfl dX0_thenGreater_9 ?_
    refine lv_lload_n hx hb dX0_thenGreater_12 rfl (lv_at hl 1 rfl) ?_
    refine va_mmax_long hx hb (by rw [hml]; exact hl.1.symm) hown (hts (.methodLink RX0 38 Lib.MathLoose.max_long.x) kX0_thenGreater_4) (hts (.static Lib.MathLoose.max_long.x) kX0_thenGreater_5) (hts (.initialized "java/lang/Math") kX0_thenGreater_6) (hts (.code Lib.MathLoose.max_long.x Lib.MathLoose.max_long.code 4 (some .long)) kX0_thenGreater_7) (Nat.le_of_ble_eq_true rfl) (Nat.le_of_ble_eq_true rfl) (Nat.zero_le _) (Nat.zero_le _) dX0_thenGreater_13 ?_
    refine lv_mx ?_
    refine lv_topl (fun v_3 ev_3 => ?_)
    refine lv_goto (tgt := 20) hx hb dX0_thenGreater_16 (by decide) ?_
    refine va_put (D := (dC, dI)) (ci := 0) (v := .long v_3) (ty := .long) (C := RX0) (T := TX0) (N := 5) hx hb hts kX0_thenGreater_0 tyX0 tyX0_ok nmX0 hown hK hP hD hS 0 rfl rfl 2 (by decide) (hts (.fieldLink RX0 19 "FoldRow$Effect" "low" "J") kX0_thenGreater_2) (fun _ h9 => h9) rfl (by decide +kernel) rfl rfl (Nat.le_of_ble_eq_true rfl) dX0_thenGreater_20 (fun H locs hP hD hS => ?_)
    have hP : va_P (dC, dI) vwCl [(h0, .inr (0, [.long E.1, .int E.2.1, .long v_3, .int E.2.2.2.1, .long E.2.2.2.2]))] H := hP
    have hD : va_D A [(h0, .inr (0, [.long E.1, .int E.2.1, .long v_3, .int E.2.2.2.1, .long E.2.2.2.2]))] := hD
    refine lv_aload_n hx hb dX0_thenGreater_23 rfl (lv_at hl 0 rfl) ?_
    refine lv_iconst (v := 1) hx hb dX0_thenGreater_24 (by decide) ?_
    refine va_put (D := (dC, dI)) (ci := 0) (v := .int 1) (ty := .boolean) (C := RX0) (T := TX0) (N := 5) hx hb hts kX0_thenGreater_0 tyX0 tyX0_ok nmX0 hown hK hP hD hS 0 rfl rfl 1 (by decide) (hts (.fieldLink RX0 15 "FoldRow$Effect" "hasLow" "Z") kX0_thenGreater_1) (fun _ h9 => h9) rfl (by decide +kernel) rfl rfl (Nat.le_of_ble_eq_true rfl) dX0_thenGreater_25 (fun H locs hP hD hS => ?_)
    have hP : va_P (dC, dI) vwCl [(h0, .inr (0, [.long E.1, .int 1, .long v_3, .int E.2.2.2.1, .long E.2.2.2.2]))] H := hP
    have hD : va_D A [(h0, .inr (0, [.long E.1, .int 1, .long v_3, .int E.2.2.2.1, .long E.2.2.2.2]))] := hD
    refine lv_aload_n hx hb dX0_thenGreater_28 rfl (lv_at hl 0 rfl) ?_
    refine lv_aload_n hx hb dX0_thenGreater_29 rfl (lv_at hl 0 rfl) ?_
    refine va_get (D := (dC, dI)) (ci := 0) (v := .long E.2.2.2.2) (C := RX0) (T := TX0) (N := 5) hx hb hts kX0_thenGreater_0 hown hK hP 0 rfl rfl 4 (by decide) (hts (.fieldLink RX0 25 "FoldRow$Effect" "high" "J") kX0_thenGreater_3) (fun _ h9 => h9) rfl dX0_thenGreater_30 ?_
    refine lv_lload_n hx hb dX0_thenGreater_33 rfl (lv_at hl 1 rfl) ?_
    refine va_mmax_long hx hb (by rw [hml]; exact hl.1.symm) hown (hts (.methodLink RX0 38 Lib.MathLoose.max_long.x) kX0_thenGreater_4) (hts (.static Lib.MathLoose.max_long.x) kX0_thenGreater_5) (hts (.initialized "java/lang/Math") kX0_thenGreater_6) (hts (.code Lib.MathLoose.max_long.x Lib.MathLoose.max_long.code 4 (some .long)) kX0_thenGreater_7) (Nat.le_of_ble_eq_true rfl) (Nat.le_of_ble_eq_true rfl) (Nat.zero_le _) (Nat.zero_le _) dX0_thenGreater_34 ?_
    refine lv_mx ?_
    refine lv_topl (fun v_4 ev_4 => ?_)
    refine va_put (D := (dC, dI)) (ci := 0) (v := .long v_4) (ty := .long) (C := RX0) (T := TX0) (N := 5) hx hb hts kX0_thenGreater_0 tyX0 tyX0_ok nmX0 hown hK hP hD hS 0 rfl rfl 4 (by decide) (hts (.fieldLink RX0 25 "FoldRow$Effect" "high" "J") kX0_thenGreater_3) (fun _ h9 => h9) rfl (by decide +kernel) rfl rfl (Nat.le_of_ble_eq_true rfl) dX0_thenGreater_37 (fun H locs hP hD hS => ?_)
    have hP : va_P (dC, dI) vwCl [(h0, .inr (0, [.long E.1, .int 1, .long v_3, .int E.2.2.2.1, .long v_4]))] H := hP
    have hD : va_D A [(h0, .inr (0, [.long E.1, .int 1, .long v_3, .int E.2.2.2.1, .long v_4]))] := hD
    have hP9 := hP.sub (ws' := [(h0, .inr (0, [.long E.1, .int 1, .long v_3, .int E.2.2.2.1, .long v_4]))]) [0] rfl
    have hD9 := hD.sub (ws' := [(h0, .inr (0, [.long E.1, .int 1, .long v_3, .int E.2.2.2.1, .long v_4]))]) [0] (by decide) rfl
    have hK9 := hK.sub (tys' := []) [] rfl
    refine W.widen (k := 0) (n := 0) (Nat.le_of_ble_eq_true rfl) (Nat.le_of_ble_eq_true rfl) ?_
    exact W.vret hx hb hr (fun t9 ht hW => ⟨⟨(E.1, 1, v_3, E.2.2.2.1, v_4), rfl, by first | (simp [e_gr, c_1, ev_3, ev_4]; done) | (simp [e_gr, ← ev_3, ← ev_4, c_1]; done) | grind [e_gr], by rw [ht]; exact hP9, va_K.moved hW.alike hK9, hD9⟩, hS.F ht⟩) hS.2.2 dX0_thenGreater_40

set_option maxRecDepth 20000 in
theorem kX0_thenLesser_0 : ∀ w ∈ wsX00, w ∈ wsX0_thenLesser := by decide +kernel
set_option maxRecDepth 20000 in
theorem kX0_thenLesser_1 : (.fieldLink RX0 22 "FoldRow$Effect" "hasHigh" "Z" : Cond) ∈ wsX0_thenLesser := by decide +kernel
set_option maxRecDepth 20000 in
theorem kX0_thenLesser_2 : (.fieldLink RX0 25 "FoldRow$Effect" "high" "J" : Cond) ∈ wsX0_thenLesser := by decide +kernel
set_option maxRecDepth 20000 in
theorem kX0_thenLesser_3 : (.fieldLink RX0 19 "FoldRow$Effect" "low" "J" : Cond) ∈ wsX0_thenLesser := by decide +kernel
set_option maxRecDepth 20000 in
theorem kX0_thenLesser_4 : (.methodLink RX0 44 Lib.MathLoose.min_long.x : Cond) ∈ wsX0_thenLesser := by decide +kernel
set_option maxRecDepth 20000 in
theorem kX0_thenLesser_5 : (.static Lib.MathLoose.min_long.x : Cond) ∈ wsX0_thenLesser := by decide +kernel
set_option maxRecDepth 20000 in
theorem kX0_thenLesser_6 : (.initialized "java/lang/Math" : Cond) ∈ wsX0_thenLesser := by decide +kernel
set_option maxRecDepth 20000 in
theorem kX0_thenLesser_7 : (.code Lib.MathLoose.min_long.x Lib.MathLoose.min_long.code 4 (some .long) : Cond) ∈ wsX0_thenLesser := by decide +kernel
set_option maxHeartbeats 4000000 in
set_option maxRecDepth 100000 in
theorem qX0_thenLesser (l : Launch) (dC : Nat → ClassId) (dI : Nat → Nat → Nat) (sz : Nat) (h0 : Nat) (E : Ef) (v : Int64)  : Met l yX0_thenLesser wsX0_thenLesser ({ frames := 1, cells := 0, slots := 0, locals := 32 }) (va_Pc [.ref h0, .long v] (fun U => U.heap.size = sz ∧ va_P (dC, dI) vwCl [(h0, .inr (0, [.long E.1, .int E.2.1, .long E.2.2.1, .int E.2.2.2.1, .long E.2.2.2.2]))] U.heap ∧ va_K (dC, dI) vwCl [] U ∧ va_D (fun _ => True) [(h0, .inr (0, [.long E.1, .int E.2.1, .long E.2.2.1, .int E.2.2.2.1, .long E.2.2.2.2]))])) (va_Qv (fun (u : Ef) => u = e_ls v E) (fun (u : Ef) (t9 : State) => va_P (dC, dI) vwCl [(h0, .inr (0, [.long u.1, .int u.2.1, .long u.2.2.1, .int u.2.2.2.1, .long u.2.2.2.2]))] t9.heap ∧ va_K (dC, dI) vwCl [] t9 ∧ va_D (va_A [(h0, .inr (0, [.long E.1, .int E.2.1, .long E.2.2.1, .int E.2.2.2.1, .long E.2.2.2.2]))] sz) [(h0, .inr (0, [.long u.1, .int u.2.1, .long u.2.2.1, .int u.2.2.2.1, .long u.2.2.2.2]))]) (va_A [(h0, .inr (0, [.long E.1, .int E.2.1, .long E.2.2.1, .int E.2.2.2.1, .long E.2.2.2.2]))] sz)) 0 0 (va_A [(h0, .inr (0, [.long E.1, .int E.2.1, .long E.2.2.1, .int E.2.2.2.1, .long E.2.2.2.2]))] sz) := by
  refine Met.ofW (cc := cX0_thenLesser) (maxL := 3) (ret := none) (by decide) rfl ?_
  intro p e s m args below meth c s₁ B hml hv
  obtain ⟨rfl, hsz, hP, hK, hD0⟩ := hv
  have hx := B.exec
  have hb := B.bytes
  have hr := B.returns
  have hts := atoms_spec (ws := wsX0_thenLesser) B.pre
  have hown : s.vm.findClass RX0 = some m.cls := findClass_of_methodNamed B.named
  have hlocks := B.notSynchronized
  subst hsz
  have hD := hD0.self (sz := s.heap.size)
  generalize hAe : va_A [(h0, .inr (0, [.long E.1, .int E.2.1, .long E.2.2.1, .int E.2.2.2.1, .long E.2.2.2.2]))] s.heap.size = A at hD ⊢
  have hA : ∀ q : Nat, s.heap.size ≤ q → A q := fun q h => by rw [← hAe]; exact Or.inr h
  have hS : va_S A s.heap s.heap [] := va_S.rf
  have hP : va_P (dC, dI) vwCl [(h0, .inr (0, [.long E.1, .int E.2.1, .long E.2.2.1, .int E.2.2.2.1, .long E.2.2.2.2]))] s.heap := hP
  have hl := lv_entry ([.ref h0, .long v]) (n := 3) (Nat.le_of_ble_eq_true rfl)
  rw [lg_entry_eq]
  generalize (lg_sl ([.ref h0, .long v]) ++ List.replicate (3 - (lg_sl ([.ref h0, .long v])).length) Slot.unset).toArray = ls at hl ⊢
  have hl : lv_has ls 3 [(0, .ref h0), (1, .long v)] := hl
  refine lv_aload_n hx hb dX0_thenLesser_0 rfl (lv_at hl 0 rfl) ?_
  refine lv_aload_n hx hb dX0_thenLesser_1 rfl (lv_at hl 0 rfl) ?_
  refine va_get (D := (dC, dI)) (ci := 0) (v := .int E.2.2.2.1) (C := RX0) (T := TX0) (N := 5) hx hb hts kX0_thenLesser_0 hown hK hP 0 rfl rfl 3 (by decide) (hts (.fieldLink RX0 22 "FoldRow$Effect" "hasHigh" "Z") kX0_thenLesser_1) (fun _ h9 => h9) rfl dX0_thenLesser_2 ?_
  refine lv_if_eq (tgt := 19) hx hb dX0_thenLesser_5 (by decide) (fun c_1 => ?_) (fun c_1 => ?_)
  · refine lv_lload_n hx hb dX0_thenLesser_19 rfl (lv_at hl 1 rfl) ?_
    refine va_put (D := (dC, dI)) (ci := 0) (v := .long v) (ty := .long) (C := RX0) (T := TX0) (N := 5) hx hb hts kX0_thenLesser_0 tyX0 tyX0_ok nmX0 hown hK hP hD hS 0 rfl rfl 4 (by decide) (hts (.fieldLink RX0 25 "FoldRow$Effect" "high" "J") kX0_thenLesser_2) (fun _ h9 => h9) rfl (by decide +kernel) rfl rfl (Nat.le_of_ble_eq_true rfl) dX0_thenLesser_20 (fun H locs hP hD hS => ?_)
    have hP : va_P (dC, dI) vwCl [(h0, .inr (0, [.long E.1, .int E.2.1, .long E.2.2.1, .int E.2.2.2.1, .long v]))] H := hP
    have hD : va_D A [(h0, .inr (0, [.long E.1, .int E.2.1, .long E.2.2.1, .int E.2.2.2.1, .long v]))] := hD
    refine lv_aload_n hx hb dX0_thenLesser_23 rfl (lv_at hl 0 rfl) ?_
    refine lv_iconst (v := 1) hx hb dX0_thenLesser_24 (by decide) ?_
    refine va_put (D := (dC, dI)) (ci := 0) (v := .int 1) (ty := .boolean) (C := RX0) (T := TX0) (N := 5) hx hb hts kX0_thenLesser_0 tyX0 tyX0_ok nmX0 hown hK hP hD hS 0 rfl rfl 3 (by decide) (hts (.fieldLink RX0 22 "FoldRow$Effect" "hasHigh" "Z") kX0_thenLesser_1) (fun _ h9 => h9) rfl (by decide +kernel) rfl rfl (Nat.le_of_ble_eq_true rfl) dX0_thenLesser_25 (fun H locs hP hD hS => ?_)
    have hP : va_P (dC, dI) vwCl [(h0, .inr (0, [.long E.1, .int E.2.1, .long E.2.2.1, .int 1, .long v]))] H := hP
    have hD : va_D A [(h0, .inr (0, [.long E.1, .int E.2.1, .long E.2.2.1, .int 1, .long v]))] := hD
    refine lv_aload_n hx hb dX0_thenLesser_28 rfl (lv_at hl 0 rfl) ?_
    refine lv_aload_n hx hb dX0_thenLesser_29 rfl (lv_at hl 0 rfl) ?_
    refine va_get (D := (dC, dI)) (ci := 0) (v := .long E.2.2.1) (C := RX0) (T := TX0) (N := 5) hx hb hts kX0_thenLesser_0 hown hK hP 0 rfl rfl 2 (by decide) (hts (.fieldLink RX0 19 "FoldRow$Effect" "low" "J") kX0_thenLesser_3) (fun _ h9 => h9) rfl dX0_thenLesser_30 ?_
    refine lv_lload_n hx hb dX0_thenLesser_33 rfl (lv_at hl 1 rfl) ?_
    refine va_mmin_long hx hb (by rw [hml]; exact hl.1.symm) hown (hts (.methodLink RX0 44 Lib.MathLoose.min_long.x) kX0_thenLesser_4) (hts (.static Lib.MathLoose.min_long.x) kX0_thenLesser_5) (hts (.initialized "java/lang/Math") kX0_thenLesser_6) (hts (.code Lib.MathLoose.min_long.x Lib.MathLoose.min_long.code 4 (some .long)) kX0_thenLesser_7) (Nat.le_of_ble_eq_true rfl) (Nat.le_of_ble_eq_true rfl) (Nat.zero_le _) (Nat.zero_le _) dX0_thenLesser_34 ?_
    refine lv_mn ?_
    refine lv_topl (fun v_2 ev_2 => ?_)
    refine va_put (D := (dC, dI)) (ci := 0) (v := .long v_2) (ty := .long) (C := RX0) (T := TX0) (N := 5) hx hb hts kX0_thenLesser_0 tyX0 tyX0_ok nmX0 hown hK hP hD hS 0 rfl rfl 2 (by decide) (hts (.fieldLink RX0 19 "FoldRow$Effect" "low" "J") kX0_thenLesser_3) (fun _ h9 => h9) rfl (by decide +kernel) rfl rfl (Nat.le_of_ble_eq_true rfl) dX0_thenLesser_37 (fun H locs hP hD hS => ?_)
    have hP : va_P (dC, dI) vwCl [(h0, .inr (0, [.long E.1, .int E.2.1, .long v_2, .int 1, .long v]))] H := hP
    have hD : va_D A [(h0, .inr (0, [.long E.1, .int E.2.1, .long v_2, .int 1, .long v]))] := hD
    have hP9 := hP.sub (ws' := [(h0, .inr (0, [.long E.1, .int E.2.1, .long v_2, .int 1, .long v]))]) [0] rfl
    have hD9 := hD.sub (ws' := [(h0, .inr (0, [.long E.1, .int E.2.1, .long v_2, .int 1, .long v]))]) [0] (by decide) rfl
    have hK9 := hK.sub (tys' := []) [] rfl
    refine W.widen (k := 0) (n := 0) (Nat.le_of_ble_eq_true rfl) (Nat.le_of_ble_eq_true rfl) ?_
    exact W.vret hx hb hr (fun t9 ht hW => ⟨⟨(E.1, E.2.1, v_2, 1, v), rfl, by first | (simp [e_ls, c_1, ev_2]; done) | (simp [e_ls, ← ev_2, c_1]; done) | grind [e_ls], by rw [ht]; exact hP9, va_K.moved hW.alike hK9, hD9⟩, hS.F ht⟩) hS.2.2 dX0_thenLesser_40
  · refine lv_aload_n hx hb dX0_thenLesser_8 rfl (lv_at hl 0 rfl) ?_
    refine va_get (D := (dC, dI)) (ci := 0) (v := .long E.2.2.2.2) (C := RX0) (T := TX0) (N := 5) hx hb hts kX0_thenLesser_0 hown hK hP 0 rfl rfl 4 (by decide) (hts (.fieldLink RX0 25 "FoldRow$Effect" "high" "J") kX0_thenLesser_2) (fun _ h9 => h9) rfl dX0_thenLesser_9 ?_
    refine lv_lload_n hx hb dX0_thenLesser_12 rfl (lv_at hl 1 rfl) ?_
    refine va_mmin_long hx hb (by rw [hml]; exact hl.1.symm) hown (hts (.methodLink RX0 44 Lib.MathLoose.min_long.x) kX0_thenLesser_4) (hts (.static Lib.MathLoose.min_long.x) kX0_thenLesser_5) (hts (.initialized "java/lang/Math") kX0_thenLesser_6) (hts (.code Lib.MathLoose.min_long.x Lib.MathLoose.min_long.code 4 (some .long)) kX0_thenLesser_7) (Nat.le_of_ble_eq_true rfl) (Nat.le_of_ble_eq_true rfl) (Nat.zero_le _) (Nat.zero_le _) dX0_thenLesser_13 ?_
    refine lv_mn ?_
    refine lv_topl (fun v_3 ev_3 => ?_)
    refine lv_goto (tgt := 20) hx hb dX0_thenLesser_16 (by decide) ?_
    refine va_put (D := (dC, dI)) (ci := 0) (v := .long v_3) (ty := .long) (C := RX0) (T := TX0) (N := 5) hx hb hts kX0_thenLesser_0 tyX0 tyX0_ok nmX0 hown hK hP hD hS 0 rfl rfl 4 (by decide) (hts (.fieldLink RX0 25 "FoldRow$Effect" "high" "J") kX0_thenLesser_2) (fun _ h9 => h9) rfl (by decide +kernel) rfl rfl (Nat.le_of_ble_eq_true rfl) dX0_thenLesser_20 (fun H locs hP hD hS => ?_)
    have hP : va_P (dC, dI) vwCl [(h0, .inr (0, [.long E.1, .int E.2.1, .long E.2.2.1, .int E.2.2.2.1, .long v_3]))] H := hP
    have hD : va_D A [(h0, .inr (0, [.long E.1, .int E.2.1, .long E.2.2.1, .int E.2.2.2.1, .long v_3]))] := hD
    refine lv_aload_n hx hb dX0_thenLesser_23 rfl (lv_at hl 0 rfl) ?_
    refine lv_iconst (v := 1) hx hb dX0_thenLesser_24 (by decide) ?_
    refine va_put (D := (dC, dI)) (ci := 0) (v := .int 1) (ty := .boolean) (C := RX0) (T := TX0) (N := 5) hx hb hts kX0_thenLesser_0 tyX0 tyX0_ok nmX0 hown hK hP hD hS 0 rfl rfl 3 (by decide) (hts (.fieldLink RX0 22 "FoldRow$Effect" "hasHigh" "Z") kX0_thenLesser_1) (fun _ h9 => h9) rfl (by decide +kernel) rfl rfl (Nat.le_of_ble_eq_true rfl) dX0_thenLesser_25 (fun H locs hP hD hS => ?_)
    have hP : va_P (dC, dI) vwCl [(h0, .inr (0, [.long E.1, .int E.2.1, .long E.2.2.1, .int 1, .long v_3]))] H := hP
    have hD : va_D A [(h0, .inr (0, [.long E.1, .int E.2.1, .long E.2.2.1, .int 1, .long v_3]))] := hD
    refine lv_aload_n hx hb dX0_thenLesser_28 rfl (lv_at hl 0 rfl) ?_
    refine lv_aload_n hx hb dX0_thenLesser_29 rfl (lv_at hl 0 rfl) ?_
    refine va_get (D := (dC, dI)) (ci := 0) (v := .long E.2.2.1) (C := RX0) (T := TX0) (N := 5) hx hb hts kX0_thenLesser_0 hown hK hP 0 rfl rfl 2 (by decide) (hts (.fieldLink RX0 19 "FoldRow$Effect" "low" "J") kX0_thenLesser_3) (fun _ h9 => h9) rfl dX0_thenLesser_30 ?_
    refine lv_lload_n hx hb dX0_thenLesser_33 rfl (lv_at hl 1 rfl) ?_
    refine va_mmin_long hx hb (by rw [hml]; exact hl.1.symm) hown (hts (.methodLink RX0 44 Lib.MathLoose.min_long.x) kX0_thenLesser_4) (hts (.static Lib.MathLoose.min_long.x) kX0_thenLesser_5) (hts (.initialized "java/lang/Math") kX0_thenLesser_6) (hts (.code Lib.MathLoose.min_long.x Lib.MathLoose.min_long.code 4 (some .long)) kX0_thenLesser_7) (Nat.le_of_ble_eq_true rfl) (Nat.le_of_ble_eq_true rfl) (Nat.zero_le _) (Nat.zero_le _) dX0_thenLesser_34 ?_
    refine lv_mn ?_
    refine lv_topl (fun v_4 ev_4 => ?_)
    refine va_put (D := (dC, dI)) (ci := 0) (v := .long v_4) (ty := .long) (C := RX0) (T := TX0) (N := 5) hx hb hts kX0_thenLesser_0 tyX0 tyX0_ok nmX0 hown hK hP hD hS 0 rfl rfl 2 (by decide) (hts (.fieldLink RX0 19 "FoldRow$Effect" "low" "J") kX0_thenLesser_3) (fun _ h9 => h9) rfl (by decide +kernel) rfl rfl (Nat.le_of_ble_eq_true rfl) dX0_thenLesser_37 (fun H locs hP hD hS => ?_)
    have hP : va_P (dC, dI) vwCl [(h0, .inr (0, [.long E.1, .int E.2.1, .long v_4, .int 1, .long v_3]))] H := hP
    have hD : va_D A [(h0, .inr (0, [.long E.1, .int E.2.1, .long v_4, .int 1, .long v_3]))] := hD
    have hP9 := hP.sub (ws' := [(h0, .inr (0, [.long E.1, .int E.2.1, .long v_4, .int 1, .long v_3]))]) [0] rfl
    have hD9 := hD.sub (ws' := [(h0, .inr (0, [.long E.1, .int E.2.1, .long v_4, .int 1, .long v_3]))]) [0] (by decide) rfl
    have hK9 := hK.sub (tys' := []) [] rfl
    refine W.widen (k := 0) (n := 0) (Nat.le_of_ble_eq_true rfl) (Nat.le_of_ble_eq_true rfl) ?_
    exact W.vret hx hb hr (fun t9 ht hW => ⟨⟨(E.1, E.2.1, v_4, 1, v_3), rfl, by first | (simp [e_ls, c_1, ev_3, ev_4]; done) | (simp [e_ls, ← ev_3, ← ev_4, c_1]; done) | grind [e_ls], by rw [ht]; exact hP9, va_K.moved hW.alike hK9, hD9⟩, hS.F ht⟩) hS.2.2 dX0_thenLesser_40

set_option maxHeartbeats 4000000 in
set_option maxRecDepth 100000 in
theorem qX0_then (l : Launch) (dC : Nat → ClassId) (dI : Nat → Nat → Nat) (sz : Nat) (h0 : Nat) (E : Ef) (k : Int32) (v : Int64)  : Met l yX0_then wsX0_then ({ frames := 2, cells := 0, slots := 0, locals := 60 }) (va_Pc [.ref h0, .int k, .long v] (fun U => U.heap.size = sz ∧ va_P (dC, dI) vwCl [(h0, .inr (0, [.long E.1, .int E.2.1, .long E.2.2.1, .int E.2.2.2.1, .long E.2.2.2.2]))] U.heap ∧ va_K (dC, dI) vwCl [] U ∧ va_D (fun _ => True) [(h0, .inr (0, [.long E.1, .int E.2.1, .long E.2.2.1, .int E.2.2.2.1, .long E.2.2.2.2]))])) (va_Qv (fun (u : Ef) => u = e_th k v E) (fun (u : Ef) (t9 : State) => va_P (dC, dI) vwCl [(h0, .inr (0, [.long u.1, .int u.2.1, .long u.2.2.1, .int u.2.2.2.1, .long u.2.2.2.2]))] t9.heap ∧ va_K (dC, dI) vwCl [] t9 ∧ va_D (va_A [(h0, .inr (0, [.long E.1, .int E.2.1, .long E.2.2.1, .int E.2.2.2.1, .long E.2.2.2.2]))] sz) [(h0, .inr (0, [.long u.1, .int u.2.1, .long u.2.2.1, .int u.2.2.2.1, .long u.2.2.2.2]))]) (va_A [(h0, .inr (0, [.long E.1, .int E.2.1, .long E.2.2.1, .int E.2.2.2.1, .long E.2.2.2.2]))] sz)) 0 0 (va_A [(h0, .inr (0, [.long E.1, .int E.2.1, .long E.2.2.1, .int E.2.2.2.1, .long E.2.2.2.2]))] sz) := by
  refine Met.ofW (cc := cX0_then) (maxL := 4) (ret := none) (by decide) rfl ?_
  intro p e s m args below meth c s₁ B hml hv
  obtain ⟨rfl, hsz, hP, hK, hD0⟩ := hv
  have hx := B.exec
  have hb := B.bytes
  have hr := B.returns
  have hts := atoms_spec (ws := wsX0_then) B.pre
  have hown : s.vm.findClass RX0 = some m.cls := findClass_of_methodNamed B.named
  have hlocks := B.notSynchronized
  subst hsz
  have hD := hD0.self (sz := s.heap.size)
  generalize hAe : va_A [(h0, .inr (0, [.long E.1, .int E.2.1, .long E.2.2.1, .int E.2.2.2.1, .long E.2.2.2.2]))] s.heap.size = A at hD ⊢
  have hA : ∀ q : Nat, s.heap.size ≤ q → A q := fun q h => by rw [← hAe]; exact Or.inr h
  have hS : va_S A s.heap s.heap [] := va_S.rf
  have hP : va_P (dC, dI) vwCl [(h0, .inr (0, [.long E.1, .int E.2.1, .long E.2.2.1, .int E.2.2.2.1, .long E.2.2.2.2]))] s.heap := hP
  have hl := lv_entry ([.ref h0, .int k, .long v]) (n := 4) (Nat.le_of_ble_eq_true rfl)
  rw [lg_entry_eq]
  generalize (lg_sl ([.ref h0, .int k, .long v]) ++ List.replicate (4 - (lg_sl ([.ref h0, .int k, .long v])).length) Slot.unset).toArray = ls at hl ⊢
  have hl : lv_has ls 4 [(0, .ref h0), (1, .int k), (2, .long v)] := hl
  refine lv_iload_n hx hb dX0_then_0 rfl (lv_at hl 1 rfl) ?_
  by_cases c_1 : k = 1
  · refine lv_tableIn (off := 31) (tgt := 32) hx hb dX0_then_1 (by rw [c_1]; decide) (by rw [c_1]; decide) (by rw [c_1]; rfl) (by decide) ?_
    refine lv_aload_n hx hb dX0_then_32 rfl (lv_at hl 0 rfl) ?_
    refine lv_lload_n hx hb dX0_then_33 rfl (lv_at hl 2 rfl) ?_
    have hPc := hP.sub (ws' := [(h0, .inr (0, [.long E.1, .int E.2.1, .long E.2.2.1, .int E.2.2.2.1, .long E.2.2.2.2]))]) [0] rfl
    have hDc := hD.sub (ws' := [(h0, .inr (0, [.long E.1, .int E.2.1, .long E.2.2.1, .int E.2.2.2.1, .long E.2.2.2.2]))]) [0] (by decide) rfl
    have hKc := hK.sub (tys' := []) [] rfl
    have hFc := va_free (wc := [(h0, .inr (0, [.long E.1, .int E.2.1, .long E.2.2.1, .int E.2.2.2.1, .long E.2.2.2.2]))]) hD hS hA [0] rfl
    refine va_callv (va_runV (As := [.long v]) (rest := []) ⟨hx, hb, hml, hown, hts⟩ (qX0_thenAdd l dC dI s.heap.size h0 E v) (cwV 1 hts gX0_then_X0_thenAdd rfl rfl rfl (by decide +kernel) ⟨Nat.le_of_ble_eq_true rfl, Nat.le_of_ble_eq_true rfl⟩) ⟨fun a U g mk q => by obtain ⟨q0, q1, qP, qK, qD⟩ := q; exact ⟨q0, q1, qP, va_K.moved (u := U) (U := U.calling g mk a) (Vm.Alike.refl U.vm) qK, qD⟩, va_recv hKc hPc (ci := 0) (q0 := 0) rfl rfl, fun U hU hW => ⟨rfl, by rw [hU], by rw [hU]; exact hPc, va_K.moved hW.alike hKc, hDc.weaken (fun _ _ _ _ => trivial)⟩⟩ rfl rfl hl.1 rfl (lv_room (Nat.le_of_ble_eq_true rfl)) dX0_then_34 ⟨Nat.le_of_ble_eq_true rfl, Nat.le_of_ble_eq_true rfl⟩) hS (fun q _ h => hFc q h) hFc (fun u t9 H1 locs ht hvm hw hB hz1 hk1 hS => ?_)
    obtain ⟨hP1, hK1, hD1⟩ := hB
    rw [ht] at hP1
    obtain rfl := hw
    have hK1 := va_K.moved hvm.symm hK1
    obtain ⟨hP, hD⟩ := va_join (wr := []) (w1 := [(h0, .inr (0, [.long ((e_add v E).1), .int ((e_add v E).2.1), .long ((e_add v E).2.2.1), .int ((e_add v E).2.2.2.1), .long ((e_add v E).2.2.2.2)]))]) hP hD [0] [] rfl rfl (by decide) (by decide) hk1 hFc hP1 hD1
    have hK := (hK.sub (tys' := []) [] rfl).app hK1
    generalize H1 = H at hP hS ⊢
    have hP : va_P (dC, dI) vwCl [(h0, .inr (0, [.long ((e_add v E).1), .int ((e_add v E).2.1), .long ((e_add v E).2.2.1), .int ((e_add v E).2.2.2.1), .long ((e_add v E).2.2.2.2)]))] H := hP
    have hD : va_D A [(h0, .inr (0, [.long ((e_add v E).1), .int ((e_add v E).2.1), .long ((e_add v E).2.2.1), .int ((e_add v E).2.2.2.1), .long ((e_add v E).2.2.2.2)]))] := hD
    have hK : va_K (dC, dI) vwCl [] s := hK
    refine W.widen (k := 0) (n := 0) (Nat.le_of_ble_eq_true rfl) (Nat.le_of_ble_eq_true rfl) ?_
    refine lv_goto (tgt := 69) hx hb dX0_then_37 (by decide) ?_
    have hP9 := hP.sub (ws' := [(h0, .inr (0, [.long ((e_add v E).1), .int ((e_add v E).2.1), .long ((e_add v E).2.2.1), .int ((e_add v E).2.2.2.1), .long ((e_add v E).2.2.2.2)]))]) [0] rfl
    have hD9 := hD.sub (ws' := [(h0, .inr (0, [.long ((e_add v E).1), .int ((e_add v E).2.1), .long ((e_add v E).2.2.1), .int ((e_add v E).2.2.2.1), .long ((e_add v E).2.2.2.2)]))]) [0] (by decide) rfl
    have hK9 := hK.sub (tys' := []) [] rfl
    refine W.widen (k := 0) (n := 0) (Nat.le_of_ble_eq_true rfl) (Nat.le_of_ble_eq_true rfl) ?_
    exact W.vret hx hb hr (fun t9 ht hW => ⟨⟨(e_add v E), rfl, by first | (simp [e_th, c_1]; done) | (simp [e_th, c_1]; done) | grind [e_th], by rw [ht]; exact hP9, va_K.moved hW.alike hK9, hD9⟩, hS.F ht⟩) hS.2.2 dX0_then_69
  by_cases c_4 : k = 2
  · refine lv_tableIn (off := 39) (tgt := 40) hx hb dX0_then_1 (by rw [c_4]; decide) (by rw [c_4]; decide) (by rw [c_4]; rfl) (by decide) ?_
    refine lv_aload_n hx hb dX0_then_40 rfl (lv_at hl 0 rfl) ?_
    refine lv_lload_n hx hb dX0_then_41 rfl (lv_at hl 2 rfl) ?_
    have hPc := hP.sub (ws' := [(h0, .inr (0, [.long E.1, .int E.2.1, .long E.2.2.1, .int E.2.2.2.1, .long E.2.2.2.2]))]) [0] rfl
    have hDc := hD.sub (ws' := [(h0, .inr (0, [.long E.1, .int E.2.1, .long E.2.2.1, .int E.2.2.2.1, .long E.2.2.2.2]))]) [0] (by decide) rfl
    have hKc := hK.sub (tys' := []) [] rfl
    have hFc := va_free (wc := [(h0, .inr (0, [.long E.1, .int E.2.1, .long E.2.2.1, .int E.2.2.2.1, .long E.2.2.2.2]))]) hD hS hA [0] rfl
    refine va_callv (va_runV (As := [.long v]) (rest := []) ⟨hx, hb, hml, hown, hts⟩ (qX0_thenGreater l dC dI s.heap.size h0 E v) (cwV 1 hts gX0_then_X0_thenGreater rfl rfl rfl (by decide +kernel) ⟨Nat.le_of_ble_eq_true rfl, Nat.le_of_ble_eq_true rfl⟩) ⟨fun a U g mk q => by obtain ⟨q0, q1, qP, qK, qD⟩ := q; exact ⟨q0, q1, qP, va_K.moved (u := U) (U := U.calling g mk a) (Vm.Alike.refl U.vm) qK, qD⟩, va_recv hKc hPc (ci := 0) (q0 := 0) rfl rfl, fun U hU hW => ⟨rfl, by rw [hU], by rw [hU]; exact hPc, va_K.moved hW.alike hKc, hDc.weaken (fun _ _ _ _ => trivial)⟩⟩ rfl rfl hl.1 rfl (lv_room (Nat.le_of_ble_eq_true rfl)) dX0_then_42 ⟨Nat.le_of_ble_eq_true rfl, Nat.le_of_ble_eq_true rfl⟩) hS (fun q _ h => hFc q h) hFc (fun u t9 H1 locs ht hvm hw hB hz1 hk1 hS => ?_)
    obtain ⟨hP1, hK1, hD1⟩ := hB
    rw [ht] at hP1
    obtain rfl := hw
    have hK1 := va_K.moved hvm.symm hK1
    obtain ⟨hP, hD⟩ := va_join (wr := []) (w1 := [(h0, .inr (0, [.long ((e_gr v E).1), .int ((e_gr v E).2.1), .long ((e_gr v E).2.2.1), .int ((e_gr v E).2.2.2.1), .long ((e_gr v E).2.2.2.2)]))]) hP hD [0] [] rfl rfl (by decide) (by decide) hk1 hFc hP1 hD1
    have hK := (hK.sub (tys' := []) [] rfl).app hK1
    generalize H1 = H at hP hS ⊢
    have hP : va_P (dC, dI) vwCl [(h0, .inr (0, [.long ((e_gr v E).1), .int ((e_gr v E).2.1), .long ((e_gr v E).2.2.1), .int ((e_gr v E).2.2.2.1), .long ((e_gr v E).2.2.2.2)]))] H := hP
    have hD : va_D A [(h0, .inr (0, [.long ((e_gr v E).1), .int ((e_gr v E).2.1), .long ((e_gr v E).2.2.1), .int ((e_gr v E).2.2.2.1), .long ((e_gr v E).2.2.2.2)]))] := hD
    have hK : va_K (dC, dI) vwCl [] s := hK
    refine W.widen (k := 0) (n := 0) (Nat.le_of_ble_eq_true rfl) (Nat.le_of_ble_eq_true rfl) ?_
    refine lv_aload_n hx hb dX0_then_45 rfl (lv_at hl 0 rfl) ?_
    refine lv_lload_n hx hb dX0_then_46 rfl (lv_at hl 2 rfl) ?_
    have hPc := hP.sub (ws' := [(h0, .inr (0, [.long ((e_gr v E).1), .int ((e_gr v E).2.1), .long ((e_gr v E).2.2.1), .int ((e_gr v E).2.2.2.1), .long ((e_gr v E).2.2.2.2)]))]) [0] rfl
    have hDc := hD.sub (ws' := [(h0, .inr (0, [.long ((e_gr v E).1), .int ((e_gr v E).2.1), .long ((e_gr v E).2.2.1), .int ((e_gr v E).2.2.2.1), .long ((e_gr v E).2.2.2.2)]))]) [0] (by decide) rfl
    have hKc := hK.sub (tys' := []) [] rfl
    have hFc := va_free (wc := [(h0, .inr (0, [.long ((e_gr v E).1), .int ((e_gr v E).2.1), .long ((e_gr v E).2.2.1), .int ((e_gr v E).2.2.2.1), .long ((e_gr v E).2.2.2.2)]))]) hD hS hA [0] rfl
    refine va_callv (va_runV (As := [.long v]) (rest := []) ⟨hx, hb, hml, hown, hts⟩ (qX0_thenLesser l dC dI H.size h0 (e_gr v E) v) (cwV 1 hts gX0_then_X0_thenLesser rfl rfl rfl (by decide +kernel) ⟨Nat.le_of_ble_eq_true rfl, Nat.le_of_ble_eq_true rfl⟩) ⟨fun a U g mk q => by obtain ⟨q0, q1, qP, qK, qD⟩ := q; exact ⟨q0, q1, qP, va_K.moved (u := U) (U := U.calling g mk a) (Vm.Alike.refl U.vm) qK, qD⟩, va_recv hKc hPc (ci := 0) (q0 := 0) rfl rfl, fun U hU hW => ⟨rfl, by rw [hU], by rw [hU]; exact hPc, va_K.moved hW.alike hKc, hDc.weaken (fun _ _ _ _ => trivial)⟩⟩ rfl rfl hl.1 rfl (lv_room (Nat.le_of_ble_eq_true rfl)) dX0_then_47 ⟨Nat.le_of_ble_eq_true rfl, Nat.le_of_ble_eq_true rfl⟩) hS (fun q _ h => hFc q h) hFc (fun u t9 H1 locs ht hvm hw hB hz1 hk1 hS => ?_)
    obtain ⟨hP1, hK1, hD1⟩ := hB
    rw [ht] at hP1
    obtain rfl := hw
    have hK1 := va_K.moved hvm.symm hK1
    obtain ⟨hP, hD⟩ := va_join (wr := []) (w1 := [(h0, .inr (0, [.long ((e_ls v (e_gr v E)).1), .int ((e_ls v (e_gr v E)).2.1), .long ((e_ls v (e_gr v E)).2.2.1), .int ((e_ls v (e_gr v E)).2.2.2.1), .long ((e_ls v (e_gr v E)).2.2.2.2)]))]) hP hD [0] [] rfl rfl (by decide) (by decide) hk1 hFc hP1 hD1
    have hK := (hK.sub (tys' := []) [] rfl).app hK1
    generalize H1 = H at hP hS ⊢
    have hP : va_P (dC, dI) vwCl [(h0, .inr (0, [.long ((e_ls v (e_gr v E)).1), .int ((e_ls v (e_gr v E)).2.1), .long ((e_ls v (e_gr v E)).2.2.1), .int ((e_ls v (e_gr v E)).2.2.2.1), .long ((e_ls v (e_gr v E)).2.2.2.2)]))] H := hP
    have hD : va_D A [(h0, .inr (0, [.long ((e_ls v (e_gr v E)).1), .int ((e_ls v (e_gr v E)).2.1), .long ((e_ls v (e_gr v E)).2.2.1), .int ((e_ls v (e_gr v E)).2.2.2.1), .long ((e_ls v (e_gr v E)).2.2.2.2)]))] := hD
    have hK : va_K (dC, dI) vwCl [] s := hK
    refine W.widen (k := 0) (n := 0) (Nat.le_of_ble_eq_true rfl) (Nat.le_of_ble_eq_true rfl) ?_
    refine lv_goto (tgt := 69) hx hb dX0_then_50 (by decide) ?_
    have hP9 := hP.sub (ws' := [(h0, .inr (0, [.long ((e_ls v (e_gr v E)).1), .int ((e_ls v (e_gr v E)).2.1), .long ((e_ls v (e_gr v E)).2.2.1), .int ((e_ls v (e_gr v E)).2.2.2.1), .long ((e_ls v (e_gr v E)).2.2.2.2)]))]) [0] rfl
    have hD9 := hD.sub (ws' := [(h0, .inr (0, [.long ((e_ls v (e_gr v E)).1), .int ((e_ls v (e_gr v E)).2.1), .long ((e_ls v (e_gr v E)).2.2.1), .int ((e_ls v (e_gr v E)).2.2.2.1), .long ((e_ls v (e_gr v E)).2.2.2.2)]))]) [0] (by decide) rfl
    have hK9 := hK.sub (tys' := []) [] rfl
    refine W.widen (k := 0) (n := 0) (Nat.le_of_ble_eq_true rfl) (Nat.le_of_ble_eq_true rfl) ?_
    exact W.vret hx hb hr (fun t9 ht hW => ⟨⟨(e_ls v (e_gr v E)), rfl, by first | (simp [e_th, c_4]; done) | (simp [e_th, c_4]; done) | grind [e_th], by rw [ht]; exact hP9, va_K.moved hW.alike hK9, hD9⟩, hS.F ht⟩) hS.2.2 dX0_then_69
  by_cases c_9 : k = 3
  · refine lv_tableIn (off := 52) (tgt := 53) hx hb dX0_then_1 (by rw [c_9]; decide) (by rw [c_9]; decide) (by rw [c_9]; rfl) (by decide) ?_
    refine lv_aload_n hx hb dX0_then_53 rfl (lv_at hl 0 rfl) ?_
    refine lv_lload_n hx hb dX0_then_54 rfl (lv_at hl 2 rfl) ?_
    have hPc := hP.sub (ws' := [(h0, .inr (0, [.long E.1, .int E.2.1, .long E.2.2.1, .int E.2.2.2.1, .long E.2.2.2.2]))]) [0] rfl
    have hDc := hD.sub (ws' := [(h0, .inr (0, [.long E.1, .int E.2.1, .long E.2.2.1, .int E.2.2.2.1, .long E.2.2.2.2]))]) [0] (by decide) rfl
    have hKc := hK.sub (tys' := []) [] rfl
    have hFc := va_free (wc := [(h0, .inr (0, [.long E.1, .int E.2.1, .long E.2.2.1, .int E.2.2.2.1, .long E.2.2.2.2]))]) hD hS hA [0] rfl
    refine va_callv (va_runV (As := [.long v]) (rest := []) ⟨hx, hb, hml, hown, hts⟩ (qX0_thenGreater l dC dI s.heap.size h0 E v) (cwV 1 hts gX0_then_X0_thenGreater rfl rfl rfl (by decide +kernel) ⟨Nat.le_of_ble_eq_true rfl, Nat.le_of_ble_eq_true rfl⟩) ⟨fun a U g mk q => by obtain ⟨q0, q1, qP, qK, qD⟩ := q; exact ⟨q0, q1, qP, va_K.moved (u := U) (U := U.calling g mk a) (Vm.Alike.refl U.vm) qK, qD⟩, va_recv hKc hPc (ci := 0) (q0 := 0) rfl rfl, fun U hU hW => ⟨rfl, by rw [hU], by rw [hU]; exact hPc, va_K.moved hW.alike hKc, hDc.weaken (fun _ _ _ _ => trivial)⟩⟩ rfl rfl hl.1 rfl (lv_room (Nat.le_of_ble_eq_true rfl)) dX0_then_55 ⟨Nat.le_of_ble_eq_true rfl, Nat.le_of_ble_eq_true rfl⟩) hS (fun q _ h => hFc q h) hFc (fun u t9 H1 locs ht hvm hw hB hz1 hk1 hS => ?_)
    obtain ⟨hP1, hK1, hD1⟩ := hB
    rw [ht] at hP1
    obtain rfl := hw
    have hK1 := va_K.moved hvm.symm hK1
    obtain ⟨hP, hD⟩ := va_join (wr := []) (w1 := [(h0, .inr (0, [.long ((e_gr v E).1), .int ((e_gr v E).2.1), .long ((e_gr v E).2.2.1), .int ((e_gr v E).2.2.2.1), .long ((e_gr v E).2.2.2.2)]))]) hP hD [0] [] rfl rfl (by decide) (by decide) hk1 hFc hP1 hD1
    have hK := (hK.sub (tys' := []) [] rfl).app hK1
    generalize H1 = H at hP hS ⊢
    have hP : va_P (dC, dI) vwCl [(h0, .inr (0, [.long ((e_gr v E).1), .int ((e_gr v E).2.1), .long ((e_gr v E).2.2.1), .int ((e_gr v E).2.2.2.1), .long ((e_gr v E).2.2.2.2)]))] H := hP
    have hD : va_D A [(h0, .inr (0, [.long ((e_gr v E).1), .int ((e_gr v E).2.1), .long ((e_gr v E).2.2.1), .int ((e_gr v E).2.2.2.1), .long ((e_gr v E).2.2.2.2)]))] := hD
    have hK : va_K (dC, dI) vwCl [] s := hK
    refine W.widen (k := 0) (n := 0) (Nat.le_of_ble_eq_true rfl) (Nat.le_of_ble_eq_true rfl) ?_
    refine lv_goto (tgt := 69) hx hb dX0_then_58 (by decide) ?_
    have hP9 := hP.sub (ws' := [(h0, .inr (0, [.long ((e_gr v E).1), .int ((e_gr v E).2.1), .long ((e_gr v E).2.2.1), .int ((e_gr v E).2.2.2.1), .long ((e_gr v E).2.2.2.2)]))]) [0] rfl
    have hD9 := hD.sub (ws' := [(h0, .inr (0, [.long ((e_gr v E).1), .int ((e_gr v E).2.1), .long ((e_gr v E).2.2.1), .int ((e_gr v E).2.2.2.1), .long ((e_gr v E).2.2.2.2)]))]) [0] (by decide) rfl
    have hK9 := hK.sub (tys' := []) [] rfl
    refine W.widen (k := 0) (n := 0) (Nat.le_of_ble_eq_true rfl) (Nat.le_of_ble_eq_true rfl) ?_
    exact W.vret hx hb hr (fun t9 ht hW => ⟨⟨(e_gr v E), rfl, by first | (simp [e_th, c_9]; done) | (simp [e_th, c_9]; done) | grind [e_th], by rw [ht]; exact hP9, va_K.moved hW.alike hK9, hD9⟩, hS.F ht⟩) hS.2.2 dX0_then_69
  by_cases c_12 : k = 4
  · refine lv_tableIn (off := 60) (tgt := 61) hx hb dX0_then_1 (by rw [c_12]; decide) (by rw [c_12]; decide) (by rw [c_12]; rfl) (by decide) ?_
    refine lv_aload_n hx hb dX0_then_61 rfl (lv_at hl 0 rfl) ?_
    refine lv_lload_n hx hb dX0_then_62 rfl (lv_at hl 2 rfl) ?_
    have hPc := hP.sub (ws' := [(h0, .inr (0, [.long E.1, .int E.2.1, .long E.2.2.1, .int E.2.2.2.1, .long E.2.2.2.2]))]) [0] rfl
    have hDc := hD.sub (ws' := [(h0, .inr (0, [.long E.1, .int E.2.1, .long E.2.2.1, .int E.2.2.2.1, .long E.2.2.2.2]))]) [0] (by decide) rfl
    have hKc := hK.sub (tys' := []) [] rfl
    have hFc := va_free (wc := [(h0, .inr (0, [.long E.1, .int E.2.1, .long E.2.2.1, .int E.2.2.2.1, .long E.2.2.2.2]))]) hD hS hA [0] rfl
    refine va_callv (va_runV (As := [.long v]) (rest := []) ⟨hx, hb, hml, hown, hts⟩ (qX0_thenLesser l dC dI s.heap.size h0 E v) (cwV 1 hts gX0_then_X0_thenLesser rfl rfl rfl (by decide +kernel) ⟨Nat.le_of_ble_eq_true rfl, Nat.le_of_ble_eq_true rfl⟩) ⟨fun a U g mk q => by obtain ⟨q0, q1, qP, qK, qD⟩ := q; exact ⟨q0, q1, qP, va_K.moved (u := U) (U := U.calling g mk a) (Vm.Alike.refl U.vm) qK, qD⟩, va_recv hKc hPc (ci := 0) (q0 := 0) rfl rfl, fun U hU hW => ⟨rfl, by rw [hU], by rw [hU]; exact hPc, va_K.moved hW.alike hKc, hDc.weaken (fun _ _ _ _ => trivial)⟩⟩ rfl rfl hl.1 rfl (lv_room (Nat.le_of_ble_eq_true rfl)) dX0_then_63 ⟨Nat.le_of_ble_eq_true rfl, Nat.le_of_ble_eq_true rfl⟩) hS (fun q _ h => hFc q h) hFc (fun u t9 H1 locs ht hvm hw hB hz1 hk1 hS => ?_)
    obtain ⟨hP1, hK1, hD1⟩ := hB
    rw [ht] at hP1
    obtain rfl := hw
    have hK1 := va_K.moved hvm.symm hK1
    obtain ⟨hP, hD⟩ := va_join (wr := []) (w1 := [(h0, .inr (0, [.long ((e_ls v E).1), .int ((e_ls v E).2.1), .long ((e_ls v E).2.2.1), .int ((e_ls v E).2.2.2.1), .long ((e_ls v E).2.2.2.2)]))]) hP hD [0] [] rfl rfl (by decide) (by decide) hk1 hFc hP1 hD1
    have hK := (hK.sub (tys' := []) [] rfl).app hK1
    generalize H1 = H at hP hS ⊢
    have hP : va_P (dC, dI) vwCl [(h0, .inr (0, [.long ((e_ls v E).1), .int ((e_ls v E).2.1), .long ((e_ls v E).2.2.1), .int ((e_ls v E).2.2.2.1), .long ((e_ls v E).2.2.2.2)]))] H := hP
    have hD : va_D A [(h0, .inr (0, [.long ((e_ls v E).1), .int ((e_ls v E).2.1), .long ((e_ls v E).2.2.1), .int ((e_ls v E).2.2.2.1), .long ((e_ls v E).2.2.2.2)]))] := hD
    have hK : va_K (dC, dI) vwCl [] s := hK
    refine W.widen (k := 0) (n := 0) (Nat.le_of_ble_eq_true rfl) (Nat.le_of_ble_eq_true rfl) ?_
    refine lv_goto (tgt := 69) hx hb dX0_then_66 (by decide) ?_
    have hP9 := hP.sub (ws' := [(h0, .inr (0, [.long ((e_ls v E).1), .int ((e_ls v E).2.1), .long ((e_ls v E).2.2.1), .int ((e_ls v E).2.2.2.1), .long ((e_ls v E).2.2.2.2)]))]) [0] rfl
    have hD9 := hD.sub (ws' := [(h0, .inr (0, [.long ((e_ls v E).1), .int ((e_ls v E).2.1), .long ((e_ls v E).2.2.1), .int ((e_ls v E).2.2.2.1), .long ((e_ls v E).2.2.2.2)]))]) [0] (by decide) rfl
    have hK9 := hK.sub (tys' := []) [] rfl
    refine W.widen (k := 0) (n := 0) (Nat.le_of_ble_eq_true rfl) (Nat.le_of_ble_eq_true rfl) ?_
    exact W.vret hx hb hr (fun t9 ht hW => ⟨⟨(e_ls v E), rfl, by first | (simp [e_th, c_12]; done) | (simp [e_th, c_12]; done) | grind [e_th], by rw [ht]; exact hP9, va_K.moved hW.alike hK9, hD9⟩, hS.F ht⟩) hS.2.2 dX0_then_69
  have hsw : k.toInt < 1 ∨ 4 < k.toInt := sw_1_4 c_1 c_4 c_9 c_12
  refine lv_tableOut (tgt := 69) hx hb dX0_then_1 hsw (by decide) ?_
  have hP9 := hP.sub (ws' := [(h0, .inr (0, [.long E.1, .int E.2.1, .long E.2.2.1, .int E.2.2.2.1, .long E.2.2.2.2]))]) [0] rfl
  have hD9 := hD.sub (ws' := [(h0, .inr (0, [.long E.1, .int E.2.1, .long E.2.2.1, .int E.2.2.2.1, .long E.2.2.2.2]))]) [0] (by decide) rfl
  have hK9 := hK.sub (tys' := []) [] rfl
  refine W.widen (k := 0) (n := 0) (Nat.le_of_ble_eq_true rfl) (Nat.le_of_ble_eq_true rfl) ?_
  exact W.vret hx hb hr (fun t9 ht hW => ⟨⟨E, rfl, by first | (simp [e_th, c_1, c_4, c_9, c_12]; done) | (simp [e_th, c_1, c_4, c_9, c_12]; done) | grind [e_th], by rw [ht]; exact hP9, va_K.moved hW.alike hK9, hD9⟩, hS.F ht⟩) hS.2.2 dX0_then_69

set_option maxRecDepth 20000 in
theorem kX0_on_0 : ∀ w ∈ wsX00, w ∈ wsX0_on := by decide +kernel
set_option maxRecDepth 20000 in
theorem kX0_on_1 : (.fieldLink RX0 9 "FoldRow$Effect" "shift" "J" : Cond) ∈ wsX0_on := by decide +kernel
set_option maxRecDepth 20000 in
theorem kX0_on_2 : (.fieldLink RX0 15 "FoldRow$Effect" "hasLow" "Z" : Cond) ∈ wsX0_on := by decide +kernel
set_option maxRecDepth 20000 in
theorem kX0_on_3 : (.fieldLink RX0 22 "FoldRow$Effect" "hasHigh" "Z" : Cond) ∈ wsX0_on := by decide +kernel
set_option maxRecDepth 20000 in
theorem kX0_on_4 : (.fieldLink RX0 25 "FoldRow$Effect" "high" "J" : Cond) ∈ wsX0_on := by decide +kernel
set_option maxRecDepth 20000 in
theorem kX0_on_5 : (.fieldLink RX0 19 "FoldRow$Effect" "low" "J" : Cond) ∈ wsX0_on := by decide +kernel
set_option maxHeartbeats 4000000 in
set_option maxRecDepth 100000 in
theorem qX0_on (l : Launch) (dC : Nat → ClassId) (dI : Nat → Nat → Nat) (sz : Nat) (h0 : Nat) (E : Ef) (x : Int64)  : Met l yX0_on wsX0_on ({ frames := 0, cells := 0, slots := 0, locals := 0 }) (va_Pc [.ref h0, .long x] (fun U => U.heap.size = sz ∧ va_P (dC, dI) vwCl [(h0, .inr (0, [.long E.1, .int E.2.1, .long E.2.2.1, .int E.2.2.2.1, .long E.2.2.2.2]))] U.heap ∧ va_K (dC, dI) vwCl [] U ∧ va_D (fun _ => True) [(h0, .inr (0, [.long E.1, .int E.2.1, .long E.2.2.1, .int E.2.2.2.1, .long E.2.2.2.2]))])) (va_Ql (fun (r : Int64) (u : Unit) => (r = e_on E x)) (fun (u : Unit) (t9 : State) => va_P (dC, dI) vwCl [(h0, .inr (0, [.long E.1, .int E.2.1, .long E.2.2.1, .int E.2.2.2.1, .long E.2.2.2.2]))] t9.heap ∧ va_K (dC, dI) vwCl [] t9 ∧ va_D (va_A [(h0, .inr (0, [.long E.1, .int E.2.1, .long E.2.2.1, .int E.2.2.2.1, .long E.2.2.2.2]))] sz) [(h0, .inr (0, [.long E.1, .int E.2.1, .long E.2.2.1, .int E.2.2.2.1, .long E.2.2.2.2]))]) (va_A [(h0, .inr (0, [.long E.1, .int E.2.1, .long E.2.2.1, .int E.2.2.2.1, .long E.2.2.2.2]))] sz)) 0 0 (va_A [(h0, .inr (0, [.long E.1, .int E.2.1, .long E.2.2.1, .int E.2.2.2.1, .long E.2.2.2.2]))] sz) := by
  refine Met.ofW (cc := cX0_on) (maxL := 5) (ret := (some .long)) (by decide) rfl ?_
  intro p e s m args below meth c s₁ B hml hv
  obtain ⟨rfl, hsz, hP, hK, hD0⟩ := hv
  have hx := B.exec
  have hb := B.bytes
  have hr := B.returns
  have hts := atoms_spec (ws := wsX0_on) B.pre
  have hown : s.vm.findClass RX0 = some m.cls := findClass_of_methodNamed B.named
  have hlocks := B.notSynchronized
  subst hsz
  have hD := hD0.self (sz := s.heap.size)
  generalize hAe : va_A [(h0, .inr (0, [.long E.1, .int E.2.1, .long E.2.2.1, .int E.2.2.2.1, .long E.2.2.2.2]))] s.heap.size = A at hD ⊢
  have hA : ∀ q : Nat, s.heap.size ≤ q → A q := fun q h => by rw [← hAe]; exact Or.inr h
  have hS : va_S A s.heap s.heap [] := va_S.rf
  have hP : va_P (dC, dI) vwCl [(h0, .inr (0, [.long E.1, .int E.2.1, .long E.2.2.1, .int E.2.2.2.1, .long E.2.2.2.2]))] s.heap := hP
  have hl := lv_entry ([.ref h0, .long x]) (n := 5) (Nat.le_of_ble_eq_true rfl)
  rw [lg_entry_eq]
  generalize (lg_sl ([.ref h0, .long x]) ++ List.replicate (5 - (lg_sl ([.ref h0, .long x])).length) Slot.unset).toArray = ls at hl ⊢
  have hl : lv_has ls 5 [(0, .ref h0), (1, .long x)] := hl
  refine lv_lload_n hx hb dX0_on_0 rfl (lv_at hl 1 rfl) ?_
  refine lv_aload_n hx hb dX0_on_1 rfl (lv_at hl 0 rfl) ?_
  refine va_get (D := (dC, dI)) (ci := 0) (v := .long E.1) (C := RX0) (T := TX0) (N := 5) hx hb hts kX0_on_0 hown hK hP 0 rfl rfl 0 (by decide) (hts (.fieldLink RX0 9 "FoldRow$Effect" "shift" "J") kX0_on_1) (fun _ h9 => h9) rfl dX0_on_2 ?_
  refine lv_ladd hx hb dX0_on_5 ?_
  refine lv_topl (fun v_1 ev_1 => ?_)
  refine lv_lstore_n (lv' := [(3, .long v_1), (0, .ref h0), (1, .long x)]) hx hb dX0_on_6 rfl hl (by decide) rfl (fun ls hl => ?_)
  refine lv_aload_n hx hb dX0_on_7 rfl (lv_at hl 1 rfl) ?_
  refine va_get (D := (dC, dI)) (ci := 0) (v := .int E.2.1) (C := RX0) (T := TX0) (N := 5) hx hb hts kX0_on_0 hown hK hP 0 rfl rfl 1 (by decide) (hts (.fieldLink RX0 15 "FoldRow$Effect" "hasLow" "Z") kX0_on_2) (fun _ h9 => h9) rfl dX0_on_8 ?_
  refine lv_if_eq (tgt := 28) hx hb dX0_on_11 (by decide) (fun c_2 => ?_) (fun c_2 => ?_)
  · refine lv_aload_n hx hb dX0_on_28 rfl (lv_at hl 1 rfl) ?_
    refine va_get (D := (dC, dI)) (ci := 0) (v := .int E.2.2.2.1) (C := RX0) (T := TX0) (N := 5) hx hb hts kX0_on_0 hown hK hP 0 rfl rfl 3 (by decide) (hts (.fieldLink RX0 22 "FoldRow$Effect" "hasHigh" "Z") kX0_on_3) (fun _ h9 => h9) rfl dX0_on_29 ?_
    refine lv_if_eq (tgt := 49) hx hb dX0_on_32 (by decide) (fun c_3 => ?_) (fun c_3 => ?_)
    · refine lv_lload_n hx hb dX0_on_49 rfl (lv_at hl 0 rfl) ?_
      have hP9 := hP.sub (ws' := [(h0, .inr (0, [.long E.1, .int E.2.1, .long E.2.2.1, .int E.2.2.2.1, .long E.2.2.2.2]))]) [0] rfl
      have hD9 := hD.sub (ws' := [(h0, .inr (0, [.long E.1, .int E.2.1, .long E.2.2.1, .int E.2.2.2.1, .long E.2.2.2.2]))]) [0] (by decide) rfl
      have hK9 := hK.sub (tys' := []) [] rfl
      refine W.widen (k := 0) (n := 0) (Nat.le_of_ble_eq_true rfl) (Nat.le_of_ble_eq_true rfl) ?_
      exact W.lret (v := v_1) hx hb hr (fun t9 ht hW => ⟨⟨v_1, (), rfl, by first | (simp [e_on, e_cl, ev_1, c_2, c_3]; done) | (simp [e_on, e_cl, ← ev_1, c_2, c_3]; done) | grind [e_on, e_cl], by rw [ht]; exact hP9, va_K.moved hW.alike hK9, hD9⟩, hS.F ht⟩) hS.2.2 dX0_on_50
    · refine lv_lload_n hx hb dX0_on_35 rfl (lv_at hl 0 rfl) ?_
      refine lv_aload_n hx hb dX0_on_36 rfl (lv_at hl 1 rfl) ?_
      refine va_get (D := (dC, dI)) (ci := 0) (v := .long E.2.2.2.2) (C := RX0) (T := TX0) (N := 5) hx hb hts kX0_on_0 hown hK hP 0 rfl rfl 4 (by decide) (hts (.fieldLink RX0 25 "FoldRow$Effect" "high" "J") kX0_on_4) (fun _ h9 => h9) rfl dX0_on_37 ?_
      refine W.lcmp hx hb dX0_on_40 ?_
      refine lv_if_le (tgt := 49) hx hb dX0_on_41 (by decide) (fun c_4 => ?_) (fun c_4 => ?_)
      · simp only [lq_le] at c_4
        refine lv_lload_n hx hb dX0_on_49 rfl (lv_at hl 0 rfl) ?_
        have hP9 := hP.sub (ws' := [(h0, .inr (0, [.long E.1, .int E.2.1, .long E.2.2.1, .int E.2.2.2.1, .long E.2.2.2.2]))]) [0] rfl
        have hD9 := hD.sub (ws' := [(h0, .inr (0, [.long E.1, .int E.2.1, .long E.2.2.1, .int E.2.2.2.1, .long E.2.2.2.2]))]) [0] (by decide) rfl
        have hK9 := hK.sub (tys' := []) [] rfl
        refine W.widen (k := 0) (n := 0) (Nat.le_of_ble_eq_true rfl) (Nat.le_of_ble_eq_true rfl) ?_
        exact W.lret (v := v_1) hx hb hr (fun t9 ht hW => ⟨⟨v_1, (), rfl, by first | (simp [e_on, e_cl, ev_1, c_2, c_3, c_4]; done) | (simp [e_on, e_cl, ← ev_1, c_2, c_3, c_4]; done) | grind [e_on, e_cl], by rw [ht]; exact hP9, va_K.moved hW.alike hK9, hD9⟩, hS.F ht⟩) hS.2.2 dX0_on_50
      · simp only [lq_le] at c_4
        refine lv_aload_n hx hb dX0_on_44 rfl (lv_at hl 1 rfl) ?_
        refine va_get (D := (dC, dI)) (ci := 0) (v := .long E.2.2.2.2) (C := RX0) (T := TX0) (N := 5) hx hb hts kX0_on_0 hown hK hP 0 rfl rfl 4 (by decide) (hts (.fieldLink RX0 25 "FoldRow$Effect" "high" "J") kX0_on_4) (fun _ h9 => h9) rfl dX0_on_45 ?_
        refine lv_lstore_n (lv' := [(3, .long E.2.2.2.2), (0, .ref h0), (1, .long x)]) hx hb dX0_on_48 rfl hl (by decide) rfl (fun ls hl => ?_)
        refine lv_lload_n hx hb dX0_on_49 rfl (lv_at hl 0 rfl) ?_
        have hP9 := hP.sub (ws' := [(h0, .inr (0, [.long E.1, .int E.2.1, .long E.2.2.1, .int E.2.2.2.1, .long E.2.2.2.2]))]) [0] rfl
        have hD9 := hD.sub (ws' := [(h0, .inr (0, [.long E.1, .int E.2.1, .long E.2.2.1, .int E.2.2.2.1, .long E.2.2.2.2]))]) [0] (by decide) rfl
        have hK9 := hK.sub (tys' := []) [] rfl
        refine W.widen (k := 0) (n := 0) (Nat.le_of_ble_eq_true rfl) (Nat.le_of_ble_eq_true rfl) ?_
        exact W.lret (v := E.2.2.2.2) hx hb hr (fun t9 ht hW => ⟨⟨E.2.2.2.2, (), rfl, by first | (simp [e_on, e_cl, ev_1, c_2, c_3, c_4]; done) | (simp [e_on, e_cl, ← ev_1, c_2, c_3, c_4]; done) | grind [e_on, e_cl], by rw [ht]; exact hP9, va_K.moved hW.alike hK9, hD9⟩, hS.F ht⟩) hS.2.2 dX0_on_50
  · refine lv_lload_n hx hb dX0_on_14 rfl (lv_at hl 0 rfl) ?_
    refine lv_aload_n hx hb dX0_on_15 rfl (lv_at hl 1 rfl) ?_
    refine va_get (D := (dC, dI)) (ci := 0) (v := .long E.2.2.1) (C := RX0) (T := TX0) (N := 5) hx hb hts kX0_on_0 hown hK hP 0 rfl rfl 2 (by decide) (hts (.fieldLink RX0 19 "FoldRow$Effect" "low" "J") kX0_on_5) (fun _ h9 => h9) rfl dX0_on_16 ?_
    refine W.lcmp hx hb dX0_on_19 ?_
    refine lv_if_ge (tgt := 28) hx hb dX0_on_20 (by decide) (fun c_5 => ?_) (fun c_5 => ?_)
    · simp only [lq_ge] at c_5
      refine lv_aload_n hx hb dX0_on_28 rfl (lv_at hl 1 rfl) ?_
      refine va_get (D := (dC, dI)) (ci := 0) (v := .int E.2.2.2.1) (C := RX0) (T := TX0) (N := 5) hx hb hts kX0_on_0 hown hK hP 0 rfl rfl 3 (by decide) (hts (.fieldLink RX0 22 "FoldRow$Effect" "hasHigh" "Z") kX0_on_3) (fun _ h9 => h9) rfl dX0_on_29 ?_
      refine lv_if_eq (tgt := 49) hx hb dX0_on_32 (by decide) (fun c_6 => ?_) (fun c_6 => ?_)
      · refine lv_lload_n hx hb dX0_on_49 rfl (lv_at hl 0 rfl) ?_
        have hP9 := hP.sub (ws' := [(h0, .inr (0, [.long E.1, .int E.2.1, .long E.2.2.1, .int E.2.2.2.1, .long E.2.2.2.2]))]) [0] rfl
        have hD9 := hD.sub (ws' := [(h0, .inr (0, [.long E.1, .int E.2.1, .long E.2.2.1, .int E.2.2.2.1, .long E.2.2.2.2]))]) [0] (by decide) rfl
        have hK9 := hK.sub (tys' := []) [] rfl
        refine W.widen (k := 0) (n := 0) (Nat.le_of_ble_eq_true rfl) (Nat.le_of_ble_eq_true rfl) ?_
        exact W.lret (v := v_1) hx hb hr (fun t9 ht hW => ⟨⟨v_1, (), rfl, by first | (simp [e_on, e_cl, ev_1, c_2, c_5, c_6]; done) | (simp [e_on, e_cl, ← ev_1, c_2, c_5, c_6]; done) | grind [e_on, e_cl], by rw [ht]; exact hP9, va_K.moved hW.alike hK9, hD9⟩, hS.F ht⟩) hS.2.2 dX0_on_50
      · refine lv_lload_n hx hb dX0_on_35 rfl (lv_at hl 0 rfl) ?_
        refine lv_aload_n hx hb dX0_on_36 rfl (lv_at hl 1 rfl) ?_
        refine va_get (D := (dC, dI)) (ci := 0) (v := .long E.2.2.2.2) (C := RX0) (T := TX0) (N := 5) hx hb hts kX0_on_0 hown hK hP 0 rfl rfl 4 (by decide) (hts (.fieldLink RX0 25 "FoldRow$Effect" "high" "J") kX0_on_4) (fun _ h9 => h9) rfl dX0_on_37 ?_
        refine W.lcmp hx hb dX0_on_40 ?_
        refine lv_if_le (tgt := 49) hx hb dX0_on_41 (by decide) (fun c_7 => ?_) (fun c_7 => ?_)
        · simp only [lq_le] at c_7
          refine lv_lload_n hx hb dX0_on_49 rfl (lv_at hl 0 rfl) ?_
          have hP9 := hP.sub (ws' := [(h0, .inr (0, [.long E.1, .int E.2.1, .long E.2.2.1, .int E.2.2.2.1, .long E.2.2.2.2]))]) [0] rfl
          have hD9 := hD.sub (ws' := [(h0, .inr (0, [.long E.1, .int E.2.1, .long E.2.2.1, .int E.2.2.2.1, .long E.2.2.2.2]))]) [0] (by decide) rfl
          have hK9 := hK.sub (tys' := []) [] rfl
          refine W.widen (k := 0) (n := 0) (Nat.le_of_ble_eq_true rfl) (Nat.le_of_ble_eq_true rfl) ?_
          exact W.lret (v := v_1) hx hb hr (fun t9 ht hW => ⟨⟨v_1, (), rfl, by first | (simp [e_on, e_cl, ev_1, c_2, c_5, c_6, c_7]; done) | (simp [e_on, e_cl, ← ev_1, c_2, c_5, c_6, c_7]; done) | grind [e_on, e_cl], by rw [ht]; exact hP9, va_K.moved hW.alike hK9, hD9⟩, hS.F ht⟩) hS.2.2 dX0_on_50
        · simp only [lq_le] at c_7
          refine lv_aload_n hx hb dX0_on_44 rfl (lv_at hl 1 rfl) ?_
          refine va_get (D := (dC, dI)) (ci := 0) (v := .long E.2.2.2.2) (C := RX0) (T := TX0) (N := 5) hx hb hts kX0_on_0 hown hK hP 0 rfl rfl 4 (by decide) (hts (.fieldLink RX0 25 "FoldRow$Effect" "high" "J") kX0_on_4) (fun _ h9 => h9) rfl dX0_on_45 ?_
          refine lv_lstore_n (lv' := [(3, .long E.2.2.2.2), (0, .ref h0), (1, .long x)]) hx hb dX0_on_48 rfl hl (by decide) rfl (fun ls hl => ?_)
          refine lv_lload_n hx hb dX0_on_49 rfl (lv_at hl 0 rfl) ?_
          have hP9 := hP.sub (ws' := [(h0, .inr (0, [.long E.1, .int E.2.1, .long E.2.2.1, .int E.2.2.2.1, .long E.2.2.2.2]))]) [0] rfl
          have hD9 := hD.sub (ws' := [(h0, .inr (0, [.long E.1, .int E.2.1, .long E.2.2.1, .int E.2.2.2.1, .long E.2.2.2.2]))]) [0] (by decide) rfl
          have hK9 := hK.sub (tys' := []) [] rfl
          refine W.widen (k := 0) (n := 0) (Nat.le_of_ble_eq_true rfl) (Nat.le_of_ble_eq_true rfl) ?_
          exact W.lret (v := E.2.2.2.2) hx hb hr (fun t9 ht hW => ⟨⟨E.2.2.2.2, (), rfl, by first | (simp [e_on, e_cl, ev_1, c_2, c_5, c_6, c_7]; done) | (simp [e_on, e_cl, ← ev_1, c_2, c_5, c_6, c_7]; done) | grind [e_on, e_cl], by rw [ht]; exact hP9, va_K.moved hW.alike hK9, hD9⟩, hS.F ht⟩) hS.2.2 dX0_on_50
    · simp only [lq_ge] at c_5
      refine lv_aload_n hx hb dX0_on_23 rfl (lv_at hl 1 rfl) ?_
      refine va_get (D := (dC, dI)) (ci := 0) (v := .long E.2.2.1) (C := RX0) (T := TX0) (N := 5) hx hb hts kX0_on_0 hown hK hP 0 rfl rfl 2 (by decide) (hts (.fieldLink RX0 19 "FoldRow$Effect" "low" "J") kX0_on_5) (fun _ h9 => h9) rfl dX0_on_24 ?_
      refine lv_lstore_n (lv' := [(3, .long E.2.2.1), (0, .ref h0), (1, .long x)]) hx hb dX0_on_27 rfl hl (by decide) rfl (fun ls hl => ?_)
      refine lv_aload_n hx hb dX0_on_28 rfl (lv_at hl 1 rfl) ?_
      refine va_get (D := (dC, dI)) (ci := 0) (v := .int E.2.2.2.1) (C := RX0) (T := TX0) (N := 5) hx hb hts kX0_on_0 hown hK hP 0 rfl rfl 3 (by decide) (hts (.fieldLink RX0 22 "FoldRow$Effect" "hasHigh" "Z") kX0_on_3) (fun _ h9 => h9) rfl dX0_on_29 ?_
      refine lv_if_eq (tgt := 49) hx hb dX0_on_32 (by decide) (fun c_8 => ?_) (fun c_8 => ?_)
      · refine lv_lload_n hx hb dX0_on_49 rfl (lv_at hl 0 rfl) ?_
        have hP9 := hP.sub (ws' := [(h0, .inr (0, [.long E.1, .int E.2.1, .long E.2.2.1, .int E.2.2.2.1, .long E.2.2.2.2]))]) [0] rfl
        have hD9 := hD.sub (ws' := [(h0, .inr (0, [.long E.1, .int E.2.1, .long E.2.2.1, .int E.2.2.2.1, .long E.2.2.2.2]))]) [0] (by decide) rfl
        have hK9 := hK.sub (tys' := []) [] rfl
        refine W.widen (k := 0) (n := 0) (Nat.le_of_ble_eq_true rfl) (Nat.le_of_ble_eq_true rfl) ?_
        exact W.lret (v := E.2.2.1) hx hb hr (fun t9 ht hW => ⟨⟨E.2.2.1, (), rfl, by first | (simp [e_on, e_cl, ev_1, c_2, c_5, c_8]; done) | (simp [e_on, e_cl, ← ev_1, c_2, c_5, c_8]; done) | grind [e_on, e_cl], by rw [ht]; exact hP9, va_K.moved hW.alike hK9, hD9⟩, hS.F ht⟩) hS.2.2 dX0_on_50
      · refine lv_lload_n hx hb dX0_on_35 rfl (lv_at hl 0 rfl) ?_
        refine lv_aload_n hx hb dX0_on_36 rfl (lv_at hl 1 rfl) ?_
        refine va_get (D := (dC, dI)) (ci := 0) (v := .long E.2.2.2.2) (C := RX0) (T := TX0) (N := 5) hx hb hts kX0_on_0 hown hK hP 0 rfl rfl 4 (by decide) (hts (.fieldLink RX0 25 "FoldRow$Effect" "high" "J") kX0_on_4) (fun _ h9 => h9) rfl dX0_on_37 ?_
        refine W.lcmp hx hb dX0_on_40 ?_
        refine lv_if_le (tgt := 49) hx hb dX0_on_41 (by decide) (fun c_9 => ?_) (fun c_9 => ?_)
        · simp only [lq_le] at c_9
          refine lv_lload_n hx hb dX0_on_49 rfl (lv_at hl 0 rfl) ?_
          have hP9 := hP.sub (ws' := [(h0, .inr (0, [.long E.1, .int E.2.1, .long E.2.2.1, .int E.2.2.2.1, .long E.2.2.2.2]))]) [0] rfl
          have hD9 := hD.sub (ws' := [(h0, .inr (0, [.long E.1, .int E.2.1, .long E.2.2.1, .int E.2.2.2.1, .long E.2.2.2.2]))]) [0] (by decide) rfl
          have hK9 := hK.sub (tys' := []) [] rfl
          refine W.widen (k := 0) (n := 0) (Nat.le_of_ble_eq_true rfl) (Nat.le_of_ble_eq_true rfl) ?_
          exact W.lret (v := E.2.2.1) hx hb hr (fun t9 ht hW => ⟨⟨E.2.2.1, (), rfl, by first | (simp [e_on, e_cl, ev_1, c_2, c_5, c_8, c_9]; done) | (simp [e_on, e_cl, ← ev_1, c_2, c_5, c_8, c_9]; done) | grind [e_on, e_cl], by rw [ht]; exact hP9, va_K.moved hW.alike hK9, hD9⟩, hS.F ht⟩) hS.2.2 dX0_on_50
        · simp only [lq_le] at c_9
          refine lv_aload_n hx hb dX0_on_44 rfl (lv_at hl 1 rfl) ?_
          refine va_get (D := (dC, dI)) (ci := 0) (v := .long E.2.2.2.2) (C := RX0) (T := TX0) (N := 5) hx hb hts kX0_on_0 hown hK hP 0 rfl rfl 4 (by decide) (hts (.fieldLink RX0 25 "FoldRow$Effect" "high" "J") kX0_on_4) (fun _ h9 => h9) rfl dX0_on_45 ?_
          refine lv_lstore_n (lv' := [(3, .long E.2.2.2.2), (0, .ref h0), (1, .long x)]) hx hb dX0_on_48 rfl hl (by decide) rfl (fun ls hl => ?_)
          refine lv_lload_n hx hb dX0_on_49 rfl (lv_at hl 0 rfl) ?_
          have hP9 := hP.sub (ws' := [(h0, .inr (0, [.long E.1, .int E.2.1, .long E.2.2.1, .int E.2.2.2.1, .long E.2.2.2.2]))]) [0] rfl
          have hD9 := hD.sub (ws' := [(h0, .inr (0, [.long E.1, .int E.2.1, .long E.2.2.1, .int E.2.2.2.1, .long E.2.2.2.2]))]) [0] (by decide) rfl
          have hK9 := hK.sub (tys' := []) [] rfl
          refine W.widen (k := 0) (n := 0) (Nat.le_of_ble_eq_true rfl) (Nat.le_of_ble_eq_true rfl) ?_
          exact W.lret (v := E.2.2.2.2) hx hb hr (fun t9 ht hW => ⟨⟨E.2.2.2.2, (), rfl, by first | (simp [e_on, e_cl, ev_1, c_2, c_5, c_8, c_9]; done) | (simp [e_on, e_cl, ← ev_1, c_2, c_5, c_8, c_9]; done) | grind [e_on, e_cl], by rw [ht]; exact hP9, va_K.moved hW.alike hK9, hD9⟩, hS.F ht⟩) hS.2.2 dX0_on_50

set_option maxRecDepth 20000 in
theorem kX0_staysAtHigh_0 : ∀ w ∈ wsX00, w ∈ wsX0_staysAtHigh := by decide +kernel
set_option maxRecDepth 20000 in
theorem kX0_staysAtHigh_1 : (.fieldLink RX0 9 "FoldRow$Effect" "shift" "J" : Cond) ∈ wsX0_staysAtHigh := by decide +kernel
set_option maxHeartbeats 4000000 in
set_option maxRecDepth 100000 in
theorem qX0_staysAtHigh (l : Launch) (dC : Nat → ClassId) (dI : Nat → Nat → Nat) (sz : Nat) (h0 : Nat) (E : Ef) (w : Int32) (hwb : w = 0 ∨ w = 1) : Met l yX0_staysAtHigh wsX0_staysAtHigh ({ frames := 0, cells := 0, slots := 0, locals := 0 }) (va_Pc [.ref h0, .int w] (fun U => U.heap.size = sz ∧ va_P (dC, dI) vwCl [(h0, .inr (0, [.long E.1, .int E.2.1, .long E.2.2.1, .int E.2.2.2.1, .long E.2.2.2.2]))] U.heap ∧ va_K (dC, dI) vwCl [] U ∧ va_D (fun _ => True) [(h0, .inr (0, [.long E.1, .int E.2.1, .long E.2.2.1, .int E.2.2.2.1, .long E.2.2.2.2]))])) (va_Qi (fun (r : Int32) (u : Unit) => (r = e_st E w)) (fun (u : Unit) (t9 : State) => va_P (dC, dI) vwCl [(h0, .inr (0, [.long E.1, .int E.2.1, .long E.2.2.1, .int E.2.2.2.1, .long E.2.2.2.2]))] t9.heap ∧ va_K (dC, dI) vwCl [] t9 ∧ va_D (va_A [(h0, .inr (0, [.long E.1, .int E.2.1, .long E.2.2.1, .int E.2.2.2.1, .long E.2.2.2.2]))] sz) [(h0, .inr (0, [.long E.1, .int E.2.1, .long E.2.2.1, .int E.2.2.2.1, .long E.2.2.2.2]))]) (va_A [(h0, .inr (0, [.long E.1, .int E.2.1, .long E.2.2.1, .int E.2.2.2.1, .long E.2.2.2.2]))] sz)) 0 0 (va_A [(h0, .inr (0, [.long E.1, .int E.2.1, .long E.2.2.1, .int E.2.2.2.1, .long E.2.2.2.2]))] sz) := by
  refine Met.ofW (cc := cX0_staysAtHigh) (maxL := 2) (ret := (some .boolean)) (by decide) rfl ?_
  intro p e s m args below meth c s₁ B hml hv
  obtain ⟨rfl, hsz, hP, hK, hD0⟩ := hv
  have hx := B.exec
  have hb := B.bytes
  have hr := B.returns
  have hts := atoms_spec (ws := wsX0_staysAtHigh) B.pre
  have hown : s.vm.findClass RX0 = some m.cls := findClass_of_methodNamed B.named
  have hlocks := B.notSynchronized
  subst hsz
  have hD := hD0.self (sz := s.heap.size)
  generalize hAe : va_A [(h0, .inr (0, [.long E.1, .int E.2.1, .long E.2.2.1, .int E.2.2.2.1, .long E.2.2.2.2]))] s.heap.size = A at hD ⊢
  have hA : ∀ q : Nat, s.heap.size ≤ q → A q := fun q h => by rw [← hAe]; exact Or.inr h
  have hS : va_S A s.heap s.heap [] := va_S.rf
  have hP : va_P (dC, dI) vwCl [(h0, .inr (0, [.long E.1, .int E.2.1, .long E.2.2.1, .int E.2.2.2.1, .long E.2.2.2.2]))] s.heap := hP
  have hl := lv_entry ([.ref h0, .int w]) (n := 2) (Nat.le_of_ble_eq_true rfl)
  rw [lg_entry_eq]
  generalize (lg_sl ([.ref h0, .int w]) ++ List.replicate (2 - (lg_sl ([.ref h0, .int w])).length) Slot.unset).toArray = ls at hl ⊢
  have hl : lv_has ls 2 [(0, .ref h0), (1, .int w)] := hl
  refine lv_aload_n hx hb dX0_staysAtHigh_0 rfl (lv_at hl 0 rfl) ?_
  refine va_get (D := (dC, dI)) (ci := 0) (v := .long E.1) (C := RX0) (T := TX0) (N := 5) hx hb hts kX0_staysAtHigh_0 hown hK hP 0 rfl rfl 0 (by decide) (hts (.fieldLink RX0 9 "FoldRow$Effect" "shift" "J") kX0_staysAtHigh_1) (fun _ h9 => h9) rfl dX0_staysAtHigh_1 ?_
  refine lv_lconst (v := 0) hx hb dX0_staysAtHigh_4 (by decide) ?_
  refine W.lcmp hx hb dX0_staysAtHigh_5 ?_
  refine lv_if_ne (tgt := 13) hx hb dX0_staysAtHigh_6 (by decide) (fun c_1 => ?_) (fun c_1 => ?_)
  · simp only [lq_ne] at c_1
    refine lv_aload_n hx hb dX0_staysAtHigh_13 rfl (lv_at hl 0 rfl) ?_
    refine va_get (D := (dC, dI)) (ci := 0) (v := .long E.1) (C := RX0) (T := TX0) (N := 5) hx hb hts kX0_staysAtHigh_0 hown hK hP 0 rfl rfl 0 (by decide) (hts (.fieldLink RX0 9 "FoldRow$Effect" "shift" "J") kX0_staysAtHigh_1) (fun _ h9 => h9) rfl dX0_staysAtHigh_14 ?_
    refine lv_lconst (v := 0) hx hb dX0_staysAtHigh_17 (by decide) ?_
    refine W.lcmp hx hb dX0_staysAtHigh_18 ?_
    refine lv_if_le (tgt := 26) hx hb dX0_staysAtHigh_19 (by decide) (fun c_2 => ?_) (fun c_2 => ?_)
    · simp only [lq_le] at c_2
      refine lv_iconst (v := 0) hx hb dX0_staysAtHigh_26 (by decide) ?_
      have hP9 := hP.sub (ws' := [(h0, .inr (0, [.long E.1, .int E.2.1, .long E.2.2.1, .int E.2.2.2.1, .long E.2.2.2.2]))]) [0] rfl
      have hD9 := hD.sub (ws' := [(h0, .inr (0, [.long E.1, .int E.2.1, .long E.2.2.1, .int E.2.2.2.1, .long E.2.2.2.2]))]) [0] (by decide) rfl
      have hK9 := hK.sub (tys' := []) [] rfl
      refine W.widen (k := 0) (n := 0) (Nat.le_of_ble_eq_true rfl) (Nat.le_of_ble_eq_true rfl) ?_
      exact W.zret (v := 0) hx hb hr rfl (fun t9 ht hW => ⟨⟨0, (), rfl, by first | (simp [e_st, c_1, c_2]; done) | (simp [e_st, c_1, c_2]; done) | grind [e_st], by rw [ht]; exact hP9, va_K.moved hW.alike hK9, hD9⟩, hS.F ht⟩) hS.2.2 dX0_staysAtHigh_27
    · simp only [lq_le] at c_2
      refine lv_iconst (v := 1) hx hb dX0_staysAtHigh_22 (by decide) ?_
      refine lv_goto (tgt := 27) hx hb dX0_staysAtHigh_23 (by decide) ?_
      have hP9 := hP.sub (ws' := [(h0, .inr (0, [.long E.1, .int E.2.1, .long E.2.2.1, .int E.2.2.2.1, .long E.2.2.2.2]))]) [0] rfl
      have hD9 := hD.sub (ws' := [(h0, .inr (0, [.long E.1, .int E.2.1, .long E.2.2.1, .int E.2.2.2.1, .long E.2.2.2.2]))]) [0] (by decide) rfl
      have hK9 := hK.sub (tys' := []) [] rfl
      refine W.widen (k := 0) (n := 0) (Nat.le_of_ble_eq_true rfl) (Nat.le_of_ble_eq_true rfl) ?_
      exact W.zret (v := 1) hx hb hr rfl (fun t9 ht hW => ⟨⟨1, (), rfl, by first | (simp [e_st, c_1, c_2]; done) | (simp [e_st, c_1, c_2]; done) | grind [e_st], by rw [ht]; exact hP9, va_K.moved hW.alike hK9, hD9⟩, hS.F ht⟩) hS.2.2 dX0_staysAtHigh_27
  · simp only [lq_ne] at c_1
    refine lv_iload_n hx hb dX0_staysAtHigh_9 rfl (lv_at hl 1 rfl) ?_
    refine lv_goto (tgt := 27) hx hb dX0_staysAtHigh_10 (by decide) ?_
    have hP9 := hP.sub (ws' := [(h0, .inr (0, [.long E.1, .int E.2.1, .long E.2.2.1, .int E.2.2.2.1, .long E.2.2.2.2]))]) [0] rfl
    have hD9 := hD.sub (ws' := [(h0, .inr (0, [.long E.1, .int E.2.1, .long E.2.2.1, .int E.2.2.2.1, .long E.2.2.2.2]))]) [0] (by decide) rfl
    have hK9 := hK.sub (tys' := []) [] rfl
    refine W.widen (k := 0) (n := 0) (Nat.le_of_ble_eq_true rfl) (Nat.le_of_ble_eq_true rfl) ?_
    exact W.zret (v := w) hx hb hr (by rcases hwb with h | h <;> rw [h] <;> rfl) (fun t9 ht hW => ⟨⟨w, (), rfl, by first | (simp [e_st, c_1]; done) | (simp [e_st, c_1]; done) | grind [e_st], by rw [ht]; exact hP9, va_K.moved hW.alike hK9, hD9⟩, hS.F ht⟩) hS.2.2 dX0_staysAtHigh_27

set_option maxRecDepth 20000 in
theorem kX0_isSameOfAll_0 : ∀ w ∈ wsX00, w ∈ wsX0_isSameOfAll := by decide +kernel
set_option maxRecDepth 20000 in
theorem kX0_isSameOfAll_1 : (.fieldLink RX0 15 "FoldRow$Effect" "hasLow" "Z" : Cond) ∈ wsX0_isSameOfAll := by decide +kernel
set_option maxRecDepth 20000 in
theorem kX0_isSameOfAll_2 : (.fieldLink RX0 22 "FoldRow$Effect" "hasHigh" "Z" : Cond) ∈ wsX0_isSameOfAll := by decide +kernel
set_option maxRecDepth 20000 in
theorem kX0_isSameOfAll_3 : (.fieldLink RX0 19 "FoldRow$Effect" "low" "J" : Cond) ∈ wsX0_isSameOfAll := by decide +kernel
set_option maxRecDepth 20000 in
theorem kX0_isSameOfAll_4 : (.fieldLink RX0 25 "FoldRow$Effect" "high" "J" : Cond) ∈ wsX0_isSameOfAll := by decide +kernel
set_option maxHeartbeats 4000000 in
set_option maxRecDepth 100000 in
theorem qX0_isSameOfAll (l : Launch) (dC : Nat → ClassId) (dI : Nat → Nat → Nat) (sz : Nat) (h0 : Nat) (E : Ef)  : Met l yX0_isSameOfAll wsX0_isSameOfAll ({ frames := 0, cells := 0, slots := 0, locals := 0 }) (va_Pc [.ref h0] (fun U => U.heap.size = sz ∧ va_P (dC, dI) vwCl [(h0, .inr (0, [.long E.1, .int E.2.1, .long E.2.2.1, .int E.2.2.2.1, .long E.2.2.2.2]))] U.heap ∧ va_K (dC, dI) vwCl [] U ∧ va_D (fun _ => True) [(h0, .inr (0, [.long E.1, .int E.2.1, .long E.2.2.1, .int E.2.2.2.1, .long E.2.2.2.2]))])) (va_Qi (fun (r : Int32) (u : Unit) => (r = e_sa E)) (fun (u : Unit) (t9 : State) => va_P (dC, dI) vwCl [(h0, .inr (0, [.long E.1, .int E.2.1, .long E.2.2.1, .int E.2.2.2.1, .long E.2.2.2.2]))] t9.heap ∧ va_K (dC, dI) vwCl [] t9 ∧ va_D (va_A [(h0, .inr (0, [.long E.1, .int E.2.1, .long E.2.2.1, .int E.2.2.2.1, .long E.2.2.2.2]))] sz) [(h0, .inr (0, [.long E.1, .int E.2.1, .long E.2.2.1, .int E.2.2.2.1, .long E.2.2.2.2]))]) (va_A [(h0, .inr (0, [.long E.1, .int E.2.1, .long E.2.2.1, .int E.2.2.2.1, .long E.2.2.2.2]))] sz)) 0 0 (va_A [(h0, .inr (0, [.long E.1, .int E.2.1, .long E.2.2.1, .int E.2.2.2.1, .long E.2.2.2.2]))] sz) := by
  refine Met.ofW (cc := cX0_isSameOfAll) (maxL := 1) (ret := (some .boolean)) (by decide) rfl ?_
  intro p e s m args below meth c s₁ B hml hv
  obtain ⟨rfl, hsz, hP, hK, hD0⟩ := hv
  have hx := B.exec
  have hb := B.bytes
  have hr := B.returns
  have hts := atoms_spec (ws := wsX0_isSameOfAll) B.pre
  have hown : s.vm.findClass RX0 = some m.cls := findClass_of_methodNamed B.named
  have hlocks := B.notSynchronized
  subst hsz
  have hD := hD0.self (sz := s.heap.size)
  generalize hAe : va_A [(h0, .inr (0, [.long E.1, .int E.2.1, .long E.2.2.1, .int E.2.2.2.1, .long E.2.2.2.2]))] s.heap.size = A at hD ⊢
  have hA : ∀ q : Nat, s.heap.size ≤ q → A q := fun q h => by rw [← hAe]; exact Or.inr h
  have hS : va_S A s.heap s.heap [] := va_S.rf
  have hP : va_P (dC, dI) vwCl [(h0, .inr (0, [.long E.1, .int E.2.1, .long E.2.2.1, .int E.2.2.2.1, .long E.2.2.2.2]))] s.heap := hP
  have hl := lv_entry ([.ref h0]) (n := 1) (Nat.le_of_ble_eq_true rfl)
  rw [lg_entry_eq]
  generalize (lg_sl ([.ref h0]) ++ List.replicate (1 - (lg_sl ([.ref h0])).length) Slot.unset).toArray = ls at hl ⊢
  have hl : lv_has ls 1 [(0, .ref h0)] := hl
  refine lv_aload_n hx hb dX0_isSameOfAll_0 rfl (lv_at hl 0 rfl) ?_
  refine va_get (D := (dC, dI)) (ci := 0) (v := .int E.2.1) (C := RX0) (T := TX0) (N := 5) hx hb hts kX0_isSameOfAll_0 hown hK hP 0 rfl rfl 1 (by decide) (hts (.fieldLink RX0 15 "FoldRow$Effect" "hasLow" "Z") kX0_isSameOfAll_1) (fun _ h9 => h9) rfl dX0_isSameOfAll_1 ?_
  refine lv_if_eq (tgt := 30) hx hb dX0_isSameOfAll_4 (by decide) (fun c_1 => ?_) (fun c_1 => ?_)
  · refine lv_iconst (v := 0) hx hb dX0_isSameOfAll_30 (by decide) ?_
    have hP9 := hP.sub (ws' := [(h0, .inr (0, [.long E.1, .int E.2.1, .long E.2.2.1, .int E.2.2.2.1, .long E.2.2.2.2]))]) [0] rfl
    have hD9 := hD.sub (ws' := [(h0, .inr (0, [.long E.1, .int E.2.1, .long E.2.2.1, .int E.2.2.2.1, .long E.2.2.2.2]))]) [0] (by decide) rfl
    have hK9 := hK.sub (tys' := []) [] rfl
    refine W.widen (k := 0) (n := 0) (Nat.le_of_ble_eq_true rfl) (Nat.le_of_ble_eq_true rfl) ?_
    exact W.zret (v := 0) hx hb hr rfl (fun t9 ht hW => ⟨⟨0, (), rfl, by first | (simp [e_sa, c_1]; done) | (simp [e_sa, c_1]; done) | grind [e_sa], by rw [ht]; exact hP9, va_K.moved hW.alike hK9, hD9⟩, hS.F ht⟩) hS.2.2 dX0_isSameOfAll_31
  · refine lv_aload_n hx hb dX0_isSameOfAll_7 rfl (lv_at hl 0 rfl) ?_
    refine va_get (D := (dC, dI)) (ci := 0) (v := .int E.2.2.2.1) (C := RX0) (T := TX0) (N := 5) hx hb hts kX0_isSameOfAll_0 hown hK hP 0 rfl rfl 3 (by decide) (hts (.fieldLink RX0 22 "FoldRow$Effect" "hasHigh" "Z") kX0_isSameOfAll_2) (fun _ h9 => h9) rfl dX0_isSameOfAll_8 ?_
    refine lv_if_eq (tgt := 30) hx hb dX0_isSameOfAll_11 (by decide) (fun c_2 => ?_) (fun c_2 => ?_)
    · refine lv_iconst (v := 0) hx hb dX0_isSameOfAll_30 (by decide) ?_
      have hP9 := hP.sub (ws' := [(h0, .inr (0, [.long E.1, .int E.2.1, .long E.2.2.1, .int E.2.2.2.1, .long E.2.2.2.2]))]) [0] rfl
      have hD9 := hD.sub (ws' := [(h0, .inr (0, [.long E.1, .int E.2.1, .long E.2.2.1, .int E.2.2.2.1, .long E.2.2.2.2]))]) [0] (by decide) rfl
      have hK9 := hK.sub (tys' := []) [] rfl
      refine W.widen (k := 0) (n := 0) (Nat.le_of_ble_eq_true rfl) (Nat.le_of_ble_eq_true rfl) ?_
      exact W.zret (v := 0) hx hb hr rfl (fun t9 ht hW => ⟨⟨0, (), rfl, by first | (simp [e_sa, c_1, c_2]; done) | (simp [e_sa, c_1, c_2]; done) | grind [e_sa], by rw [ht]; exact hP9, va_K.moved hW.alike hK9, hD9⟩, hS.F ht⟩) hS.2.2 dX0_isSameOfAll_31
    · refine lv_aload_n hx hb dX0_isSameOfAll_14 rfl (lv_at hl 0 rfl) ?_
      refine va_get (D := (dC, dI)) (ci := 0) (v := .long E.2.2.1) (C := RX0) (T := TX0) (N := 5) hx hb hts kX0_isSameOfAll_0 hown hK hP 0 rfl rfl 2 (by decide) (hts (.fieldLink RX0 19 "FoldRow$Effect" "low" "J") kX0_isSameOfAll_3) (fun _ h9 => h9) rfl dX0_isSameOfAll_15 ?_
      refine lv_aload_n hx hb dX0_isSameOfAll_18 rfl (lv_at hl 0 rfl) ?_
      refine va_get (D := (dC, dI)) (ci := 0) (v := .long E.2.2.2.2) (C := RX0) (T := TX0) (N := 5) hx hb hts kX0_isSameOfAll_0 hown hK hP 0 rfl rfl 4 (by decide) (hts (.fieldLink RX0 25 "FoldRow$Effect" "high" "J") kX0_isSameOfAll_4) (fun _ h9 => h9) rfl dX0_isSameOfAll_19 ?_
      refine W.lcmp hx hb dX0_isSameOfAll_22 ?_
      refine lv_if_ne (tgt := 30) hx hb dX0_isSameOfAll_23 (by decide) (fun c_3 => ?_) (fun c_3 => ?_)
      · simp only [lq_ne] at c_3
        refine lv_iconst (v := 0) hx hb dX0_isSameOfAll_30 (by decide) ?_
        have hP9 := hP.sub (ws' := [(h0, .inr (0, [.long E.1, .int E.2.1, .long E.2.2.1, .int E.2.2.2.1, .long E.2.2.2.2]))]) [0] rfl
        have hD9 := hD.sub (ws' := [(h0, .inr (0, [.long E.1, .int E.2.1, .long E.2.2.1, .int E.2.2.2.1, .long E.2.2.2.2]))]) [0] (by decide) rfl
        have hK9 := hK.sub (tys' := []) [] rfl
        refine W.widen (k := 0) (n := 0) (Nat.le_of_ble_eq_true rfl) (Nat.le_of_ble_eq_true rfl) ?_
        exact W.zret (v := 0) hx hb hr rfl (fun t9 ht hW => ⟨⟨0, (), rfl, by first | (simp [e_sa, c_1, c_2, c_3]; done) | (simp [e_sa, c_1, c_2, c_3]; done) | grind [e_sa], by rw [ht]; exact hP9, va_K.moved hW.alike hK9, hD9⟩, hS.F ht⟩) hS.2.2 dX0_isSameOfAll_31
      · simp only [lq_ne] at c_3
        refine lv_iconst (v := 1) hx hb dX0_isSameOfAll_26 (by decide) ?_
        refine lv_goto (tgt := 31) hx hb dX0_isSameOfAll_27 (by decide) ?_
        have hP9 := hP.sub (ws' := [(h0, .inr (0, [.long E.1, .int E.2.1, .long E.2.2.1, .int E.2.2.2.1, .long E.2.2.2.2]))]) [0] rfl
        have hD9 := hD.sub (ws' := [(h0, .inr (0, [.long E.1, .int E.2.1, .long E.2.2.1, .int E.2.2.2.1, .long E.2.2.2.2]))]) [0] (by decide) rfl
        have hK9 := hK.sub (tys' := []) [] rfl
        refine W.widen (k := 0) (n := 0) (Nat.le_of_ble_eq_true rfl) (Nat.le_of_ble_eq_true rfl) ?_
        exact W.zret (v := 1) hx hb hr rfl (fun t9 ht hW => ⟨⟨1, (), rfl, by first | (simp [e_sa, c_1, c_2, c_3]; done) | (simp [e_sa, c_1, c_2, c_3]; done) | grind [e_sa], by rw [ht]; exact hP9, va_K.moved hW.alike hK9, hD9⟩, hS.F ht⟩) hS.2.2 dX0_isSameOfAll_31

set_option maxRecDepth 20000 in
theorem kX0_leavesEachItself_0 : ∀ w ∈ wsX00, w ∈ wsX0_leavesEachItself := by decide +kernel
set_option maxRecDepth 20000 in
theorem kX0_leavesEachItself_1 : (.fieldLink RX0 9 "FoldRow$Effect" "shift" "J" : Cond) ∈ wsX0_leavesEachItself := by decide +kernel
set_option maxRecDepth 20000 in
theorem kX0_leavesEachItself_2 : (.fieldLink RX0 15 "FoldRow$Effect" "hasLow" "Z" : Cond) ∈ wsX0_leavesEachItself := by decide +kernel
set_option maxRecDepth 20000 in
theorem kX0_leavesEachItself_3 : (.fieldLink RX0 22 "FoldRow$Effect" "hasHigh" "Z" : Cond) ∈ wsX0_leavesEachItself := by decide +kernel
set_option maxHeartbeats 4000000 in
set_option maxRecDepth 100000 in
theorem qX0_leavesEachItself (l : Launch) (dC : Nat → ClassId) (dI : Nat → Nat → Nat) (sz : Nat) (h0 : Nat) (E : Ef)  : Met l yX0_leavesEachItself wsX0_leavesEachItself ({ frames := 0, cells := 0, slots := 0, locals := 0 }) (va_Pc [.ref h0] (fun U => U.heap.size = sz ∧ va_P (dC, dI) vwCl [(h0, .inr (0, [.long E.1, .int E.2.1, .long E.2.2.1, .int E.2.2.2.1, .long E.2.2.2.2]))] U.heap ∧ va_K (dC, dI) vwCl [] U ∧ va_D (fun _ => True) [(h0, .inr (0, [.long E.1, .int E.2.1, .long E.2.2.1, .int E.2.2.2.1, .long E.2.2.2.2]))])) (va_Qi (fun (r : Int32) (u : Unit) => (r = e_id E)) (fun (u : Unit) (t9 : State) => va_P (dC, dI) vwCl [(h0, .inr (0, [.long E.1, .int E.2.1, .long E.2.2.1, .int E.2.2.2.1, .long E.2.2.2.2]))] t9.heap ∧ va_K (dC, dI) vwCl [] t9 ∧ va_D (va_A [(h0, .inr (0, [.long E.1, .int E.2.1, .long E.2.2.1, .int E.2.2.2.1, .long E.2.2.2.2]))] sz) [(h0, .inr (0, [.long E.1, .int E.2.1, .long E.2.2.1, .int E.2.2.2.1, .long E.2.2.2.2]))]) (va_A [(h0, .inr (0, [.long E.1, .int E.2.1, .long E.2.2.1, .int E.2.2.2.1, .long E.2.2.2.2]))] sz)) 0 0 (va_A [(h0, .inr (0, [.long E.1, .int E.2.1, .long E.2.2.1, .int E.2.2.2.1, .long E.2.2.2.2]))] sz) := by
  refine Met.ofW (cc := cX0_leavesEachItself) (maxL := 1) (ret := (some .boolean)) (by decide) rfl ?_
  intro p e s m args below meth c s₁ B hml hv
  obtain ⟨rfl, hsz, hP, hK, hD0⟩ := hv
  have hx := B.exec
  have hb := B.bytes
  have hr := B.returns
  have hts := atoms_spec (ws := wsX0_leavesEachItself) B.pre
  have hown : s.vm.findClass RX0 = some m.cls := findClass_of_methodNamed B.named
  have hlocks := B.notSynchronized
  subst hsz
  have hD := hD0.self (sz := s.heap.size)
  generalize hAe : va_A [(h0, .inr (0, [.long E.1, .int E.2.1, .long E.2.2.1, .int E.2.2.2.1, .long E.2.2.2.2]))] s.heap.size = A at hD ⊢
  have hA : ∀ q : Nat, s.heap.size ≤ q → A q := fun q h => by rw [← hAe]; exact Or.inr h
  have hS : va_S A s.heap s.heap [] := va_S.rf
  have hP : va_P (dC, dI) vwCl [(h0, .inr (0, [.long E.1, .int E.2.1, .long E.2.2.1, .int E.2.2.2.1, .long E.2.2.2.2]))] s.heap := hP
  have hl := lv_entry ([.ref h0]) (n := 1) (Nat.le_of_ble_eq_true rfl)
  rw [lg_entry_eq]
  generalize (lg_sl ([.ref h0]) ++ List.replicate (1 - (lg_sl ([.ref h0])).length) Slot.unset).toArray = ls at hl ⊢
  have hl : lv_has ls 1 [(0, .ref h0)] := hl
  refine lv_aload_n hx hb dX0_leavesEachItself_0 rfl (lv_at hl 0 rfl) ?_
  refine va_get (D := (dC, dI)) (ci := 0) (v := .long E.1) (C := RX0) (T := TX0) (N := 5) hx hb hts kX0_leavesEachItself_0 hown hK hP 0 rfl rfl 0 (by decide) (hts (.fieldLink RX0 9 "FoldRow$Effect" "shift" "J") kX0_leavesEachItself_1) (fun _ h9 => h9) rfl dX0_leavesEachItself_1 ?_
  refine lv_lconst (v := 0) hx hb dX0_leavesEachItself_4 (by decide) ?_
  refine W.lcmp hx hb dX0_leavesEachItself_5 ?_
  refine lv_if_ne (tgt := 27) hx hb dX0_leavesEachItself_6 (by decide) (fun c_1 => ?_) (fun c_1 => ?_)
  · simp only [lq_ne] at c_1
    refine lv_iconst (v := 0) hx hb dX0_leavesEachItself_27 (by decide) ?_
    have hP9 := hP.sub (ws' := [(h0, .inr (0, [.long E.1, .int E.2.1, .long E.2.2.1, .int E.2.2.2.1, .long E.2.2.2.2]))]) [0] rfl
    have hD9 := hD.sub (ws' := [(h0, .inr (0, [.long E.1, .int E.2.1, .long E.2.2.1, .int E.2.2.2.1, .long E.2.2.2.2]))]) [0] (by decide) rfl
    have hK9 := hK.sub (tys' := []) [] rfl
    refine W.widen (k := 0) (n := 0) (Nat.le_of_ble_eq_true rfl) (Nat.le_of_ble_eq_true rfl) ?_
    exact W.zret (v := 0) hx hb hr rfl (fun t9 ht hW => ⟨⟨0, (), rfl, by first | (simp [e_id, c_1]; done) | (simp [e_id, c_1]; done) | grind [e_id], by rw [ht]; exact hP9, va_K.moved hW.alike hK9, hD9⟩, hS.F ht⟩) hS.2.2 dX0_leavesEachItself_28
  · simp only [lq_ne] at c_1
    refine lv_aload_n hx hb dX0_leavesEachItself_9 rfl (lv_at hl 0 rfl) ?_
    refine va_get (D := (dC, dI)) (ci := 0) (v := .int E.2.1) (C := RX0) (T := TX0) (N := 5) hx hb hts kX0_leavesEachItself_0 hown hK hP 0 rfl rfl 1 (by decide) (hts (.fieldLink RX0 15 "FoldRow$Effect" "hasLow" "Z") kX0_leavesEachItself_2) (fun _ h9 => h9) rfl dX0_leavesEachItself_10 ?_
    refine lv_if_ne (tgt := 27) hx hb dX0_leavesEachItself_13 (by decide) (fun c_2 => ?_) (fun c_2 => ?_)
    · refine lv_iconst (v := 0) hx hb dX0_leavesEachItself_27 (by decide) ?_
      have hP9 := hP.sub (ws' := [(h0, .inr (0, [.long E.1, .int E.2.1, .long E.2.2.1, .int E.2.2.2.1, .long E.2.2.2.2]))]) [0] rfl
      have hD9 := hD.sub (ws' := [(h0, .inr (0, [.long E.1, .int E.2.1, .long E.2.2.1, .int E.2.2.2.1, .long E.2.2.2.2]))]) [0] (by decide) rfl
      have hK9 := hK.sub (tys' := []) [] rfl
      refine W.widen (k := 0) (n := 0) (Nat.le_of_ble_eq_true rfl) (Nat.le_of_ble_eq_true rfl) ?_
      exact W.zret (v := 0) hx hb hr rfl (fun t9 ht hW => ⟨⟨0, (), rfl, by first | (simp [e_id, c_1, c_2]; done) | (simp [e_id, c_1, c_2]; done) | grind [e_id], by rw [ht]; exact hP9, va_K.moved hW.alike hK9, hD9⟩, hS.F ht⟩) hS.2.2 dX0_leavesEachItself_28
    · refine lv_aload_n hx hb dX0_leavesEachItself_16 rfl (lv_at hl 0 rfl) ?_
      refine va_get (D := (dC, dI)) (ci := 0) (v := .int E.2.2.2.1) (C := RX0) (T := TX0) (N := 5) hx hb hts kX0_leavesEachItself_0 hown hK hP 0 rfl rfl 3 (by decide) (hts (.fieldLink RX0 22 "FoldRow$Effect" "hasHigh" "Z") kX0_leavesEachItself_3) (fun _ h9 => h9) rfl dX0_leavesEachItself_17 ?_
      refine lv_if_ne (tgt := 27) hx hb dX0_leavesEachItself_20 (by decide) (fun c_3 => ?_) (fun c_3 => ?_)
      · refine lv_iconst (v := 0) hx hb dX0_leavesEachItself_27 (by decide) ?_
        have hP9 := hP.sub (ws' := [(h0, .inr (0, [.long E.1, .int E.2.1, .long E.2.2.1, .int E.2.2.2.1, .long E.2.2.2.2]))]) [0] rfl
        have hD9 := hD.sub (ws' := [(h0, .inr (0, [.long E.1, .int E.2.1, .long E.2.2.1, .int E.2.2.2.1, .long E.2.2.2.2]))]) [0] (by decide) rfl
        have hK9 := hK.sub (tys' := []) [] rfl
        refine W.widen (k := 0) (n := 0) (Nat.le_of_ble_eq_true rfl) (Nat.le_of_ble_eq_true rfl) ?_
        exact W.zret (v := 0) hx hb hr rfl (fun t9 ht hW => ⟨⟨0, (), rfl, by first | (simp [e_id, c_1, c_2, c_3]; done) | (simp [e_id, c_1, c_2, c_3]; done) | grind [e_id], by rw [ht]; exact hP9, va_K.moved hW.alike hK9, hD9⟩, hS.F ht⟩) hS.2.2 dX0_leavesEachItself_28
      · refine lv_iconst (v := 1) hx hb dX0_leavesEachItself_23 (by decide) ?_
        refine lv_goto (tgt := 28) hx hb dX0_leavesEachItself_24 (by decide) ?_
        have hP9 := hP.sub (ws' := [(h0, .inr (0, [.long E.1, .int E.2.1, .long E.2.2.1, .int E.2.2.2.1, .long E.2.2.2.2]))]) [0] rfl
        have hD9 := hD.sub (ws' := [(h0, .inr (0, [.long E.1, .int E.2.1, .long E.2.2.1, .int E.2.2.2.1, .long E.2.2.2.2]))]) [0] (by decide) rfl
        have hK9 := hK.sub (tys' := []) [] rfl
        refine W.widen (k := 0) (n := 0) (Nat.le_of_ble_eq_true rfl) (Nat.le_of_ble_eq_true rfl) ?_
        exact W.zret (v := 1) hx hb hr rfl (fun t9 ht hW => ⟨⟨1, (), rfl, by first | (simp [e_id, c_1, c_2, c_3]; done) | (simp [e_id, c_1, c_2, c_3]; done) | grind [e_id], by rw [ht]; exact hP9, va_K.moved hW.alike hK9, hD9⟩, hS.F ht⟩) hS.2.2 dX0_leavesEachItself_28
