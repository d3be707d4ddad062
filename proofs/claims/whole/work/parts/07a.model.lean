/-! ===== FoldRowModel, the reference: its methods, one contract each ===== -/
set_option maxRecDepth 20000 in
theorem kX2_init_0 : (.methodLink RX2 1 objectInit : Cond) ∈ wsX2_init := by decide +kernel
set_option maxRecDepth 20000 in
theorem kX2_init_1 : (.instanceMethod objectInit : Cond) ∈ wsX2_init := by decide +kernel
set_option maxRecDepth 20000 in
theorem kX2_init_2 : (.code objectInit ⟨#[0xb1]⟩ 1 none : Cond) ∈ wsX2_init := by decide +kernel
set_option maxRecDepth 20000 in
theorem kX2_init_3 : (.arrayClass .int : Cond) ∈ wsX2_init := by decide +kernel
set_option maxRecDepth 20000 in
theorem kX2_init_4 : ∀ w ∈ wsX20, w ∈ wsX2_init := by decide +kernel
set_option maxRecDepth 20000 in
theorem kX2_init_5 : (.fieldLink RX2 9 "FoldRowModel" "kinds" "[I" : Cond) ∈ wsX2_init := by decide +kernel
set_option maxRecDepth 20000 in
theorem kX2_init_6 : (.arrayClass .long : Cond) ∈ wsX2_init := by decide +kernel
set_option maxRecDepth 20000 in
theorem kX2_init_7 : (.fieldLink RX2 13 "FoldRowModel" "numbers" "[J" : Cond) ∈ wsX2_init := by decide +kernel
set_option maxHeartbeats 4000000 in
set_option maxRecDepth 100000 in
theorem qX2_init (l : Launch) (dC : Nat → ClassId) (dI : Nat → Nat → Nat) (sz : Nat) (m0 : Nat)  : Met l yX2_init wsX2_init ({ frames := 1, cells := 2, slots := 512, locals := 12 }) (va_Pc [.ref m0] (fun U => U.heap.size = sz ∧ va_P (dC, dI) vwCl [(m0, .inr (2, [.int 0, .null, .null]))] U.heap ∧ va_K (dC, dI) vwCl [] U ∧ va_D (fun _ => True) [(m0, .inr (2, [.int 0, .null, .null]))])) (va_Qv (fun (u : Unit) => True) (fun (u : Unit) (t9 : State) => ∃ (a b : Nat) (cI cJ : ClassId), va_P (dC, dI) vwCl [(m0, .inr (2, [.int 0, .ref a, .ref b])), (a, .inl (cI, 256, .inl (fun _ => 0))), (b, .inl (cJ, 256, .inr (.inl (fun _ => 0))))] t9.heap ∧ va_K (dC, dI) vwCl [(cI, .int), (cJ, .long)] t9 ∧ va_D (va_A [(m0, .inr (2, [.int 0, .null, .null]))] sz) [(m0, .inr (2, [.int 0, .ref a, .ref b])), (a, .inl (cI, 256, .inl (fun _ => 0))), (b, .inl (cJ, 256, .inr (.inl (fun _ => 0))))]) (va_A [(m0, .inr (2, [.int 0, .null, .null]))] sz)) 2 512 (va_A [(m0, .inr (2, [.int 0, .null, .null]))] sz) := by
  refine Met.ofW (cc := cX2_init) (maxL := 1) (ret := none) (by decide) rfl ?_
  intro p e s m args below meth c s₁ B hml hv
  obtain ⟨rfl, hsz, hP, hK, hD0⟩ := hv
  have hx := B.exec
  have hb := B.bytes
  have hr := B.returns
  have hts := atoms_spec (ws := wsX2_init) B.pre
  have hown : s.vm.findClass RX2 = some m.cls := findClass_of_methodNamed B.named
  have hlocks := B.notSynchronized
  have hin : meth.name = "<init>" := (name_of_methodNamed B.named B.method).1
  subst hsz
  have hD := hD0.self (sz := s.heap.size)
  generalize hAe : va_A [(m0, .inr (2, [.int 0, .null, .null]))] s.heap.size = A at hD ⊢
  have hA : ∀ q : Nat, s.heap.size ≤ q → A q := fun q h => by rw [← hAe]; exact Or.inr h
  have hS : va_S A s.heap s.heap [] := va_S.rf
  have hP : va_P (dC, dI) vwCl [(m0, .inr (2, [.int 0, .null, .null]))] s.heap := hP
  have hl := lv_entry ([.ref m0]) (n := 1) (Nat.le_of_ble_eq_true rfl)
  rw [lg_entry_eq]
  generalize (lg_sl ([.ref m0]) ++ List.replicate (1 - (lg_sl ([.ref m0])).length) Slot.unset).toArray = ls at hl ⊢
  have hl : lv_has ls 1 [(0, .ref m0)] := hl
  refine lv_aload_n hx hb dX2_init_0 rfl (lv_at hl 0 rfl) ?_
  refine W.objInit hx hb hown (hts (.methodLink RX2 1 objectInit) kX2_init_0) (hts (.instanceMethod objectInit) kX2_init_1) (hts (.code objectInit ⟨#[0xb1]⟩ 1 none) kX2_init_2) rfl (by rw [hml]; exact hl.1) rfl dX2_init_1 (Nat.le_of_ble_eq_true rfl) (Nat.le_of_ble_eq_true rfl) ?_
  refine W.eq (g2 := F0 m 4 ls []) rfl ?_
  refine lv_aload_n hx hb dX2_init_4 rfl (lv_at hl 0 rfl) ?_
  refine lv_sipush (v := 256) hx hb dX2_init_5 (by decide) ?_
  refine va_newa (atype := .int) (n := 256) (ty := .int) (N' := 256) (a0 := (256, .inl (fun _ => 0))) hx hb (hts (.arrayClass .int) kX2_init_3) rfl hK hP hD hS hA (fun _ => rfl) nn_256 nc_256 nb_int (Nat.le_of_ble_eq_true rfl) (Nat.le_of_ble_eq_true rfl) dX2_init_8 (fun a_1 k_2 H hK hP hD hS => ?_)
  have hP : va_P (dC, dI) vwCl [(m0, .inr (2, [.int 0, .null, .null])), (a_1, .inl (k_2, 256, .inl (fun _ => 0)))] H := hP
  have hD : va_D A [(m0, .inr (2, [.int 0, .null, .null])), (a_1, .inl (k_2, 256, .inl (fun _ => 0)))] := hD
  have hK : va_K (dC, dI) vwCl [(k_2, .int)] s := hK
  refine W.widen (k := 1) (n := 256) (Nat.le_of_ble_eq_true rfl) (Nat.le_of_ble_eq_true rfl) ?_
  refine va_putF (D := (dC, dI)) (ci := 2) (v := .ref a_1) (ty := .array .int) (C := RX2) (T := TX2) (N := 3) hx hb hts kX2_init_4 tyX2 tyX2_ok nmX2 hown hK hP hD hS 0 rfl rfl 1 (by decide) (hts (.fieldLink RX2 9 "FoldRowModel" "kinds" "[I") kX2_init_5) (fun _ h9 => h9) rfl hin rfl (by decide +kernel) rfl rfl (Nat.le_of_ble_eq_true rfl) dX2_init_10 (fun H locs hP hD hS => ?_)
  have hP : va_P (dC, dI) vwCl [(m0, .inr (2, [.int 0, .ref a_1, .null])), (a_1, .inl (k_2, 256, .inl (fun _ => 0)))] H := hP
  have hD : va_D A [(m0, .inr (2, [.int 0, .ref a_1, .null])), (a_1, .inl (k_2, 256, .inl (fun _ => 0)))] := hD
  refine lv_aload_n hx hb dX2_init_13 rfl (lv_at hl 0 rfl) ?_
  refine lv_sipush (v := 256) hx hb dX2_init_14 (by decide) ?_
  refine va_newa (atype := .long) (n := 256) (ty := .long) (N' := 256) (a0 := (256, .inr (.inl (fun _ => 0)))) hx hb (hts (.arrayClass .long) kX2_init_6) rfl hK hP hD hS hA (fun _ => rfl) nn_256 nc_256 nb_long (Nat.le_of_ble_eq_true rfl) (Nat.le_of_ble_eq_true rfl) dX2_init_17 (fun a_3 k_4 H hK hP hD hS => ?_)
  have hP : va_P (dC, dI) vwCl [(m0, .inr (2, [.int 0, .ref a_1, .null])), (a_1, .inl (k_2, 256, .inl (fun _ => 0))), (a_3, .inl (k_4, 256, .inr (.inl (fun _ => 0))))] H := hP
  have hD : va_D A [(m0, .inr (2, [.int 0, .ref a_1, .null])), (a_1, .inl (k_2, 256, .inl (fun _ => 0))), (a_3, .inl (k_4, 256, .inr (.inl (fun _ => 0))))] := hD
  have hK : va_K (dC, dI) vwCl [(k_2, .int), (k_4, .long)] s := hK
  refine W.widen (k := 2) (n := 512) (Nat.le_of_ble_eq_true rfl) (Nat.le_of_ble_eq_true rfl) ?_
  refine va_putF (D := (dC, dI)) (ci := 2) (v := .ref a_3) (ty := .array .long) (C := RX2) (T := TX2) (N := 3) hx hb hts kX2_init_4 tyX2 tyX2_ok nmX2 hown hK hP hD hS 0 rfl rfl 2 (by decide) (hts (.fieldLink RX2 13 "FoldRowModel" "numbers" "[J") kX2_init_7) (fun _ h9 => h9) rfl hin rfl (by decide +kernel) rfl rfl (Nat.le_of_ble_eq_true rfl) dX2_init_19 (fun H locs hP hD hS => ?_)
  have hP : va_P (dC, dI) vwCl [(m0, .inr (2, [.int 0, .ref a_1, .ref a_3])), (a_1, .inl (k_2, 256, .inl (fun _ => 0))), (a_3, .inl (k_4, 256, .inr (.inl (fun _ => 0))))] H := hP
  have hD : va_D A [(m0, .inr (2, [.int 0, .ref a_1, .ref a_3])), (a_1, .inl (k_2, 256, .inl (fun _ => 0))), (a_3, .inl (k_4, 256, .inr (.inl (fun _ => 0))))] := hD
  have hP9 := hP.sub (ws' := [(m0, .inr (2, [.int 0, .ref a_1, .ref a_3])), (a_1, .inl (k_2, 256, .inl (fun _ => 0))), (a_3, .inl (k_4, 256, .inr (.inl (fun _ => 0))))]) [0, 1, 2] rfl
  have hD9 := hD.sub (ws' := [(m0, .inr (2, [.int 0, .ref a_1, .ref a_3])), (a_1, .inl (k_2, 256, .inl (fun _ => 0))), (a_3, .inl (k_4, 256, .inr (.inl (fun _ => 0))))]) [0, 1, 2] (by decide) rfl
  have hK9 := hK.sub (tys' := [(k_2, .int), (k_4, .long)]) [0, 1] rfl
  refine W.widen (k := 2) (n := 512) (Nat.le_of_ble_eq_true rfl) (Nat.le_of_ble_eq_true rfl) ?_
  exact W.vret hx hb hr (fun t9 ht hW => ⟨⟨(), rfl, trivial, a_1, a_3, k_2, k_4, by rw [ht]; exact hP9, va_K.moved hW.alike hK9, hD9⟩, hS.F ht⟩) hS.2.2 dX2_init_22

set_option maxRecDepth 20000 in
theorem kX2_thrown_0 : ∀ w ∈ wsX20, w ∈ wsX2_thrown := by decide +kernel
set_option maxRecDepth 20000 in
theorem kX2_thrown_1 : (.fieldLink RX2 17 "FoldRowModel" "err" "I" : Cond) ∈ wsX2_thrown := by decide +kernel
set_option maxHeartbeats 4000000 in
set_option maxRecDepth 100000 in
theorem qX2_thrown (l : Launch) (dC : Nat → ClassId) (dI : Nat → Nat → Nat) (sz : Nat) (m0 a b : Nat) (er : Int32)  : Met l yX2_thrown wsX2_thrown ({ frames := 0, cells := 0, slots := 0, locals := 0 }) (va_Pc [.ref m0] (fun U => U.heap.size = sz ∧ va_P (dC, dI) vwCl [(m0, .inr (2, [.int er, .ref a, .ref b]))] U.heap ∧ va_K (dC, dI) vwCl [] U ∧ va_D (fun _ => True) [(m0, .inr (2, [.int er, .ref a, .ref b]))])) (va_Qi (fun (r : Int32) (u : Unit) => (r = er)) (fun (u : Unit) (t9 : State) => va_P (dC, dI) vwCl [(m0, .inr (2, [.int er, .ref a, .ref b]))] t9.heap ∧ va_K (dC, dI) vwCl [] t9 ∧ va_D (va_A [(m0, .inr (2, [.int er, .ref a, .ref b]))] sz) [(m0, .inr (2, [.int er, .ref a, .ref b]))]) (va_A [(m0, .inr (2, [.int er, .ref a, .ref b]))] sz)) 0 0 (va_A [(m0, .inr (2, [.int er, .ref a, .ref b]))] sz) := by
  refine Met.ofW (cc := cX2_thrown) (maxL := 1) (ret := (some .int)) (by decide) rfl ?_
  intro p e s m args below meth c s₁ B hml hv
  obtain ⟨rfl, hsz, hP, hK, hD0⟩ := hv
  have hx := B.exec
  have hb := B.bytes
  have hr := B.returns
  have hts := atoms_spec (ws := wsX2_thrown) B.pre
  have hown : s.vm.findClass RX2 = some m.cls := findClass_of_methodNamed B.named
  have hlocks := B.notSynchronized
  subst hsz
  have hD := hD0.self (sz := s.heap.size)
  generalize hAe : va_A [(m0, .inr (2, [.int er, .ref a, .ref b]))] s.heap.size = A at hD ⊢
  have hA : ∀ q : Nat, s.heap.size ≤ q → A q := fun q h => by rw [← hAe]; exact Or.inr h
  have hS : va_S A s.heap s.heap [] := va_S.rf
  have hP : va_P (dC, dI) vwCl [(m0, .inr (2, [.int er, .ref a, .ref b]))] s.heap := hP
  have hl := lv_entry ([.ref m0]) (n := 1) (Nat.le_of_ble_eq_true rfl)
  rw [lg_entry_eq]
  generalize (lg_sl ([.ref m0]) ++ List.replicate (1 - (lg_sl ([.ref m0])).length) Slot.unset).toArray = ls at hl ⊢
  have hl : lv_has ls 1 [(0, .ref m0)] := hl
  refine lv_aload_n hx hb dX2_thrown_0 rfl (lv_at hl 0 rfl) ?_
  refine va_get (D := (dC, dI)) (ci := 2) (v := .int er) (C := RX2) (T := TX2) (N := 3) hx hb hts kX2_thrown_0 hown hK hP 0 rfl rfl 0 (by decide) (hts (.fieldLink RX2 17 "FoldRowModel" "err" "I") kX2_thrown_1) (fun _ h9 => h9) rfl dX2_thrown_1 ?_
  have hP9 := hP.sub (ws' := [(m0, .inr (2, [.int er, .ref a, .ref b]))]) [0] rfl
  have hD9 := hD.sub (ws' := [(m0, .inr (2, [.int er, .ref a, .ref b]))]) [0] (by decide) rfl
  have hK9 := hK.sub (tys' := []) [] rfl
  refine W.widen (k := 0) (n := 0) (Nat.le_of_ble_eq_true rfl) (Nat.le_of_ble_eq_true rfl) ?_
  exact W.iret (v := er) hx hb hr (fun t9 ht hW => ⟨⟨er, (), rfl, by first | (simp []; done) | (simp []; done) | grind [], by rw [ht]; exact hP9, va_K.moved hW.alike hK9, hD9⟩, hS.F ht⟩) hS.2.2 dX2_thrown_4

set_option maxHeartbeats 4000000 in
set_option maxRecDepth 100000 in
theorem qX2_in (l : Launch) (dC : Nat → ClassId) (dI : Nat → Nat → Nat) (sz : Nat) (x lo hi : Int64)  : Met l yX2_in wsX2_in ({ frames := 0, cells := 0, slots := 0, locals := 0 }) (va_Pc [.long x, .long lo, .long hi] (fun U => U.heap.size = sz ∧ va_P (dC, dI) vwCl [] U.heap ∧ va_K (dC, dI) vwCl [] U ∧ va_D (fun _ => True) [])) (va_Qi (fun (r : Int32) (u : Unit) => (r = if ¬ x < lo ∧ ¬ hi < x then 1 else 0)) (fun (u : Unit) (t9 : State) => va_P (dC, dI) vwCl [] t9.heap ∧ va_K (dC, dI) vwCl [] t9 ∧ va_D (va_A [] sz) []) (va_A [] sz)) 0 0 (va_A [] sz) := by
  refine Met.ofW (cc := cX2_in) (maxL := 6) (ret := (some .boolean)) (by decide) rfl ?_
  intro p e s m args below meth c s₁ B hml hv
  obtain ⟨rfl, hsz, hP, hK, hD0⟩ := hv
  have hx := B.exec
  have hb := B.bytes
  have hr := B.returns
  have hts := atoms_spec (ws := wsX2_in) B.pre
  have hown : s.vm.findClass RX2 = some m.cls := findClass_of_methodNamed B.named
  have hlocks := B.notSynchronized
  subst hsz
  have hD := hD0.self (sz := s.heap.size)
  generalize hAe : va_A [] s.heap.size = A at hD ⊢
  have hA : ∀ q : Nat, s.heap.size ≤ q → A q := fun q h => by rw [← hAe]; exact Or.inr h
  have hS : va_S A s.heap s.heap [] := va_S.rf
  have hP : va_P (dC, dI) vwCl [] s.heap := hP
  have hl := lv_entry ([.long x, .long lo, .long hi]) (n := 6) (Nat.le_of_ble_eq_true rfl)
  rw [lg_entry_eq]
  generalize (lg_sl ([.long x, .long lo, .long hi]) ++ List.replicate (6 - (lg_sl ([.long x, .long lo, .long hi])).length) Slot.unset).toArray = ls at hl ⊢
  have hl : lv_has ls 6 [(0, .long x), (2, .long lo), (4, .long hi)] := hl
  refine lv_lload_n hx hb dX2_in_0 rfl (lv_at hl 0 rfl) ?_
  refine lv_lload_n hx hb dX2_in_1 rfl (lv_at hl 1 rfl) ?_
  refine W.lcmp hx hb dX2_in_2 ?_
  refine lv_if_lt (tgt := 17) hx hb dX2_in_3 (by decide) (fun c_1 => ?_) (fun c_1 => ?_)
  · simp only [lq_lt] at c_1
    refine lv_iconst (v := 0) hx hb dX2_in_17 (by decide) ?_
    have hP9 := hP.sub (ws' := []) [] rfl
    have hD9 := hD.sub (ws' := []) [] (by decide) rfl
    have hK9 := hK.sub (tys' := []) [] rfl
    refine W.widen (k := 0) (n := 0) (Nat.le_of_ble_eq_true rfl) (Nat.le_of_ble_eq_true rfl) ?_
    exact W.zret (v := 0) hx hb hr rfl (fun t9 ht hW => ⟨⟨0, (), rfl, by first | (simp [c_1]; done) | (simp [c_1]; done) | grind [], by rw [ht]; exact hP9, va_K.moved hW.alike hK9, hD9⟩, hS.F ht⟩) hS.2.2 dX2_in_18
  · simp only [lq_lt] at c_1
    refine lv_lload_n hx hb dX2_in_6 rfl (lv_at hl 0 rfl) ?_
    refine lv_lload hx hb dX2_in_7 (lv_at hl 2 rfl) ?_
    refine W.lcmp hx hb dX2_in_9 ?_
    refine lv_if_gt (tgt := 17) hx hb dX2_in_10 (by decide) (fun c_2 => ?_) (fun c_2 => ?_)
    · simp only [lq_gt] at c_2
      refine lv_iconst (v := 0) hx hb dX2_in_17 (by decide) ?_
      have hP9 := hP.sub (ws' := []) [] rfl
      have hD9 := hD.sub (ws' := []) [] (by decide) rfl
      have hK9 := hK.sub (tys' := []) [] rfl
      refine W.widen (k := 0) (n := 0) (Nat.le_of_ble_eq_true rfl) (Nat.le_of_ble_eq_true rfl) ?_
      exact W.zret (v := 0) hx hb hr rfl (fun t9 ht hW => ⟨⟨0, (), rfl, by first | (simp [c_1, c_2]; done) | (simp [c_1, c_2]; done) | grind [], by rw [ht]; exact hP9, va_K.moved hW.alike hK9, hD9⟩, hS.F ht⟩) hS.2.2 dX2_in_18
    · simp only [lq_gt] at c_2
      refine lv_iconst (v := 1) hx hb dX2_in_13 (by decide) ?_
      refine lv_goto (tgt := 18) hx hb dX2_in_14 (by decide) ?_
      have hP9 := hP.sub (ws' := []) [] rfl
      have hD9 := hD.sub (ws' := []) [] (by decide) rfl
      have hK9 := hK.sub (tys' := []) [] rfl
      refine W.widen (k := 0) (n := 0) (Nat.le_of_ble_eq_true rfl) (Nat.le_of_ble_eq_true rfl) ?_
      exact W.zret (v := 1) hx hb hr rfl (fun t9 ht hW => ⟨⟨1, (), rfl, by first | (simp [c_1, c_2]; done) | (simp [c_1, c_2]; done) | grind [], by rw [ht]; exact hP9, va_K.moved hW.alike hK9, hD9⟩, hS.F ht⟩) hS.2.2 dX2_in_18

set_option maxRecDepth 20000 in
theorem kX2_fails_0 : ∀ w ∈ wsX20, w ∈ wsX2_fails := by decide +kernel
set_option maxRecDepth 20000 in
theorem kX2_fails_1 : (.fieldLink RX2 17 "FoldRowModel" "err" "I" : Cond) ∈ wsX2_fails := by decide +kernel
set_option maxHeartbeats 4000000 in
set_option maxRecDepth 100000 in
theorem qX2_fails (l : Launch) (dC : Nat → ClassId) (dI : Nat → Nat → Nat) (sz : Nat) (m0 a b : Nat) (er is co : Int32)  : Met l yX2_fails wsX2_fails ({ frames := 0, cells := 0, slots := 0, locals := 0 }) (va_Pc [.ref m0, .int is, .int co] (fun U => U.heap.size = sz ∧ va_P (dC, dI) vwCl [(m0, .inr (2, [.int er, .ref a, .ref b]))] U.heap ∧ va_K (dC, dI) vwCl [] U ∧ va_D (fun _ => True) [(m0, .inr (2, [.int er, .ref a, .ref b]))])) (va_Qi (fun (r : Int32) (u : Int32) => (r = if ¬ m_f is er co = 0 then 1 else 0) ∧ u = m_f is er co) (fun (u : Int32) (t9 : State) => va_P (dC, dI) vwCl [(m0, .inr (2, [.int u, .ref a, .ref b]))] t9.heap ∧ va_K (dC, dI) vwCl [] t9 ∧ va_D (va_A [(m0, .inr (2, [.int er, .ref a, .ref b]))] sz) [(m0, .inr (2, [.int u, .ref a, .ref b]))]) (va_A [(m0, .inr (2, [.int er, .ref a, .ref b]))] sz)) 0 0 (va_A [(m0, .inr (2, [.int er, .ref a, .ref b]))] sz) := by
  refine Met.ofW (cc := cX2_fails) (maxL := 3) (ret := (some .boolean)) (by decide) rfl ?_
  intro p e s m args below meth c s₁ B hml hv
  obtain ⟨rfl, hsz, hP, hK, hD0⟩ := hv
  have hx := B.exec
  have hb := B.bytes
  have hr := B.returns
  have hts := atoms_spec (ws := wsX2_fails) B.pre
  have hown : s.vm.findClass RX2 = some m.cls := findClass_of_methodNamed B.named
  have hlocks := B.notSynchronized
  subst hsz
  have hD := hD0.self (sz := s.heap.size)
  generalize hAe : va_A [(m0, .inr (2, [.int er, .ref a, .ref b]))] s.heap.size = A at hD ⊢
  have hA : ∀ q : Nat, s.heap.size ≤ q → A q := fun q h => by rw [← hAe]; exact Or.inr h
  have hS : va_S A s.heap s.heap [] := va_S.rf
  have hP : va_P (dC, dI) vwCl [(m0, .inr (2, [.int er, .ref a, .ref b]))] s.heap := hP
  have hl := lv_entry ([.ref m0, .int is, .int co]) (n := 3) (Nat.le_of_ble_eq_true rfl)
  rw [lg_entry_eq]
  generalize (lg_sl ([.ref m0, .int is, .int co]) ++ List.replicate (3 - (lg_sl ([.ref m0, .int is, .int co])).length) Slot.unset).toArray = ls at hl ⊢
  have hl : lv_has ls 3 [(0, .ref m0), (1, .int is), (2, .int co)] := hl
  refine lv_iload_n hx hb dX2_fails_0 rfl (lv_at hl 1 rfl) ?_
  refine lv_if_eq (tgt := 16) hx hb dX2_fails_1 (by decide) (fun c_1 => ?_) (fun c_1 => ?_)
  · refine lv_aload_n hx hb dX2_fails_16 rfl (lv_at hl 0 rfl) ?_
    refine va_get (D := (dC, dI)) (ci := 2) (v := .int er) (C := RX2) (T := TX2) (N := 3) hx hb hts kX2_fails_0 hown hK hP 0 rfl rfl 0 (by decide) (hts (.fieldLink RX2 17 "FoldRowModel" "err" "I") kX2_fails_1) (fun _ h9 => h9) rfl dX2_fails_17 ?_
    refine lv_if_eq (tgt := 27) hx hb dX2_fails_20 (by decide) (fun c_2 => ?_) (fun c_2 => ?_)
    · refine lv_iconst (v := 0) hx hb dX2_fails_27 (by decide) ?_
      have hP9 := hP.sub (ws' := [(m0, .inr (2, [.int er, .ref a, .ref b]))]) [0] rfl
      have hD9 := hD.sub (ws' := [(m0, .inr (2, [.int er, .ref a, .ref b]))]) [0] (by decide) rfl
      have hK9 := hK.sub (tys' := []) [] rfl
      refine W.widen (k := 0) (n := 0) (Nat.le_of_ble_eq_true rfl) (Nat.le_of_ble_eq_true rfl) ?_
      exact W.zret (v := 0) hx hb hr rfl (fun t9 ht hW => ⟨⟨0, er, rfl, ⟨by first | (simp [m_f, c_1, c_2]; done) | (simp [m_f, c_1, c_2]; done) | grind [m_f], by first | (simp [m_f, c_1, c_2]; done) | (simp [m_f, c_1, c_2]; done) | grind [m_f]⟩, by rw [ht]; exact hP9, va_K.moved hW.alike hK9, hD9⟩, hS.F ht⟩) hS.2.2 dX2_fails_28
    · refine lv_iconst (v := 1) hx hb dX2_fails_23 (by decide) ?_
      refine lv_goto (tgt := 28) hx hb dX2_fails_24 (by decide) ?_
      have hP9 := hP.sub (ws' := [(m0, .inr (2, [.int er, .ref a, .ref b]))]) [0] rfl
      have hD9 := hD.sub (ws' := [(m0, .inr (2, [.int er, .ref a, .ref b]))]) [0] (by decide) rfl
      have hK9 := hK.sub (tys' := []) [] rfl
      refine W.widen (k := 0) (n := 0) (Nat.le_of_ble_eq_true rfl) (Nat.le_of_ble_eq_true rfl) ?_
      exact W.zret (v := 1) hx hb hr rfl (fun t9 ht hW => ⟨⟨1, er, rfl, ⟨by first | (simp [m_f, c_1, c_2]; done) | (simp [m_f, c_1, c_2]; done) | grind [m_f], by first | (simp [m_f, c_1, c_2]; done) | (simp [m_f, c_1, c_2]; done) | grind [m_f]⟩, by rw [ht]; exact hP9, va_K.moved hW.alike hK9, hD9⟩, hS.F ht⟩) hS.2.2 dX2_fails_28
  · refine lv_aload_n hx hb dX2_fails_4 rfl (lv_at hl 0 rfl) ?_
    refine va_get (D := (dC, dI)) (ci := 2) (v := .int er) (C := RX2) (T := TX2) (N := 3) hx hb hts kX2_fails_0 hown hK hP 0 rfl rfl 0 (by decide) (hts (.fieldLink RX2 17 "FoldRowModel" "err" "I") kX2_fails_1) (fun _ h9 => h9) rfl dX2_fails_5 ?_
    refine lv_if_ne (tgt := 16) hx hb dX2_fails_8 (by decide) (fun c_3 => ?_) (fun c_3 => ?_)
    · refine lv_aload_n hx hb dX2_fails_16 rfl (lv_at hl 0 rfl) ?_
      refine va_get (D := (dC, dI)) (ci := 2) (v := .int er) (C := RX2) (T := TX2) (N := 3) hx hb hts kX2_fails_0 hown hK hP 0 rfl rfl 0 (by decide) (hts (.fieldLink RX2 17 "FoldRowModel" "err" "I") kX2_fails_1) (fun _ h9 => h9) rfl dX2_fails_17 ?_
      refine lv_if_eq (tgt := 27) hx hb dX2_fails_20 (by decide) (fun c_4 => ?_) (fun c_4 => ?_)
      · refine lv_iconst (v := 0) hx hb dX2_fails_27 (by decide) ?_
        have hP9 := hP.sub (ws' := [(m0, .inr (2, [.int er, .ref a, .ref b]))]) [0] rfl
        have hD9 := hD.sub (ws' := [(m0, .inr (2, [.int er, .ref a, .ref b]))]) [0] (by decide) rfl
        have hK9 := hK.sub (tys' := []) [] rfl
        refine W.widen (k := 0) (n := 0) (Nat.le_of_ble_eq_true rfl) (Nat.le_of_ble_eq_true rfl) ?_
        exact W.zret (v := 0) hx hb hr rfl (fun t9 ht hW => ⟨⟨0, er, rfl, ⟨by first | (simp [m_f, c_1, c_3, c_4]; done) | (simp [m_f, c_1, c_3, c_4]; done) | grind [m_f], by first | (simp [m_f, c_1, c_3, c_4]; done) | (simp [m_f, c_1, c_3, c_4]; done) | grind [m_f]⟩, by rw [ht]; exact hP9, va_K.moved hW.alike hK9, hD9⟩, hS.F ht⟩) hS.2.2 dX2_fails_28
      · refine lv_iconst (v := 1) hx hb dX2_fails_23 (by decide) ?_
        refine lv_goto (tgt := 28) hx hb dX2_fails_24 (by decide) ?_
        have hP9 := hP.sub (ws' := [(m0, .inr (2, [.int er, .ref a, .ref b]))]) [0] rfl
        have hD9 := hD.sub (ws' := [(m0, .inr (2, [.int er, .ref a, .ref b]))]) [0] (by decide) rfl
        have hK9 := hK.sub (tys' := []) [] rfl
        refine W.widen (k := 0) (n := 0) (Nat.le_of_ble_eq_true rfl) (Nat.le_of_ble_eq_true rfl) ?_
        exact W.zret (v := 1) hx hb hr rfl (fun t9 ht hW => ⟨⟨1, er, rfl, ⟨by first | (simp [m_f, c_1, c_3, c_4]; done) | (simp [m_f, c_1, c_3, c_4]; done) | grind [m_f], by first | (simp [m_f, c_1, c_3, c_4]; done) | (simp [m_f, c_1, c_3, c_4]; done) | grind [m_f]⟩, by rw [ht]; exact hP9, va_K.moved hW.alike hK9, hD9⟩, hS.F ht⟩) hS.2.2 dX2_fails_28
    · refine lv_aload_n hx hb dX2_fails_11 rfl (lv_at hl 0 rfl) ?_
      refine lv_iload_n hx hb dX2_fails_12 rfl (lv_at hl 2 rfl) ?_
      refine va_put (D := (dC, dI)) (ci := 2) (v := .int co) (ty := .int) (C := RX2) (T := TX2) (N := 3) hx hb hts kX2_fails_0 tyX2 tyX2_ok nmX2 hown hK hP hD hS 0 rfl rfl 0 (by decide) (hts (.fieldLink RX2 17 "FoldRowModel" "err" "I") kX2_fails_1) (fun _ h9 => h9) rfl (by decide +kernel) rfl rfl (Nat.le_of_ble_eq_true rfl) dX2_fails_13 (fun H locs hP hD hS => ?_)
      have hP : va_P (dC, dI) vwCl [(m0, .inr (2, [.int co, .ref a, .ref b]))] H := hP
      have hD : va_D A [(m0, .inr (2, [.int co, .ref a, .ref b]))] := hD
      refine lv_aload_n hx hb dX2_fails_16 rfl (lv_at hl 0 rfl) ?_
      refine va_get (D := (dC, dI)) (ci := 2) (v := .int co) (C := RX2) (T := TX2) (N := 3) hx hb hts kX2_fails_0 hown hK hP 0 rfl rfl 0 (by decide) (hts (.fieldLink RX2 17 "FoldRowModel" "err" "I") kX2_fails_1) (fun _ h9 => h9) rfl dX2_fails_17 ?_
      refine lv_if_eq (tgt := 27) hx hb dX2_fails_20 (by decide) (fun c_5 => ?_) (fun c_5 => ?_)
      · refine lv_iconst (v := 0) hx hb dX2_fails_27 (by decide) ?_
        have hP9 := hP.sub (ws' := [(m0, .inr (2, [.int co, .ref a, .ref b]))]) [0] rfl
        have hD9 := hD.sub (ws' := [(m0, .inr (2, [.int co, .ref a, .ref b]))]) [0] (by decide) rfl
        have hK9 := hK.sub (tys' := []) [] rfl
        refine W.widen (k := 0) (n := 0) (Nat.le_of_ble_eq_true rfl) (Nat.le_of_ble_eq_true rfl) ?_
        exact W.zret (v := 0) hx hb hr rfl (fun t9 ht hW => ⟨⟨0, co, rfl, ⟨by first | (simp [m_f, c_1, c_3, c_5]; done) | (simp [m_f, c_1, c_3, c_5]; done) | grind [m_f], by first | (simp [m_f, c_1, c_3, c_5]; done) | (simp [m_f, c_1, c_3, c_5]; done) | grind [m_f]⟩, by rw [ht]; exact hP9, va_K.moved hW.alike hK9, hD9⟩, hS.F ht⟩) hS.2.2 dX2_fails_28
      · refine lv_iconst (v := 1) hx hb dX2_fails_23 (by decide) ?_
        refine lv_goto (tgt := 28) hx hb dX2_fails_24 (by decide) ?_
        have hP9 := hP.sub (ws' := [(m0, .inr (2, [.int co, .ref a, .ref b]))]) [0] rfl
        have hD9 := hD.sub (ws' := [(m0, .inr (2, [.int co, .ref a, .ref b]))]) [0] (by decide) rfl
        have hK9 := hK.sub (tys' := []) [] rfl
        refine W.widen (k := 0) (n := 0) (Nat.le_of_ble_eq_true rfl) (Nat.le_of_ble_eq_true rfl) ?_
        exact W.zret (v := 1) hx hb hr rfl (fun t9 ht hW => ⟨⟨1, co, rfl, ⟨by first | (simp [m_f, c_1, c_3, c_5]; done) | (simp [m_f, c_1, c_3, c_5]; done) | grind [m_f], by first | (simp [m_f, c_1, c_3, c_5]; done) | (simp [m_f, c_1, c_3, c_5]; done) | grind [m_f]⟩, by rw [ht]; exact hP9, va_K.moved hW.alike hK9, hD9⟩, hS.F ht⟩) hS.2.2 dX2_fails_28

set_option maxRecDepth 20000 in
theorem kX2_isRule_0 : (.constantLong RX2 21 (4) : Cond) ∈ wsX2_isRule := by decide +kernel
set_option maxRecDepth 20000 in
theorem kX2_isRule_1 : (.constantLong RX2 27 (-1000000000) : Cond) ∈ wsX2_isRule := by decide +kernel
set_option maxRecDepth 20000 in
theorem kX2_isRule_2 : (.constantLong RX2 29 (1000000000) : Cond) ∈ wsX2_isRule := by decide +kernel
set_option maxHeartbeats 4000000 in
set_option maxRecDepth 100000 in
theorem qX2_isRule (l : Launch) (dC : Nat → ClassId) (dI : Nat → Nat → Nat) (sz : Nat) (k : Int32) (v : Int64)  : Met l yX2_isRule wsX2_isRule ({ frames := 1, cells := 0, slots := 0, locals := 30 }) (va_Pc [.int k, .long v] (fun U => U.heap.size = sz ∧ va_P (dC, dI) vwCl [] U.heap ∧ va_K (dC, dI) vwCl [] U ∧ va_D (fun _ => True) [])) (va_Qi (fun (r : Int32) (u : Unit) => (r = if okR k v then 1 else 0)) (fun (u : Unit) (t9 : State) => va_P (dC, dI) vwCl [] t9.heap ∧ va_K (dC, dI) vwCl [] t9 ∧ va_D (va_A [] sz) []) (va_A [] sz)) 0 0 (va_A [] sz) := by
  refine Met.ofW (cc := cX2_isRule) (maxL := 3) (ret := (some .boolean)) (by decide) rfl ?_
  intro p e s m args below meth c s₁ B hml hv
  obtain ⟨rfl, hsz, hP, hK, hD0⟩ := hv
  have hx := B.exec
  have hb := B.bytes
  have hr := B.returns
  have hts := atoms_spec (ws := wsX2_isRule) B.pre
  have hown : s.vm.findClass RX2 = some m.cls := findClass_of_methodNamed B.named
  have hlocks := B.notSynchronized
  subst hsz
  have hD := hD0.self (sz := s.heap.size)
  generalize hAe : va_A [] s.heap.size = A at hD ⊢
  have hA : ∀ q : Nat, s.heap.size ≤ q → A q := fun q h => by rw [← hAe]; exact Or.inr h
  have hS : va_S A s.heap s.heap [] := va_S.rf
  have hP : va_P (dC, dI) vwCl [] s.heap := hP
  have hl := lv_entry ([.int k, .long v]) (n := 3) (Nat.le_of_ble_eq_true rfl)
  rw [lg_entry_eq]
  generalize (lg_sl ([.int k, .long v]) ++ List.replicate (3 - (lg_sl ([.int k, .long v])).length) Slot.unset).toArray = ls at hl ⊢
  have hl : lv_has ls 3 [(0, .int k), (1, .long v)] := hl
  refine lv_iload_n hx hb dX2_isRule_0 rfl (lv_at hl 0 rfl) ?_
  refine lv_i2l (v := k.toInt64) hx hb dX2_isRule_1 rfl ?_
  refine lv_lconst (v := 0) hx hb dX2_isRule_2 (by decide) ?_
  refine lv_ldc2 hx hb hown (hts (.constantLong RX2 21 (4)) kX2_isRule_0) dX2_isRule_3 ?_
  have hPc := hP.sub (ws' := []) [] rfl
  have hDc := hD.sub (ws' := []) [] (by decide) rfl
  have hKc := hK.sub (tys' := []) [] rfl
  have hFc := va_free (wc := []) hD hS hA [] rfl
  refine va_calli (va_runS (As := [.long k.toInt64, .long 0, .long 4]) (rest := []) ⟨hx, hb, hml, hown, hts⟩ (qX2_in l dC dI s.heap.size k.toInt64 (0) (4)) (va_cwS 3 hts gX2_isRule_X2_in rfl rfl rfl (by decide +kernel) ⟨Nat.le_of_ble_eq_true rfl, Nat.le_of_ble_eq_true rfl⟩) ⟨fun a U g mk q => by obtain ⟨q0, q1, qP, qK, qD⟩ := q; exact ⟨q0, q1, qP, va_K.moved (u := U) (U := U.calling g mk a) (Vm.Alike.refl U.vm) qK, qD⟩, fun U hU hW => ⟨rfl, by rw [hU], by rw [hU]; exact hPc, va_K.moved hW.alike hKc, hDc.weaken (fun _ _ _ _ => trivial)⟩⟩ rfl rfl hl.1 rfl (lv_room (Nat.le_of_ble_eq_true rfl)) dX2_isRule_6 ⟨Nat.le_of_ble_eq_true rfl, Nat.le_of_ble_eq_true rfl⟩) hS (fun q _ h => hFc q h) hFc (fun r_1 u t9 H1 locs ht hvm hw hB hz1 hk1 hS => ?_)
  obtain ⟨hP1, hK1, hD1⟩ := hB
  rw [ht] at hP1
  have h_2 := hw
  have hK1 := va_K.moved hvm.symm hK1
  obtain ⟨hP, hD⟩ := va_join (wr := []) (w1 := []) hP hD [] [] rfl rfl (by decide) (by decide) hk1 hFc hP1 hD1
  have hK := (hK.sub (tys' := []) [] rfl).app hK1
  generalize H1 = H at hP hS ⊢
  have hP : va_P (dC, dI) vwCl [] H := hP
  have hD : va_D A [] := hD
  have hK : va_K (dC, dI) vwCl [] s := hK
  refine W.widen (k := 0) (n := 0) (Nat.le_of_ble_eq_true rfl) (Nat.le_of_ble_eq_true rfl) ?_
  refine lv_if_eq (tgt := 29) hx hb dX2_isRule_9 (by decide) (fun c_3 => ?_) (fun c_3 => ?_)
  · rw [h_2, b01] at c_3
    refine lv_iconst (v := 0) hx hb dX2_isRule_29 (by decide) ?_
    have hP9 := hP.sub (ws' := []) [] rfl
    have hD9 := hD.sub (ws' := []) [] (by decide) rfl
    have hK9 := hK.sub (tys' := []) [] rfl
    refine W.widen (k := 0) (n := 0) (Nat.le_of_ble_eq_true rfl) (Nat.le_of_ble_eq_true rfl) ?_
    exact W.zret (v := 0) hx hb hr rfl (fun t9 ht hW => ⟨⟨0, (), rfl, by first | (simp [w64_0, w64_4, w64_255, w64_1000, w64_2, c_3]; done) | (simp [w64_0, w64_4, w64_255, w64_1000, w64_2, c_3]; done) | grind [w64_0, w64_4, w64_255, w64_1000, w64_2], by rw [ht]; exact hP9, va_K.moved hW.alike hK9, hD9⟩, hS.F ht⟩) hS.2.2 dX2_isRule_30
  · rw [h_2, b01] at c_3
    have c_3 := Classical.not_not.mp c_3
    refine lv_lload_n hx hb dX2_isRule_12 rfl (lv_at hl 1 rfl) ?_
    refine lv_ldc2 hx hb hown (hts (.constantLong RX2 27 (-1000000000)) kX2_isRule_1) dX2_isRule_13 ?_
    refine lv_ldc2 hx hb hown (hts (.constantLong RX2 29 (1000000000)) kX2_isRule_2) dX2_isRule_16 ?_
    have hPc := hP.sub (ws' := []) [] rfl
    have hDc := hD.sub (ws' := []) [] (by decide) rfl
    have hKc := hK.sub (tys' := []) [] rfl
    have hFc := va_free (wc := []) hD hS hA [] rfl
    refine va_calli (va_runS (As := [.long v, .long (-1000000000), .long 1000000000]) (rest := []) ⟨hx, hb, hml, hown, hts⟩ (qX2_in l dC dI H.size v (-1000000000) (1000000000)) (va_cwS 3 hts gX2_isRule_X2_in rfl rfl rfl (by decide +kernel) ⟨Nat.le_of_ble_eq_true rfl, Nat.le_of_ble_eq_true rfl⟩) ⟨fun a U g mk q => by obtain ⟨q0, q1, qP, qK, qD⟩ := q; exact ⟨q0, q1, qP, va_K.moved (u := U) (U := U.calling g mk a) (Vm.Alike.refl U.vm) qK, qD⟩, fun U hU hW => ⟨rfl, by rw [hU], by rw [hU]; exact hPc, va_K.moved hW.alike hKc, hDc.weaken (fun _ _ _ _ => trivial)⟩⟩ rfl rfl hl.1 rfl (lv_room (Nat.le_of_ble_eq_true rfl)) dX2_isRule_19 ⟨Nat.le_of_ble_eq_true rfl, Nat.le_of_ble_eq_true rfl⟩) hS (fun q _ h => hFc q h) hFc (fun r_4 u t9 H1 locs ht hvm hw hB hz1 hk1 hS => ?_)
    obtain ⟨hP1, hK1, hD1⟩ := hB
    rw [ht] at hP1
    have h_5 := hw
    have hK1 := va_K.moved hvm.symm hK1
    obtain ⟨hP, hD⟩ := va_join (wr := []) (w1 := []) hP hD [] [] rfl rfl (by decide) (by decide) hk1 hFc hP1 hD1
    have hK := (hK.sub (tys' := []) [] rfl).app hK1
    generalize H1 = H at hP hS ⊢
    have hP : va_P (dC, dI) vwCl [] H := hP
    have hD : va_D A [] := hD
    have hK : va_K (dC, dI) vwCl [] s := hK
    refine W.widen (k := 0) (n := 0) (Nat.le_of_ble_eq_true rfl) (Nat.le_of_ble_eq_true rfl) ?_
    refine lv_if_eq (tgt := 29) hx hb dX2_isRule_22 (by decide) (fun c_6 => ?_) (fun c_6 => ?_)
    · rw [h_5, b01] at c_6
      refine lv_iconst (v := 0) hx hb dX2_isRule_29 (by decide) ?_
      have hP9 := hP.sub (ws' := []) [] rfl
      have hD9 := hD.sub (ws' := []) [] (by decide) rfl
      have hK9 := hK.sub (tys' := []) [] rfl
      refine W.widen (k := 0) (n := 0) (Nat.le_of_ble_eq_true rfl) (Nat.le_of_ble_eq_true rfl) ?_
      exact W.zret (v := 0) hx hb hr rfl (fun t9 ht hW => ⟨⟨0, (), rfl, by first | (simp [w64_0, w64_4, w64_255, w64_1000, w64_2, c_3, c_6]; done) | (simp [w64_0, w64_4, w64_255, w64_1000, w64_2, c_3, c_6]; done) | grind [w64_0, w64_4, w64_255, w64_1000, w64_2], by rw [ht]; exact hP9, va_K.moved hW.alike hK9, hD9⟩, hS.F ht⟩) hS.2.2 dX2_isRule_30
    · rw [h_5, b01] at c_6
      have c_6 := Classical.not_not.mp c_6
      refine lv_iconst (v := 1) hx hb dX2_isRule_25 (by decide) ?_
      refine lv_goto (tgt := 30) hx hb dX2_isRule_26 (by decide) ?_
      have hP9 := hP.sub (ws' := []) [] rfl
      have hD9 := hD.sub (ws' := []) [] (by decide) rfl
      have hK9 := hK.sub (tys' := []) [] rfl
      refine W.widen (k := 0) (n := 0) (Nat.le_of_ble_eq_true rfl) (Nat.le_of_ble_eq_true rfl) ?_
      exact W.zret (v := 1) hx hb hr rfl (fun t9 ht hW => ⟨⟨1, (), rfl, by first | (simp [w64_0, w64_4, w64_255, w64_1000, w64_2, c_3, c_6]; done) | (simp [w64_0, w64_4, w64_255, w64_1000, w64_2, c_3, c_6]; done) | grind [w64_0, w64_4, w64_255, w64_1000, w64_2], by rw [ht]; exact hP9, va_K.moved hW.alike hK9, hD9⟩, hS.F ht⟩) hS.2.2 dX2_isRule_30

set_option maxHeartbeats 4000000 in
set_option maxRecDepth 100000 in
theorem qX2_isPart (l : Launch) (dC : Nat → ClassId) (dI : Nat → Nat → Nat) (sz : Nat) (f t : Int32)  : Met l yX2_isPart wsX2_isPart ({ frames := 0, cells := 0, slots := 0, locals := 0 }) (va_Pc [.int f, .int t] (fun U => U.heap.size = sz ∧ va_P (dC, dI) vwCl [] U.heap ∧ va_K (dC, dI) vwCl [] U ∧ va_D (fun _ => True) [])) (va_Qi (fun (r : Int32) (u : Unit) => (r = if okW f t then 1 else 0)) (fun (u : Unit) (t9 : State) => va_P (dC, dI) vwCl [] t9.heap ∧ va_K (dC, dI) vwCl [] t9 ∧ va_D (va_A [] sz) []) (va_A [] sz)) 0 0 (va_A [] sz) := by
  refine Met.ofW (cc := cX2_isPart) (maxL := 2) (ret := (some .boolean)) (by decide) rfl ?_
  intro p e s m args below meth c s₁ B hml hv
  obtain ⟨rfl, hsz, hP, hK, hD0⟩ := hv
  have hx := B.exec
  have hb := B.bytes
  have hr := B.returns
  have hts := atoms_spec (ws := wsX2_isPart) B.pre
  have hown : s.vm.findClass RX2 = some m.cls := findClass_of_methodNamed B.named
  have hlocks := B.notSynchronized
  subst hsz
  have hD := hD0.self (sz := s.heap.size)
  generalize hAe : va_A [] s.heap.size = A at hD ⊢
  have hA : ∀ q : Nat, s.heap.size ≤ q → A q := fun q h => by rw [← hAe]; exact Or.inr h
  have hS : va_S A s.heap s.heap [] := va_S.rf
  have hP : va_P (dC, dI) vwCl [] s.heap := hP
  have hl := lv_entry ([.int f, .int t]) (n := 2) (Nat.le_of_ble_eq_true rfl)
  rw [lg_entry_eq]
  generalize (lg_sl ([.int f, .int t]) ++ List.replicate (2 - (lg_sl ([.int f, .int t])).length) Slot.unset).toArray = ls at hl ⊢
  have hl : lv_has ls 2 [(0, .int f), (1, .int t)] := hl
  refine lv_iconst (v := 0) hx hb dX2_isPart_0 (by decide) ?_
  refine lv_iload_n hx hb dX2_isPart_1 rfl (lv_at hl 0 rfl) ?_
  refine lv_icmp_gt (tgt := 21) hx hb dX2_isPart_2 (by decide) (fun c_1 => ?_) (fun c_1 => ?_)
  · refine lv_iconst (v := 0) hx hb dX2_isPart_21 (by decide) ?_
    have hP9 := hP.sub (ws' := []) [] rfl
    have hD9 := hD.sub (ws' := []) [] (by decide) rfl
    have hK9 := hK.sub (tys' := []) [] rfl
    refine W.widen (k := 0) (n := 0) (Nat.le_of_ble_eq_true rfl) (Nat.le_of_ble_eq_true rfl) ?_
    exact W.zret (v := 0) hx hb hr rfl (fun t9 ht hW => ⟨⟨0, (), rfl, by first | (simp [c_1]; done) | (simp [c_1]; done) | grind [], by rw [ht]; exact hP9, va_K.moved hW.alike hK9, hD9⟩, hS.F ht⟩) hS.2.2 dX2_isPart_22
  · refine lv_iload_n hx hb dX2_isPart_5 rfl (lv_at hl 0 rfl) ?_
    refine lv_iload_n hx hb dX2_isPart_6 rfl (lv_at hl 1 rfl) ?_
    refine lv_icmp_gt (tgt := 21) hx hb dX2_isPart_7 (by decide) (fun c_2 => ?_) (fun c_2 => ?_)
    · refine lv_iconst (v := 0) hx hb dX2_isPart_21 (by decide) ?_
      have hP9 := hP.sub (ws' := []) [] rfl
      have hD9 := hD.sub (ws' := []) [] (by decide) rfl
      have hK9 := hK.sub (tys' := []) [] rfl
      refine W.widen (k := 0) (n := 0) (Nat.le_of_ble_eq_true rfl) (Nat.le_of_ble_eq_true rfl) ?_
      exact W.zret (v := 0) hx hb hr rfl (fun t9 ht hW => ⟨⟨0, (), rfl, by first | (simp [c_1, c_2]; done) | (simp [c_1, c_2]; done) | grind [], by rw [ht]; exact hP9, va_K.moved hW.alike hK9, hD9⟩, hS.F ht⟩) hS.2.2 dX2_isPart_22
    · refine lv_iload_n hx hb dX2_isPart_10 rfl (lv_at hl 1 rfl) ?_
      refine lv_sipush (v := 256) hx hb dX2_isPart_11 (by decide) ?_
      refine lv_icmp_gt (tgt := 21) hx hb dX2_isPart_14 (by decide) (fun c_3 => ?_) (fun c_3 => ?_)
      · refine lv_iconst (v := 0) hx hb dX2_isPart_21 (by decide) ?_
        have hP9 := hP.sub (ws' := []) [] rfl
        have hD9 := hD.sub (ws' := []) [] (by decide) rfl
        have hK9 := hK.sub (tys' := []) [] rfl
        refine W.widen (k := 0) (n := 0) (Nat.le_of_ble_eq_true rfl) (Nat.le_of_ble_eq_true rfl) ?_
        exact W.zret (v := 0) hx hb hr rfl (fun t9 ht hW => ⟨⟨0, (), rfl, by first | (simp [c_1, c_2, c_3]; done) | (simp [c_1, c_2, c_3]; done) | grind [], by rw [ht]; exact hP9, va_K.moved hW.alike hK9, hD9⟩, hS.F ht⟩) hS.2.2 dX2_isPart_22
      · refine lv_iconst (v := 1) hx hb dX2_isPart_17 (by decide) ?_
        refine lv_goto (tgt := 22) hx hb dX2_isPart_18 (by decide) ?_
        have hP9 := hP.sub (ws' := []) [] rfl
        have hD9 := hD.sub (ws' := []) [] (by decide) rfl
        have hK9 := hK.sub (tys' := []) [] rfl
        refine W.widen (k := 0) (n := 0) (Nat.le_of_ble_eq_true rfl) (Nat.le_of_ble_eq_true rfl) ?_
        exact W.zret (v := 1) hx hb hr rfl (fun t9 ht hW => ⟨⟨1, (), rfl, by first | (simp [c_1, c_2, c_3]; done) | (simp [c_1, c_2, c_3]; done) | grind [], by rw [ht]; exact hP9, va_K.moved hW.alike hK9, hD9⟩, hS.F ht⟩) hS.2.2 dX2_isPart_22

set_option maxRecDepth 20000 in
theorem kX2_isNumber_0 : (.constantLong RX2 31 (-1000000000000) : Cond) ∈ wsX2_isNumber := by decide +kernel
set_option maxRecDepth 20000 in
theorem kX2_isNumber_1 : (.constantLong RX2 33 (1000000000000) : Cond) ∈ wsX2_isNumber := by decide +kernel
set_option maxHeartbeats 4000000 in
set_option maxRecDepth 100000 in
theorem qX2_isNumber (l : Launch) (dC : Nat → ClassId) (dI : Nat → Nat → Nat) (sz : Nat) (x : Int64)  : Met l yX2_isNumber wsX2_isNumber ({ frames := 1, cells := 0, slots := 0, locals := 30 }) (va_Pc [.long x] (fun U => U.heap.size = sz ∧ va_P (dC, dI) vwCl [] U.heap ∧ va_K (dC, dI) vwCl [] U ∧ va_D (fun _ => True) [])) (va_Qi (fun (r : Int32) (u : Unit) => (r = if okX x then 1 else 0)) (fun (u : Unit) (t9 : State) => va_P (dC, dI) vwCl [] t9.heap ∧ va_K (dC, dI) vwCl [] t9 ∧ va_D (va_A [] sz) []) (va_A [] sz)) 0 0 (va_A [] sz) := by
  refine Met.ofW (cc := cX2_isNumber) (maxL := 2) (ret := (some .boolean)) (by decide) rfl ?_
  intro p e s m args below meth c s₁ B hml hv
  obtain ⟨rfl, hsz, hP, hK, hD0⟩ := hv
  have hx := B.exec
  have hb := B.bytes
  have hr := B.returns
  have hts := atoms_spec (ws := wsX2_isNumber) B.pre
  have hown : s.vm.findClass RX2 = some m.cls := findClass_of_methodNamed B.named
  have hlocks := B.notSynchronized
  subst hsz
  have hD := hD0.self (sz := s.heap.size)
  generalize hAe : va_A [] s.heap.size = A at hD ⊢
  have hA : ∀ q : Nat, s.heap.size ≤ q → A q := fun q h => by rw [← hAe]; exact Or.inr h
  have hS : va_S A s.heap s.heap [] := va_S.rf
  have hP : va_P (dC, dI) vwCl [] s.heap := hP
  have hl := lv_entry ([.long x]) (n := 2) (Nat.le_of_ble_eq_true rfl)
  rw [lg_entry_eq]
  generalize (lg_sl ([.long x]) ++ List.replicate (2 - (lg_sl ([.long x])).length) Slot.unset).toArray = ls at hl ⊢
  have hl : lv_has ls 2 [(0, .long x)] := hl
  refine lv_lload_n hx hb dX2_isNumber_0 rfl (lv_at hl 0 rfl) ?_
  refine lv_ldc2 hx hb hown (hts (.constantLong RX2 31 (-1000000000000)) kX2_isNumber_0) dX2_isNumber_1 ?_
  refine lv_ldc2 hx hb hown (hts (.constantLong RX2 33 (1000000000000)) kX2_isNumber_1) dX2_isNumber_4 ?_
  have hPc := hP.sub (ws' := []) [] rfl
  have hDc := hD.sub (ws' := []) [] (by decide) rfl
  have hKc := hK.sub (tys' := []) [] rfl
  have hFc := va_free (wc := []) hD hS hA [] rfl
  refine va_calli (va_runS (As := [.long x, .long (-1000000000000), .long 1000000000000]) (rest := []) ⟨hx, hb, hml, hown, hts⟩ (qX2_in l dC dI s.heap.size x (-1000000000000) (1000000000000)) (va_cwS 3 hts gX2_isNumber_X2_in rfl rfl rfl (by decide +kernel) ⟨Nat.le_of_ble_eq_true rfl, Nat.le_of_ble_eq_true rfl⟩) ⟨fun a U g mk q => by obtain ⟨q0, q1, qP, qK, qD⟩ := q; exact ⟨q0, q1, qP, va_K.moved (u := U) (U := U.calling g mk a) (Vm.Alike.refl U.vm) qK, qD⟩, fun U hU hW => ⟨rfl, by rw [hU], by rw [hU]; exact hPc, va_K.moved hW.alike hKc, hDc.weaken (fun _ _ _ _ => trivial)⟩⟩ rfl rfl hl.1 rfl (lv_room (Nat.le_of_ble_eq_true rfl)) dX2_isNumber_7 ⟨Nat.le_of_ble_eq_true rfl, Nat.le_of_ble_eq_true rfl⟩) hS (fun q _ h => hFc q h) hFc (fun r_1 u t9 H1 locs ht hvm hw hB hz1 hk1 hS => ?_)
  obtain ⟨hP1, hK1, hD1⟩ := hB
  rw [ht] at hP1
  have h_2 := hw
  have hK1 := va_K.moved hvm.symm hK1
  obtain ⟨hP, hD⟩ := va_join (wr := []) (w1 := []) hP hD [] [] rfl rfl (by decide) (by decide) hk1 hFc hP1 hD1
  have hK := (hK.sub (tys' := []) [] rfl).app hK1
  generalize H1 = H at hP hS ⊢
  have hP : va_P (dC, dI) vwCl [] H := hP
  have hD : va_D A [] := hD
  have hK : va_K (dC, dI) vwCl [] s := hK
  refine W.widen (k := 0) (n := 0) (Nat.le_of_ble_eq_true rfl) (Nat.le_of_ble_eq_true rfl) ?_
  have hP9 := hP.sub (ws' := []) [] rfl
  have hD9 := hD.sub (ws' := []) [] (by decide) rfl
  have hK9 := hK.sub (tys' := []) [] rfl
  refine W.widen (k := 0) (n := 0) (Nat.le_of_ble_eq_true rfl) (Nat.le_of_ble_eq_true rfl) ?_
  exact W.zret (v := r_1) hx hb hr (by rw [h_2]; split <;> rfl) (fun t9 ht hW => ⟨⟨r_1, (), rfl, h_2, by rw [ht]; exact hP9, va_K.moved hW.alike hK9, hD9⟩, hS.F ht⟩) hS.2.2 dX2_isNumber_10

set_option maxRecDepth 20000 in
theorem kX2_set_0 : ∀ w ∈ wsX20, w ∈ wsX2_set := by decide +kernel
set_option maxRecDepth 20000 in
theorem kX2_set_1 : (.fieldLink RX2 17 "FoldRowModel" "err" "I" : Cond) ∈ wsX2_set := by decide +kernel
set_option maxRecDepth 20000 in
theorem kX2_set_2 : (.constantLong RX2 43 (255) : Cond) ∈ wsX2_set := by decide +kernel
set_option maxRecDepth 20000 in
theorem kX2_set_3 : (.fieldLink RX2 9 "FoldRowModel" "kinds" "[I" : Cond) ∈ wsX2_set := by decide +kernel
set_option maxRecDepth 20000 in
theorem kX2_set_4 : (.fieldLink RX2 13 "FoldRowModel" "numbers" "[J" : Cond) ∈ wsX2_set := by decide +kernel
set_option maxHeartbeats 4000000 in
set_option maxRecDepth 100000 in
theorem qX2_set (l : Launch) (dC : Nat → ClassId) (dI : Nat → Nat → Nat) (sz : Nat) (m0 a b : Nat) (cI cJ : ClassId) (er : Int32) (kf : Nat → Int32) (vf : Nat → Int64) (k kd : Int32) (v : Int64)  : Met l yX2_set wsX2_set ({ frames := 2, cells := 0, slots := 0, locals := 60 }) (va_Pc [.ref m0, .int k, .int kd, .long v] (fun U => U.heap.size = sz ∧ va_P (dC, dI) vwCl [(m0, .inr (2, [.int er, .ref a, .ref b])), (a, .inl (cI, 256, .inl kf)), (b, .inl (cJ, 256, .inr (.inl vf)))] U.heap ∧ va_K (dC, dI) vwCl [(cI, .int), (cJ, .long)] U ∧ va_D (fun _ => True) [(m0, .inr (2, [.int er, .ref a, .ref b])), (a, .inl (cI, 256, .inl kf)), (b, .inl (cJ, 256, .inr (.inl vf)))])) (va_Qv (fun (u : Int32 × (Nat → Int32) × (Nat → Int64)) => u = (s_c k kd v, s_k kf k kd v, s_v vf k kd v)) (fun (u : Int32 × (Nat → Int32) × (Nat → Int64)) (t9 : State) => va_P (dC, dI) vwCl [(m0, .inr (2, [.int u.1, .ref a, .ref b])), (a, .inl (cI, 256, .inl u.2.1)), (b, .inl (cJ, 256, .inr (.inl u.2.2)))] t9.heap ∧ va_K (dC, dI) vwCl [(cI, .int), (cJ, .long)] t9 ∧ va_D (va_A [(m0, .inr (2, [.int er, .ref a, .ref b])), (a, .inl (cI, 256, .inl kf)), (b, .inl (cJ, 256, .inr (.inl vf)))] sz) [(m0, .inr (2, [.int u.1, .ref a, .ref b])), (a, .inl (cI, 256, .inl u.2.1)), (b, .inl (cJ, 256, .inr (.inl u.2.2)))]) (va_A [(m0, .inr (2, [.int er, .ref a, .ref b])), (a, .inl (cI, 256, .inl kf)), (b, .inl (cJ, 256, .inr (.inl vf)))] sz)) 0 0 (va_A [(m0, .inr (2, [.int er, .ref a, .ref b])), (a, .inl (cI, 256, .inl kf)), (b, .inl (cJ, 256, .inr (.inl vf)))] sz) := by
  refine Met.ofW (cc := cX2_set) (maxL := 5) (ret := none) (by decide) rfl ?_
  intro p e s m args below meth c s₁ B hml hv
  obtain ⟨rfl, hsz, hP, hK, hD0⟩ := hv
  have hx := B.exec
  have hb := B.bytes
  have hr := B.returns
  have hts := atoms_spec (ws := wsX2_set) B.pre
  have hown : s.vm.findClass RX2 = some m.cls := findClass_of_methodNamed B.named
  have hlocks := B.notSynchronized
  subst hsz
  have hD := hD0.self (sz := s.heap.size)
  generalize hAe : va_A [(m0, .inr (2, [.int er, .ref a, .ref b])), (a, .inl (cI, 256, .inl kf)), (b, .inl (cJ, 256, .inr (.inl vf)))] s.heap.size = A at hD ⊢
  have hA : ∀ q : Nat, s.heap.size ≤ q → A q := fun q h => by rw [← hAe]; exact Or.inr h
  have hS : va_S A s.heap s.heap [] := va_S.rf
  have hP : va_P (dC, dI) vwCl [(m0, .inr (2, [.int er, .ref a, .ref b])), (a, .inl (cI, 256, .inl kf)), (b, .inl (cJ, 256, .inr (.inl vf)))] s.heap := hP
  have hl := lv_entry ([.ref m0, .int k, .int kd, .long v]) (n := 5) (Nat.le_of_ble_eq_true rfl)
  rw [lg_entry_eq]
  generalize (lg_sl ([.ref m0, .int k, .int kd, .long v]) ++ List.replicate (5 - (lg_sl ([.ref m0, .int k, .int kd, .long v])).length) Slot.unset).toArray = ls at hl ⊢
  have hl : lv_has ls 5 [(0, .ref m0), (1, .int k), (2, .int kd), (3, .long v)] := hl
  refine lv_aload_n hx hb dX2_set_0 rfl (lv_at hl 0 rfl) ?_
  refine lv_iconst (v := 0) hx hb dX2_set_1 (by decide) ?_
  refine va_put (D := (dC, dI)) (ci := 2) (v := .int 0) (ty := .int) (C := RX2) (T := TX2) (N := 3) hx hb hts kX2_set_0 tyX2 tyX2_ok nmX2 hown hK hP hD hS 0 rfl rfl 0 (by decide) (hts (.fieldLink RX2 17 "FoldRowModel" "err" "I") kX2_set_1) (fun _ h9 => h9) rfl (by decide +kernel) rfl rfl (Nat.le_of_ble_eq_true rfl) dX2_set_2 (fun H locs hP hD hS => ?_)
  have hP : va_P (dC, dI) vwCl [(m0, .inr (2, [.int 0, .ref a, .ref b])), (a, .inl (cI, 256, .inl kf)), (b, .inl (cJ, 256, .inr (.inl vf)))] H := hP
  have hD : va_D A [(m0, .inr (2, [.int 0, .ref a, .ref b])), (a, .inl (cI, 256, .inl kf)), (b, .inl (cJ, 256, .inr (.inl vf)))] := hD
  refine lv_aload_n hx hb dX2_set_5 rfl (lv_at hl 0 rfl) ?_
  refine lv_iload_n hx hb dX2_set_6 rfl (lv_at hl 2 rfl) ?_
  refine lv_lload_n hx hb dX2_set_7 rfl (lv_at hl 3 rfl) ?_
  have hPc := hP.sub (ws' := []) [] rfl
  have hDc := hD.sub (ws' := []) [] (by decide) rfl
  have hKc := hK.sub (tys' := []) [] rfl
  have hFc := va_free (wc := []) hD hS hA [] rfl
  refine va_calli (va_runS (As := [.int kd, .long v]) (rest := [.ref m0]) ⟨hx, hb, hml, hown, hts⟩ (qX2_isRule l dC dI H.size kd v) (va_cwS 2 hts gX2_set_X2_isRule rfl rfl rfl (by decide +kernel) ⟨Nat.le_of_ble_eq_true rfl, Nat.le_of_ble_eq_true rfl⟩) ⟨fun a U g mk q => by obtain ⟨q0, q1, qP, qK, qD⟩ := q; exact ⟨q0, q1, qP, va_K.moved (u := U) (U := U.calling g mk a) (Vm.Alike.refl U.vm) qK, qD⟩, fun U hU hW => ⟨rfl, by rw [hU], by rw [hU]; exact hPc, va_K.moved hW.alike hKc, hDc.weaken (fun _ _ _ _ => trivial)⟩⟩ rfl rfl hl.1 rfl (lv_room (Nat.le_of_ble_eq_true rfl)) dX2_set_8 ⟨Nat.le_of_ble_eq_true rfl, Nat.le_of_ble_eq_true rfl⟩) hS (fun q _ h => hFc q h) hFc (fun r_1 u t9 H1 locs ht hvm hw hB hz1 hk1 hS => ?_)
  obtain ⟨hP1, hK1, hD1⟩ := hB
  rw [ht] at hP1
  have h_2 := hw
  have hK1 := va_K.moved hvm.symm hK1
  obtain ⟨hP, hD⟩ := va_join (wr := [(m0, .inr (2, [.int 0, .ref a, .ref b])), (a, .inl (cI, 256, .inl kf)), (b, .inl (cJ, 256, .inr (.inl vf)))]) (w1 := []) hP hD [] [0, 1, 2] rfl rfl (by decide) (by decide) hk1 hFc hP1 hD1
  have hK := (hK.sub (tys' := [(cI, .int), (cJ, .long)]) [0, 1] rfl).app hK1
  generalize H1 = H at hP hS ⊢
  have hP : va_P (dC, dI) vwCl [(m0, .inr (2, [.int 0, .ref a, .ref b])), (a, .inl (cI, 256, .inl kf)), (b, .inl (cJ, 256, .inr (.inl vf)))] H := hP
  have hD : va_D A [(m0, .inr (2, [.int 0, .ref a, .ref b])), (a, .inl (cI, 256, .inl kf)), (b, .inl (cJ, 256, .inr (.inl vf)))] := hD
  have hK : va_K (dC, dI) vwCl [(cI, .int), (cJ, .long)] s := hK
  refine W.widen (k := 0) (n := 0) (Nat.le_of_ble_eq_true rfl) (Nat.le_of_ble_eq_true rfl) ?_
  refine lv_if_ne (tgt := 18) hx hb dX2_set_11 (by decide) (fun c_3 => ?_) (fun c_3 => ?_)
  · rw [h_2, b01] at c_3
    have c_3 := Classical.not_not.mp c_3
    refine lv_iconst (v := 0) hx hb dX2_set_18 (by decide) ?_
    refine lv_iconst (v := 1) hx hb dX2_set_19 (by decide) ?_
    have hPc := hP.sub (ws' := [(m0, .inr (2, [.int 0, .ref a, .ref b]))]) [0] rfl
    have hDc := hD.sub (ws' := [(m0, .inr (2, [.int 0, .ref a, .ref b]))]) [0] (by decide) rfl
    have hKc := hK.sub (tys' := []) [] rfl
    have hFc := va_free (wc := [(m0, .inr (2, [.int 0, .ref a, .ref b]))]) hD hS hA [0] rfl
    refine va_calli (va_runV (As := [.int 0, .int 1]) (rest := []) ⟨hx, hb, hml, hown, hts⟩ (qX2_fails l dC dI H.size m0 a b (0) (0) (1)) (cwV 2 hts gX2_set_X2_fails rfl rfl rfl (by decide +kernel) ⟨Nat.le_of_ble_eq_true rfl, Nat.le_of_ble_eq_true rfl⟩) ⟨fun a U g mk q => by obtain ⟨q0, q1, qP, qK, qD⟩ := q; exact ⟨q0, q1, qP, va_K.moved (u := U) (U := U.calling g mk a) (Vm.Alike.refl U.vm) qK, qD⟩, va_recv hKc hPc (ci := 2) (q0 := 0) rfl rfl, fun U hU hW => ⟨rfl, by rw [hU], by rw [hU]; exact hPc, va_K.moved hW.alike hKc, hDc.weaken (fun _ _ _ _ => trivial)⟩⟩ rfl rfl hl.1 rfl (lv_room (Nat.le_of_ble_eq_true rfl)) dX2_set_20 ⟨Nat.le_of_ble_eq_true rfl, Nat.le_of_ble_eq_true rfl⟩) hS (fun q _ h => hFc q h) hFc (fun r_4 u t9 H1 locs ht hvm hw hB hz1 hk1 hS => ?_)
    obtain ⟨hP1, hK1, hD1⟩ := hB
    rw [ht] at hP1
    obtain ⟨h_5, rfl⟩ := hw
    have hK1 := va_K.moved hvm.symm hK1
    obtain ⟨hP, hD⟩ := va_join (wr := [(a, .inl (cI, 256, .inl kf)), (b, .inl (cJ, 256, .inr (.inl vf)))]) (w1 := [(m0, .inr (2, [.int (m_f 0 0 1), .ref a, .ref b]))]) hP hD [0] [1, 2] rfl rfl (by decide) (by decide) hk1 hFc hP1 hD1
    have hK := (hK.sub (tys' := [(cI, .int), (cJ, .long)]) [0, 1] rfl).app hK1
    generalize H1 = H at hP hS ⊢
    have hP : va_P (dC, dI) vwCl [(a, .inl (cI, 256, .inl kf)), (b, .inl (cJ, 256, .inr (.inl vf))), (m0, .inr (2, [.int (m_f 0 0 1), .ref a, .ref b]))] H := hP
    have hD : va_D A [(a, .inl (cI, 256, .inl kf)), (b, .inl (cJ, 256, .inr (.inl vf))), (m0, .inr (2, [.int (m_f 0 0 1), .ref a, .ref b]))] := hD
    have hK : va_K (dC, dI) vwCl [(cI, .int), (cJ, .long)] s := hK
    refine W.widen (k := 0) (n := 0) (Nat.le_of_ble_eq_true rfl) (Nat.le_of_ble_eq_true rfl) ?_
    obtain rfl : r_4 = 0 := h_5.trans (by decide)
    have hP : va_P (dC, dI) vwCl [(a, .inl (cI, 256, .inl kf)), (b, .inl (cJ, 256, .inr (.inl vf))), (m0, .inr (2, [.int 0, .ref a, .ref b]))] H := hP
    have hD : va_D A [(a, .inl (cI, 256, .inl kf)), (b, .inl (cJ, 256, .inr (.inl vf))), (m0, .inr (2, [.int 0, .ref a, .ref b]))] := hD
    refine lv_if_ne (tgt := 51) hx hb dX2_set_23 (by decide) (fun c_6 => ?_) (fun c_6 => ?_)
    · exact absurd c_6 (by decide)
    · refine lv_aload_n hx hb dX2_set_26 rfl (lv_at hl 0 rfl) ?_
      refine lv_iload_n hx hb dX2_set_27 rfl (lv_at hl 1 rfl) ?_
      refine lv_i2l (v := k.toInt64) hx hb dX2_set_28 rfl ?_
      refine lv_lconst (v := 0) hx hb dX2_set_29 (by decide) ?_
      refine lv_ldc2 hx hb hown (hts (.constantLong RX2 43 (255)) kX2_set_2) dX2_set_30 ?_
      have hPc := hP.sub (ws' := []) [] rfl
      have hDc := hD.sub (ws' := []) [] (by decide) rfl
      have hKc := hK.sub (tys' := []) [] rfl
      have hFc := va_free (wc := []) hD hS hA [] rfl
      refine va_calli (va_runS (As := [.long k.toInt64, .long 0, .long 255]) (rest := [.ref m0]) ⟨hx, hb, hml, hown, hts⟩ (qX2_in l dC dI H.size k.toInt64 (0) (255)) (va_cwS 3 hts gX2_set_X2_in rfl rfl rfl (by decide +kernel) ⟨Nat.le_of_ble_eq_true rfl, Nat.le_of_ble_eq_true rfl⟩) ⟨fun a U g mk q => by obtain ⟨q0, q1, qP, qK, qD⟩ := q; exact ⟨q0, q1, qP, va_K.moved (u := U) (U := U.calling g mk a) (Vm.Alike.refl U.vm) qK, qD⟩, fun U hU hW => ⟨rfl, by rw [hU], by rw [hU]; exact hPc, va_K.moved hW.alike hKc, hDc.weaken (fun _ _ _ _ => trivial)⟩⟩ rfl rfl hl.1 rfl (lv_room (Nat.le_of_ble_eq_true rfl)) dX2_set_33 ⟨Nat.le_of_ble_eq_true rfl, Nat.le_of_ble_eq_true rfl⟩) hS (fun q _ h => hFc q h) hFc (fun r_7 u t9 H1 locs ht hvm hw hB hz1 hk1 hS => ?_)
      obtain ⟨hP1, hK1, hD1⟩ := hB
      rw [ht] at hP1
      have h_8 := hw
      have hK1 := va_K.moved hvm.symm hK1
      obtain ⟨hP, hD⟩ := va_join (wr := [(a, .inl (cI, 256, .inl kf)), (b, .inl (cJ, 256, .inr (.inl vf))), (m0, .inr (2, [.int 0, .ref a, .ref b]))]) (w1 := []) hP hD [] [0, 1, 2] rfl rfl (by decide) (by decide) hk1 hFc hP1 hD1
      have hK := (hK.sub (tys' := [(cI, .int), (cJ, .long)]) [0, 1] rfl).app hK1
      generalize H1 = H at hP hS ⊢
      have hP : va_P (dC, dI) vwCl [(a, .inl (cI, 256, .inl kf)), (b, .inl (cJ, 256, .inr (.inl vf))), (m0, .inr (2, [.int 0, .ref a, .ref b]))] H := hP
      have hD : va_D A [(a, .inl (cI, 256, .inl kf)), (b, .inl (cJ, 256, .inr (.inl vf))), (m0, .inr (2, [.int 0, .ref a, .ref b]))] := hD
      have hK : va_K (dC, dI) vwCl [(cI, .int), (cJ, .long)] s := hK
      refine W.widen (k := 0) (n := 0) (Nat.le_of_ble_eq_true rfl) (Nat.le_of_ble_eq_true rfl) ?_
      refine lv_if_ne (tgt := 43) hx hb dX2_set_36 (by decide) (fun c_9 => ?_) (fun c_9 => ?_)
      · rw [h_8, b01] at c_9
        have c_9 := Classical.not_not.mp c_9
        refine lv_iconst (v := 0) hx hb dX2_set_43 (by decide) ?_
        refine lv_iconst (v := 2) hx hb dX2_set_44 (by decide) ?_
        have hPc := hP.sub (ws' := [(m0, .inr (2, [.int 0, .ref a, .ref b]))]) [2] rfl
        have hDc := hD.sub (ws' := [(m0, .inr (2, [.int 0, .ref a, .ref b]))]) [2] (by decide) rfl
        have hKc := hK.sub (tys' := []) [] rfl
        have hFc := va_free (wc := [(m0, .inr (2, [.int 0, .ref a, .ref b]))]) hD hS hA [2] rfl
        refine va_calli (va_runV (As := [.int 0, .int 2]) (rest := []) ⟨hx, hb, hml, hown, hts⟩ (qX2_fails l dC dI H.size m0 a b (0) (0) (2)) (cwV 2 hts gX2_set_X2_fails rfl rfl rfl (by decide +kernel) ⟨Nat.le_of_ble_eq_true rfl, Nat.le_of_ble_eq_true rfl⟩) ⟨fun a U g mk q => by obtain ⟨q0, q1, qP, qK, qD⟩ := q; exact ⟨q0, q1, qP, va_K.moved (u := U) (U := U.calling g mk a) (Vm.Alike.refl U.vm) qK, qD⟩, va_recv hKc hPc (ci := 2) (q0 := 0) rfl rfl, fun U hU hW => ⟨rfl, by rw [hU], by rw [hU]; exact hPc, va_K.moved hW.alike hKc, hDc.weaken (fun _ _ _ _ => trivial)⟩⟩ rfl rfl hl.1 rfl (lv_room (Nat.le_of_ble_eq_true rfl)) dX2_set_45 ⟨Nat.le_of_ble_eq_true rfl, Nat.le_of_ble_eq_true rfl⟩) hS (fun q _ h => hFc q h) hFc (fun r_10 u t9 H1 locs ht hvm hw hB hz1 hk1 hS => ?_)
        obtain ⟨hP1, hK1, hD1⟩ := hB
        rw [ht] at hP1
        obtain ⟨h_11, rfl⟩ := hw
        have hK1 := va_K.moved hvm.symm hK1
        obtain ⟨hP, hD⟩ := va_join (wr := [(a, .inl (cI, 256, .inl kf)), (b, .inl (cJ, 256, .inr (.inl vf)))]) (w1 := [(m0, .inr (2, [.int (m_f 0 0 2), .ref a, .ref b]))]) hP hD [2] [0, 1] rfl rfl (by decide) (by decide) hk1 hFc hP1 hD1
        have hK := (hK.sub (tys' := [(cI, .int), (cJ, .long)]) [0, 1] rfl).app hK1
        generalize H1 = H at hP hS ⊢
        have hP : va_P (dC, dI) vwCl [(a, .inl (cI, 256, .inl kf)), (b, .inl (cJ, 256, .inr (.inl vf))), (m0, .inr (2, [.int (m_f 0 0 2), .ref a, .ref b]))] H := hP
        have hD : va_D A [(a, .inl (cI, 256, .inl kf)), (b, .inl (cJ, 256, .inr (.inl vf))), (m0, .inr (2, [.int (m_f 0 0 2), .ref a, .ref b]))] := hD
        have hK : va_K (dC, dI) vwCl [(cI, .int), (cJ, .long)] s := hK
        refine W.widen (k := 0) (n := 0) (Nat.le_of_ble_eq_true rfl) (Nat.le_of_ble_eq_true rfl) ?_
        obtain rfl : r_10 = 0 := h_11.trans (by decide)
        have hP : va_P (dC, dI) vwCl [(a, .inl (cI, 256, .inl kf)), (b, .inl (cJ, 256, .inr (.inl vf))), (m0, .inr (2, [.int 0, .ref a, .ref b]))] H := hP
        have hD : va_D A [(a, .inl (cI, 256, .inl kf)), (b, .inl (cJ, 256, .inr (.inl vf))), (m0, .inr (2, [.int 0, .ref a, .ref b]))] := hD
        refine lv_if_eq (tgt := 52) hx hb dX2_set_48 (by decide) (fun c_12 => ?_) (fun c_12 => ?_)
        · refine lv_aload_n hx hb dX2_set_52 rfl (lv_at hl 0 rfl) ?_
          refine va_get (D := (dC, dI)) (ci := 2) (v := .ref a) (C := RX2) (T := TX2) (N := 3) hx hb hts kX2_set_0 hown hK hP 2 rfl rfl 1 (by decide) (hts (.fieldLink RX2 9 "FoldRowModel" "kinds" "[I") kX2_set_3) (fun _ h9 => h9) rfl dX2_set_53 ?_
          refine lv_iload_n hx hb dX2_set_56 rfl (lv_at hl 1 rfl) ?_
          refine lv_iload_n hx hb dX2_set_57 rfl (lv_at hl 2 rfl) ?_
          refine va_iast hx hb hK hP hD hS 0 0 rfl rfl (in_P (by have h9 := c_9; rw [w64_0, w64_255] at h9; exact ⟨h9.1, Classical.not_not.mp h9.2⟩)) dX2_set_58 (fun H locs hP hD hS => ?_)
          have hP : va_P (dC, dI) vwCl [(a, .inl (cI, 256, .inl (upd kf k.toNatClampNeg kd))), (b, .inl (cJ, 256, .inr (.inl vf))), (m0, .inr (2, [.int 0, .ref a, .ref b]))] H := hP
          have hD : va_D A [(a, .inl (cI, 256, .inl (upd kf k.toNatClampNeg kd))), (b, .inl (cJ, 256, .inr (.inl vf))), (m0, .inr (2, [.int 0, .ref a, .ref b]))] := hD
          refine lv_aload_n hx hb dX2_set_59 rfl (lv_at hl 0 rfl) ?_
          refine va_get (D := (dC, dI)) (ci := 2) (v := .ref b) (C := RX2) (T := TX2) (N := 3) hx hb hts kX2_set_0 hown hK hP 2 rfl rfl 2 (by decide) (hts (.fieldLink RX2 13 "FoldRowModel" "numbers" "[J") kX2_set_4) (fun _ h9 => h9) rfl dX2_set_60 ?_
          refine lv_iload_n hx hb dX2_set_63 rfl (lv_at hl 1 rfl) ?_
          refine lv_lload_n hx hb dX2_set_64 rfl (lv_at hl 3 rfl) ?_
          refine va_last hx hb hK hP hD hS 1 1 rfl rfl (in_P (by have h9 := c_9; rw [w64_0, w64_255] at h9; exact ⟨h9.1, Classical.not_not.mp h9.2⟩)) dX2_set_65 (fun H locs hP hD hS => ?_)
          have hP : va_P (dC, dI) vwCl [(a, .inl (cI, 256, .inl (upd kf k.toNatClampNeg kd))), (b, .inl (cJ, 256, .inr (.inl (vp_updL vf k.toNatClampNeg v)))), (m0, .inr (2, [.int 0, .ref a, .ref b]))] H := hP
          have hD : va_D A [(a, .inl (cI, 256, .inl (upd kf k.toNatClampNeg kd))), (b, .inl (cJ, 256, .inr (.inl (vp_updL vf k.toNatClampNeg v)))), (m0, .inr (2, [.int 0, .ref a, .ref b]))] := hD
          have hP9 := hP.sub (ws' := [(m0, .inr (2, [.int 0, .ref a, .ref b])), (a, .inl (cI, 256, .inl (upd kf k.toNatClampNeg kd))), (b, .inl (cJ, 256, .inr (.inl (vp_updL vf k.toNatClampNeg v))))]) [2, 0, 1] rfl
          have hD9 := hD.sub (ws' := [(m0, .inr (2, [.int 0, .ref a, .ref b])), (a, .inl (cI, 256, .inl (upd kf k.toNatClampNeg kd))), (b, .inl (cJ, 256, .inr (.inl (vp_updL vf k.toNatClampNeg v))))]) [2, 0, 1] (by decide) rfl
          have hK9 := hK.sub (tys' := [(cI, .int), (cJ, .long)]) [0, 1] rfl
          refine W.widen (k := 0) (n := 0) (Nat.le_of_ble_eq_true rfl) (Nat.le_of_ble_eq_true rfl) ?_
          exact W.vret hx hb hr (fun t9 ht hW => ⟨⟨(0, upd kf k.toNatClampNeg kd, vp_updL vf k.toNatClampNeg v), rfl, by first | (simp [s_c, s_k, s_v, w64_0, w64_4, w64_255, w64_1000, w64_2, c_3, c_9]; done) | (simp [s_c, s_k, s_v, w64_0, w64_4, w64_255, w64_1000, w64_2, c_3, c_9]; done) | grind [s_c, s_k, s_v, w64_0, w64_4, w64_255, w64_1000, w64_2], by rw [ht]; exact hP9, va_K.moved hW.alike hK9, hD9⟩, hS.F ht⟩) hS.2.2 dX2_set_66
        · exact absurd c_12 (by decide)
      · rw [h_8, b01] at c_9
        refine lv_iconst (v := 1) hx hb dX2_set_39 (by decide) ?_
        refine lv_goto (tgt := 44) hx hb dX2_set_40 (by decide) ?_
        refine lv_iconst (v := 2) hx hb dX2_set_44 (by decide) ?_
        have hPc := hP.sub (ws' := [(m0, .inr (2, [.int 0, .ref a, .ref b]))]) [2] rfl
        have hDc := hD.sub (ws' := [(m0, .inr (2, [.int 0, .ref a, .ref b]))]) [2] (by decide) rfl
        have hKc := hK.sub (tys' := []) [] rfl
        have hFc := va_free (wc := [(m0, .inr (2, [.int 0, .ref a, .ref b]))]) hD hS hA [2] rfl
        refine va_calli (va_runV (As := [.int 1, .int 2]) (rest := []) ⟨hx, hb, hml, hown, hts⟩ (qX2_fails l dC dI H.size m0 a b (0) (1) (2)) (cwV 2 hts gX2_set_X2_fails rfl rfl rfl (by decide +kernel) ⟨Nat.le_of_ble_eq_true rfl, Nat.le_of_ble_eq_true rfl⟩) ⟨fun a U g mk q => by obtain ⟨q0, q1, qP, qK, qD⟩ := q; exact ⟨q0, q1, qP, va_K.moved (u := U) (U := U.calling g mk a) (Vm.Alike.refl U.vm) qK, qD⟩, va_recv hKc hPc (ci := 2) (q0 := 0) rfl rfl, fun U hU hW => ⟨rfl, by rw [hU], by rw [hU]; exact hPc, va_K.moved hW.alike hKc, hDc.weaken (fun _ _ _ _ => trivial)⟩⟩ rfl rfl hl.1 rfl (lv_room (Nat.le_of_ble_eq_true rfl)) dX2_set_45 ⟨Nat.le_of_ble_eq_true rfl, Nat.le_of_ble_eq_true rfl⟩) hS (fun q _ h => hFc q h) hFc (fun r_13 u t9 H1 locs ht hvm hw hB hz1 hk1 hS => ?_)
        obtain ⟨hP1, hK1, hD1⟩ := hB
        rw [ht] at hP1
        obtain ⟨h_14, rfl⟩ := hw
        have hK1 := va_K.moved hvm.symm hK1
        obtain ⟨hP, hD⟩ := va_join (wr := [(a, .inl (cI, 256, .inl kf)), (b, .inl (cJ, 256, .inr (.inl vf)))]) (w1 := [(m0, .inr (2, [.int (m_f 1 0 2), .ref a, .ref b]))]) hP hD [2] [0, 1] rfl rfl (by decide) (by decide) hk1 hFc hP1 hD1
        have hK := (hK.sub (tys' := [(cI, .int), (cJ, .long)]) [0, 1] rfl).app hK1
        generalize H1 = H at hP hS ⊢
        have hP : va_P (dC, dI) vwCl [(a, .inl (cI, 256, .inl kf)), (b, .inl (cJ, 256, .inr (.inl vf))), (m0, .inr (2, [.int (m_f 1 0 2), .ref a, .ref b]))] H := hP
        have hD : va_D A [(a, .inl (cI, 256, .inl kf)), (b, .inl (cJ, 256, .inr (.inl vf))), (m0, .inr (2, [.int (m_f 1 0 2), .ref a, .ref b]))] := hD
        have hK : va_K (dC, dI) vwCl [(cI, .int), (cJ, .long)] s := hK
        refine W.widen (k := 0) (n := 0) (Nat.le_of_ble_eq_true rfl) (Nat.le_of_ble_eq_true rfl) ?_
        obtain rfl : r_13 = 1 := h_14.trans (by decide)
        have hP : va_P (dC, dI) vwCl [(a, .inl (cI, 256, .inl kf)), (b, .inl (cJ, 256, .inr (.inl vf))), (m0, .inr (2, [.int 2, .ref a, .ref b]))] H := hP
        have hD : va_D A [(a, .inl (cI, 256, .inl kf)), (b, .inl (cJ, 256, .inr (.inl vf))), (m0, .inr (2, [.int 2, .ref a, .ref b]))] := hD
        refine lv_if_eq (tgt := 52) hx hb dX2_set_48 (by decide) (fun c_15 => ?_) (fun c_15 => ?_)
        · exact absurd c_15 (by decide)
        · have hP9 := hP.sub (ws' := [(m0, .inr (2, [.int 2, .ref a, .ref b])), (a, .inl (cI, 256, .inl kf)), (b, .inl (cJ, 256, .inr (.inl vf)))]) [2, 0, 1] rfl
          have hD9 := hD.sub (ws' := [(m0, .inr (2, [.int 2, .ref a, .ref b])), (a, .inl (cI, 256, .inl kf)), (b, .inl (cJ, 256, .inr (.inl vf)))]) [2, 0, 1] (by decide) rfl
          have hK9 := hK.sub (tys' := [(cI, .int), (cJ, .long)]) [0, 1] rfl
          refine W.widen (k := 0) (n := 0) (Nat.le_of_ble_eq_true rfl) (Nat.le_of_ble_eq_true rfl) ?_
          exact W.vret hx hb hr (fun t9 ht hW => ⟨⟨(2, kf, vf), rfl, by first | (simp [s_c, s_k, s_v, w64_0, w64_4, w64_255, w64_1000, w64_2, c_3, c_9]; done) | (simp [s_c, s_k, s_v, w64_0, w64_4, w64_255, w64_1000, w64_2, c_3, c_9]; done) | grind [s_c, s_k, s_v, w64_0, w64_4, w64_255, w64_1000, w64_2], by rw [ht]; exact hP9, va_K.moved hW.alike hK9, hD9⟩, hS.F ht⟩) hS.2.2 dX2_set_51
  · rw [h_2, b01] at c_3
    refine lv_iconst (v := 1) hx hb dX2_set_14 (by decide) ?_
    refine lv_goto (tgt := 19) hx hb dX2_set_15 (by decide) ?_
    refine lv_iconst (v := 1) hx hb dX2_set_19 (by decide) ?_
    have hPc := hP.sub (ws' := [(m0, .inr (2, [.int 0, .ref a, .ref b]))]) [0] rfl
    have hDc := hD.sub (ws' := [(m0, .inr (2, [.int 0, .ref a, .ref b]))]) [0] (by decide) rfl
    have hKc := hK.sub (tys' := []) [] rfl
    have hFc := va_free (wc := [(m0, .inr (2, [.int 0, .ref a, .ref b]))]) hD hS hA [0] rfl
    refine va_calli (va_runV (As := [.int 1, .int 1]) (rest := []) ⟨hx, hb, hml, hown, hts⟩ (qX2_fails l dC dI H.size m0 a b (0) (1) (1)) (cwV 2 hts gX2_set_X2_fails rfl rfl rfl (by decide +kernel) ⟨Nat.le_of_ble_eq_true rfl, Nat.le_of_ble_eq_true rfl⟩) ⟨fun a U g mk q => by obtain ⟨q0, q1, qP, qK, qD⟩ := q; exact ⟨q0, q1, qP, va_K.moved (u := U) (U := U.calling g mk a) (Vm.Alike.refl U.vm) qK, qD⟩, va_recv hKc hPc (ci := 2) (q0 := 0) rfl rfl, fun U hU hW => ⟨rfl, by rw [hU], by rw [hU]; exact hPc, va_K.moved hW.alike hKc, hDc.weaken (fun _ _ _ _ => trivial)⟩⟩ rfl rfl hl.1 rfl (lv_room (Nat.le_of_ble_eq_true rfl)) dX2_set_20 ⟨Nat.le_of_ble_eq_true rfl, Nat.le_of_ble_eq_true rfl⟩) hS (fun q _ h => hFc q h) hFc (fun r_16 u t9 H1 locs ht hvm hw hB hz1 hk1 hS => ?_)
    obtain ⟨hP1, hK1, hD1⟩ := hB
    rw [ht] at hP1
    obtain ⟨h_17, rfl⟩ := hw
    have hK1 := va_K.moved hvm.symm hK1
    obtain ⟨hP, hD⟩ := va_join (wr := [(a, .inl (cI, 256, .inl kf)), (b, .inl (cJ, 256, .inr (.inl vf)))]) (w1 := [(m0, .inr (2, [.int (m_f 1 0 1), .ref a, .ref b]))]) hP hD [0] [1, 2] rfl rfl (by decide) (by decide) hk1 hFc hP1 hD1
    have hK := (hK.sub (tys' := [(cI, .int), (cJ, .long)]) [0, 1] rfl).app hK1
    generalize H1 = H at hP hS ⊢
    have hP : va_P (dC, dI) vwCl [(a, .inl (cI, 256, .inl kf)), (b, .inl (cJ, 256, .inr (.inl vf))), (m0, .inr (2, [.int (m_f 1 0 1), .ref a, .ref b]))] H := hP
    have hD : va_D A [(a, .inl (cI, 256, .inl kf)), (b, .inl (cJ, 256, .inr (.inl vf))), (m0, .inr (2, [.int (m_f 1 0 1), .ref a, .ref b]))] := hD
    have hK : va_K (dC, dI) vwCl [(cI, .int), (cJ, .long)] s := hK
    refine W.widen (k := 0) (n := 0) (Nat.le_of_ble_eq_true rfl) (Nat.le_of_ble_eq_true rfl) ?_
    obtain rfl : r_16 = 1 := h_17.trans (by decide)
    have hP : va_P (dC, dI) vwCl [(a, .inl (cI, 256, .inl kf)), (b, .inl (cJ, 256, .inr (.inl vf))), (m0, .inr (2, [.int 1, .ref a, .ref b]))] H := hP
    have hD : va_D A [(a, .inl (cI, 256, .inl kf)), (b, .inl (cJ, 256, .inr (.inl vf))), (m0, .inr (2, [.int 1, .ref a, .ref b]))] := hD
    refine lv_if_ne (tgt := 51) hx hb dX2_set_23 (by decide) (fun c_18 => ?_) (fun c_18 => ?_)
    · have hP9 := hP.sub (ws' := [(m0, .inr (2, [.int 1, .ref a, .ref b])), (a, .inl (cI, 256, .inl kf)), (b, .inl (cJ, 256, .inr (.inl vf)))]) [2, 0, 1] rfl
      have hD9 := hD.sub (ws' := [(m0, .inr (2, [.int 1, .ref a, .ref b])), (a, .inl (cI, 256, .inl kf)), (b, .inl (cJ, 256, .inr (.inl vf)))]) [2, 0, 1] (by decide) rfl
      have hK9 := hK.sub (tys' := [(cI, .int), (cJ, .long)]) [0, 1] rfl
      refine W.widen (k := 0) (n := 0) (Nat.le_of_ble_eq_true rfl) (Nat.le_of_ble_eq_true rfl) ?_
      exact W.vret hx hb hr (fun t9 ht hW => ⟨⟨(1, kf, vf), rfl, by first | (simp [s_c, s_k, s_v, w64_0, w64_4, w64_255, w64_1000, w64_2, c_3]; done) | (simp [s_c, s_k, s_v, w64_0, w64_4, w64_255, w64_1000, w64_2, c_3]; done) | grind [s_c, s_k, s_v, w64_0, w64_4, w64_255, w64_1000, w64_2], by rw [ht]; exact hP9, va_K.moved hW.alike hK9, hD9⟩, hS.F ht⟩) hS.2.2 dX2_set_51
    · exact absurd c_18 (by decide)

set_option maxRecDepth 20000 in
theorem kX2_made_0 : ∀ w ∈ wsX20, w ∈ wsX2_made := by decide +kernel
set_option maxRecDepth 20000 in
theorem kX2_made_1 : (.fieldLink RX2 9 "FoldRowModel" "kinds" "[I" : Cond) ∈ wsX2_made := by decide +kernel
set_option maxRecDepth 20000 in
theorem kX2_made_2 : (.fieldLink RX2 13 "FoldRowModel" "numbers" "[J" : Cond) ∈ wsX2_made := by decide +kernel
set_option maxHeartbeats 4000000 in
set_option maxRecDepth 100000 in
theorem qX2_made (l : Launch) (dC : Nat → ClassId) (dI : Nat → Nat → Nat) (sz : Nat) (m0 a b : Nat) (cI cJ : ClassId) (er : Int32) (kf : Nat → Int32) (vf : Nat → Int64) (f t : Int32) (x : Int64) (hok : okW f t) : Met l yX2_made wsX2_made ({ frames := 0, cells := 0, slots := 0, locals := 0 }) (va_Pc [.ref m0, .int f, .int t, .long x] (fun U => U.heap.size = sz ∧ va_P (dC, dI) vwCl [(m0, .inr (2, [.int er, .ref a, .ref b])), (a, .inl (cI, 256, .inl kf)), (b, .inl (cJ, 256, .inr (.inl vf)))] U.heap ∧ va_K (dC, dI) vwCl [(cI, .int), (cJ, .long)] U ∧ va_D (fun _ => True) [(m0, .inr (2, [.int er, .ref a, .ref b])), (a, .inl (cI, 256, .inl kf)), (b, .inl (cJ, 256, .inr (.inl vf)))])) (va_Ql (fun (r : Int64) (u : Unit) => (r = mW kf vf f t x)) (fun (u : Unit) (t9 : State) => va_P (dC, dI) vwCl [(m0, .inr (2, [.int er, .ref a, .ref b])), (a, .inl (cI, 256, .inl kf)), (b, .inl (cJ, 256, .inr (.inl vf)))] t9.heap ∧ va_K (dC, dI) vwCl [(cI, .int), (cJ, .long)] t9 ∧ va_D (va_A [(m0, .inr (2, [.int er, .ref a, .ref b])), (a, .inl (cI, 256, .inl kf)), (b, .inl (cJ, 256, .inr (.inl vf)))] sz) [(m0, .inr (2, [.int er, .ref a, .ref b])), (a, .inl (cI, 256, .inl kf)), (b, .inl (cJ, 256, .inr (.inl vf)))]) (va_A [(m0, .inr (2, [.int er, .ref a, .ref b])), (a, .inl (cI, 256, .inl kf)), (b, .inl (cJ, 256, .inr (.inl vf)))] sz)) 0 0 (va_A [(m0, .inr (2, [.int er, .ref a, .ref b])), (a, .inl (cI, 256, .inl kf)), (b, .inl (cJ, 256, .inr (.inl vf)))] sz) := by
  refine Met.ofW (cc := cX2_made) (maxL := 8) (ret := (some .long)) (by decide) rfl ?_
  intro p e s m args below meth c s₁ B hml hv
  obtain ⟨rfl, hsz, hP, hK, hD0⟩ := hv
  have hx := B.exec
  have hb := B.bytes
  have hr := B.returns
  have hts := atoms_spec (ws := wsX2_made) B.pre
  have hown : s.vm.findClass RX2 = some m.cls := findClass_of_methodNamed B.named
  have hlocks := B.notSynchronized
  subst hsz
  have hD := hD0.self (sz := s.heap.size)
  generalize hAe : va_A [(m0, .inr (2, [.int er, .ref a, .ref b])), (a, .inl (cI, 256, .inl kf)), (b, .inl (cJ, 256, .inr (.inl vf)))] s.heap.size = A at hD ⊢
  have hA : ∀ q : Nat, s.heap.size ≤ q → A q := fun q h => by rw [← hAe]; exact Or.inr h
  have hS : va_S A s.heap s.heap [] := va_S.rf
  have hP : va_P (dC, dI) vwCl [(m0, .inr (2, [.int er, .ref a, .ref b])), (a, .inl (cI, 256, .inl kf)), (b, .inl (cJ, 256, .inr (.inl vf)))] s.heap := hP
  have hl := lv_entry ([.ref m0, .int f, .int t, .long x]) (n := 8) (Nat.le_of_ble_eq_true rfl)
  rw [lg_entry_eq]
  generalize (lg_sl ([.ref m0, .int f, .int t, .long x]) ++ List.replicate (8 - (lg_sl ([.ref m0, .int f, .int t, .long x])).length) Slot.unset).toArray = ls at hl ⊢
  have hl : lv_has ls 8 [(0, .ref m0), (1, .int f), (2, .int t), (3, .long x)] := hl
  obtain ⟨a9, n9, han, hfe, hte, hfa, hln⟩ := okW_nat hok
  refine lv_lload_n hx hb dX2_made_0 rfl (lv_at hl 3 rfl) ?_
  refine lv_lstore (lv' := [(5, .long x), (0, .ref m0), (1, .int f), (2, .int t), (3, .long x)]) hx hb dX2_made_1 hl (by decide) rfl (fun ls hl => ?_)
  refine lv_iload_n hx hb dX2_made_3 rfl (lv_at hl 2 rfl) ?_
  refine lv_istore (lv' := [(7, .int f), (5, .long x), (0, .ref m0), (1, .int f), (2, .int t), (3, .long x)]) hx hb dX2_made_4 hl (by decide) rfl (fun ls hl => ?_)
  refine lp_up (N := n9) (α := Int64 × Int32) (fun j z9 H locs ls => (z9.2 = nI (a9 + j)) ∧ (z9.1 = m_of kf vf a9 x j) ∧ va_P (dC, dI) vwCl [(m0, .inr (2, [.int er, .ref a, .ref b])), (a, .inl (cI, 256, .inl kf)), (b, .inl (cJ, 256, .inr (.inl vf)))] H ∧ va_D A [(m0, .inr (2, [.int er, .ref a, .ref b])), (a, .inl (cI, 256, .inl kf)), (b, .inl (cJ, 256, .inr (.inl vf)))] ∧ va_K (dC, dI) vwCl [(cI, .int), (cJ, .long)] s ∧ va_S A s.heap H locs ∧ lv_has ls 8 [(0, .ref m0), (1, .int f), (2, .int t), (3, .long x), (5, .long z9.1), (7, .int z9.2)]) ?_ (x, f) s.heap _ ls ⟨hfe, rfl, hP.sub [0, 1, 2] rfl, hD.sub [0, 1, 2] (by decide) rfl, hK.sub [0, 1] rfl, hS, lv_sub hl [2, 3, 4, 5, 1, 0] rfl⟩
  intro j z9 H locs ls hj hI hn
  obtain ⟨y, k⟩ := z9
  dsimp only at hI
  obtain ⟨hi0, hi1, hP, hD, hK, hS, hl⟩ := hI
  have hkc : k.toNatClampNeg = a9 + j := by rw [hi0]; exact nI_clamp (by omega)
  refine lv_iload hx hb dX2_made_6 (lv_at hl 5 rfl) ?_
  refine lv_iload_n hx hb dX2_made_8 rfl (lv_at hl 2 rfl) ?_
  refine lv_icmp_ge (tgt := 131) hx hb dX2_made_9 (by decide) (fun c_1 => ?_) (fun c_1 => ?_)
  · rw [hte, hi0] at c_1
    have hjn := lp_ge han hj c_1
    subst hjn
    refine lv_lload hx hb dX2_made_131 (lv_at hl 4 rfl) ?_
    have hP9 := hP.sub (ws' := [(m0, .inr (2, [.int er, .ref a, .ref b])), (a, .inl (cI, 256, .inl kf)), (b, .inl (cJ, 256, .inr (.inl vf)))]) [0, 1, 2] rfl
    have hD9 := hD.sub (ws' := [(m0, .inr (2, [.int er, .ref a, .ref b])), (a, .inl (cI, 256, .inl kf)), (b, .inl (cJ, 256, .inr (.inl vf)))]) [0, 1, 2] (by decide) rfl
    have hK9 := hK.sub (tys' := [(cI, .int), (cJ, .long)]) [0, 1] rfl
    refine W.widen (k := 0) (n := 0) (Nat.le_of_ble_eq_true rfl) (Nat.le_of_ble_eq_true rfl) ?_
    exact W.lret (v := y) hx hb hr (fun t9 ht hW => ⟨⟨y, (), rfl, by show _ = m_of kf vf _ x _; rw [hfa, hln]; exact hi1, by rw [ht]; exact hP9, va_K.moved hW.alike hK9, hD9⟩, hS.F ht⟩) hS.2.2 dX2_made_133
  · rw [hte, hi0] at c_1
    have hjn := lp_lt han hj c_1
    refine lv_aload_n hx hb dX2_made_12 rfl (lv_at hl 0 rfl) ?_
    refine va_get (D := (dC, dI)) (ci := 2) (v := .ref a) (C := RX2) (T := TX2) (N := 3) hx hb hts kX2_made_0 hown hK hP 0 rfl rfl 1 (by decide) (hts (.fieldLink RX2 9 "FoldRowModel" "kinds" "[I") kX2_made_1) (fun _ h9 => h9) rfl dX2_made_13 ?_
    refine lv_iload hx hb dX2_made_16 (lv_at hl 5 rfl) ?_
    refine va_iald hx hb hK hP 1 0 rfl rfl (by rw [hi0]; exact vp_in_nI (by omega) (by omega)) dX2_made_18 ?_
    refine lv_topi (fun v_2 ev_2 => ?_)
    by_cases c_3 : v_2 = 1
    · refine lv_tableIn (off := 29) (tgt := 48) hx hb dX2_made_19 (by rw [c_3]; decide) (by rw [c_3]; decide) (by rw [c_3]; rfl) (by decide) ?_
      refine lv_lload hx hb dX2_made_48 (lv_at hl 4 rfl) ?_
      refine lv_aload_n hx hb dX2_made_50 rfl (lv_at hl 0 rfl) ?_
      refine va_get (D := (dC, dI)) (ci := 2) (v := .ref b) (C := RX2) (T := TX2) (N := 3) hx hb hts kX2_made_0 hown hK hP 0 rfl rfl 2 (by decide) (hts (.fieldLink RX2 13 "FoldRowModel" "numbers" "[J") kX2_made_2) (fun _ h9 => h9) rfl dX2_made_51 ?_
      refine lv_iload hx hb dX2_made_54 (lv_at hl 5 rfl) ?_
      refine va_lald hx hb hK hP 2 1 rfl rfl (by rw [hi0]; exact vp_in_nI (by omega) (by omega)) dX2_made_56 ?_
      refine lv_topl (fun v_4 ev_4 => ?_)
      refine lv_ladd hx hb dX2_made_57 ?_
      refine lv_topl (fun v_5 ev_5 => ?_)
      refine lv_lstore (lv' := [(5, .long v_5), (0, .ref m0), (1, .int f), (2, .int t), (3, .long x), (7, .int k)]) hx hb dX2_made_58 hl (by decide) rfl (fun ls hl => ?_)
      refine lv_goto (tgt := 125) hx hb dX2_made_60 (by decide) ?_
      obtain ⟨i_6, ei_6⟩ : ∃ y : Int32, y = k + 1 := ⟨_, rfl⟩
      refine lv_iinc (v := i_6) (lv' := [(7, .int i_6), (5, .long v_5), (0, .ref m0), (1, .int f), (2, .int t), (3, .long x)]) hx hb dX2_made_125 hl (k := 5) rfl (by rw [ei_6]; rfl) (by decide) rfl (fun ls hl => ?_)
      refine lv_goto (tgt := 6) hx hb dX2_made_128 (by decide) ?_
      exact hn (by omega) (v_5, i_6) _ _ ls ⟨by rw [ei_6, hi0]; exact nI_1 _, by first | (simp [m_of, m_ap, ← hi1, ← hkc, ev_2, c_3, ev_4, ev_5]; done) | (simp [m_of, m_ap, ← hi1, ← hkc, ← ev_2, ← ev_4, ← ev_5, c_3]; done) | grind [m_of, m_ap], hP.sub [0, 1, 2] rfl, hD.sub [0, 1, 2] (by decide) rfl, hK.sub [0, 1] rfl, hS, lv_sub hl [2, 3, 4, 5, 1, 0] rfl⟩
    by_cases c_7 : v_2 = 2
    · refine lv_tableIn (off := 44) (tgt := 63) hx hb dX2_made_19 (by rw [c_7]; decide) (by rw [c_7]; decide) (by rw [c_7]; rfl) (by decide) ?_
      refine lv_aload_n hx hb dX2_made_63 rfl (lv_at hl 0 rfl) ?_
      refine va_get (D := (dC, dI)) (ci := 2) (v := .ref b) (C := RX2) (T := TX2) (N := 3) hx hb hts kX2_made_0 hown hK hP 0 rfl rfl 2 (by decide) (hts (.fieldLink RX2 13 "FoldRowModel" "numbers" "[J") kX2_made_2) (fun _ h9 => h9) rfl dX2_made_64 ?_
      refine lv_iload hx hb dX2_made_67 (lv_at hl 5 rfl) ?_
      refine va_lald hx hb hK hP 2 1 rfl rfl (by rw [hi0]; exact vp_in_nI (by omega) (by omega)) dX2_made_69 ?_
      refine lv_topl (fun v_8 ev_8 => ?_)
      refine lv_lstore (lv' := [(5, .long v_8), (0, .ref m0), (1, .int f), (2, .int t), (3, .long x), (7, .int k)]) hx hb dX2_made_70 hl (by decide) rfl (fun ls hl => ?_)
      refine lv_goto (tgt := 125) hx hb dX2_made_72 (by decide) ?_
      obtain ⟨i_9, ei_9⟩ : ∃ y : Int32, y = k + 1 := ⟨_, rfl⟩
      refine lv_iinc (v := i_9) (lv' := [(7, .int i_9), (5, .long v_8), (0, .ref m0), (1, .int f), (2, .int t), (3, .long x)]) hx hb dX2_made_125 hl (k := 5) rfl (by rw [ei_9]; rfl) (by decide) rfl (fun ls hl => ?_)
      refine lv_goto (tgt := 6) hx hb dX2_made_128 (by decide) ?_
      exact hn (by omega) (v_8, i_9) _ _ ls ⟨by rw [ei_9, hi0]; exact nI_1 _, by first | (simp [m_of, m_ap, ← hi1, ← hkc, ev_2, c_7, ev_8]; done) | (simp [m_of, m_ap, ← hi1, ← hkc, ← ev_2, ← ev_8, c_7]; done) | grind [m_of, m_ap], hP.sub [0, 1, 2] rfl, hD.sub [0, 1, 2] (by decide) rfl, hK.sub [0, 1] rfl, hS, lv_sub hl [2, 3, 4, 5, 1, 0] rfl⟩
    by_cases c_10 : v_2 = 3
    · refine lv_tableIn (off := 56) (tgt := 75) hx hb dX2_made_19 (by rw [c_10]; decide) (by rw [c_10]; decide) (by rw [c_10]; rfl) (by decide) ?_
      refine lv_aload_n hx hb dX2_made_75 rfl (lv_at hl 0 rfl) ?_
      refine va_get (D := (dC, dI)) (ci := 2) (v := .ref b) (C := RX2) (T := TX2) (N := 3) hx hb hts kX2_made_0 hown hK hP 0 rfl rfl 2 (by decide) (hts (.fieldLink RX2 13 "FoldRowModel" "numbers" "[J") kX2_made_2) (fun _ h9 => h9) rfl dX2_made_76 ?_
      refine lv_iload hx hb dX2_made_79 (lv_at hl 5 rfl) ?_
      refine va_lald hx hb hK hP 2 1 rfl rfl (by rw [hi0]; exact vp_in_nI (by omega) (by omega)) dX2_made_81 ?_
      refine lv_topl (fun v_11 ev_11 => ?_)
      refine lv_lload hx hb dX2_made_82 (lv_at hl 4 rfl) ?_
      refine W.lcmp hx hb dX2_made_84 ?_
      refine lv_if_le (tgt := 125) hx hb dX2_made_85 (by decide) (fun c_12 => ?_) (fun c_12 => ?_)
      · simp only [lq_le] at c_12
        obtain ⟨i_13, ei_13⟩ : ∃ y : Int32, y = k + 1 := ⟨_, rfl⟩
        refine lv_iinc (v := i_13) (lv' := [(7, .int i_13), (0, .ref m0), (1, .int f), (2, .int t), (3, .long x), (5, .long y)]) hx hb dX2_made_125 hl (k := 5) rfl (by rw [ei_13]; rfl) (by decide) rfl (fun ls hl => ?_)
        refine lv_goto (tgt := 6) hx hb dX2_made_128 (by decide) ?_
        exact hn (by omega) (y, i_13) _ _ ls ⟨by rw [ei_13, hi0]; exact nI_1 _, by first | (simp [m_of, m_ap, ← hi1, ← hkc, ev_2, c_10, ev_11, c_12]; done) | (simp [m_of, m_ap, ← hi1, ← hkc, ← ev_2, ← ev_11, c_10, c_12]; done) | grind [m_of, m_ap], hP.sub [0, 1, 2] rfl, hD.sub [0, 1, 2] (by decide) rfl, hK.sub [0, 1] rfl, hS, lv_sub hl [1, 2, 3, 4, 5, 0] rfl⟩
      · simp only [lq_le] at c_12
        refine lv_aload_n hx hb dX2_made_88 rfl (lv_at hl 0 rfl) ?_
        refine va_get (D := (dC, dI)) (ci := 2) (v := .ref b) (C := RX2) (T := TX2) (N := 3) hx hb hts kX2_made_0 hown hK hP 0 rfl rfl 2 (by decide) (hts (.fieldLink RX2 13 "FoldRowModel" "numbers" "[J") kX2_made_2) (fun _ h9 => h9) rfl dX2_made_89 ?_
        refine lv_iload hx hb dX2_made_92 (lv_at hl 5 rfl) ?_
        refine va_lald hx hb hK hP 2 1 rfl rfl (by rw [hi0]; exact vp_in_nI (by omega) (by omega)) dX2_made_94 ?_
        refine lv_topl (fun v_14 ev_14 => ?_)
        refine lv_lstore (lv' := [(5, .long v_14), (0, .ref m0), (1, .int f), (2, .int t), (3, .long x), (7, .int k)]) hx hb dX2_made_95 hl (by decide) rfl (fun ls hl => ?_)
        refine lv_goto (tgt := 125) hx hb dX2_made_97 (by decide) ?_
        obtain ⟨i_15, ei_15⟩ : ∃ y : Int32, y = k + 1 := ⟨_, rfl⟩
        refine lv_iinc (v := i_15) (lv' := [(7, .int i_15), (5, .long v_14), (0, .ref m0), (1, .int f), (2, .int t), (3, .long x)]) hx hb dX2_made_125 hl (k := 5) rfl (by rw [ei_15]; rfl) (by decide) rfl (fun ls hl => ?_)
        refine lv_goto (tgt := 6) hx hb dX2_made_128 (by decide) ?_
        exact hn (by omega) (v_14, i_15) _ _ ls ⟨by rw [ei_15, hi0]; exact nI_1 _, by first | (simp [m_of, m_ap, ← hi1, ← hkc, ev_2, c_10, ev_11, c_12, ev_14]; done) | (simp [m_of, m_ap, ← hi1, ← hkc, ← ev_2, ← ev_11, ← ev_14, c_10, c_12]; done) | grind [m_of, m_ap], hP.sub [0, 1, 2] rfl, hD.sub [0, 1, 2] (by decide) rfl, hK.sub [0, 1] rfl, hS, lv_sub hl [2, 3, 4, 5, 1, 0] rfl⟩
    by_cases c_16 : v_2 = 4
    · refine lv_tableIn (off := 81) (tgt := 100) hx hb dX2_made_19 (by rw [c_16]; decide) (by rw [c_16]; decide) (by rw [c_16]; rfl) (by decide) ?_
      refine lv_aload_n hx hb dX2_made_100 rfl (lv_at hl 0 rfl) ?_
      refine va_get (D := (dC, dI)) (ci := 2) (v := .ref b) (C := RX2) (T := TX2) (N := 3) hx hb hts kX2_made_0 hown hK hP 0 rfl rfl 2 (by decide) (hts (.fieldLink RX2 13 "FoldRowModel" "numbers" "[J") kX2_made_2) (fun _ h9 => h9) rfl dX2_made_101 ?_
      refine lv_iload hx hb dX2_made_104 (lv_at hl 5 rfl) ?_
      refine va_lald hx hb hK hP 2 1 rfl rfl (by rw [hi0]; exact vp_in_nI (by omega) (by omega)) dX2_made_106 ?_
      refine lv_topl (fun v_17 ev_17 => ?_)
      refine lv_lload hx hb dX2_made_107 (lv_at hl 4 rfl) ?_
      refine W.lcmp hx hb dX2_made_109 ?_
      refine lv_if_ge (tgt := 125) hx hb dX2_made_110 (by decide) (fun c_18 => ?_) (fun c_18 => ?_)
      · simp only [lq_ge] at c_18
        obtain ⟨i_19, ei_19⟩ : ∃ y : Int32, y = k + 1 := ⟨_, rfl⟩
        refine lv_iinc (v := i_19) (lv' := [(7, .int i_19), (0, .ref m0), (1, .int f), (2, .int t), (3, .long x), (5, .long y)]) hx hb dX2_made_125 hl (k := 5) rfl (by rw [ei_19]; rfl) (by decide) rfl (fun ls hl => ?_)
        refine lv_goto (tgt := 6) hx hb dX2_made_128 (by decide) ?_
        exact hn (by omega) (y, i_19) _ _ ls ⟨by rw [ei_19, hi0]; exact nI_1 _, by first | (simp [m_of, m_ap, ← hi1, ← hkc, ev_2, c_16, ev_17, c_18]; done) | (simp [m_of, m_ap, ← hi1, ← hkc, ← ev_2, ← ev_17, c_16, c_18]; done) | grind [m_of, m_ap], hP.sub [0, 1, 2] rfl, hD.sub [0, 1, 2] (by decide) rfl, hK.sub [0, 1] rfl, hS, lv_sub hl [1, 2, 3, 4, 5, 0] rfl⟩
      · simp only [lq_ge] at c_18
        refine lv_aload_n hx hb dX2_made_113 rfl (lv_at hl 0 rfl) ?_
        refine va_get (D := (dC, dI)) (ci := 2) (v := .ref b) (C := RX2) (T := TX2) (N := 3) hx hb hts kX2_made_0 hown hK hP 0 rfl rfl 2 (by decide) (hts (.fieldLink RX2 13 "FoldRowModel" "numbers" "[J") kX2_made_2) (fun _ h9 => h9) rfl dX2_made_114 ?_
        refine lv_iload hx hb dX2_made_117 (lv_at hl 5 rfl) ?_
        refine va_lald hx hb hK hP 2 1 rfl rfl (by rw [hi0]; exact vp_in_nI (by omega) (by omega)) dX2_made_119 ?_
        refine lv_topl (fun v_20 ev_20 => ?_)
        refine lv_lstore (lv' := [(5, .long v_20), (0, .ref m0), (1, .int f), (2, .int t), (3, .long x), (7, .int k)]) hx hb dX2_made_120 hl (by decide) rfl (fun ls hl => ?_)
        refine lv_goto (tgt := 125) hx hb dX2_made_122 (by decide) ?_
        obtain ⟨i_21, ei_21⟩ : ∃ y : Int32, y = k + 1 := ⟨_, rfl⟩
        refine lv_iinc (v := i_21) (lv' := [(7, .int i_21), (5, .long v_20), (0, .ref m0), (1, .int f), (2, .int t), (3, .long x)]) hx hb dX2_made_125 hl (k := 5) rfl (by rw [ei_21]; rfl) (by decide) rfl (fun ls hl => ?_)
        refine lv_goto (tgt := 6) hx hb dX2_made_128 (by decide) ?_
        exact hn (by omega) (v_20, i_21) _ _ ls ⟨by rw [ei_21, hi0]; exact nI_1 _, by first | (simp [m_of, m_ap, ← hi1, ← hkc, ev_2, c_16, ev_17, c_18, ev_20]; done) | (simp [m_of, m_ap, ← hi1, ← hkc, ← ev_2, ← ev_17, ← ev_20, c_16, c_18]; done) | grind [m_of, m_ap], hP.sub [0, 1, 2] rfl, hD.sub [0, 1, 2] (by decide) rfl, hK.sub [0, 1] rfl, hS, lv_sub hl [2, 3, 4, 5, 1, 0] rfl⟩
    have hsw : v_2.toInt < 1 ∨ 4 < v_2.toInt := sw_1_4 c_3 c_7 c_10 c_16
    refine lv_tableOut (tgt := 125) hx hb dX2_made_19 hsw (by decide) ?_
    obtain ⟨i_22, ei_22⟩ : ∃ y : Int32, y = k + 1 := ⟨_, rfl⟩
    refine lv_iinc (v := i_22) (lv' := [(7, .int i_22), (0, .ref m0), (1, .int f), (2, .int t), (3, .long x), (5, .long y)]) hx hb dX2_made_125 hl (k := 5) rfl (by rw [ei_22]; rfl) (by decide) rfl (fun ls hl => ?_)
    refine lv_goto (tgt := 6) hx hb dX2_made_128 (by decide) ?_
    exact hn (by omega) (y, i_22) _ _ ls ⟨by rw [ei_22, hi0]; exact nI_1 _, by first | (simp [m_of, m_ap, ← hi1, ← hkc, ev_2, c_3, c_7, c_10, c_16]; done) | (simp [m_of, m_ap, ← hi1, ← hkc, ← ev_2, c_3, c_7, c_10, c_16]; done) | grind [m_of, m_ap], hP.sub [0, 1, 2] rfl, hD.sub [0, 1, 2] (by decide) rfl, hK.sub [0, 1] rfl, hS, lv_sub hl [1, 2, 3, 4, 5, 0] rfl⟩
