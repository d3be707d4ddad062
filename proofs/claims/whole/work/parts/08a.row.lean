set_option maxRecDepth 20000 in
theorem kX1_init_0 : (.methodLink RX1 1 objectInit : Cond) ∈ wsX1_init := by decide +kernel
set_option maxRecDepth 20000 in
theorem kX1_init_1 : (.instanceMethod objectInit : Cond) ∈ wsX1_init := by decide +kernel
set_option maxRecDepth 20000 in
theorem kX1_init_2 : (.code objectInit ⟨#[0xb1]⟩ 1 none : Cond) ∈ wsX1_init := by decide +kernel
set_option maxRecDepth 20000 in
theorem kX1_init_3 : (.arrayClass .int : Cond) ∈ wsX1_init := by decide +kernel
set_option maxRecDepth 20000 in
theorem kX1_init_4 : ∀ w ∈ wsX10, w ∈ wsX1_init := by decide +kernel
set_option maxRecDepth 20000 in
theorem kX1_init_5 : (.fieldLink RX1 9 "FoldRow" "kinds" "[I" : Cond) ∈ wsX1_init := by decide +kernel
set_option maxRecDepth 20000 in
theorem kX1_init_6 : (.arrayClass .long : Cond) ∈ wsX1_init := by decide +kernel
set_option maxRecDepth 20000 in
theorem kX1_init_7 : (.fieldLink RX1 13 "FoldRow" "values" "[J" : Cond) ∈ wsX1_init := by decide +kernel
set_option maxHeartbeats 4000000 in
set_option maxRecDepth 100000 in
theorem qX1_init (l : Launch) (dC : Nat → ClassId) (dI : Nat → Nat → Nat) (sz : Nat) (h0 : Nat)  : Met l yX1_init wsX1_init ({ frames := 1, cells := 2, slots := 512, locals := 12 }) (va_Pc [.ref h0] (fun U => U.heap.size = sz ∧ va_P (dC, dI) vwCl [(h0, .inr (1, [.null, .null]))] U.heap ∧ va_K (dC, dI) vwCl [] U ∧ va_D (fun _ => True) [(h0, .inr (1, [.null, .null]))])) (va_Qv (fun (u : Unit) => True) (fun (u : Unit) (t9 : State) => ∃ (a b : Nat) (cI cJ : ClassId), va_P (dC, dI) vwCl [(h0, .inr (1, [.ref a, .ref b])), (a, .inl (cI, 256, .inl (fun _ => 0))), (b, .inl (cJ, 256, .inr (.inl (fun _ => 0))))] t9.heap ∧ va_K (dC, dI) vwCl [(cI, .int), (cJ, .long)] t9 ∧ va_D (va_A [(h0, .inr (1, [.null, .null]))] sz) [(h0, .inr (1, [.ref a, .ref b])), (a, .inl (cI, 256, .inl (fun _ => 0))), (b, .inl (cJ, 256, .inr (.inl (fun _ => 0))))]) (va_A [(h0, .inr (1, [.null, .null]))] sz)) 2 512 (va_A [(h0, .inr (1, [.null, .null]))] sz) := by
  refine Met.ofW (cc := cX1_init) (maxL := 1) (ret := none) (by decide) rfl ?_
  intro p e s m args below meth c s₁ B hml hv
  obtain ⟨rfl, hsz, hP, hK, hD0⟩ := hv
  have hx := B.exec
  have hb := B.bytes
  have hr := B.returns
  have hts := atoms_spec (ws := wsX1_init) B.pre
  have hown : s.vm.findClass RX1 = some m.cls := findClass_of_methodNamed B.named
  have hlocks := B.notSynchronized
  have hin : meth.name = "<init>" := (name_of_methodNamed B.named B.method).1
  subst hsz
  have hD := hD0.self (sz := s.heap.size)
  generalize hAe : va_A [(h0, .inr (1, [.null, .null]))] s.heap.size = A at hD ⊢
  have hA : ∀ q : Nat, s.heap.size ≤ q → A q := fun q h => by rw [← hAe]; exact Or.inr h
  have hS : va_S A s.heap s.heap [] := va_S.rf
  have hP : va_P (dC, dI) vwCl [(h0, .inr (1, [.null, .null]))] s.heap := hP
  have hl := lv_entry ([.ref h0]) (n := 1) (Nat.le_of_ble_eq_true rfl)
  rw [lg_entry_eq]
  generalize (lg_sl ([.ref h0]) ++ List.replicate (1 - (lg_sl ([.ref h0])).length) Slot.unset).toArray = ls at hl ⊢
  have hl : lv_has ls 1 [(0, .ref h0)] := hl
  refine lv_aload_n hx hb dX1_init_0 rfl (lv_at hl 0 rfl) ?_
  refine W.objInit hx hb hown (hts (.methodLink RX1 1 objectInit) kX1_init_0) (hts (.instanceMethod objectInit) kX1_init_1) (hts (.code objectInit ⟨#[0xb1]⟩ 1 none) kX1_init_2) rfl (by rw [hml]; exact hl.1) rfl dX1_init_1 (Nat.le_of_ble_eq_true rfl) (Nat.le_of_ble_eq_true rfl) ?_
  refine W.eq (g2 := F0 m 4 ls []) rfl ?_
  refine lv_aload_n hx hb dX1_init_4 rfl (lv_at hl 0 rfl) ?_
  refine lv_sipush (v := 256) hx hb dX1_init_5 (by decide) ?_
  refine va_newa (atype := .int) (n := 256) (ty := .int) (N' := 256) (a0 := (256, .inl (fun _ => 0))) hx hb (hts (.arrayClass .int) kX1_init_3) rfl hK hP hD hS hA (fun _ => rfl) nn_256 nc_256 nb_int (Nat.le_of_ble_eq_true rfl) (Nat.le_of_ble_eq_true rfl) dX1_init_8 (fun a_1 k_2 H hK hP hD hS => ?_)
  have hP : va_P (dC, dI) vwCl [(h0, .inr (1, [.null, .null])), (a_1, .inl (k_2, 256, .inl (fun _ => 0)))] H := hP
  have hD : va_D A [(h0, .inr (1, [.null, .null])), (a_1, .inl (k_2, 256, .inl (fun _ => 0)))] := hD
  have hK : va_K (dC, dI) vwCl [(k_2, .int)] s := hK
  refine W.widen (k := 1) (n := 256) (Nat.le_of_ble_eq_true rfl) (Nat.le_of_ble_eq_true rfl) ?_
  refine va_putF (D := (dC, dI)) (ci := 1) (v := .ref a_1) (ty := .array .int) (C := RX1) (T := TX1) (N := 2) hx hb hts kX1_init_4 tyX1 tyX1_ok nmX1 hown hK hP hD hS 0 rfl rfl 0 (by decide) (hts (.fieldLink RX1 9 "FoldRow" "kinds" "[I") kX1_init_5) (fun _ h9 => h9) rfl hin rfl (by decide +kernel) rfl rfl (Nat.le_of_ble_eq_true rfl) dX1_init_10 (fun H locs hP hD hS => ?_)
  have hP : va_P (dC, dI) vwCl [(h0, .inr (1, [.ref a_1, .null])), (a_1, .inl (k_2, 256, .inl (fun _ => 0)))] H := hP
  have hD : va_D A [(h0, .inr (1, [.ref a_1, .null])), (a_1, .inl (k_2, 256, .inl (fun _ => 0)))] := hD
  refine lv_aload_n hx hb dX1_init_13 rfl (lv_at hl 0 rfl) ?_
  refine lv_sipush (v := 256) hx hb dX1_init_14 (by decide) ?_
  refine va_newa (atype := .long) (n := 256) (ty := .long) (N' := 256) (a0 := (256, .inr (.inl (fun _ => 0)))) hx hb (hts (.arrayClass .long) kX1_init_6) rfl hK hP hD hS hA (fun _ => rfl) nn_256 nc_256 nb_long (Nat.le_of_ble_eq_true rfl) (Nat.le_of_ble_eq_true rfl) dX1_init_17 (fun a_3 k_4 H hK hP hD hS => ?_)
  have hP : va_P (dC, dI) vwCl [(h0, .inr (1, [.ref a_1, .null])), (a_1, .inl (k_2, 256, .inl (fun _ => 0))), (a_3, .inl (k_4, 256, .inr (.inl (fun _ => 0))))] H := hP
  have hD : va_D A [(h0, .inr (1, [.ref a_1, .null])), (a_1, .inl (k_2, 256, .inl (fun _ => 0))), (a_3, .inl (k_4, 256, .inr (.inl (fun _ => 0))))] := hD
  have hK : va_K (dC, dI) vwCl [(k_2, .int), (k_4, .long)] s := hK
  refine W.widen (k := 2) (n := 512) (Nat.le_of_ble_eq_true rfl) (Nat.le_of_ble_eq_true rfl) ?_
  refine va_putF (D := (dC, dI)) (ci := 1) (v := .ref a_3) (ty := .array .long) (C := RX1) (T := TX1) (N := 2) hx hb hts kX1_init_4 tyX1 tyX1_ok nmX1 hown hK hP hD hS 0 rfl rfl 1 (by decide) (hts (.fieldLink RX1 13 "FoldRow" "values" "[J") kX1_init_7) (fun _ h9 => h9) rfl hin rfl (by decide +kernel) rfl rfl (Nat.le_of_ble_eq_true rfl) dX1_init_19 (fun H locs hP hD hS => ?_)
  have hP : va_P (dC, dI) vwCl [(h0, .inr (1, [.ref a_1, .ref a_3])), (a_1, .inl (k_2, 256, .inl (fun _ => 0))), (a_3, .inl (k_4, 256, .inr (.inl (fun _ => 0))))] H := hP
  have hD : va_D A [(h0, .inr (1, [.ref a_1, .ref a_3])), (a_1, .inl (k_2, 256, .inl (fun _ => 0))), (a_3, .inl (k_4, 256, .inr (.inl (fun _ => 0))))] := hD
  have hP9 := hP.sub (ws' := [(h0, .inr (1, [.ref a_1, .ref a_3])), (a_1, .inl (k_2, 256, .inl (fun _ => 0))), (a_3, .inl (k_4, 256, .inr (.inl (fun _ => 0))))]) [0, 1, 2] rfl
  have hD9 := hD.sub (ws' := [(h0, .inr (1, [.ref a_1, .ref a_3])), (a_1, .inl (k_2, 256, .inl (fun _ => 0))), (a_3, .inl (k_4, 256, .inr (.inl (fun _ => 0))))]) [0, 1, 2] (by decide) rfl
  have hK9 := hK.sub (tys' := [(k_2, .int), (k_4, .long)]) [0, 1] rfl
  refine W.widen (k := 2) (n := 512) (Nat.le_of_ble_eq_true rfl) (Nat.le_of_ble_eq_true rfl) ?_
  exact W.vret hx hb hr (fun t9 ht hW => ⟨⟨(), rfl, trivial, a_1, a_3, k_2, k_4, by rw [ht]; exact hP9, va_K.moved hW.alike hK9, hD9⟩, hS.F ht⟩) hS.2.2 dX1_init_22

set_option maxRecDepth 20000 in
theorem kX1_checkRule_0 : (.classLink RX1 93 "java/lang/IllegalArgumentException" : Cond) ∈ wsX1_checkRule := by decide +kernel
set_option maxRecDepth 20000 in
theorem kX1_checkRule_1 : (.initialized "java/lang/IllegalArgumentException" : Cond) ∈ wsX1_checkRule := by decide +kernel
set_option maxRecDepth 20000 in
theorem kX1_checkRule_2 : ∀ w ∈ (vx_atS RX1 97 IAE ups).filter goodWord, w ∈ wsX1_checkRule := by decide +kernel
set_option maxRecDepth 20000 in
theorem kX1_checkRule_3 : (.constantLong RX1 98 (-1000000000) : Cond) ∈ wsX1_checkRule := by decide +kernel
set_option maxRecDepth 20000 in
theorem kX1_checkRule_4 : (.constantLong RX1 100 (1000000000) : Cond) ∈ wsX1_checkRule := by decide +kernel
set_option maxHeartbeats 4000000 in
set_option maxRecDepth 100000 in
theorem qX1_checkRule (l : Launch) (hlt : l.stackTraces = false) (dC : Nat → ClassId) (dI : Nat → Nat → Nat) (sz : Nat) (k : Int32) (v : Int64)  : vx_Met l yX1_checkRule wsX1_checkRule ({ frames := 6, cells := 1, slots := 6, locals := 90 }) (va_Pc [.int k, .long v] (fun U => U.heap.size = sz ∧ va_P (dC, dI) vwCl [] U.heap ∧ va_K (dC, dI) vwCl [] U ∧ va_D (fun _ => True) [] ∧ ev U ∧ ez (va_A [] sz) U U.heap)) (va_Qv (fun (u : Unit) => (okR k v)) (fun (u : Unit) (t9 : State) => va_P (dC, dI) vwCl [] t9.heap ∧ va_K (dC, dI) vwCl [] t9 ∧ va_D (va_A [] sz) []) (va_A [] sz)) (vx_X (fun _ : Unit => True) (fun (E : String) (_ : Unit) (t9 : State) => (E = IAE ∧ ¬ okR k v) ∧ va_P (dC, dI) vwCl [] t9.heap ∧ va_K (dC, dI) vwCl [] t9 ∧ va_D (va_A [] sz) []) (va_A [] sz)) 1 6 (va_A [] sz) := by
  refine vx_ofW (cc := cX1_checkRule) (maxL := 3) (ret := none) (by decide) rfl ?_
  intro p e s m args below meth c s₁ B hml htb hv
  obtain ⟨rfl, hsz, hP, hK, hD0, hE, hZ⟩ := hv
  have hx := B.exec
  have hb := B.bytes
  have hr := B.returns
  have hts := atoms_spec (ws := wsX1_checkRule) B.pre
  have hown : s.vm.findClass RX1 = some m.cls := findClass_of_methodNamed B.named
  have hlocks := B.notSynchronized
  subst hsz
  have hD := hD0.self (sz := s.heap.size)
  generalize hAe : va_A [] s.heap.size = A at hD hZ ⊢
  have hA : ∀ q : Nat, s.heap.size ≤ q → A q := fun q h => by rw [← hAe]; exact Or.inr h
  have hS : va_S A s.heap s.heap [] := va_S.rf
  have hP : va_P (dC, dI) vwCl [] s.heap := hP
  have hl := lv_entry ([.int k, .long v]) (n := 3) (Nat.le_of_ble_eq_true rfl)
  rw [lg_entry_eq]
  generalize (lg_sl ([.int k, .long v]) ++ List.replicate (3 - (lg_sl ([.int k, .long v])).length) Slot.unset).toArray = ls at hl ⊢
  have hl : lv_has ls 3 [(0, .int k), (1, .long v)] := hl
  refine lv_iload_n hx hb dX1_checkRule_0 rfl (lv_at hl 0 rfl) ?_
  refine lv_if_lt (tgt := 9) hx hb dX1_checkRule_1 (by decide) (fun c_1 => ?_) (fun c_1 => ?_)
  · have hP9 := hP.sub (ws' := []) [] rfl
    have hD9 := hD.sub (ws' := []) [] (by decide) rfl
    have hK9 := hK.sub (tys' := []) [] rfl
    obtain ⟨sa, hsa⟩ := ev_s95 hE
    refine vx_throwS (A := A) (sa := sa) (text := "no such kind") (names := ups) hx hb hlt hown (by decide +kernel) (by decide +kernel) (hts (.classLink RX1 93 "java/lang/IllegalArgumentException") kX1_checkRule_0) (hts (.initialized "java/lang/IllegalArgumentException") kX1_checkRule_1) hsa (ev_at_iae (fun w hw => hts w (kX1_checkRule_2 w hw)) hE) ev_ot_iae hZ.1 hZ.2 hS (by rw [hml]; exact hl.1) dX1_checkRule_9 dX1_checkRule_12 dX1_checkRule_13 dX1_checkRule_15 dX1_checkRule_18 (fun x hx => (htb x hx).elim) (Nat.le_of_ble_eq_true rfl) (Nat.le_of_ble_eq_true rfl) (Nat.le_of_ble_eq_true rfl) (Nat.le_of_ble_eq_true rfl) hlocks (fun t9 ht h1 h2 => ⟨(), trivial, ⟨⟨rfl, by simp [okR, okX, okW, okP, okN, okQ, c_1]⟩, hP9.kept (fun k q hk => h2 q.1 (hP9 k q hk).lt), va_K.moved ht hK9, hD9⟩, ⟨Nat.le_trans hS.1 h1, fun q hq hn => (h2 q (Nat.lt_of_lt_of_le hq hS.1)).trans (hS.2.1 q hq hn)⟩⟩) hS.2.2 (Nat.le_of_ble_eq_true rfl) (Nat.le_of_ble_eq_true rfl)
  · refine lv_iload_n hx hb dX1_checkRule_4 rfl (lv_at hl 0 rfl) ?_
    refine lv_iconst (v := 4) hx hb dX1_checkRule_5 (by decide) ?_
    refine lv_icmp_le (tgt := 19) hx hb dX1_checkRule_6 (by decide) (fun c_2 => ?_) (fun c_2 => ?_)
    · refine lv_lload_n hx hb dX1_checkRule_19 rfl (lv_at hl 1 rfl) ?_
      refine lv_ldc2 hx hb hown (hts (.constantLong RX1 98 (-1000000000)) kX1_checkRule_3) dX1_checkRule_20 ?_
      refine W.lcmp hx hb dX1_checkRule_23 ?_
      refine lv_if_lt (tgt := 35) hx hb dX1_checkRule_24 (by decide) (fun c_3 => ?_) (fun c_3 => ?_)
      · simp only [lq_lt] at c_3
        have hP9 := hP.sub (ws' := []) [] rfl
        have hD9 := hD.sub (ws' := []) [] (by decide) rfl
        have hK9 := hK.sub (tys' := []) [] rfl
        obtain ⟨sa, hsa⟩ := ev_s102 hE
        refine vx_throwS (A := A) (sa := sa) (text := "v is out of range") (names := ups) hx hb hlt hown (by decide +kernel) (by decide +kernel) (hts (.classLink RX1 93 "java/lang/IllegalArgumentException") kX1_checkRule_0) (hts (.initialized "java/lang/IllegalArgumentException") kX1_checkRule_1) hsa (ev_at_iae (fun w hw => hts w (kX1_checkRule_2 w hw)) hE) ev_ot_iae hZ.1 hZ.2 hS (by rw [hml]; exact hl.1) dX1_checkRule_35 dX1_checkRule_38 dX1_checkRule_39 dX1_checkRule_41 dX1_checkRule_44 (fun x hx => (htb x hx).elim) (Nat.le_of_ble_eq_true rfl) (Nat.le_of_ble_eq_true rfl) (Nat.le_of_ble_eq_true rfl) (Nat.le_of_ble_eq_true rfl) hlocks (fun t9 ht h1 h2 => ⟨(), trivial, ⟨⟨rfl, by simp [okR, okX, okW, okP, okN, okQ, c_1, c_2, c_3]⟩, hP9.kept (fun k q hk => h2 q.1 (hP9 k q hk).lt), va_K.moved ht hK9, hD9⟩, ⟨Nat.le_trans hS.1 h1, fun q hq hn => (h2 q (Nat.lt_of_lt_of_le hq hS.1)).trans (hS.2.1 q hq hn)⟩⟩) hS.2.2 (Nat.le_of_ble_eq_true rfl) (Nat.le_of_ble_eq_true rfl)
      · simp only [lq_lt] at c_3
        refine lv_lload_n hx hb dX1_checkRule_27 rfl (lv_at hl 1 rfl) ?_
        refine lv_ldc2 hx hb hown (hts (.constantLong RX1 100 (1000000000)) kX1_checkRule_4) dX1_checkRule_28 ?_
        refine W.lcmp hx hb dX1_checkRule_31 ?_
        refine lv_if_le (tgt := 45) hx hb dX1_checkRule_32 (by decide) (fun c_4 => ?_) (fun c_4 => ?_)
        · simp only [lq_le] at c_4
          have hP9 := hP.sub (ws' := []) [] rfl
          have hD9 := hD.sub (ws' := []) [] (by decide) rfl
          have hK9 := hK.sub (tys' := []) [] rfl
          refine vx_ret ?_
          refine W.widen (k := 1) (n := 6) (Nat.le_of_ble_eq_true rfl) (Nat.le_of_ble_eq_true rfl) ?_
          exact W.vret hx hb hr (fun t9 ht hW => ⟨⟨(), rfl, by simp [okR, okX, okW, okP, okN, okQ, c_1, c_2, c_3, c_4], by rw [ht]; exact hP9, va_K.moved hW.alike hK9, hD9⟩, hS.F ht⟩) hS.2.2 dX1_checkRule_45
        · simp only [lq_le] at c_4
          have hP9 := hP.sub (ws' := []) [] rfl
          have hD9 := hD.sub (ws' := []) [] (by decide) rfl
          have hK9 := hK.sub (tys' := []) [] rfl
          obtain ⟨sa, hsa⟩ := ev_s102 hE
          refine vx_throwS (A := A) (sa := sa) (text := "v is out of range") (names := ups) hx hb hlt hown (by decide +kernel) (by decide +kernel) (hts (.classLink RX1 93 "java/lang/IllegalArgumentException") kX1_checkRule_0) (hts (.initialized "java/lang/IllegalArgumentException") kX1_checkRule_1) hsa (ev_at_iae (fun w hw => hts w (kX1_checkRule_2 w hw)) hE) ev_ot_iae hZ.1 hZ.2 hS (by rw [hml]; exact hl.1) dX1_checkRule_35 dX1_checkRule_38 dX1_checkRule_39 dX1_checkRule_41 dX1_checkRule_44 (fun x hx => (htb x hx).elim) (Nat.le_of_ble_eq_true rfl) (Nat.le_of_ble_eq_true rfl) (Nat.le_of_ble_eq_true rfl) (Nat.le_of_ble_eq_true rfl) hlocks (fun t9 ht h1 h2 => ⟨(), trivial, ⟨⟨rfl, by simp [okR, okX, okW, okP, okN, okQ, c_1, c_2, c_3, c_4]⟩, hP9.kept (fun k q hk => h2 q.1 (hP9 k q hk).lt), va_K.moved ht hK9, hD9⟩, ⟨Nat.le_trans hS.1 h1, fun q hq hn => (h2 q (Nat.lt_of_lt_of_le hq hS.1)).trans (hS.2.1 q hq hn)⟩⟩) hS.2.2 (Nat.le_of_ble_eq_true rfl) (Nat.le_of_ble_eq_true rfl)
    · have hP9 := hP.sub (ws' := []) [] rfl
      have hD9 := hD.sub (ws' := []) [] (by decide) rfl
      have hK9 := hK.sub (tys' := []) [] rfl
      obtain ⟨sa, hsa⟩ := ev_s95 hE
      refine vx_throwS (A := A) (sa := sa) (text := "no such kind") (names := ups) hx hb hlt hown (by decide +kernel) (by decide +kernel) (hts (.classLink RX1 93 "java/lang/IllegalArgumentException") kX1_checkRule_0) (hts (.initialized "java/lang/IllegalArgumentException") kX1_checkRule_1) hsa (ev_at_iae (fun w hw => hts w (kX1_checkRule_2 w hw)) hE) ev_ot_iae hZ.1 hZ.2 hS (by rw [hml]; exact hl.1) dX1_checkRule_9 dX1_checkRule_12 dX1_checkRule_13 dX1_checkRule_15 dX1_checkRule_18 (fun x hx => (htb x hx).elim) (Nat.le_of_ble_eq_true rfl) (Nat.le_of_ble_eq_true rfl) (Nat.le_of_ble_eq_true rfl) (Nat.le_of_ble_eq_true rfl) hlocks (fun t9 ht h1 h2 => ⟨(), trivial, ⟨⟨rfl, by simp [okR, okX, okW, okP, okN, okQ, c_1, c_2]⟩, hP9.kept (fun k q hk => h2 q.1 (hP9 k q hk).lt), va_K.moved ht hK9, hD9⟩, ⟨Nat.le_trans hS.1 h1, fun q hq hn => (h2 q (Nat.lt_of_lt_of_le hq hS.1)).trans (hS.2.1 q hq hn)⟩⟩) hS.2.2 (Nat.le_of_ble_eq_true rfl) (Nat.le_of_ble_eq_true rfl)

set_option maxRecDepth 20000 in
theorem kX1_checkNumber_0 : (.constantLong RX1 104 (-1000000000000) : Cond) ∈ wsX1_checkNumber := by decide +kernel
set_option maxRecDepth 20000 in
theorem kX1_checkNumber_1 : (.classLink RX1 93 "java/lang/IllegalArgumentException" : Cond) ∈ wsX1_checkNumber := by decide +kernel
set_option maxRecDepth 20000 in
theorem kX1_checkNumber_2 : (.initialized "java/lang/IllegalArgumentException" : Cond) ∈ wsX1_checkNumber := by decide +kernel
set_option maxRecDepth 20000 in
theorem kX1_checkNumber_3 : ∀ w ∈ (vx_atS RX1 97 IAE ups).filter goodWord, w ∈ wsX1_checkNumber := by decide +kernel
set_option maxRecDepth 20000 in
theorem kX1_checkNumber_4 : (.constantLong RX1 106 (1000000000000) : Cond) ∈ wsX1_checkNumber := by decide +kernel
set_option maxHeartbeats 4000000 in
set_option maxRecDepth 100000 in
theorem qX1_checkNumber (l : Launch) (hlt : l.stackTraces = false) (dC : Nat → ClassId) (dI : Nat → Nat → Nat) (sz : Nat) (x : Int64)  : vx_Met l yX1_checkNumber wsX1_checkNumber ({ frames := 6, cells := 1, slots := 6, locals := 90 }) (va_Pc [.long x] (fun U => U.heap.size = sz ∧ va_P (dC, dI) vwCl [] U.heap ∧ va_K (dC, dI) vwCl [] U ∧ va_D (fun _ => True) [] ∧ ev U ∧ ez (va_A [] sz) U U.heap)) (va_Qv (fun (u : Unit) => (okX x)) (fun (u : Unit) (t9 : State) => va_P (dC, dI) vwCl [] t9.heap ∧ va_K (dC, dI) vwCl [] t9 ∧ va_D (va_A [] sz) []) (va_A [] sz)) (vx_X (fun _ : Unit => True) (fun (E : String) (_ : Unit) (t9 : State) => (E = IAE ∧ ¬ okX x) ∧ va_P (dC, dI) vwCl [] t9.heap ∧ va_K (dC, dI) vwCl [] t9 ∧ va_D (va_A [] sz) []) (va_A [] sz)) 1 6 (va_A [] sz) := by
  refine vx_ofW (cc := cX1_checkNumber) (maxL := 2) (ret := none) (by decide) rfl ?_
  intro p e s m args below meth c s₁ B hml htb hv
  obtain ⟨rfl, hsz, hP, hK, hD0, hE, hZ⟩ := hv
  have hx := B.exec
  have hb := B.bytes
  have hr := B.returns
  have hts := atoms_spec (ws := wsX1_checkNumber) B.pre
  have hown : s.vm.findClass RX1 = some m.cls := findClass_of_methodNamed B.named
  have hlocks := B.notSynchronized
  subst hsz
  have hD := hD0.self (sz := s.heap.size)
  generalize hAe : va_A [] s.heap.size = A at hD hZ ⊢
  have hA : ∀ q : Nat, s.heap.size ≤ q → A q := fun q h => by rw [← hAe]; exact Or.inr h
  have hS : va_S A s.heap s.heap [] := va_S.rf
  have hP : va_P (dC, dI) vwCl [] s.heap := hP
  have hl := lv_entry ([.long x]) (n := 2) (Nat.le_of_ble_eq_true rfl)
  rw [lg_entry_eq]
  generalize (lg_sl ([.long x]) ++ List.replicate (2 - (lg_sl ([.long x])).length) Slot.unset).toArray = ls at hl ⊢
  have hl : lv_has ls 2 [(0, .long x)] := hl
  refine lv_lload_n hx hb dX1_checkNumber_0 rfl (lv_at hl 0 rfl) ?_
  refine lv_ldc2 hx hb hown (hts (.constantLong RX1 104 (-1000000000000)) kX1_checkNumber_0) dX1_checkNumber_1 ?_
  refine W.lcmp hx hb dX1_checkNumber_4 ?_
  refine lv_if_lt (tgt := 16) hx hb dX1_checkNumber_5 (by decide) (fun c_1 => ?_) (fun c_1 => ?_)
  · simp only [lq_lt] at c_1
    have hP9 := hP.sub (ws' := []) [] rfl
    have hD9 := hD.sub (ws' := []) [] (by decide) rfl
    have hK9 := hK.sub (tys' := []) [] rfl
    obtain ⟨sa, hsa⟩ := ev_s108 hE
    refine vx_throwS (A := A) (sa := sa) (text := "x is out of range") (names := ups) hx hb hlt hown (by decide +kernel) (by decide +kernel) (hts (.classLink RX1 93 "java/lang/IllegalArgumentException") kX1_checkNumber_1) (hts (.initialized "java/lang/IllegalArgumentException") kX1_checkNumber_2) hsa (ev_at_iae (fun w hw => hts w (kX1_checkNumber_3 w hw)) hE) ev_ot_iae hZ.1 hZ.2 hS (by rw [hml]; exact hl.1) dX1_checkNumber_16 dX1_checkNumber_19 dX1_checkNumber_20 dX1_checkNumber_22 dX1_checkNumber_25 (fun x hx => (htb x hx).elim) (Nat.le_of_ble_eq_true rfl) (Nat.le_of_ble_eq_true rfl) (Nat.le_of_ble_eq_true rfl) (Nat.le_of_ble_eq_true rfl) hlocks (fun t9 ht h1 h2 => ⟨(), trivial, ⟨⟨rfl, by simp [okR, okX, okW, okP, okN, okQ, c_1]⟩, hP9.kept (fun k q hk => h2 q.1 (hP9 k q hk).lt), va_K.moved ht hK9, hD9⟩, ⟨Nat.le_trans hS.1 h1, fun q hq hn => (h2 q (Nat.lt_of_lt_of_le hq hS.1)).trans (hS.2.1 q hq hn)⟩⟩) hS.2.2 (Nat.le_of_ble_eq_true rfl) (Nat.le_of_ble_eq_true rfl)
  · simp only [lq_lt] at c_1
    refine lv_lload_n hx hb dX1_checkNumber_8 rfl (lv_at hl 0 rfl) ?_
    refine lv_ldc2 hx hb hown (hts (.constantLong RX1 106 (1000000000000)) kX1_checkNumber_4) dX1_checkNumber_9 ?_
    refine W.lcmp hx hb dX1_checkNumber_12 ?_
    refine lv_if_le (tgt := 26) hx hb dX1_checkNumber_13 (by decide) (fun c_2 => ?_) (fun c_2 => ?_)
    · simp only [lq_le] at c_2
      have hP9 := hP.sub (ws' := []) [] rfl
      have hD9 := hD.sub (ws' := []) [] (by decide) rfl
      have hK9 := hK.sub (tys' := []) [] rfl
      refine vx_ret ?_
      refine W.widen (k := 1) (n := 6) (Nat.le_of_ble_eq_true rfl) (Nat.le_of_ble_eq_true rfl) ?_
      exact W.vret hx hb hr (fun t9 ht hW => ⟨⟨(), rfl, by simp [okR, okX, okW, okP, okN, okQ, c_1, c_2], by rw [ht]; exact hP9, va_K.moved hW.alike hK9, hD9⟩, hS.F ht⟩) hS.2.2 dX1_checkNumber_26
    · simp only [lq_le] at c_2
      have hP9 := hP.sub (ws' := []) [] rfl
      have hD9 := hD.sub (ws' := []) [] (by decide) rfl
      have hK9 := hK.sub (tys' := []) [] rfl
      obtain ⟨sa, hsa⟩ := ev_s108 hE
      refine vx_throwS (A := A) (sa := sa) (text := "x is out of range") (names := ups) hx hb hlt hown (by decide +kernel) (by decide +kernel) (hts (.classLink RX1 93 "java/lang/IllegalArgumentException") kX1_checkNumber_1) (hts (.initialized "java/lang/IllegalArgumentException") kX1_checkNumber_2) hsa (ev_at_iae (fun w hw => hts w (kX1_checkNumber_3 w hw)) hE) ev_ot_iae hZ.1 hZ.2 hS (by rw [hml]; exact hl.1) dX1_checkNumber_16 dX1_checkNumber_19 dX1_checkNumber_20 dX1_checkNumber_22 dX1_checkNumber_25 (fun x hx => (htb x hx).elim) (Nat.le_of_ble_eq_true rfl) (Nat.le_of_ble_eq_true rfl) (Nat.le_of_ble_eq_true rfl) (Nat.le_of_ble_eq_true rfl) hlocks (fun t9 ht h1 h2 => ⟨(), trivial, ⟨⟨rfl, by simp [okR, okX, okW, okP, okN, okQ, c_1, c_2]⟩, hP9.kept (fun k q hk => h2 q.1 (hP9 k q hk).lt), va_K.moved ht hK9, hD9⟩, ⟨Nat.le_trans hS.1 h1, fun q hq hn => (h2 q (Nat.lt_of_lt_of_le hq hS.1)).trans (hS.2.1 q hq hn)⟩⟩) hS.2.2 (Nat.le_of_ble_eq_true rfl) (Nat.le_of_ble_eq_true rfl)

set_option maxRecDepth 20000 in
theorem kX1_checkTimes_0 : (.classLink RX1 93 "java/lang/IllegalArgumentException" : Cond) ∈ wsX1_checkTimes := by decide +kernel
set_option maxRecDepth 20000 in
theorem kX1_checkTimes_1 : (.initialized "java/lang/IllegalArgumentException" : Cond) ∈ wsX1_checkTimes := by decide +kernel
set_option maxRecDepth 20000 in
theorem kX1_checkTimes_2 : ∀ w ∈ (vx_atS RX1 97 IAE ups).filter goodWord, w ∈ wsX1_checkTimes := by decide +kernel
set_option maxHeartbeats 4000000 in
set_option maxRecDepth 100000 in
theorem qX1_checkTimes (l : Launch) (hlt : l.stackTraces = false) (dC : Nat → ClassId) (dI : Nat → Nat → Nat) (sz : Nat) (n : Int32)  : vx_Met l yX1_checkTimes wsX1_checkTimes ({ frames := 6, cells := 1, slots := 6, locals := 90 }) (va_Pc [.int n] (fun U => U.heap.size = sz ∧ va_P (dC, dI) vwCl [] U.heap ∧ va_K (dC, dI) vwCl [] U ∧ va_D (fun _ => True) [] ∧ ev U ∧ ez (va_A [] sz) U U.heap)) (va_Qv (fun (u : Unit) => (okN n)) (fun (u : Unit) (t9 : State) => va_P (dC, dI) vwCl [] t9.heap ∧ va_K (dC, dI) vwCl [] t9 ∧ va_D (va_A [] sz) []) (va_A [] sz)) (vx_X (fun _ : Unit => True) (fun (E : String) (_ : Unit) (t9 : State) => (E = IAE ∧ ¬ okN n) ∧ va_P (dC, dI) vwCl [] t9.heap ∧ va_K (dC, dI) vwCl [] t9 ∧ va_D (va_A [] sz) []) (va_A [] sz)) 1 6 (va_A [] sz) := by
  refine vx_ofW (cc := cX1_checkTimes) (maxL := 1) (ret := none) (by decide) rfl ?_
  intro p e s m args below meth c s₁ B hml htb hv
  obtain ⟨rfl, hsz, hP, hK, hD0, hE, hZ⟩ := hv
  have hx := B.exec
  have hb := B.bytes
  have hr := B.returns
  have hts := atoms_spec (ws := wsX1_checkTimes) B.pre
  have hown : s.vm.findClass RX1 = some m.cls := findClass_of_methodNamed B.named
  have hlocks := B.notSynchronized
  subst hsz
  have hD := hD0.self (sz := s.heap.size)
  generalize hAe : va_A [] s.heap.size = A at hD hZ ⊢
  have hA : ∀ q : Nat, s.heap.size ≤ q → A q := fun q h => by rw [← hAe]; exact Or.inr h
  have hS : va_S A s.heap s.heap [] := va_S.rf
  have hP : va_P (dC, dI) vwCl [] s.heap := hP
  have hl := lv_entry ([.int n]) (n := 1) (Nat.le_of_ble_eq_true rfl)
  rw [lg_entry_eq]
  generalize (lg_sl ([.int n]) ++ List.replicate (1 - (lg_sl ([.int n])).length) Slot.unset).toArray = ls at hl ⊢
  have hl : lv_has ls 1 [(0, .int n)] := hl
  refine lv_iload_n hx hb dX1_checkTimes_0 rfl (lv_at hl 0 rfl) ?_
  refine lv_if_lt (tgt := 11) hx hb dX1_checkTimes_1 (by decide) (fun c_1 => ?_) (fun c_1 => ?_)
  · have hP9 := hP.sub (ws' := []) [] rfl
    have hD9 := hD.sub (ws' := []) [] (by decide) rfl
    have hK9 := hK.sub (tys' := []) [] rfl
    obtain ⟨sa, hsa⟩ := ev_s110 hE
    refine vx_throwS (A := A) (sa := sa) (text := "n is out of range") (names := ups) hx hb hlt hown (by decide +kernel) (by decide +kernel) (hts (.classLink RX1 93 "java/lang/IllegalArgumentException") kX1_checkTimes_0) (hts (.initialized "java/lang/IllegalArgumentException") kX1_checkTimes_1) hsa (ev_at_iae (fun w hw => hts w (kX1_checkTimes_2 w hw)) hE) ev_ot_iae hZ.1 hZ.2 hS (by rw [hml]; exact hl.1) dX1_checkTimes_11 dX1_checkTimes_14 dX1_checkTimes_15 dX1_checkTimes_17 dX1_checkTimes_20 (fun x hx => (htb x hx).elim) (Nat.le_of_ble_eq_true rfl) (Nat.le_of_ble_eq_true rfl) (Nat.le_of_ble_eq_true rfl) (Nat.le_of_ble_eq_true rfl) hlocks (fun t9 ht h1 h2 => ⟨(), trivial, ⟨⟨rfl, by simp [okR, okX, okW, okP, okN, okQ, c_1]⟩, hP9.kept (fun k q hk => h2 q.1 (hP9 k q hk).lt), va_K.moved ht hK9, hD9⟩, ⟨Nat.le_trans hS.1 h1, fun q hq hn => (h2 q (Nat.lt_of_lt_of_le hq hS.1)).trans (hS.2.1 q hq hn)⟩⟩) hS.2.2 (Nat.le_of_ble_eq_true rfl) (Nat.le_of_ble_eq_true rfl)
  · refine lv_iload_n hx hb dX1_checkTimes_4 rfl (lv_at hl 0 rfl) ?_
    refine lv_sipush (v := 1000) hx hb dX1_checkTimes_5 (by decide) ?_
    refine lv_icmp_le (tgt := 21) hx hb dX1_checkTimes_8 (by decide) (fun c_2 => ?_) (fun c_2 => ?_)
    · have hP9 := hP.sub (ws' := []) [] rfl
      have hD9 := hD.sub (ws' := []) [] (by decide) rfl
      have hK9 := hK.sub (tys' := []) [] rfl
      refine vx_ret ?_
      refine W.widen (k := 1) (n := 6) (Nat.le_of_ble_eq_true rfl) (Nat.le_of_ble_eq_true rfl) ?_
      exact W.vret hx hb hr (fun t9 ht hW => ⟨⟨(), rfl, by simp [okR, okX, okW, okP, okN, okQ, c_1, c_2], by rw [ht]; exact hP9, va_K.moved hW.alike hK9, hD9⟩, hS.F ht⟩) hS.2.2 dX1_checkTimes_21
    · have hP9 := hP.sub (ws' := []) [] rfl
      have hD9 := hD.sub (ws' := []) [] (by decide) rfl
      have hK9 := hK.sub (tys' := []) [] rfl
      obtain ⟨sa, hsa⟩ := ev_s110 hE
      refine vx_throwS (A := A) (sa := sa) (text := "n is out of range") (names := ups) hx hb hlt hown (by decide +kernel) (by decide +kernel) (hts (.classLink RX1 93 "java/lang/IllegalArgumentException") kX1_checkTimes_0) (hts (.initialized "java/lang/IllegalArgumentException") kX1_checkTimes_1) hsa (ev_at_iae (fun w hw => hts w (kX1_checkTimes_2 w hw)) hE) ev_ot_iae hZ.1 hZ.2 hS (by rw [hml]; exact hl.1) dX1_checkTimes_11 dX1_checkTimes_14 dX1_checkTimes_15 dX1_checkTimes_17 dX1_checkTimes_20 (fun x hx => (htb x hx).elim) (Nat.le_of_ble_eq_true rfl) (Nat.le_of_ble_eq_true rfl) (Nat.le_of_ble_eq_true rfl) (Nat.le_of_ble_eq_true rfl) hlocks (fun t9 ht h1 h2 => ⟨(), trivial, ⟨⟨rfl, by simp [okR, okX, okW, okP, okN, okQ, c_1, c_2]⟩, hP9.kept (fun k q hk => h2 q.1 (hP9 k q hk).lt), va_K.moved ht hK9, hD9⟩, ⟨Nat.le_trans hS.1 h1, fun q hq hn => (h2 q (Nat.lt_of_lt_of_le hq hS.1)).trans (hS.2.1 q hq hn)⟩⟩) hS.2.2 (Nat.le_of_ble_eq_true rfl) (Nat.le_of_ble_eq_true rfl)

set_option maxRecDepth 20000 in
theorem kX1_checkQuestion_0 : (.classLink RX1 93 "java/lang/IllegalArgumentException" : Cond) ∈ wsX1_checkQuestion := by decide +kernel
set_option maxRecDepth 20000 in
theorem kX1_checkQuestion_1 : (.initialized "java/lang/IllegalArgumentException" : Cond) ∈ wsX1_checkQuestion := by decide +kernel
set_option maxRecDepth 20000 in
theorem kX1_checkQuestion_2 : ∀ w ∈ (vx_atS RX1 97 IAE ups).filter goodWord, w ∈ wsX1_checkQuestion := by decide +kernel
set_option maxHeartbeats 4000000 in
set_option maxRecDepth 100000 in
theorem qX1_checkQuestion (l : Launch) (hlt : l.stackTraces = false) (dC : Nat → ClassId) (dI : Nat → Nat → Nat) (sz : Nat) (w : Int32)  : vx_Met l yX1_checkQuestion wsX1_checkQuestion ({ frames := 6, cells := 1, slots := 6, locals := 90 }) (va_Pc [.int w] (fun U => U.heap.size = sz ∧ va_P (dC, dI) vwCl [] U.heap ∧ va_K (dC, dI) vwCl [] U ∧ va_D (fun _ => True) [] ∧ ev U ∧ ez (va_A [] sz) U U.heap)) (va_Qv (fun (u : Unit) => (okQ w)) (fun (u : Unit) (t9 : State) => va_P (dC, dI) vwCl [] t9.heap ∧ va_K (dC, dI) vwCl [] t9 ∧ va_D (va_A [] sz) []) (va_A [] sz)) (vx_X (fun _ : Unit => True) (fun (E : String) (_ : Unit) (t9 : State) => (E = IAE ∧ ¬ okQ w) ∧ va_P (dC, dI) vwCl [] t9.heap ∧ va_K (dC, dI) vwCl [] t9 ∧ va_D (va_A [] sz) []) (va_A [] sz)) 1 6 (va_A [] sz) := by
  refine vx_ofW (cc := cX1_checkQuestion) (maxL := 1) (ret := none) (by decide) rfl ?_
  intro p e s m args below meth c s₁ B hml htb hv
  obtain ⟨rfl, hsz, hP, hK, hD0, hE, hZ⟩ := hv
  have hx := B.exec
  have hb := B.bytes
  have hr := B.returns
  have hts := atoms_spec (ws := wsX1_checkQuestion) B.pre
  have hown : s.vm.findClass RX1 = some m.cls := findClass_of_methodNamed B.named
  have hlocks := B.notSynchronized
  subst hsz
  have hD := hD0.self (sz := s.heap.size)
  generalize hAe : va_A [] s.heap.size = A at hD hZ ⊢
  have hA : ∀ q : Nat, s.heap.size ≤ q → A q := fun q h => by rw [← hAe]; exact Or.inr h
  have hS : va_S A s.heap s.heap [] := va_S.rf
  have hP : va_P (dC, dI) vwCl [] s.heap := hP
  have hl := lv_entry ([.int w]) (n := 1) (Nat.le_of_ble_eq_true rfl)
  rw [lg_entry_eq]
  generalize (lg_sl ([.int w]) ++ List.replicate (1 - (lg_sl ([.int w])).length) Slot.unset).toArray = ls at hl ⊢
  have hl : lv_has ls 1 [(0, .int w)] := hl
  refine lv_iload_n hx hb dX1_checkQuestion_0 rfl (lv_at hl 0 rfl) ?_
  refine lv_if_lt (tgt := 9) hx hb dX1_checkQuestion_1 (by decide) (fun c_1 => ?_) (fun c_1 => ?_)
  · have hP9 := hP.sub (ws' := []) [] rfl
    have hD9 := hD.sub (ws' := []) [] (by decide) rfl
    have hK9 := hK.sub (tys' := []) [] rfl
    obtain ⟨sa, hsa⟩ := ev_s112 hE
    refine vx_throwS (A := A) (sa := sa) (text := "no such question") (names := ups) hx hb hlt hown (by decide +kernel) (by decide +kernel) (hts (.classLink RX1 93 "java/lang/IllegalArgumentException") kX1_checkQuestion_0) (hts (.initialized "java/lang/IllegalArgumentException") kX1_checkQuestion_1) hsa (ev_at_iae (fun w hw => hts w (kX1_checkQuestion_2 w hw)) hE) ev_ot_iae hZ.1 hZ.2 hS (by rw [hml]; exact hl.1) dX1_checkQuestion_9 dX1_checkQuestion_12 dX1_checkQuestion_13 dX1_checkQuestion_15 dX1_checkQuestion_18 (fun x hx => (htb x hx).elim) (Nat.le_of_ble_eq_true rfl) (Nat.le_of_ble_eq_true rfl) (Nat.le_of_ble_eq_true rfl) (Nat.le_of_ble_eq_true rfl) hlocks (fun t9 ht h1 h2 => ⟨(), trivial, ⟨⟨rfl, by simp [okR, okX, okW, okP, okN, okQ, c_1]⟩, hP9.kept (fun k q hk => h2 q.1 (hP9 k q hk).lt), va_K.moved ht hK9, hD9⟩, ⟨Nat.le_trans hS.1 h1, fun q hq hn => (h2 q (Nat.lt_of_lt_of_le hq hS.1)).trans (hS.2.1 q hq hn)⟩⟩) hS.2.2 (Nat.le_of_ble_eq_true rfl) (Nat.le_of_ble_eq_true rfl)
  · refine lv_iload_n hx hb dX1_checkQuestion_4 rfl (lv_at hl 0 rfl) ?_
    refine lv_iconst (v := 2) hx hb dX1_checkQuestion_5 (by decide) ?_
    refine lv_icmp_le (tgt := 19) hx hb dX1_checkQuestion_6 (by decide) (fun c_2 => ?_) (fun c_2 => ?_)
    · have hP9 := hP.sub (ws' := []) [] rfl
      have hD9 := hD.sub (ws' := []) [] (by decide) rfl
      have hK9 := hK.sub (tys' := []) [] rfl
      refine vx_ret ?_
      refine W.widen (k := 1) (n := 6) (Nat.le_of_ble_eq_true rfl) (Nat.le_of_ble_eq_true rfl) ?_
      exact W.vret hx hb hr (fun t9 ht hW => ⟨⟨(), rfl, by simp [okR, okX, okW, okP, okN, okQ, c_1, c_2], by rw [ht]; exact hP9, va_K.moved hW.alike hK9, hD9⟩, hS.F ht⟩) hS.2.2 dX1_checkQuestion_19
    · have hP9 := hP.sub (ws' := []) [] rfl
      have hD9 := hD.sub (ws' := []) [] (by decide) rfl
      have hK9 := hK.sub (tys' := []) [] rfl
      obtain ⟨sa, hsa⟩ := ev_s112 hE
      refine vx_throwS (A := A) (sa := sa) (text := "no such question") (names := ups) hx hb hlt hown (by decide +kernel) (by decide +kernel) (hts (.classLink RX1 93 "java/lang/IllegalArgumentException") kX1_checkQuestion_0) (hts (.initialized "java/lang/IllegalArgumentException") kX1_checkQuestion_1) hsa (ev_at_iae (fun w hw => hts w (kX1_checkQuestion_2 w hw)) hE) ev_ot_iae hZ.1 hZ.2 hS (by rw [hml]; exact hl.1) dX1_checkQuestion_9 dX1_checkQuestion_12 dX1_checkQuestion_13 dX1_checkQuestion_15 dX1_checkQuestion_18 (fun x hx => (htb x hx).elim) (Nat.le_of_ble_eq_true rfl) (Nat.le_of_ble_eq_true rfl) (Nat.le_of_ble_eq_true rfl) (Nat.le_of_ble_eq_true rfl) hlocks (fun t9 ht h1 h2 => ⟨(), trivial, ⟨⟨rfl, by simp [okR, okX, okW, okP, okN, okQ, c_1, c_2]⟩, hP9.kept (fun k q hk => h2 q.1 (hP9 k q hk).lt), va_K.moved ht hK9, hD9⟩, ⟨Nat.le_trans hS.1 h1, fun q hq hn => (h2 q (Nat.lt_of_lt_of_le hq hS.1)).trans (hS.2.1 q hq hn)⟩⟩) hS.2.2 (Nat.le_of_ble_eq_true rfl) (Nat.le_of_ble_eq_true rfl)

set_option maxRecDepth 20000 in
theorem kX1_checkPlace_0 : (.classLink RX1 114 "java/lang/IndexOutOfBoundsException" : Cond) ∈ wsX1_checkPlace := by decide +kernel
set_option maxRecDepth 20000 in
theorem kX1_checkPlace_1 : (.initialized "java/lang/IndexOutOfBoundsException" : Cond) ∈ wsX1_checkPlace := by decide +kernel
set_option maxRecDepth 20000 in
theorem kX1_checkPlace_2 : ∀ w ∈ (vx_atS RX1 118 IOB ups).filter goodWord, w ∈ wsX1_checkPlace := by decide +kernel
set_option maxHeartbeats 4000000 in
set_option maxRecDepth 100000 in
theorem qX1_checkPlace (l : Launch) (hlt : l.stackTraces = false) (dC : Nat → ClassId) (dI : Nat → Nat → Nat) (sz : Nat) (k : Int32)  : vx_Met l yX1_checkPlace wsX1_checkPlace ({ frames := 6, cells := 1, slots := 6, locals := 90 }) (va_Pc [.int k] (fun U => U.heap.size = sz ∧ va_P (dC, dI) vwCl [] U.heap ∧ va_K (dC, dI) vwCl [] U ∧ va_D (fun _ => True) [] ∧ ev U ∧ ez (va_A [] sz) U U.heap)) (va_Qv (fun (u : Unit) => (okP k)) (fun (u : Unit) (t9 : State) => va_P (dC, dI) vwCl [] t9.heap ∧ va_K (dC, dI) vwCl [] t9 ∧ va_D (va_A [] sz) []) (va_A [] sz)) (vx_X (fun _ : Unit => True) (fun (E : String) (_ : Unit) (t9 : State) => (E = IOB ∧ ¬ okP k) ∧ va_P (dC, dI) vwCl [] t9.heap ∧ va_K (dC, dI) vwCl [] t9 ∧ va_D (va_A [] sz) []) (va_A [] sz)) 1 6 (va_A [] sz) := by
  refine vx_ofW (cc := cX1_checkPlace) (maxL := 1) (ret := none) (by decide) rfl ?_
  intro p e s m args below meth c s₁ B hml htb hv
  obtain ⟨rfl, hsz, hP, hK, hD0, hE, hZ⟩ := hv
  have hx := B.exec
  have hb := B.bytes
  have hr := B.returns
  have hts := atoms_spec (ws := wsX1_checkPlace) B.pre
  have hown : s.vm.findClass RX1 = some m.cls := findClass_of_methodNamed B.named
  have hlocks := B.notSynchronized
  subst hsz
  have hD := hD0.self (sz := s.heap.size)
  generalize hAe : va_A [] s.heap.size = A at hD hZ ⊢
  have hA : ∀ q : Nat, s.heap.size ≤ q → A q := fun q h => by rw [← hAe]; exact Or.inr h
  have hS : va_S A s.heap s.heap [] := va_S.rf
  have hP : va_P (dC, dI) vwCl [] s.heap := hP
  have hl := lv_entry ([.int k]) (n := 1) (Nat.le_of_ble_eq_true rfl)
  rw [lg_entry_eq]
  generalize (lg_sl ([.int k]) ++ List.replicate (1 - (lg_sl ([.int k])).length) Slot.unset).toArray = ls at hl ⊢
  have hl : lv_has ls 1 [(0, .int k)] := hl
  refine lv_iload_n hx hb dX1_checkPlace_0 rfl (lv_at hl 0 rfl) ?_
  refine lv_if_lt (tgt := 11) hx hb dX1_checkPlace_1 (by decide) (fun c_1 => ?_) (fun c_1 => ?_)
  · have hP9 := hP.sub (ws' := []) [] rfl
    have hD9 := hD.sub (ws' := []) [] (by decide) rfl
    have hK9 := hK.sub (tys' := []) [] rfl
    obtain ⟨sa, hsa⟩ := ev_s116 hE
    refine vx_throwS (A := A) (sa := sa) (text := "no such rule") (names := ups) hx hb hlt hown (by decide +kernel) (by decide +kernel) (hts (.classLink RX1 114 "java/lang/IndexOutOfBoundsException") kX1_checkPlace_0) (hts (.initialized "java/lang/IndexOutOfBoundsException") kX1_checkPlace_1) hsa (ev_at_iob (fun w hw => hts w (kX1_checkPlace_2 w hw)) hE) ev_ot_iob hZ.1 hZ.2 hS (by rw [hml]; exact hl.1) dX1_checkPlace_11 dX1_checkPlace_14 dX1_checkPlace_15 dX1_checkPlace_17 dX1_checkPlace_20 (fun x hx => (htb x hx).elim) (Nat.le_of_ble_eq_true rfl) (Nat.le_of_ble_eq_true rfl) (Nat.le_of_ble_eq_true rfl) (Nat.le_of_ble_eq_true rfl) hlocks (fun t9 ht h1 h2 => ⟨(), trivial, ⟨⟨rfl, by simp [okR, okX, okW, okP, okN, okQ, c_1]⟩, hP9.kept (fun k q hk => h2 q.1 (hP9 k q hk).lt), va_K.moved ht hK9, hD9⟩, ⟨Nat.le_trans hS.1 h1, fun q hq hn => (h2 q (Nat.lt_of_lt_of_le hq hS.1)).trans (hS.2.1 q hq hn)⟩⟩) hS.2.2 (Nat.le_of_ble_eq_true rfl) (Nat.le_of_ble_eq_true rfl)
  · refine lv_iload_n hx hb dX1_checkPlace_4 rfl (lv_at hl 0 rfl) ?_
    refine lv_sipush (v := 256) hx hb dX1_checkPlace_5 (by decide) ?_
    refine lv_icmp_lt (tgt := 21) hx hb dX1_checkPlace_8 (by decide) (fun c_2 => ?_) (fun c_2 => ?_)
    · have hP9 := hP.sub (ws' := []) [] rfl
      have hD9 := hD.sub (ws' := []) [] (by decide) rfl
      have hK9 := hK.sub (tys' := []) [] rfl
      refine vx_ret ?_
      refine W.widen (k := 1) (n := 6) (Nat.le_of_ble_eq_true rfl) (Nat.le_of_ble_eq_true rfl) ?_
      exact W.vret hx hb hr (fun t9 ht hW => ⟨⟨(), rfl, by simp [okR, okX, okW, okP, okN, okQ, c_1, c_2], by rw [ht]; exact hP9, va_K.moved hW.alike hK9, hD9⟩, hS.F ht⟩) hS.2.2 dX1_checkPlace_21
    · have hP9 := hP.sub (ws' := []) [] rfl
      have hD9 := hD.sub (ws' := []) [] (by decide) rfl
      have hK9 := hK.sub (tys' := []) [] rfl
      obtain ⟨sa, hsa⟩ := ev_s116 hE
      refine vx_throwS (A := A) (sa := sa) (text := "no such rule") (names := ups) hx hb hlt hown (by decide +kernel) (by decide +kernel) (hts (.classLink RX1 114 "java/lang/IndexOutOfBoundsException") kX1_checkPlace_0) (hts (.initialized "java/lang/IndexOutOfBoundsException") kX1_checkPlace_1) hsa (ev_at_iob (fun w hw => hts w (kX1_checkPlace_2 w hw)) hE) ev_ot_iob hZ.1 hZ.2 hS (by rw [hml]; exact hl.1) dX1_checkPlace_11 dX1_checkPlace_14 dX1_checkPlace_15 dX1_checkPlace_17 dX1_checkPlace_20 (fun x hx => (htb x hx).elim) (Nat.le_of_ble_eq_true rfl) (Nat.le_of_ble_eq_true rfl) (Nat.le_of_ble_eq_true rfl) (Nat.le_of_ble_eq_true rfl) hlocks (fun t9 ht h1 h2 => ⟨(), trivial, ⟨⟨rfl, by simp [okR, okX, okW, okP, okN, okQ, c_1, c_2]⟩, hP9.kept (fun k q hk => h2 q.1 (hP9 k q hk).lt), va_K.moved ht hK9, hD9⟩, ⟨Nat.le_trans hS.1 h1, fun q hq hn => (h2 q (Nat.lt_of_lt_of_le hq hS.1)).trans (hS.2.1 q hq hn)⟩⟩) hS.2.2 (Nat.le_of_ble_eq_true rfl) (Nat.le_of_ble_eq_true rfl)

set_option maxRecDepth 20000 in
theorem kX1_checkPart_0 : (.classLink RX1 114 "java/lang/IndexOutOfBoundsException" : Cond) ∈ wsX1_checkPart := by decide +kernel
set_option maxRecDepth 20000 in
theorem kX1_checkPart_1 : (.initialized "java/lang/IndexOutOfBoundsException" : Cond) ∈ wsX1_checkPart := by decide +kernel
set_option maxRecDepth 20000 in
theorem kX1_checkPart_2 : ∀ w ∈ (vx_atS RX1 118 IOB ups).filter goodWord, w ∈ wsX1_checkPart := by decide +kernel
set_option maxHeartbeats 4000000 in
set_option maxRecDepth 100000 in
theorem qX1_checkPart (l : Launch) (hlt : l.stackTraces = false) (dC : Nat → ClassId) (dI : Nat → Nat → Nat) (sz : Nat) (f t : Int32)  : vx_Met l yX1_checkPart wsX1_checkPart ({ frames := 6, cells := 1, slots := 6, locals := 90 }) (va_Pc [.int f, .int t] (fun U => U.heap.size = sz ∧ va_P (dC, dI) vwCl [] U.heap ∧ va_K (dC, dI) vwCl [] U ∧ va_D (fun _ => True) [] ∧ ev U ∧ ez (va_A [] sz) U U.heap)) (va_Qv (fun (u : Unit) => (okW f t)) (fun (u : Unit) (t9 : State) => va_P (dC, dI) vwCl [] t9.heap ∧ va_K (dC, dI) vwCl [] t9 ∧ va_D (va_A [] sz) []) (va_A [] sz)) (vx_X (fun _ : Unit => True) (fun (E : String) (_ : Unit) (t9 : State) => (E = IOB ∧ ¬ okW f t) ∧ va_P (dC, dI) vwCl [] t9.heap ∧ va_K (dC, dI) vwCl [] t9 ∧ va_D (va_A [] sz) []) (va_A [] sz)) 1 6 (va_A [] sz) := by
  refine vx_ofW (cc := cX1_checkPart) (maxL := 2) (ret := none) (by decide) rfl ?_
  intro p e s m args below meth c s₁ B hml htb hv
  obtain ⟨rfl, hsz, hP, hK, hD0, hE, hZ⟩ := hv
  have hx := B.exec
  have hb := B.bytes
  have hr := B.returns
  have hts := atoms_spec (ws := wsX1_checkPart) B.pre
  have hown : s.vm.findClass RX1 = some m.cls := findClass_of_methodNamed B.named
  have hlocks := B.notSynchronized
  subst hsz
  have hD := hD0.self (sz := s.heap.size)
  generalize hAe : va_A [] s.heap.size = A at hD hZ ⊢
  have hA : ∀ q : Nat, s.heap.size ≤ q → A q := fun q h => by rw [← hAe]; exact Or.inr h
  have hS : va_S A s.heap s.heap [] := va_S.rf
  have hP : va_P (dC, dI) vwCl [] s.heap := hP
  have hl := lv_entry ([.int f, .int t]) (n := 2) (Nat.le_of_ble_eq_true rfl)
  rw [lg_entry_eq]
  generalize (lg_sl ([.int f, .int t]) ++ List.replicate (2 - (lg_sl ([.int f, .int t])).length) Slot.unset).toArray = ls at hl ⊢
  have hl : lv_has ls 2 [(0, .int f), (1, .int t)] := hl
  refine lv_iload_n hx hb dX1_checkPart_0 rfl (lv_at hl 0 rfl) ?_
  refine lv_if_lt (tgt := 16) hx hb dX1_checkPart_1 (by decide) (fun c_1 => ?_) (fun c_1 => ?_)
  · have hP9 := hP.sub (ws' := []) [] rfl
    have hD9 := hD.sub (ws' := []) [] (by decide) rfl
    have hK9 := hK.sub (tys' := []) [] rfl
    obtain ⟨sa, hsa⟩ := ev_s119 hE
    refine vx_throwS (A := A) (sa := sa) (text := "no such part") (names := ups) hx hb hlt hown (by decide +kernel) (by decide +kernel) (hts (.classLink RX1 114 "java/lang/IndexOutOfBoundsException") kX1_checkPart_0) (hts (.initialized "java/lang/IndexOutOfBoundsException") kX1_checkPart_1) hsa (ev_at_iob (fun w hw => hts w (kX1_checkPart_2 w hw)) hE) ev_ot_iob hZ.1 hZ.2 hS (by rw [hml]; exact hl.1) dX1_checkPart_16 dX1_checkPart_19 dX1_checkPart_20 dX1_checkPart_22 dX1_checkPart_25 (fun x hx => (htb x hx).elim) (Nat.le_of_ble_eq_true rfl) (Nat.le_of_ble_eq_true rfl) (Nat.le_of_ble_eq_true rfl) (Nat.le_of_ble_eq_true rfl) hlocks (fun t9 ht h1 h2 => ⟨(), trivial, ⟨⟨rfl, by simp [okR, okX, okW, okP, okN, okQ, c_1]⟩, hP9.kept (fun k q hk => h2 q.1 (hP9 k q hk).lt), va_K.moved ht hK9, hD9⟩, ⟨Nat.le_trans hS.1 h1, fun q hq hn => (h2 q (Nat.lt_of_lt_of_le hq hS.1)).trans (hS.2.1 q hq hn)⟩⟩) hS.2.2 (Nat.le_of_ble_eq_true rfl) (Nat.le_of_ble_eq_true rfl)
  · refine lv_iload_n hx hb dX1_checkPart_4 rfl (lv_at hl 1 rfl) ?_
    refine lv_iload_n hx hb dX1_checkPart_5 rfl (lv_at hl 0 rfl) ?_
    refine lv_icmp_lt (tgt := 16) hx hb dX1_checkPart_6 (by decide) (fun c_2 => ?_) (fun c_2 => ?_)
    · have hP9 := hP.sub (ws' := []) [] rfl
      have hD9 := hD.sub (ws' := []) [] (by decide) rfl
      have hK9 := hK.sub (tys' := []) [] rfl
      obtain ⟨sa, hsa⟩ := ev_s119 hE
      refine vx_throwS (A := A) (sa := sa) (text := "no such part") (names := ups) hx hb hlt hown (by decide +kernel) (by decide +kernel) (hts (.classLink RX1 114 "java/lang/IndexOutOfBoundsException") kX1_checkPart_0) (hts (.initialized "java/lang/IndexOutOfBoundsException") kX1_checkPart_1) hsa (ev_at_iob (fun w hw => hts w (kX1_checkPart_2 w hw)) hE) ev_ot_iob hZ.1 hZ.2 hS (by rw [hml]; exact hl.1) dX1_checkPart_16 dX1_checkPart_19 dX1_checkPart_20 dX1_checkPart_22 dX1_checkPart_25 (fun x hx => (htb x hx).elim) (Nat.le_of_ble_eq_true rfl) (Nat.le_of_ble_eq_true rfl) (Nat.le_of_ble_eq_true rfl) (Nat.le_of_ble_eq_true rfl) hlocks (fun t9 ht h1 h2 => ⟨(), trivial, ⟨⟨rfl, by simp [okR, okX, okW, okP, okN, okQ, c_1, c_2]⟩, hP9.kept (fun k q hk => h2 q.1 (hP9 k q hk).lt), va_K.moved ht hK9, hD9⟩, ⟨Nat.le_trans hS.1 h1, fun q hq hn => (h2 q (Nat.lt_of_lt_of_le hq hS.1)).trans (hS.2.1 q hq hn)⟩⟩) hS.2.2 (Nat.le_of_ble_eq_true rfl) (Nat.le_of_ble_eq_true rfl)
    · refine lv_iload_n hx hb dX1_checkPart_9 rfl (lv_at hl 1 rfl) ?_
      refine lv_sipush (v := 256) hx hb dX1_checkPart_10 (by decide) ?_
      refine lv_icmp_le (tgt := 26) hx hb dX1_checkPart_13 (by decide) (fun c_3 => ?_) (fun c_3 => ?_)
      · have hP9 := hP.sub (ws' := []) [] rfl
        have hD9 := hD.sub (ws' := []) [] (by decide) rfl
        have hK9 := hK.sub (tys' := []) [] rfl
        refine vx_ret ?_
        refine W.widen (k := 1) (n := 6) (Nat.le_of_ble_eq_true rfl) (Nat.le_of_ble_eq_true rfl) ?_
        exact W.vret hx hb hr (fun t9 ht hW => ⟨⟨(), rfl, by simp [okR, okX, okW, okP, okN, okQ, c_1, c_2, c_3], by rw [ht]; exact hP9, va_K.moved hW.alike hK9, hD9⟩, hS.F ht⟩) hS.2.2 dX1_checkPart_26
      · have hP9 := hP.sub (ws' := []) [] rfl
        have hD9 := hD.sub (ws' := []) [] (by decide) rfl
        have hK9 := hK.sub (tys' := []) [] rfl
        obtain ⟨sa, hsa⟩ := ev_s119 hE
        refine vx_throwS (A := A) (sa := sa) (text := "no such part") (names := ups) hx hb hlt hown (by decide +kernel) (by decide +kernel) (hts (.classLink RX1 114 "java/lang/IndexOutOfBoundsException") kX1_checkPart_0) (hts (.initialized "java/lang/IndexOutOfBoundsException") kX1_checkPart_1) hsa (ev_at_iob (fun w hw => hts w (kX1_checkPart_2 w hw)) hE) ev_ot_iob hZ.1 hZ.2 hS (by rw [hml]; exact hl.1) dX1_checkPart_16 dX1_checkPart_19 dX1_checkPart_20 dX1_checkPart_22 dX1_checkPart_25 (fun x hx => (htb x hx).elim) (Nat.le_of_ble_eq_true rfl) (Nat.le_of_ble_eq_true rfl) (Nat.le_of_ble_eq_true rfl) (Nat.le_of_ble_eq_true rfl) hlocks (fun t9 ht h1 h2 => ⟨(), trivial, ⟨⟨rfl, by simp [okR, okX, okW, okP, okN, okQ, c_1, c_2, c_3]⟩, hP9.kept (fun k q hk => h2 q.1 (hP9 k q hk).lt), va_K.moved ht hK9, hD9⟩, ⟨Nat.le_trans hS.1 h1, fun q hq hn => (h2 q (Nat.lt_of_lt_of_le hq hS.1)).trans (hS.2.1 q hq hn)⟩⟩) hS.2.2 (Nat.le_of_ble_eq_true rfl) (Nat.le_of_ble_eq_true rfl)
