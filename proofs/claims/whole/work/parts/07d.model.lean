/-! ===== FoldRowModel, the reference: its methods, one contract each ===== -/
set_option maxRecDepth 20000 in
theorem kX2_fixed_0 : ∀ w ∈ wsX20, w ∈ wsX2_fixed := by decide +kernel
set_option maxRecDepth 20000 in
theorem kX2_fixed_1 : (.fieldLink RX2 17 "FoldRowModel" "err" "I" : Cond) ∈ wsX2_fixed := by decide +kernel
set_option maxRecDepth 20000 in
theorem kX2_fixed_2 : (.constantLong RX2 61 (-1000000000000000) : Cond) ∈ wsX2_fixed := by decide +kernel
set_option maxRecDepth 20000 in
theorem kX2_fixed_3 : (.constantLong RX2 67 (1000000000000000) : Cond) ∈ wsX2_fixed := by decide +kernel
set_option maxHeartbeats 4000000 in
set_option maxRecDepth 100000 in
theorem qX2_fixed (l : Launch) (dC : Nat → ClassId) (dI : Nat → Nat → Nat) (sz : Nat) (m0 a b : Nat) (cI cJ : ClassId) (er : Int32) (kf : Nat → Int32) (vf : Nat → Int64) (f t w : Int32)  : Met l yX2_fixed wsX2_fixed ({ frames := 3, cells := 0, slots := 0, locals := 90 }) (va_Pc [.ref m0, .int f, .int t, .int w] (fun U => U.heap.size = sz ∧ va_P (dC, dI) vwCl [(m0, .inr (2, [.int er, .ref a, .ref b])), (a, .inl (cI, 256, .inl kf)), (b, .inl (cJ, 256, .inr (.inl vf)))] U.heap ∧ va_K (dC, dI) vwCl [(cI, .int), (cJ, .long)] U ∧ va_D (fun _ => True) [(m0, .inr (2, [.int er, .ref a, .ref b])), (a, .inl (cI, 256, .inl kf)), (b, .inl (cJ, 256, .inr (.inl vf)))])) (va_Ql (fun (r : Int64) (u : Int32) => (r = if x_c kf vf f t (x_f w) = 0 then x_v kf vf f t (x_f w) else 0) ∧ u = x_c kf vf f t (x_f w)) (fun (u : Int32) (t9 : State) => va_P (dC, dI) vwCl [(m0, .inr (2, [.int u, .ref a, .ref b])), (a, .inl (cI, 256, .inl kf)), (b, .inl (cJ, 256, .inr (.inl vf)))] t9.heap ∧ va_K (dC, dI) vwCl [(cI, .int), (cJ, .long)] t9 ∧ va_D (va_A [(m0, .inr (2, [.int er, .ref a, .ref b])), (a, .inl (cI, 256, .inl kf)), (b, .inl (cJ, 256, .inr (.inl vf)))] sz) [(m0, .inr (2, [.int u, .ref a, .ref b])), (a, .inl (cI, 256, .inl kf)), (b, .inl (cJ, 256, .inr (.inl vf)))]) (va_A [(m0, .inr (2, [.int er, .ref a, .ref b])), (a, .inl (cI, 256, .inl kf)), (b, .inl (cJ, 256, .inr (.inl vf)))] sz)) 0 0 (va_A [(m0, .inr (2, [.int er, .ref a, .ref b])), (a, .inl (cI, 256, .inl kf)), (b, .inl (cJ, 256, .inr (.inl vf)))] sz) := by
  refine Met.ofW (cc := cX2_fixed) (maxL := 9) (ret := (some .long)) (by decide) rfl ?_
  intro p e s m args below meth c s₁ B hml hv
  obtain ⟨rfl, hsz, hP, hK, hD0⟩ := hv
  have hx := B.exec
  have hb := B.bytes
  have hr := B.returns
  have hts := atoms_spec (ws := wsX2_fixed) B.pre
  have hown : s.vm.findClass RX2 = some m.cls := findClass_of_methodNamed B.named
  have hlocks := B.notSynchronized
  subst hsz
  have hD := hD0.self (sz := s.heap.size)
  generalize hAe : va_A [(m0, .inr (2, [.int er, .ref a, .ref b])), (a, .inl (cI, 256, .inl kf)), (b, .inl (cJ, 256, .inr (.inl vf)))] s.heap.size = A at hD ⊢
  have hA : ∀ q : Nat, s.heap.size ≤ q → A q := fun q h => by rw [← hAe]; exact Or.inr h
  have hS : va_S A s.heap s.heap [] := va_S.rf
  have hP : va_P (dC, dI) vwCl [(m0, .inr (2, [.int er, .ref a, .ref b])), (a, .inl (cI, 256, .inl kf)), (b, .inl (cJ, 256, .inr (.inl vf)))] s.heap := hP
  have hl := lv_entry ([.ref m0, .int f, .int t, .int w]) (n := 9) (Nat.le_of_ble_eq_true rfl)
  rw [lg_entry_eq]
  generalize (lg_sl ([.ref m0, .int f, .int t, .int w]) ++ List.replicate (9 - (lg_sl ([.ref m0, .int f, .int t, .int w])).length) Slot.unset).toArray = ls at hl ⊢
  have hl : lv_has ls 9 [(0, .ref m0), (1, .int f), (2, .int t), (3, .int w)] := hl
  refine lv_aload_n hx hb dX2_fixed_0 rfl (lv_at hl 0 rfl) ?_
  refine lv_iconst (v := 0) hx hb dX2_fixed_1 (by decide) ?_
  refine va_put (D := (dC, dI)) (ci := 2) (v := .int 0) (ty := .int) (C := RX2) (T := TX2) (N := 3) hx hb hts kX2_fixed_0 tyX2 tyX2_ok nmX2 hown hK hP hD hS 0 rfl rfl 0 (by decide) (hts (.fieldLink RX2 17 "FoldRowModel" "err" "I") kX2_fixed_1) (fun _ h9 => h9) rfl (by decide +kernel) rfl rfl (Nat.le_of_ble_eq_true rfl) dX2_fixed_2 (fun H locs hP hD hS => ?_)
  have hP : va_P (dC, dI) vwCl [(m0, .inr (2, [.int 0, .ref a, .ref b])), (a, .inl (cI, 256, .inl kf)), (b, .inl (cJ, 256, .inr (.inl vf)))] H := hP
  have hD : va_D A [(m0, .inr (2, [.int 0, .ref a, .ref b])), (a, .inl (cI, 256, .inl kf)), (b, .inl (cJ, 256, .inr (.inl vf)))] := hD
  refine lv_aload_n hx hb dX2_fixed_5 rfl (lv_at hl 0 rfl) ?_
  refine lv_iload_n hx hb dX2_fixed_6 rfl (lv_at hl 1 rfl) ?_
  refine lv_iload_n hx hb dX2_fixed_7 rfl (lv_at hl 2 rfl) ?_
  have hPc := hP.sub (ws' := []) [] rfl
  have hDc := hD.sub (ws' := []) [] (by decide) rfl
  have hKc := hK.sub (tys' := []) [] rfl
  have hFc := va_free (wc := []) hD hS hA [] rfl
  refine va_calli (va_runS (As := [.int f, .int t]) (rest := [.ref m0]) ⟨hx, hb, hml, hown, hts⟩ (qX2_isPart l dC dI H.size f t) (va_cwS 2 hts gX2_fixed_X2_isPart rfl rfl rfl (by decide +kernel) ⟨Nat.le_of_ble_eq_true rfl, Nat.le_of_ble_eq_true rfl⟩) ⟨fun a U g mk q => by obtain ⟨q0, q1, qP, qK, qD⟩ := q; exact ⟨q0, q1, qP, va_K.moved (u := U) (U := U.calling g mk a) (Vm.Alike.refl U.vm) qK, qD⟩, fun U hU hW => ⟨rfl, by rw [hU], by rw [hU]; exact hPc, va_K.moved hW.alike hKc, hDc.weaken (fun _ _ _ _ => trivial)⟩⟩ rfl rfl hl.1 rfl (lv_room (Nat.le_of_ble_eq_true rfl)) dX2_fixed_8 ⟨Nat.le_of_ble_eq_true rfl, Nat.le_of_ble_eq_true rfl⟩) hS (fun q _ h => hFc q h) hFc (fun r_1 u t9 H1 locs ht hvm hw hB hz1 hk1 hS => ?_)
  obtain ⟨hP1, hK1, hD1⟩ := hB
  rw [ht] at hP1
  have h_2 := hw
  have hK1 := va_K.moved hvm.symm hK1
  obtain ⟨hP, hD⟩ := va_join (wr := [(m0, .inr (2, [.int 0, .ref a, .ref b])), (a, .inl (cI, 256, .inl kf)), (b, .inl (cJ, 256, .inr (.inl vf)))]) (w1 := []) hP hD [] [0, 1, 2] rfl rfl (by decide) (by decide) hk1 hFc hP1 hD1
  have hK := (hK.sub (tys' := [(cI, .int), (cJ, .long)]) [0, 1] rfl).app hK1
  generalize H1 = H at hP hS ⊢
  have hP : va_P (dC, dI) vwCl [(m0, .inr (2, [.int 0, .ref a, .ref b])), (a, .inl (cI, 256, .inl kf)), (b, .inl (cJ, 256, .inr (.inl vf)))] H := hP
  have hD : va_D A [(m0, .inr (2, [.int 0, .ref a, .ref b])), (a, .inl (cI, 256, .inl kf)), (b, .inl (cJ, 256, .inr (.inl vf)))] := hD
  have hK : va_K (dC, dI) vwCl [(cI, .int), (cJ, .long)] s := hK
  refine W.widen (k := 0) (n := 0) (Nat.le_of_ble_eq_true rfl) (Nat.le_of_ble_eq_true rfl) ?_
  refine lv_if_ne (tgt := 18) hx hb dX2_fixed_11 (by decide) (fun c_3 => ?_) (fun c_3 => ?_)
  · rw [h_2, b01] at c_3
    have c_3 := Classical.not_not.mp c_3
    refine lv_iconst (v := 0) hx hb dX2_fixed_18 (by decide) ?_
    refine lv_iconst (v := 1) hx hb dX2_fixed_19 (by decide) ?_
    have hPc := hP.sub (ws' := [(m0, .inr (2, [.int 0, .ref a, .ref b]))]) [0] rfl
    have hDc := hD.sub (ws' := [(m0, .inr (2, [.int 0, .ref a, .ref b]))]) [0] (by decide) rfl
    have hKc := hK.sub (tys' := []) [] rfl
    have hFc := va_free (wc := [(m0, .inr (2, [.int 0, .ref a, .ref b]))]) hD hS hA [0] rfl
    refine va_calli (va_runV (As := [.int 0, .int 1]) (rest := []) ⟨hx, hb, hml, hown, hts⟩ (qX2_fails l dC dI H.size m0 a b (0) (0) (1)) (cwV 2 hts gX2_fixed_X2_fails rfl rfl rfl (by decide +kernel) ⟨Nat.le_of_ble_eq_true rfl, Nat.le_of_ble_eq_true rfl⟩) ⟨fun a U g mk q => by obtain ⟨q0, q1, qP, qK, qD⟩ := q; exact ⟨q0, q1, qP, va_K.moved (u := U) (U := U.calling g mk a) (Vm.Alike.refl U.vm) qK, qD⟩, va_recv hKc hPc (ci := 2) (q0 := 0) rfl rfl, fun U hU hW => ⟨rfl, by rw [hU], by rw [hU]; exact hPc, va_K.moved hW.alike hKc, hDc.weaken (fun _ _ _ _ => trivial)⟩⟩ rfl rfl hl.1 rfl (lv_room (Nat.le_of_ble_eq_true rfl)) dX2_fixed_20 ⟨Nat.le_of_ble_eq_true rfl, Nat.le_of_ble_eq_true rfl⟩) hS (fun q _ h => hFc q h) hFc (fun r_4 u t9 H1 locs ht hvm hw hB hz1 hk1 hS => ?_)
    obtain ⟨hP1, hK1, hD1⟩ := hB
    rw [ht] at hP1
    obtain ⟨h_5, rfl⟩ := hw
    have hK1 := va_K.moved hvm.symm hK1
    obtain ⟨hP, hD⟩ := va_join (wr := [(a, .inl (cI, 256, .inl kf)), (b, .inl (cJ, 256, .inr (.inl vf)))]) (w1 := [(m0, .inr (2, [.int (m_f 0 0 1), .ref a, .ref b]))]) hP hD [0] [1, 2] rfl rfl (by decide) (by decide) hk1 hFc hP1 hD1
    have hK := (hK.sub (tys' := [(cI, .int), (cJ, .long)]) [0, 1] rfl).app hK1
    generalize H1 = H at hP hS ⊢
    have hP : va_P (dC, dI) vwCl [(a, .inl (cI, 256, .inl kf)), (b, .inl (cJ, 256, .inr (.inl vf))), (m0, .inr (2, [.int (m_f 0 0 1), .ref a, .ref b]))] H := hP
    have hD : va_D A [(a, .inl (cI, 256, .inl kf)), (b, .inl (cJ, 256, .inr (.inl vf))), (m0, .inr (2, [.int (m_f 0 0 1), .ref a, .ref b]))] := hD
    have hK : va_K (dC, dI) vwCl [(cI, .int), (cJ, .long)] s := hK
    refine W.widen (k := 0) (n := 0) (Nat.le_of_ble_eq_true rfl) (Nat.le_of_ble_eq_true rfl) ?_
    obtain rfl : r_4 = 0 := h_5.trans (by decide)
    have hP : va_P (dC, dI) vwCl [(a, .inl (cI, 256, .inl kf)), (b, .inl (cJ, 256, .inr (.inl vf))), (m0, .inr (2, [.int 0, .ref a, .ref b]))] H := hP
    have hD : va_D A [(a, .inl (cI, 256, .inl kf)), (b, .inl (cJ, 256, .inr (.inl vf))), (m0, .inr (2, [.int 0, .ref a, .ref b]))] := hD
    refine lv_if_eq (tgt := 28) hx hb dX2_fixed_23 (by decide) (fun c_6 => ?_) (fun c_6 => ?_)
    · refine lv_iload_n hx hb dX2_fixed_28 rfl (lv_at hl 3 rfl) ?_
      refine lv_if_eq (tgt := 38) hx hb dX2_fixed_29 (by decide) (fun c_7 => ?_) (fun c_7 => ?_)
      · refine lv_ldc2 hx hb hown (hts (.constantLong RX2 61 (-1000000000000000)) kX2_fixed_2) dX2_fixed_38 ?_
        refine lv_lstore (lv' := [(4, .long (-1000000000000000)), (0, .ref m0), (1, .int f), (2, .int t), (3, .int w)]) hx hb dX2_fixed_41 hl (by decide) rfl (fun ls hl => ?_)
        refine lv_aload_n hx hb dX2_fixed_43 rfl (lv_at hl 1 rfl) ?_
        refine lv_aload_n hx hb dX2_fixed_44 rfl (lv_at hl 1 rfl) ?_
        refine lv_iload_n hx hb dX2_fixed_45 rfl (lv_at hl 2 rfl) ?_
        refine lv_iload_n hx hb dX2_fixed_46 rfl (lv_at hl 3 rfl) ?_
        refine lv_lload hx hb dX2_fixed_47 (lv_at hl 0 rfl) ?_
        have hPc := hP.sub (ws' := [(m0, .inr (2, [.int 0, .ref a, .ref b])), (a, .inl (cI, 256, .inl kf)), (b, .inl (cJ, 256, .inr (.inl vf)))]) [2, 0, 1] rfl
        have hDc := hD.sub (ws' := [(m0, .inr (2, [.int 0, .ref a, .ref b])), (a, .inl (cI, 256, .inl kf)), (b, .inl (cJ, 256, .inr (.inl vf)))]) [2, 0, 1] (by decide) rfl
        have hKc := hK.sub (tys' := [(cI, .int), (cJ, .long)]) [0, 1] rfl
        have hFc := va_free (wc := [(m0, .inr (2, [.int 0, .ref a, .ref b])), (a, .inl (cI, 256, .inl kf)), (b, .inl (cJ, 256, .inr (.inl vf)))]) hD hS hA [2, 0, 1] rfl
        refine va_calll (va_runV (As := [.int f, .int t, .long (-1000000000000000)]) (rest := [.ref m0]) ⟨hx, hb, hml, hown, hts⟩ (qX2_made l dC dI H.size m0 a b cI cJ (0) kf vf f t (-1000000000000000) c_3) (cwV 3 hts gX2_fixed_X2_made rfl rfl rfl (by decide +kernel) ⟨Nat.le_of_ble_eq_true rfl, Nat.le_of_ble_eq_true rfl⟩) ⟨fun a U g mk q => by obtain ⟨q0, q1, qP, qK, qD⟩ := q; exact ⟨q0, q1, qP, va_K.moved (u := U) (U := U.calling g mk a) (Vm.Alike.refl U.vm) qK, qD⟩, va_recv hKc hPc (ci := 2) (q0 := 0) rfl rfl, fun U hU hW => ⟨rfl, by rw [hU], by rw [hU]; exact hPc, va_K.moved hW.alike hKc, hDc.weaken (fun _ _ _ _ => trivial)⟩⟩ rfl rfl hl.1 rfl (lv_room (Nat.le_of_ble_eq_true rfl)) dX2_fixed_49 ⟨Nat.le_of_ble_eq_true rfl, Nat.le_of_ble_eq_true rfl⟩) hS (fun q _ h => hFc q h) hFc (fun r_8 u t9 H1 locs ht hvm hw hB hz1 hk1 hS => ?_)
        obtain ⟨hP1, hK1, hD1⟩ := hB
        rw [ht] at hP1
        have h_9 := hw
        have hK1 := va_K.moved hvm.symm hK1
        obtain ⟨hP, hD⟩ := va_join (wr := []) (w1 := [(m0, .inr (2, [.int 0, .ref a, .ref b])), (a, .inl (cI, 256, .inl kf)), (b, .inl (cJ, 256, .inr (.inl vf)))]) hP hD [2, 0, 1] [] rfl rfl (by decide) (by decide) hk1 hFc hP1 hD1
        have hK := (hK.sub (tys' := []) [] rfl).app hK1
        generalize H1 = H at hP hS ⊢
        have hP : va_P (dC, dI) vwCl [(m0, .inr (2, [.int 0, .ref a, .ref b])), (a, .inl (cI, 256, .inl kf)), (b, .inl (cJ, 256, .inr (.inl vf)))] H := hP
        have hD : va_D A [(m0, .inr (2, [.int 0, .ref a, .ref b])), (a, .inl (cI, 256, .inl kf)), (b, .inl (cJ, 256, .inr (.inl vf)))] := hD
        have hK : va_K (dC, dI) vwCl [(cI, .int), (cJ, .long)] s := hK
        refine W.widen (k := 0) (n := 0) (Nat.le_of_ble_eq_true rfl) (Nat.le_of_ble_eq_true rfl) ?_
        refine lv_lload hx hb dX2_fixed_52 (lv_at hl 0 rfl) ?_
        refine W.lcmp hx hb dX2_fixed_54 ?_
        refine lv_if_ne (tgt := 62) hx hb dX2_fixed_55 (by decide) (fun c_10 => ?_) (fun c_10 => ?_)
        · simp only [lq_ne] at c_10
          refine lv_iconst (v := 0) hx hb dX2_fixed_62 (by decide) ?_
          refine lv_iconst (v := 2) hx hb dX2_fixed_63 (by decide) ?_
          have hPc := hP.sub (ws' := [(m0, .inr (2, [.int 0, .ref a, .ref b]))]) [0] rfl
          have hDc := hD.sub (ws' := [(m0, .inr (2, [.int 0, .ref a, .ref b]))]) [0] (by decide) rfl
          have hKc := hK.sub (tys' := []) [] rfl
          have hFc := va_free (wc := [(m0, .inr (2, [.int 0, .ref a, .ref b]))]) hD hS hA [0] rfl
          refine va_calli (va_runV (As := [.int 0, .int 2]) (rest := []) ⟨hx, hb, hml, hown, hts⟩ (qX2_fails l dC dI H.size m0 a b (0) (0) (2)) (cwV 2 hts gX2_fixed_X2_fails rfl rfl rfl (by decide +kernel) ⟨Nat.le_of_ble_eq_true rfl, Nat.le_of_ble_eq_true rfl⟩) ⟨fun a U g mk q => by obtain ⟨q0, q1, qP, qK, qD⟩ := q; exact ⟨q0, q1, qP, va_K.moved (u := U) (U := U.calling g mk a) (Vm.Alike.refl U.vm) qK, qD⟩, va_recv hKc hPc (ci := 2) (q0 := 0) rfl rfl, fun U hU hW => ⟨rfl, by rw [hU], by rw [hU]; exact hPc, va_K.moved hW.alike hKc, hDc.weaken (fun _ _ _ _ => trivial)⟩⟩ rfl rfl hl.1 rfl (lv_room (Nat.le_of_ble_eq_true rfl)) dX2_fixed_64 ⟨Nat.le_of_ble_eq_true rfl, Nat.le_of_ble_eq_true rfl⟩) hS (fun q _ h => hFc q h) hFc (fun r_11 u t9 H1 locs ht hvm hw hB hz1 hk1 hS => ?_)
          obtain ⟨hP1, hK1, hD1⟩ := hB
          rw [ht] at hP1
          obtain ⟨h_12, rfl⟩ := hw
          have hK1 := va_K.moved hvm.symm hK1
          obtain ⟨hP, hD⟩ := va_join (wr := [(a, .inl (cI, 256, .inl kf)), (b, .inl (cJ, 256, .inr (.inl vf)))]) (w1 := [(m0, .inr (2, [.int (m_f 0 0 2), .ref a, .ref b]))]) hP hD [0] [1, 2] rfl rfl (by decide) (by decide) hk1 hFc hP1 hD1
          have hK := (hK.sub (tys' := [(cI, .int), (cJ, .long)]) [0, 1] rfl).app hK1
          generalize H1 = H at hP hS ⊢
          have hP : va_P (dC, dI) vwCl [(a, .inl (cI, 256, .inl kf)), (b, .inl (cJ, 256, .inr (.inl vf))), (m0, .inr (2, [.int (m_f 0 0 2), .ref a, .ref b]))] H := hP
          have hD : va_D A [(a, .inl (cI, 256, .inl kf)), (b, .inl (cJ, 256, .inr (.inl vf))), (m0, .inr (2, [.int (m_f 0 0 2), .ref a, .ref b]))] := hD
          have hK : va_K (dC, dI) vwCl [(cI, .int), (cJ, .long)] s := hK
          refine W.widen (k := 0) (n := 0) (Nat.le_of_ble_eq_true rfl) (Nat.le_of_ble_eq_true rfl) ?_
          obtain rfl : r_11 = 0 := h_12.trans (by decide)
          have hP : va_P (dC, dI) vwCl [(a, .inl (cI, 256, .inl kf)), (b, .inl (cJ, 256, .inr (.inl vf))), (m0, .inr (2, [.int 0, .ref a, .ref b]))] H := hP
          have hD : va_D A [(a, .inl (cI, 256, .inl kf)), (b, .inl (cJ, 256, .inr (.inl vf))), (m0, .inr (2, [.int 0, .ref a, .ref b]))] := hD
          refine lv_if_eq (tgt := 72) hx hb dX2_fixed_67 (by decide) (fun c_13 => ?_) (fun c_13 => ?_)
          · refine lv_iconst (v := 0) hx hb dX2_fixed_72 (by decide) ?_
            refine lv_istore (lv' := [(6, .int 0), (4, .long (-1000000000000000)), (0, .ref m0), (1, .int f), (2, .int t), (3, .int w)]) hx hb dX2_fixed_73 hl (by decide) rfl (fun ls hl => ?_)
            refine lv_iload hx hb dX2_fixed_75 (lv_at hl 0 rfl) ?_
            refine lv_iconst (v := 2) hx hb dX2_fixed_77 (by decide) ?_
            refine lv_icmp_ge (tgt := 133) hx hb dX2_fixed_78 (by decide) (fun c_14 => ?_) (fun c_14 => ?_)
            · exact absurd c_14 (by decide)
            · refine lv_aload_n hx hb dX2_fixed_81 rfl (lv_at hl 2 rfl) ?_
              refine lv_iload_n hx hb dX2_fixed_82 rfl (lv_at hl 3 rfl) ?_
              refine lv_iload_n hx hb dX2_fixed_83 rfl (lv_at hl 4 rfl) ?_
              refine lv_lload hx hb dX2_fixed_84 (lv_at hl 1 rfl) ?_
              have hPc := hP.sub (ws' := [(m0, .inr (2, [.int 0, .ref a, .ref b])), (a, .inl (cI, 256, .inl kf)), (b, .inl (cJ, 256, .inr (.inl vf)))]) [2, 0, 1] rfl
              have hDc := hD.sub (ws' := [(m0, .inr (2, [.int 0, .ref a, .ref b])), (a, .inl (cI, 256, .inl kf)), (b, .inl (cJ, 256, .inr (.inl vf)))]) [2, 0, 1] (by decide) rfl
              have hKc := hK.sub (tys' := [(cI, .int), (cJ, .long)]) [0, 1] rfl
              have hFc := va_free (wc := [(m0, .inr (2, [.int 0, .ref a, .ref b])), (a, .inl (cI, 256, .inl kf)), (b, .inl (cJ, 256, .inr (.inl vf)))]) hD hS hA [2, 0, 1] rfl
              refine va_calli (va_runV (As := [.int f, .int t, .long (-1000000000000000)]) (rest := []) ⟨hx, hb, hml, hown, hts⟩ (qX2_ends l dC dI H.size m0 a b cI cJ (0) kf vf f t (-1000000000000000) c_3) (cwV 3 hts gX2_fixed_X2_ends rfl rfl rfl (by decide +kernel) ⟨Nat.le_of_ble_eq_true rfl, Nat.le_of_ble_eq_true rfl⟩) ⟨fun a U g mk q => by obtain ⟨q0, q1, qP, qK, qD⟩ := q; exact ⟨q0, q1, qP, va_K.moved (u := U) (U := U.calling g mk a) (Vm.Alike.refl U.vm) qK, qD⟩, va_recv hKc hPc (ci := 2) (q0 := 0) rfl rfl, fun U hU hW => ⟨rfl, by rw [hU], by rw [hU]; exact hPc, va_K.moved hW.alike hKc, hDc.weaken (fun _ _ _ _ => trivial)⟩⟩ rfl rfl hl.1 rfl (lv_room (Nat.le_of_ble_eq_true rfl)) dX2_fixed_86 ⟨Nat.le_of_ble_eq_true rfl, Nat.le_of_ble_eq_true rfl⟩) hS (fun q _ h => hFc q h) hFc (fun r_15 u t9 H1 locs ht hvm hw hB hz1 hk1 hS => ?_)
              obtain ⟨hP1, hK1, hD1⟩ := hB
              rw [ht] at hP1
              have h_16 := hw
              have hK1 := va_K.moved hvm.symm hK1
              obtain ⟨hP, hD⟩ := va_join (wr := []) (w1 := [(m0, .inr (2, [.int 0, .ref a, .ref b])), (a, .inl (cI, 256, .inl kf)), (b, .inl (cJ, 256, .inr (.inl vf)))]) hP hD [2, 0, 1] [] rfl rfl (by decide) (by decide) hk1 hFc hP1 hD1
              have hK := (hK.sub (tys' := []) [] rfl).app hK1
              generalize H1 = H at hP hS ⊢
              have hP : va_P (dC, dI) vwCl [(m0, .inr (2, [.int 0, .ref a, .ref b])), (a, .inl (cI, 256, .inl kf)), (b, .inl (cJ, 256, .inr (.inl vf)))] H := hP
              have hD : va_D A [(m0, .inr (2, [.int 0, .ref a, .ref b])), (a, .inl (cI, 256, .inl kf)), (b, .inl (cJ, 256, .inr (.inl vf)))] := hD
              have hK : va_K (dC, dI) vwCl [(cI, .int), (cJ, .long)] s := hK
              refine W.widen (k := 0) (n := 0) (Nat.le_of_ble_eq_true rfl) (Nat.le_of_ble_eq_true rfl) ?_
              refine lv_if_ne (tgt := 95) hx hb dX2_fixed_89 (by decide) (fun c_17 => ?_) (fun c_17 => ?_)
              · rw [h_16, b01] at c_17
                have c_17 := Classical.not_not.mp c_17
                refine lv_aload_n hx hb dX2_fixed_95 rfl (lv_at hl 2 rfl) ?_
                refine lv_iload_n hx hb dX2_fixed_96 rfl (lv_at hl 3 rfl) ?_
                refine lv_iload_n hx hb dX2_fixed_97 rfl (lv_at hl 4 rfl) ?_
                refine lv_lload hx hb dX2_fixed_98 (lv_at hl 1 rfl) ?_
                have hPc := hP.sub (ws' := [(m0, .inr (2, [.int 0, .ref a, .ref b])), (a, .inl (cI, 256, .inl kf)), (b, .inl (cJ, 256, .inr (.inl vf)))]) [0, 1, 2] rfl
                have hDc := hD.sub (ws' := [(m0, .inr (2, [.int 0, .ref a, .ref b])), (a, .inl (cI, 256, .inl kf)), (b, .inl (cJ, 256, .inr (.inl vf)))]) [0, 1, 2] (by decide) rfl
                have hKc := hK.sub (tys' := [(cI, .int), (cJ, .long)]) [0, 1] rfl
                have hFc := va_free (wc := [(m0, .inr (2, [.int 0, .ref a, .ref b])), (a, .inl (cI, 256, .inl kf)), (b, .inl (cJ, 256, .inr (.inl vf)))]) hD hS hA [0, 1, 2] rfl
                refine va_calll (va_runV (As := [.int f, .int t, .long (-1000000000000000)]) (rest := []) ⟨hx, hb, hml, hown, hts⟩ (qX2_made l dC dI H.size m0 a b cI cJ (0) kf vf f t (-1000000000000000) c_3) (cwV 3 hts gX2_fixed_X2_made rfl rfl rfl (by decide +kernel) ⟨Nat.le_of_ble_eq_true rfl, Nat.le_of_ble_eq_true rfl⟩) ⟨fun a U g mk q => by obtain ⟨q0, q1, qP, qK, qD⟩ := q; exact ⟨q0, q1, qP, va_K.moved (u := U) (U := U.calling g mk a) (Vm.Alike.refl U.vm) qK, qD⟩, va_recv hKc hPc (ci := 2) (q0 := 0) rfl rfl, fun U hU hW => ⟨rfl, by rw [hU], by rw [hU]; exact hPc, va_K.moved hW.alike hKc, hDc.weaken (fun _ _ _ _ => trivial)⟩⟩ rfl rfl hl.1 rfl (lv_room (Nat.le_of_ble_eq_true rfl)) dX2_fixed_100 ⟨Nat.le_of_ble_eq_true rfl, Nat.le_of_ble_eq_true rfl⟩) hS (fun q _ h => hFc q h) hFc (fun r_18 u t9 H1 locs ht hvm hw hB hz1 hk1 hS => ?_)
                obtain ⟨hP1, hK1, hD1⟩ := hB
                rw [ht] at hP1
                have h_19 := hw
                have hK1 := va_K.moved hvm.symm hK1
                obtain ⟨hP, hD⟩ := va_join (wr := []) (w1 := [(m0, .inr (2, [.int 0, .ref a, .ref b])), (a, .inl (cI, 256, .inl kf)), (b, .inl (cJ, 256, .inr (.inl vf)))]) hP hD [0, 1, 2] [] rfl rfl (by decide) (by decide) hk1 hFc hP1 hD1
                have hK := (hK.sub (tys' := []) [] rfl).app hK1
                generalize H1 = H at hP hS ⊢
                have hP : va_P (dC, dI) vwCl [(m0, .inr (2, [.int 0, .ref a, .ref b])), (a, .inl (cI, 256, .inl kf)), (b, .inl (cJ, 256, .inr (.inl vf)))] H := hP
                have hD : va_D A [(m0, .inr (2, [.int 0, .ref a, .ref b])), (a, .inl (cI, 256, .inl kf)), (b, .inl (cJ, 256, .inr (.inl vf)))] := hD
                have hK : va_K (dC, dI) vwCl [(cI, .int), (cJ, .long)] s := hK
                refine W.widen (k := 0) (n := 0) (Nat.le_of_ble_eq_true rfl) (Nat.le_of_ble_eq_true rfl) ?_
                refine lv_lstore (lv' := [(7, .long r_18), (6, .int 0), (4, .long (-1000000000000000)), (0, .ref m0), (1, .int f), (2, .int t), (3, .int w)]) hx hb dX2_fixed_103 hl (by decide) rfl (fun ls hl => ?_)
                refine lv_aload_n hx hb dX2_fixed_105 rfl (lv_at hl 3 rfl) ?_
                refine lv_iload_n hx hb dX2_fixed_106 rfl (lv_at hl 4 rfl) ?_
                refine lv_iload_n hx hb dX2_fixed_107 rfl (lv_at hl 5 rfl) ?_
                refine lv_lload hx hb dX2_fixed_108 (lv_at hl 0 rfl) ?_
                have hPc := hP.sub (ws' := [(m0, .inr (2, [.int 0, .ref a, .ref b])), (a, .inl (cI, 256, .inl kf)), (b, .inl (cJ, 256, .inr (.inl vf)))]) [0, 1, 2] rfl
                have hDc := hD.sub (ws' := [(m0, .inr (2, [.int 0, .ref a, .ref b])), (a, .inl (cI, 256, .inl kf)), (b, .inl (cJ, 256, .inr (.inl vf)))]) [0, 1, 2] (by decide) rfl
                have hKc := hK.sub (tys' := [(cI, .int), (cJ, .long)]) [0, 1] rfl
                have hFc := va_free (wc := [(m0, .inr (2, [.int 0, .ref a, .ref b])), (a, .inl (cI, 256, .inl kf)), (b, .inl (cJ, 256, .inr (.inl vf)))]) hD hS hA [0, 1, 2] rfl
                refine va_calll (va_runV (As := [.int f, .int t, .long r_18]) (rest := []) ⟨hx, hb, hml, hown, hts⟩ (qX2_made l dC dI H.size m0 a b cI cJ (0) kf vf f t r_18 c_3) (cwV 3 hts gX2_fixed_X2_made rfl rfl rfl (by decide +kernel) ⟨Nat.le_of_ble_eq_true rfl, Nat.le_of_ble_eq_true rfl⟩) ⟨fun a U g mk q => by obtain ⟨q0, q1, qP, qK, qD⟩ := q; exact ⟨q0, q1, qP, va_K.moved (u := U) (U := U.calling g mk a) (Vm.Alike.refl U.vm) qK, qD⟩, va_recv hKc hPc (ci := 2) (q0 := 0) rfl rfl, fun U hU hW => ⟨rfl, by rw [hU], by rw [hU]; exact hPc, va_K.moved hW.alike hKc, hDc.weaken (fun _ _ _ _ => trivial)⟩⟩ rfl rfl hl.1 rfl (lv_room (Nat.le_of_ble_eq_true rfl)) dX2_fixed_110 ⟨Nat.le_of_ble_eq_true rfl, Nat.le_of_ble_eq_true rfl⟩) hS (fun q _ h => hFc q h) hFc (fun r_20 u t9 H1 locs ht hvm hw hB hz1 hk1 hS => ?_)
                obtain ⟨hP1, hK1, hD1⟩ := hB
                rw [ht] at hP1
                have h_21 := hw
                have hK1 := va_K.moved hvm.symm hK1
                obtain ⟨hP, hD⟩ := va_join (wr := []) (w1 := [(m0, .inr (2, [.int 0, .ref a, .ref b])), (a, .inl (cI, 256, .inl kf)), (b, .inl (cJ, 256, .inr (.inl vf)))]) hP hD [0, 1, 2] [] rfl rfl (by decide) (by decide) hk1 hFc hP1 hD1
                have hK := (hK.sub (tys' := []) [] rfl).app hK1
                generalize H1 = H at hP hS ⊢
                have hP : va_P (dC, dI) vwCl [(m0, .inr (2, [.int 0, .ref a, .ref b])), (a, .inl (cI, 256, .inl kf)), (b, .inl (cJ, 256, .inr (.inl vf)))] H := hP
                have hD : va_D A [(m0, .inr (2, [.int 0, .ref a, .ref b])), (a, .inl (cI, 256, .inl kf)), (b, .inl (cJ, 256, .inr (.inl vf)))] := hD
                have hK : va_K (dC, dI) vwCl [(cI, .int), (cJ, .long)] s := hK
                refine W.widen (k := 0) (n := 0) (Nat.le_of_ble_eq_true rfl) (Nat.le_of_ble_eq_true rfl) ?_
                refine lv_lload hx hb dX2_fixed_113 (lv_at hl 0 rfl) ?_
                refine W.lcmp hx hb dX2_fixed_115 ?_
                refine lv_if_ne (tgt := 122) hx hb dX2_fixed_116 (by decide) (fun c_22 => ?_) (fun c_22 => ?_)
                · simp only [lq_ne] at c_22
                  refine lv_iinc (v := 1) (lv' := [(6, .int 1), (7, .long r_18), (4, .long (-1000000000000000)), (0, .ref m0), (1, .int f), (2, .int t), (3, .int w)]) hx hb dX2_fixed_122 hl (k := 1) rfl (by decide) (by decide) rfl (fun ls hl => ?_)
                  refine lv_lload hx hb dX2_fixed_125 (lv_at hl 2 rfl) ?_
                  refine lv_lneg hx hb dX2_fixed_127 ?_
                  refine lv_topl (fun v_23 ev_23 => ?_)
                  refine lv_lstore (lv' := [(4, .long v_23), (6, .int 1), (7, .long r_18), (0, .ref m0), (1, .int f), (2, .int t), (3, .int w)]) hx hb dX2_fixed_128 hl (by decide) rfl (fun ls hl => ?_)
                  refine lv_goto (tgt := 75) hx hb dX2_fixed_130 (by decide) ?_
                  refine lv_iload hx hb dX2_fixed_75 (lv_at hl 1 rfl) ?_
                  refine lv_iconst (v := 2) hx hb dX2_fixed_77 (by decide) ?_
                  refine lv_icmp_ge (tgt := 133) hx hb dX2_fixed_78 (by decide) (fun c_24 => ?_) (fun c_24 => ?_)
                  · exact absurd c_24 (by decide)
                  · refine lv_aload_n hx hb dX2_fixed_81 rfl (lv_at hl 3 rfl) ?_
                    refine lv_iload_n hx hb dX2_fixed_82 rfl (lv_at hl 4 rfl) ?_
                    refine lv_iload_n hx hb dX2_fixed_83 rfl (lv_at hl 5 rfl) ?_
                    refine lv_lload hx hb dX2_fixed_84 (lv_at hl 0 rfl) ?_
                    have hPc := hP.sub (ws' := [(m0, .inr (2, [.int 0, .ref a, .ref b])), (a, .inl (cI, 256, .inl kf)), (b, .inl (cJ, 256, .inr (.inl vf)))]) [0, 1, 2] rfl
                    have hDc := hD.sub (ws' := [(m0, .inr (2, [.int 0, .ref a, .ref b])), (a, .inl (cI, 256, .inl kf)), (b, .inl (cJ, 256, .inr (.inl vf)))]) [0, 1, 2] (by decide) rfl
                    have hKc := hK.sub (tys' := [(cI, .int), (cJ, .long)]) [0, 1] rfl
                    have hFc := va_free (wc := [(m0, .inr (2, [.int 0, .ref a, .ref b])), (a, .inl (cI, 256, .inl kf)), (b, .inl (cJ, 256, .inr (.inl vf)))]) hD hS hA [0, 1, 2] rfl
                    refine va_calli (va_runV (As := [.int f, .int t, .long v_23]) (rest := []) ⟨hx, hb, hml, hown, hts⟩ (qX2_ends l dC dI H.size m0 a b cI cJ (0) kf vf f t v_23 c_3) (cwV 3 hts gX2_fixed_X2_ends rfl rfl rfl (by decide +kernel) ⟨Nat.le_of_ble_eq_true rfl, Nat.le_of_ble_eq_true rfl⟩) ⟨fun a U g mk q => by obtain ⟨q0, q1, qP, qK, qD⟩ := q; exact ⟨q0, q1, qP, va_K.moved (u := U) (U := U.calling g mk a) (Vm.Alike.refl U.vm) qK, qD⟩, va_recv hKc hPc (ci := 2) (q0 := 0) rfl rfl, fun U hU hW => ⟨rfl, by rw [hU], by rw [hU]; exact hPc, va_K.moved hW.alike hKc, hDc.weaken (fun _ _ _ _ => trivial)⟩⟩ rfl rfl hl.1 rfl (lv_room (Nat.le_of_ble_eq_true rfl)) dX2_fixed_86 ⟨Nat.le_of_ble_eq_true rfl, Nat.le_of_ble_eq_true rfl⟩) hS (fun q _ h => hFc q h) hFc (fun r_25 u t9 H1 locs ht hvm hw hB hz1 hk1 hS => ?_)
                    obtain ⟨hP1, hK1, hD1⟩ := hB
                    rw [ht] at hP1
                    have h_26 := hw
                    have hK1 := va_K.moved hvm.symm hK1
                    obtain ⟨hP, hD⟩ := va_join (wr := []) (w1 := [(m0, .inr (2, [.int 0, .ref a, .ref b])), (a, .inl (cI, 256, .inl kf)), (b, .inl (cJ, 256, .inr (.inl vf)))]) hP hD [0, 1, 2] [] rfl rfl (by decide) (by decide) hk1 hFc hP1 hD1
                    have hK := (hK.sub (tys' := []) [] rfl).app hK1
                    generalize H1 = H at hP hS ⊢
                    have hP : va_P (dC, dI) vwCl [(m0, .inr (2, [.int 0, .ref a, .ref b])), (a, .inl (cI, 256, .inl kf)), (b, .inl (cJ, 256, .inr (.inl vf)))] H := hP
                    have hD : va_D A [(m0, .inr (2, [.int 0, .ref a, .ref b])), (a, .inl (cI, 256, .inl kf)), (b, .inl (cJ, 256, .inr (.inl vf)))] := hD
                    have hK : va_K (dC, dI) vwCl [(cI, .int), (cJ, .long)] s := hK
                    refine W.widen (k := 0) (n := 0) (Nat.le_of_ble_eq_true rfl) (Nat.le_of_ble_eq_true rfl) ?_
                    refine lv_if_ne (tgt := 95) hx hb dX2_fixed_89 (by decide) (fun c_27 => ?_) (fun c_27 => ?_)
                    · rw [h_26, b01] at c_27
                      have c_27 := Classical.not_not.mp c_27
                      refine lv_aload_n hx hb dX2_fixed_95 rfl (lv_at hl 3 rfl) ?_
                      refine lv_iload_n hx hb dX2_fixed_96 rfl (lv_at hl 4 rfl) ?_
                      refine lv_iload_n hx hb dX2_fixed_97 rfl (lv_at hl 5 rfl) ?_
                      refine lv_lload hx hb dX2_fixed_98 (lv_at hl 0 rfl) ?_
                      have hPc := hP.sub (ws' := [(m0, .inr (2, [.int 0, .ref a, .ref b])), (a, .inl (cI, 256, .inl kf)), (b, .inl (cJ, 256, .inr (.inl vf)))]) [0, 1, 2] rfl
                      have hDc := hD.sub (ws' := [(m0, .inr (2, [.int 0, .ref a, .ref b])), (a, .inl (cI, 256, .inl kf)), (b, .inl (cJ, 256, .inr (.inl vf)))]) [0, 1, 2] (by decide) rfl
                      have hKc := hK.sub (tys' := [(cI, .int), (cJ, .long)]) [0, 1] rfl
                      have hFc := va_free (wc := [(m0, .inr (2, [.int 0, .ref a, .ref b])), (a, .inl (cI, 256, .inl kf)), (b, .inl (cJ, 256, .inr (.inl vf)))]) hD hS hA [0, 1, 2] rfl
                      refine va_calll (va_runV (As := [.int f, .int t, .long v_23]) (rest := []) ⟨hx, hb, hml, hown, hts⟩ (qX2_made l dC dI H.size m0 a b cI cJ (0) kf vf f t v_23 c_3) (cwV 3 hts gX2_fixed_X2_made rfl rfl rfl (by decide +kernel) ⟨Nat.le_of_ble_eq_true rfl, Nat.le_of_ble_eq_true rfl⟩) ⟨fun a U g mk q => by obtain ⟨q0, q1, qP, qK, qD⟩ := q; exact ⟨q0, q1, qP, va_K.moved (u := U) (U := U.calling g mk a) (Vm.Alike.refl U.vm) qK, qD⟩, va_recv hKc hPc (ci := 2) (q0 := 0) rfl rfl, fun U hU hW => ⟨rfl, by rw [hU], by rw [hU]; exact hPc, va_K.moved hW.alike hKc, hDc.weaken (fun _ _ _ _ => trivial)⟩⟩ rfl rfl hl.1 rfl (lv_room (Nat.le_of_ble_eq_true rfl)) dX2_fixed_100 ⟨Nat.le_of_ble_eq_true rfl, Nat.le_of_ble_eq_true rfl⟩) hS (fun q _ h => hFc q h) hFc (fun r_28 u t9 H1 locs ht hvm hw hB hz1 hk1 hS => ?_)
                      obtain ⟨hP1, hK1, hD1⟩ := hB
                      rw [ht] at hP1
                      have h_29 := hw
                      have hK1 := va_K.moved hvm.symm hK1
                      obtain ⟨hP, hD⟩ := va_join (wr := []) (w1 := [(m0, .inr (2, [.int 0, .ref a, .ref b])), (a, .inl (cI, 256, .inl kf)), (b, .inl (cJ, 256, .inr (.inl vf)))]) hP hD [0, 1, 2] [] rfl rfl (by decide) (by decide) hk1 hFc hP1 hD1
                      have hK := (hK.sub (tys' := []) [] rfl).app hK1
                      generalize H1 = H at hP hS ⊢
                      have hP : va_P (dC, dI) vwCl [(m0, .inr (2, [.int 0, .ref a, .ref b])), (a, .inl (cI, 256, .inl kf)), (b, .inl (cJ, 256, .inr (.inl vf)))] H := hP
                      have hD : va_D A [(m0, .inr (2, [.int 0, .ref a, .ref b])), (a, .inl (cI, 256, .inl kf)), (b, .inl (cJ, 256, .inr (.inl vf)))] := hD
                      have hK : va_K (dC, dI) vwCl [(cI, .int), (cJ, .long)] s := hK
                      refine W.widen (k := 0) (n := 0) (Nat.le_of_ble_eq_true rfl) (Nat.le_of_ble_eq_true rfl) ?_
                      refine lv_lstore (lv' := [(7, .long r_28), (4, .long v_23), (6, .int 1), (0, .ref m0), (1, .int f), (2, .int t), (3, .int w)]) hx hb dX2_fixed_103 hl (by decide) rfl (fun ls hl => ?_)
                      refine lv_aload_n hx hb dX2_fixed_105 rfl (lv_at hl 3 rfl) ?_
                      refine lv_iload_n hx hb dX2_fixed_106 rfl (lv_at hl 4 rfl) ?_
                      refine lv_iload_n hx hb dX2_fixed_107 rfl (lv_at hl 5 rfl) ?_
                      refine lv_lload hx hb dX2_fixed_108 (lv_at hl 0 rfl) ?_
                      have hPc := hP.sub (ws' := [(m0, .inr (2, [.int 0, .ref a, .ref b])), (a, .inl (cI, 256, .inl kf)), (b, .inl (cJ, 256, .inr (.inl vf)))]) [0, 1, 2] rfl
                      have hDc := hD.sub (ws' := [(m0, .inr (2, [.int 0, .ref a, .ref b])), (a, .inl (cI, 256, .inl kf)), (b, .inl (cJ, 256, .inr (.inl vf)))]) [0, 1, 2] (by decide) rfl
                      have hKc := hK.sub (tys' := [(cI, .int), (cJ, .long)]) [0, 1] rfl
                      have hFc := va_free (wc := [(m0, .inr (2, [.int 0, .ref a, .ref b])), (a, .inl (cI, 256, .inl kf)), (b, .inl (cJ, 256, .inr (.inl vf)))]) hD hS hA [0, 1, 2] rfl
                      refine va_calll (va_runV (As := [.int f, .int t, .long r_28]) (rest := []) ⟨hx, hb, hml, hown, hts⟩ (qX2_made l dC dI H.size m0 a b cI cJ (0) kf vf f t r_28 c_3) (cwV 3 hts gX2_fixed_X2_made rfl rfl rfl (by decide +kernel) ⟨Nat.le_of_ble_eq_true rfl, Nat.le_of_ble_eq_true rfl⟩) ⟨fun a U g mk q => by obtain ⟨q0, q1, qP, qK, qD⟩ := q; exact ⟨q0, q1, qP, va_K.moved (u := U) (U := U.calling g mk a) (Vm.Alike.refl U.vm) qK, qD⟩, va_recv hKc hPc (ci := 2) (q0 := 0) rfl rfl, fun U hU hW => ⟨rfl, by rw [hU], by rw [hU]; exact hPc, va_K.moved hW.alike hKc, hDc.weaken (fun _ _ _ _ => trivial)⟩⟩ rfl rfl hl.1 rfl (lv_room (Nat.le_of_ble_eq_true rfl)) dX2_fixed_110 ⟨Nat.le_of_ble_eq_true rfl, Nat.le_of_ble_eq_true rfl⟩) hS (fun q _ h => hFc q h) hFc (fun r_30 u t9 H1 locs ht hvm hw hB hz1 hk1 hS => ?_)
                      obtain ⟨hP1, hK1, hD1⟩ := hB
                      rw [ht] at hP1
                      have h_31 := hw
                      have hK1 := va_K.moved hvm.symm hK1
                      obtain ⟨hP, hD⟩ := va_join (wr := []) (w1 := [(m0, .inr (2, [.int 0, .ref a, .ref b])), (a, .inl (cI, 256, .inl kf)), (b, .inl (cJ, 256, .inr (.inl vf)))]) hP hD [0, 1, 2] [] rfl rfl (by decide) (by decide) hk1 hFc hP1 hD1
                      have hK := (hK.sub (tys' := []) [] rfl).app hK1
                      generalize H1 = H at hP hS ⊢
                      have hP : va_P (dC, dI) vwCl [(m0, .inr (2, [.int 0, .ref a, .ref b])), (a, .inl (cI, 256, .inl kf)), (b, .inl (cJ, 256, .inr (.inl vf)))] H := hP
                      have hD : va_D A [(m0, .inr (2, [.int 0, .ref a, .ref b])), (a, .inl (cI, 256, .inl kf)), (b, .inl (cJ, 256, .inr (.inl vf)))] := hD
                      have hK : va_K (dC, dI) vwCl [(cI, .int), (cJ, .long)] s := hK
                      refine W.widen (k := 0) (n := 0) (Nat.le_of_ble_eq_true rfl) (Nat.le_of_ble_eq_true rfl) ?_
                      refine lv_lload hx hb dX2_fixed_113 (lv_at hl 0 rfl) ?_
                      refine W.lcmp hx hb dX2_fixed_115 ?_
                      refine lv_if_ne (tgt := 122) hx hb dX2_fixed_116 (by decide) (fun c_32 => ?_) (fun c_32 => ?_)
                      · simp only [lq_ne] at c_32
                        refine lv_iinc (v := 2) (lv' := [(6, .int 2), (7, .long r_28), (4, .long v_23), (0, .ref m0), (1, .int f), (2, .int t), (3, .int w)]) hx hb dX2_fixed_122 hl (k := 2) rfl (by decide) (by decide) rfl (fun ls hl => ?_)
                        refine lv_lload hx hb dX2_fixed_125 (lv_at hl 2 rfl) ?_
                        refine lv_lneg hx hb dX2_fixed_127 ?_
                        refine lv_topl (fun v_33 ev_33 => ?_)
                        refine lv_lstore (lv' := [(4, .long v_33), (6, .int 2), (7, .long r_28), (0, .ref m0), (1, .int f), (2, .int t), (3, .int w)]) hx hb dX2_fixed_128 hl (by decide) rfl (fun ls hl => ?_)
                        refine lv_goto (tgt := 75) hx hb dX2_fixed_130 (by decide) ?_
                        refine lv_iload hx hb dX2_fixed_75 (lv_at hl 1 rfl) ?_
                        refine lv_iconst (v := 2) hx hb dX2_fixed_77 (by decide) ?_
                        refine lv_icmp_ge (tgt := 133) hx hb dX2_fixed_78 (by decide) (fun c_34 => ?_) (fun c_34 => ?_)
                        · refine lv_aload_n hx hb dX2_fixed_133 rfl (lv_at hl 3 rfl) ?_
                          refine lv_iconst (v := 1) hx hb dX2_fixed_134 (by decide) ?_
                          refine lv_iconst (v := 2) hx hb dX2_fixed_135 (by decide) ?_
                          have hPc := hP.sub (ws' := [(m0, .inr (2, [.int 0, .ref a, .ref b]))]) [0] rfl
                          have hDc := hD.sub (ws' := [(m0, .inr (2, [.int 0, .ref a, .ref b]))]) [0] (by decide) rfl
                          have hKc := hK.sub (tys' := []) [] rfl
                          have hFc := va_free (wc := [(m0, .inr (2, [.int 0, .ref a, .ref b]))]) hD hS hA [0] rfl
                          refine va_calli (va_runV (As := [.int 1, .int 2]) (rest := []) ⟨hx, hb, hml, hown, hts⟩ (qX2_fails l dC dI H.size m0 a b (0) (1) (2)) (cwV 2 hts gX2_fixed_X2_fails rfl rfl rfl (by decide +kernel) ⟨Nat.le_of_ble_eq_true rfl, Nat.le_of_ble_eq_true rfl⟩) ⟨fun a U g mk q => by obtain ⟨q0, q1, qP, qK, qD⟩ := q; exact ⟨q0, q1, qP, va_K.moved (u := U) (U := U.calling g mk a) (Vm.Alike.refl U.vm) qK, qD⟩, va_recv hKc hPc (ci := 2) (q0 := 0) rfl rfl, fun U hU hW => ⟨rfl, by rw [hU], by rw [hU]; exact hPc, va_K.moved hW.alike hKc, hDc.weaken (fun _ _ _ _ => trivial)⟩⟩ rfl rfl hl.1 rfl (lv_room (Nat.le_of_ble_eq_true rfl)) dX2_fixed_136 ⟨Nat.le_of_ble_eq_true rfl, Nat.le_of_ble_eq_true rfl⟩) hS (fun q _ h => hFc q h) hFc (fun r_35 u t9 H1 locs ht hvm hw hB hz1 hk1 hS => ?_)
                          obtain ⟨hP1, hK1, hD1⟩ := hB
                          rw [ht] at hP1
                          obtain ⟨h_36, rfl⟩ := hw
                          have hK1 := va_K.moved hvm.symm hK1
                          obtain ⟨hP, hD⟩ := va_join (wr := [(a, .inl (cI, 256, .inl kf)), (b, .inl (cJ, 256, .inr (.inl vf)))]) (w1 := [(m0, .inr (2, [.int (m_f 1 0 2), .ref a, .ref b]))]) hP hD [0] [1, 2] rfl rfl (by decide) (by decide) hk1 hFc hP1 hD1
                          have hK := (hK.sub (tys' := [(cI, .int), (cJ, .long)]) [0, 1] rfl).app hK1
                          generalize H1 = H at hP hS ⊢
                          have hP : va_P (dC, dI) vwCl [(a, .inl (cI, 256, .inl kf)), (b, .inl (cJ, 256, .inr (.inl vf))), (m0, .inr (2, [.int (m_f 1 0 2), .ref a, .ref b]))] H := hP
                          have hD : va_D A [(a, .inl (cI, 256, .inl kf)), (b, .inl (cJ, 256, .inr (.inl vf))), (m0, .inr (2, [.int (m_f 1 0 2), .ref a, .ref b]))] := hD
                          have hK : va_K (dC, dI) vwCl [(cI, .int), (cJ, .long)] s := hK
                          refine W.widen (k := 0) (n := 0) (Nat.le_of_ble_eq_true rfl) (Nat.le_of_ble_eq_true rfl) ?_
                          obtain rfl : r_35 = 1 := h_36.trans (by decide)
                          have hP : va_P (dC, dI) vwCl [(a, .inl (cI, 256, .inl kf)), (b, .inl (cJ, 256, .inr (.inl vf))), (m0, .inr (2, [.int 2, .ref a, .ref b]))] H := hP
                          have hD : va_D A [(a, .inl (cI, 256, .inl kf)), (b, .inl (cJ, 256, .inr (.inl vf))), (m0, .inr (2, [.int 2, .ref a, .ref b]))] := hD
                          refine lv_pop hx hb dX2_fixed_139 rfl ?_
                          refine lv_lconst (v := 0) hx hb dX2_fixed_140 (by decide) ?_
                          have hP9 := hP.sub (ws' := [(m0, .inr (2, [.int 2, .ref a, .ref b])), (a, .inl (cI, 256, .inl kf)), (b, .inl (cJ, 256, .inr (.inl vf)))]) [2, 0, 1] rfl
                          have hD9 := hD.sub (ws' := [(m0, .inr (2, [.int 2, .ref a, .ref b])), (a, .inl (cI, 256, .inl kf)), (b, .inl (cJ, 256, .inr (.inl vf)))]) [2, 0, 1] (by decide) rfl
                          have hK9 := hK.sub (tys' := [(cI, .int), (cJ, .long)]) [0, 1] rfl
                          refine W.widen (k := 0) (n := 0) (Nat.le_of_ble_eq_true rfl) (Nat.le_of_ble_eq_true rfl) ?_
                          exact W.lret (v := 0) hx hb hr (fun t9 ht hW => ⟨⟨0, 2, rfl, ⟨by first | (simp [x_c, x_v, x_f, c_3, c_7, h_9, c_10, c_17, h_19, h_21, c_22, ev_23, c_27, h_29, h_31, c_32, ev_33]; done) | (simp [x_c, x_v, x_f, ← ev_23, ← ev_33, c_3, c_7, h_9, c_10, c_17, h_19, h_21, c_22, c_27, h_29, h_31, c_32]; done) | grind [x_c, x_v, x_f], by first | (simp [x_c, x_v, x_f, c_3, c_7, h_9, c_10, c_17, h_19, h_21, c_22, ev_23, c_27, h_29, h_31, c_32, ev_33]; done) | (simp [x_c, x_v, x_f, ← ev_23, ← ev_33, c_3, c_7, h_9, c_10, c_17, h_19, h_21, c_22, c_27, h_29, h_31, c_32]; done) | grind [x_c, x_v, x_f]⟩, by rw [ht]; exact hP9, va_K.moved hW.alike hK9, hD9⟩, hS.F ht⟩) hS.2.2 dX2_fixed_141
                        · exact absurd c_34 (by decide)
                      · simp only [lq_ne] at c_32
                        refine lv_lload hx hb dX2_fixed_119 (lv_at hl 0 rfl) ?_
                        have hP9 := hP.sub (ws' := [(m0, .inr (2, [.int 0, .ref a, .ref b])), (a, .inl (cI, 256, .inl kf)), (b, .inl (cJ, 256, .inr (.inl vf)))]) [0, 1, 2] rfl
                        have hD9 := hD.sub (ws' := [(m0, .inr (2, [.int 0, .ref a, .ref b])), (a, .inl (cI, 256, .inl kf)), (b, .inl (cJ, 256, .inr (.inl vf)))]) [0, 1, 2] (by decide) rfl
                        have hK9 := hK.sub (tys' := [(cI, .int), (cJ, .long)]) [0, 1] rfl
                        refine W.widen (k := 0) (n := 0) (Nat.le_of_ble_eq_true rfl) (Nat.le_of_ble_eq_true rfl) ?_
                        exact W.lret (v := r_28) hx hb hr (fun t9 ht hW => ⟨⟨r_28, 0, rfl, ⟨by first | (simp [x_c, x_v, x_f, c_3, c_7, h_9, c_10, c_17, h_19, h_21, c_22, ev_23, c_27, h_29, h_31, c_32]; done) | (simp [x_c, x_v, x_f, ← ev_23, c_3, c_7, h_9, c_10, c_17, h_19, h_21, c_22, c_27, h_29, h_31, c_32]; done) | grind [x_c, x_v, x_f], by first | (simp [x_c, x_v, x_f, c_3, c_7, h_9, c_10, c_17, h_19, h_21, c_22, ev_23, c_27, h_29, h_31, c_32]; done) | (simp [x_c, x_v, x_f, ← ev_23, c_3, c_7, h_9, c_10, c_17, h_19, h_21, c_22, c_27, h_29, h_31, c_32]; done) | grind [x_c, x_v, x_f]⟩, by rw [ht]; exact hP9, va_K.moved hW.alike hK9, hD9⟩, hS.F ht⟩) hS.2.2 dX2_fixed_121
                    · rw [h_26, b01] at c_27
                      refine lv_goto (tgt := 122) hx hb dX2_fixed_92 (by decide) ?_
                      refine lv_iinc (v := 2) (lv' := [(6, .int 2), (4, .long v_23), (7, .long r_18), (0, .ref m0), (1, .int f), (2, .int t), (3, .int w)]) hx hb dX2_fixed_122 hl (k := 1) rfl (by decide) (by decide) rfl (fun ls hl => ?_)
                      refine lv_lload hx hb dX2_fixed_125 (lv_at hl 1 rfl) ?_
                      refine lv_lneg hx hb dX2_fixed_127 ?_
                      refine lv_topl (fun v_37 ev_37 => ?_)
                      refine lv_lstore (lv' := [(4, .long v_37), (6, .int 2), (7, .long r_18), (0, .ref m0), (1, .int f), (2, .int t), (3, .int w)]) hx hb dX2_fixed_128 hl (by decide) rfl (fun ls hl => ?_)
                      refine lv_goto (tgt := 75) hx hb dX2_fixed_130 (by decide) ?_
                      refine lv_iload hx hb dX2_fixed_75 (lv_at hl 1 rfl) ?_
                      refine lv_iconst (v := 2) hx hb dX2_fixed_77 (by decide) ?_
                      refine lv_icmp_ge (tgt := 133) hx hb dX2_fixed_78 (by decide) (fun c_38 => ?_) (fun c_38 => ?_)
                      · refine lv_aload_n hx hb dX2_fixed_133 rfl (lv_at hl 3 rfl) ?_
                        refine lv_iconst (v := 1) hx hb dX2_fixed_134 (by decide) ?_
                        refine lv_iconst (v := 2) hx hb dX2_fixed_135 (by decide) ?_
                        have hPc := hP.sub (ws' := [(m0, .inr (2, [.int 0, .ref a, .ref b]))]) [0] rfl
                        have hDc := hD.sub (ws' := [(m0, .inr (2, [.int 0, .ref a, .ref b]))]) [0] (by decide) rfl
                        have hKc := hK.sub (tys' := []) [] rfl
                        have hFc := va_free (wc := [(m0, .inr (2, [.int 0, .ref a, .ref b]))]) hD hS hA [0] rfl
                        refine va_calli (va_runV (As := [.int 1, .int 2]) (rest := []) ⟨hx, hb, hml, hown, hts⟩ (qX2_fails l dC dI H.size m0 a b (0) (1) (2)) (cwV 2 hts gX2_fixed_X2_fails rfl rfl rfl (by decide +kernel) ⟨Nat.le_of_ble_eq_true rfl, Nat.le_of_ble_eq_true rfl⟩) ⟨fun a U g mk q => by obtain ⟨q0, q1, qP, qK, qD⟩ := q; exact ⟨q0, q1, qP, va_K.moved (u := U) (U := U.calling g mk a) (Vm.Alike.refl U.vm) qK, qD⟩, va_recv hKc hPc (ci := 2) (q0 := 0) rfl rfl, fun U hU hW => ⟨rfl, by rw [hU], by rw [hU]; exact hPc, va_K.moved hW.alike hKc, hDc.weaken (fun _ _ _ _ => trivial)⟩⟩ rfl rfl hl.1 rfl (lv_room (Nat.le_of_ble_eq_true rfl)) dX2_fixed_136 ⟨Nat.le_of_ble_eq_true rfl, Nat.le_of_ble_eq_true rfl⟩) hS (fun q _ h => hFc q h) hFc (fun r_39 u t9 H1 locs ht hvm hw hB hz1 hk1 hS => ?_)
                        obtain ⟨hP1, hK1, hD1⟩ := hB
                        rw [ht] at hP1
                        obtain ⟨h_40, rfl⟩ := hw
                        have hK1 := va_K.moved hvm.symm hK1
                        obtain ⟨hP, hD⟩ := va_join (wr := [(a, .inl (cI, 256, .inl kf)), (b, .inl (cJ, 256, .inr (.inl vf)))]) (w1 := [(m0, .inr (2, [.int (m_f 1 0 2), .ref a, .ref b]))]) hP hD [0] [1, 2] rfl rfl (by decide) (by decide) hk1 hFc hP1 hD1
                        have hK := (hK.sub (tys' := [(cI, .int), (cJ, .long)]) [0, 1] rfl).app hK1
                        generalize H1 = H at hP hS ⊢
                        have hP : va_P (dC, dI) vwCl [(a, .inl (cI, 256, .inl kf)), (b, .inl (cJ, 256, .inr (.inl vf))), (m0, .inr (2, [.int (m_f 1 0 2), .ref a, .ref b]))] H := hP
                        have hD : va_D A [(a, .inl (cI, 256, .inl kf)), (b, .inl (cJ, 256, .inr (.inl vf))), (m0, .inr (2, [.int (m_f 1 0 2), .ref a, .ref b]))] := hD
                        have hK : va_K (dC, dI) vwCl [(cI, .int), (cJ, .long)] s := hK
                        refine W.widen (k := 0) (n := 0) (Nat.le_of_ble_eq_true rfl) (Nat.le_of_ble_eq_true rfl) ?_
                        obtain rfl : r_39 = 1 := h_40.trans (by decide)
                        have hP : va_P (dC, dI) vwCl [(a, .inl (cI, 256, .inl kf)), (b, .inl (cJ, 256, .inr (.inl vf))), (m0, .inr (2, [.int 2, .ref a, .ref b]))] H := hP
                        have hD : va_D A [(a, .inl (cI, 256, .inl kf)), (b, .inl (cJ, 256, .inr (.inl vf))), (m0, .inr (2, [.int 2, .ref a, .ref b]))] := hD
                        refine lv_pop hx hb dX2_fixed_139 rfl ?_
                        refine lv_lconst (v := 0) hx hb dX2_fixed_140 (by decide) ?_
                        have hP9 := hP.sub (ws' := [(m0, .inr (2, [.int 2, .ref a, .ref b])), (a, .inl (cI, 256, .inl kf)), (b, .inl (cJ, 256, .inr (.inl vf)))]) [2, 0, 1] rfl
                        have hD9 := hD.sub (ws' := [(m0, .inr (2, [.int 2, .ref a, .ref b])), (a, .inl (cI, 256, .inl kf)), (b, .inl (cJ, 256, .inr (.inl vf)))]) [2, 0, 1] (by decide) rfl
                        have hK9 := hK.sub (tys' := [(cI, .int), (cJ, .long)]) [0, 1] rfl
                        refine W.widen (k := 0) (n := 0) (Nat.le_of_ble_eq_true rfl) (Nat.le_of_ble_eq_true rfl) ?_
                        exact W.lret (v := 0) hx hb hr (fun t9 ht hW => ⟨⟨0, 2, rfl, ⟨by first | (simp [x_c, x_v, x_f, c_3, c_7, h_9, c_10, c_17, h_19, h_21, c_22, ev_23, c_27, ev_37]; done) | (simp [x_c, x_v, x_f, ← ev_23, ← ev_37, c_3, c_7, h_9, c_10, c_17, h_19, h_21, c_22, c_27]; done) | grind [x_c, x_v, x_f], by first | (simp [x_c, x_v, x_f, c_3, c_7, h_9, c_10, c_17, h_19, h_21, c_22, ev_23, c_27, ev_37]; done) | (simp [x_c, x_v, x_f, ← ev_23, ← ev_37, c_3, c_7, h_9, c_10, c_17, h_19, h_21, c_22, c_27]; done) | grind [x_c, x_v, x_f]⟩, by rw [ht]; exact hP9, va_K.moved hW.alike hK9, hD9⟩, hS.F ht⟩) hS.2.2 dX2_fixed_141
                      · exact absurd c_38 (by decide)
                · simp only [lq_ne] at c_22
                  refine lv_lload hx hb dX2_fixed_119 (lv_at hl 0 rfl) ?_
                  have hP9 := hP.sub (ws' := [(m0, .inr (2, [.int 0, .ref a, .ref b])), (a, .inl (cI, 256, .inl kf)), (b, .inl (cJ, 256, .inr (.inl vf)))]) [0, 1, 2] rfl
                  have hD9 := hD.sub (ws' := [(m0, .inr (2, [.int 0, .ref a, .ref b])), (a, .inl (cI, 256, .inl kf)), (b, .inl (cJ, 256, .inr (.inl vf)))]) [0, 1, 2] (by decide) rfl
                  have hK9 := hK.sub (tys' := [(cI, .int), (cJ, .long)]) [0, 1] rfl
                  refine W.widen (k := 0) (n := 0) (Nat.le_of_ble_eq_true rfl) (Nat.le_of_ble_eq_true rfl) ?_
                  exact W.lret (v := r_18) hx hb hr (fun t9 ht hW => ⟨⟨r_18, 0, rfl, ⟨by first | (simp [x_c, x_v, x_f, c_3, c_7, h_9, c_10, c_17, h_19, h_21, c_22]; done) | (simp [x_c, x_v, x_f, c_3, c_7, h_9, c_10, c_17, h_19, h_21, c_22]; done) | grind [x_c, x_v, x_f], by first | (simp [x_c, x_v, x_f, c_3, c_7, h_9, c_10, c_17, h_19, h_21, c_22]; done) | (simp [x_c, x_v, x_f, c_3, c_7, h_9, c_10, c_17, h_19, h_21, c_22]; done) | grind [x_c, x_v, x_f]⟩, by rw [ht]; exact hP9, va_K.moved hW.alike hK9, hD9⟩, hS.F ht⟩) hS.2.2 dX2_fixed_121
              · rw [h_16, b01] at c_17
                refine lv_goto (tgt := 122) hx hb dX2_fixed_92 (by decide) ?_
                refine lv_iinc (v := 1) (lv' := [(6, .int 1), (4, .long (-1000000000000000)), (0, .ref m0), (1, .int f), (2, .int t), (3, .int w)]) hx hb dX2_fixed_122 hl (k := 0) rfl (by decide) (by decide) rfl (fun ls hl => ?_)
                refine lv_lload hx hb dX2_fixed_125 (lv_at hl 1 rfl) ?_
                refine lv_lneg hx hb dX2_fixed_127 ?_
                refine lv_topl (fun v_41 ev_41 => ?_)
                refine lv_lstore (lv' := [(4, .long v_41), (6, .int 1), (0, .ref m0), (1, .int f), (2, .int t), (3, .int w)]) hx hb dX2_fixed_128 hl (by decide) rfl (fun ls hl => ?_)
                refine lv_goto (tgt := 75) hx hb dX2_fixed_130 (by decide) ?_
                refine lv_iload hx hb dX2_fixed_75 (lv_at hl 1 rfl) ?_
                refine lv_iconst (v := 2) hx hb dX2_fixed_77 (by decide) ?_
                refine lv_icmp_ge (tgt := 133) hx hb dX2_fixed_78 (by decide) (fun c_42 => ?_) (fun c_42 => ?_)
                · exact absurd c_42 (by decide)
                · refine lv_aload_n hx hb dX2_fixed_81 rfl (lv_at hl 2 rfl) ?_
                  refine lv_iload_n hx hb dX2_fixed_82 rfl (lv_at hl 3 rfl) ?_
                  refine lv_iload_n hx hb dX2_fixed_83 rfl (lv_at hl 4 rfl) ?_
                  refine lv_lload hx hb dX2_fixed_84 (lv_at hl 0 rfl) ?_
                  have hPc := hP.sub (ws' := [(m0, .inr (2, [.int 0, .ref a, .ref b])), (a, .inl (cI, 256, .inl kf)), (b, .inl (cJ, 256, .inr (.inl vf)))]) [0, 1, 2] rfl
                  have hDc := hD.sub (ws' := [(m0, .inr (2, [.int 0, .ref a, .ref b])), (a, .inl (cI, 256, .inl kf)), (b, .inl (cJ, 256, .inr (.inl vf)))]) [0, 1, 2] (by decide) rfl
                  have hKc := hK.sub (tys' := [(cI, .int), (cJ, .long)]) [0, 1] rfl
                  have hFc := va_free (wc := [(m0, .inr (2, [.int 0, .ref a, .ref b])), (a, .inl (cI, 256, .inl kf)), (b, .inl (cJ, 256, .inr (.inl vf)))]) hD hS hA [0, 1, 2] rfl
                  refine va_calli (va_runV (As := [.int f, .int t, .long v_41]) (rest := []) ⟨hx, hb, hml, hown, hts⟩ (qX2_ends l dC dI H.size m0 a b cI cJ (0) kf vf f t v_41 c_3) (cwV 3 hts gX2_fixed_X2_ends rfl rfl rfl (by decide +kernel) ⟨Nat.le_of_ble_eq_true rfl, Nat.le_of_ble_eq_true rfl⟩) ⟨fun a U g mk q => by obtain ⟨q0, q1, qP, qK, qD⟩ := q; exact ⟨q0, q1, qP, va_K.moved (u := U) (U := U.calling g mk a) (Vm.Alike.refl U.vm) qK, qD⟩, va_recv hKc hPc (ci := 2) (q0 := 0) rfl rfl, fun U hU hW => ⟨rfl, by rw [hU], by rw [hU]; exact hPc, va_K.moved hW.alike hKc, hDc.weaken (fun _ _ _ _ => trivial)⟩⟩ rfl rfl hl.1 rfl (lv_room (Nat.le_of_ble_eq_true rfl)) dX2_fixed_86 ⟨Nat.le_of_ble_eq_true rfl, Nat.le_of_ble_eq_true rfl⟩) hS (fun q _ h => hFc q h) hFc (fun r_43 u t9 H1 locs ht hvm hw hB hz1 hk1 hS => ?_)
                  obtain ⟨hP1, hK1, hD1⟩ := hB
                  rw [ht] at hP1
                  have h_44 := hw
                  have hK1 := va_K.moved hvm.symm hK1
                  obtain ⟨hP, hD⟩ := va_join (wr := []) (w1 := [(m0, .inr (2, [.int 0, .ref a, .ref b])), (a, .inl (cI, 256, .inl kf)), (b, .inl (cJ, 256, .inr (.inl vf)))]) hP hD [0, 1, 2] [] rfl rfl (by decide) (by decide) hk1 hFc hP1 hD1
                  have hK := (hK.sub (tys' := []) [] rfl).app hK1
                  generalize H1 = H at hP hS ⊢
                  have hP : va_P (dC, dI) vwCl [(m0, .inr (2, [.int 0, .ref a, .ref b])), (a, .inl (cI, 256, .inl kf)), (b, .inl (cJ, 256, .inr (.inl vf)))] H := hP
                  have hD : va_D A [(m0, .inr (2, [.int 0, .ref a, .ref b])), (a, .inl (cI, 256, .inl kf)), (b, .inl (cJ, 256, .inr (.inl vf)))] := hD
                  have hK : va_K (dC, dI) vwCl [(cI, .int), (cJ, .long)] s := hK
                  refine W.widen (k := 0) (n := 0) (Nat.le_of_ble_eq_true rfl) (Nat.le_of_ble_eq_true rfl) ?_
                  refine lv_if_ne (tgt := 95) hx hb dX2_fixed_89 (by decide) (fun c_45 => ?_) (fun c_45 => ?_)
                  · rw [h_44, b01] at c_45
                    have c_45 := Classical.not_not.mp c_45
                    refine lv_aload_n hx hb dX2_fixed_95 rfl (lv_at hl 2 rfl) ?_
                    refine lv_iload_n hx hb dX2_fixed_96 rfl (lv_at hl 3 rfl) ?_
                    refine lv_iload_n hx hb dX2_fixed_97 rfl (lv_at hl 4 rfl) ?_
                    refine lv_lload hx hb dX2_fixed_98 (lv_at hl 0 rfl) ?_
                    have hPc := hP.sub (ws' := [(m0, .inr (2, [.int 0, .ref a, .ref b])), (a, .inl (cI, 256, .inl kf)), (b, .inl (cJ, 256, .inr (.inl vf)))]) [0, 1, 2] rfl
                    have hDc := hD.sub (ws' := [(m0, .inr (2, [.int 0, .ref a, .ref b])), (a, .inl (cI, 256, .inl kf)), (b, .inl (cJ, 256, .inr (.inl vf)))]) [0, 1, 2] (by decide) rfl
                    have hKc := hK.sub (tys' := [(cI, .int), (cJ, .long)]) [0, 1] rfl
                    have hFc := va_free (wc := [(m0, .inr (2, [.int 0, .ref a, .ref b])), (a, .inl (cI, 256, .inl kf)), (b, .inl (cJ, 256, .inr (.inl vf)))]) hD hS hA [0, 1, 2] rfl
                    refine va_calll (va_runV (As := [.int f, .int t, .long v_41]) (rest := []) ⟨hx, hb, hml, hown, hts⟩ (qX2_made l dC dI H.size m0 a b cI cJ (0) kf vf f t v_41 c_3) (cwV 3 hts gX2_fixed_X2_made rfl rfl rfl (by decide +kernel) ⟨Nat.le_of_ble_eq_true rfl, Nat.le_of_ble_eq_true rfl⟩) ⟨fun a U g mk q => by obtain ⟨q0, q1, qP, qK, qD⟩ := q; exact ⟨q0, q1, qP, va_K.moved (u := U) (U := U.calling g mk a) (Vm.Alike.refl U.vm) qK, qD⟩, va_recv hKc hPc (ci := 2) (q0 := 0) rfl rfl, fun U hU hW => ⟨rfl, by rw [hU], by rw [hU]; exact hPc, va_K.moved hW.alike hKc, hDc.weaken (fun _ _ _ _ => trivial)⟩⟩ rfl rfl hl.1 rfl (lv_room (Nat.le_of_ble_eq_true rfl)) dX2_fixed_100 ⟨Nat.le_of_ble_eq_true rfl, Nat.le_of_ble_eq_true rfl⟩) hS (fun q _ h => hFc q h) hFc (fun r_46 u t9 H1 locs ht hvm hw hB hz1 hk1 hS => ?_)
                    obtain ⟨hP1, hK1, hD1⟩ := hB
                    rw [ht] at hP1
                    have h_47 := hw
                    have hK1 := va_K.moved hvm.symm hK1
                    obtain ⟨hP, hD⟩ := va_join (wr := []) (w1 := [(m0, .inr (2, [.int 0, .ref a, .ref b])), (a, .inl (cI, 256, .inl kf)), (b, .inl (cJ, 256, .inr (.inl vf)))]) hP hD [0, 1, 2] [] rfl rfl (by decide) (by decide) hk1 hFc hP1 hD1
                    have hK := (hK.sub (tys' := []) [] rfl).app hK1
                    generalize H1 = H at hP hS ⊢
                    have hP : va_P (dC, dI) vwCl [(m0, .inr (2, [.int 0, .ref a, .ref b])), (a, .inl (cI, 256, .inl kf)), (b, .inl (cJ, 256, .inr (.inl vf)))] H := hP
                    have hD : va_D A [(m0, .inr (2, [.int 0, .ref a, .ref b])), (a, .inl (cI, 256, .inl kf)), (b, .inl (cJ, 256, .inr (.inl vf)))] := hD
                    have hK : va_K (dC, dI) vwCl [(cI, .int), (cJ, .long)] s := hK
                    refine W.widen (k := 0) (n := 0) (Nat.le_of_ble_eq_true rfl) (Nat.le_of_ble_eq_true rfl) ?_
                    refine lv_lstore (lv' := [(7, .long r_46), (4, .long v_41), (6, .int 1), (0, .ref m0), (1, .int f), (2, .int t), (3, .int w)]) hx hb dX2_fixed_103 hl (by decide) rfl (fun ls hl => ?_)
                    refine lv_aload_n hx hb dX2_fixed_105 rfl (lv_at hl 3 rfl) ?_
                    refine lv_iload_n hx hb dX2_fixed_106 rfl (lv_at hl 4 rfl) ?_
                    refine lv_iload_n hx hb dX2_fixed_107 rfl (lv_at hl 5 rfl) ?_
                    refine lv_lload hx hb dX2_fixed_108 (lv_at hl 0 rfl) ?_
                    have hPc := hP.sub (ws' := [(m0, .inr (2, [.int 0, .ref a, .ref b])), (a, .inl (cI, 256, .inl kf)), (b, .inl (cJ, 256, .inr (.inl vf)))]) [0, 1, 2] rfl
                    have hDc := hD.sub (ws' := [(m0, .inr (2, [.int 0, .ref a, .ref b])), (a, .inl (cI, 256, .inl kf)), (b, .inl (cJ, 256, .inr (.inl vf)))]) [0, 1, 2] (by decide) rfl
                    have hKc := hK.sub (tys' := [(cI, .int), (cJ, .long)]) [0, 1] rfl
                    have hFc := va_free (wc := [(m0, .inr (2, [.int 0, .ref a, .ref b])), (a, .inl (cI, 256, .inl kf)), (b, .inl (cJ, 256, .inr (.inl vf)))]) hD hS hA [0, 1, 2] rfl
                    refine va_calll (va_runV (As := [.int f, .int t, .long r_46]) (rest := []) ⟨hx, hb, hml, hown, hts⟩ (qX2_made l dC dI H.size m0 a b cI cJ (0) kf vf f t r_46 c_3) (cwV 3 hts gX2_fixed_X2_made rfl rfl rfl (by decide +kernel) ⟨Nat.le_of_ble_eq_true rfl, Nat.le_of_ble_eq_true rfl⟩) ⟨fun a U g mk q => by obtain ⟨q0, q1, qP, qK, qD⟩ := q; exact ⟨q0, q1, qP, va_K.moved (u := U) (U := U.calling g mk a) (Vm.Alike.refl U.vm) qK, qD⟩, va_recv hKc hPc (ci := 2) (q0 := 0) rfl rfl, fun U hU hW => ⟨rfl, by rw [hU], by rw [hU]; exact hPc, va_K.moved hW.alike hKc, hDc.weaken (fun _ _ _ _ => trivial)⟩⟩ rfl rfl hl.1 rfl (lv_room (Nat.le_of_ble_eq_true rfl)) dX2_fixed_110 ⟨Nat.le_of_ble_eq_true rfl, Nat.le_of_ble_eq_true rfl⟩) hS (fun q _ h => hFc q h) hFc (fun r_48 u t9 H1 locs ht hvm hw hB hz1 hk1 hS => ?_)
                    obtain ⟨hP1, hK1, hD1⟩ := hB
                    rw [ht] at hP1
                    have h_49 := hw
                    have hK1 := va_K.moved hvm.symm hK1
                    obtain ⟨hP, hD⟩ := va_join (wr := []) (w1 := [(m0, .inr (2, [.int 0, .ref a, .ref b])), (a, .inl (cI, 256, .inl kf)), (b, .inl (cJ, 256, .inr (.inl vf)))]) hP hD [0, 1, 2] [] rfl rfl (by decide) (by decide) hk1 hFc hP1 hD1
                    have hK := (hK.sub (tys' := []) [] rfl).app hK1
                    generalize H1 = H at hP hS ⊢
                    have hP : va_P (dC, dI) vwCl [(m0, .inr (2, [.int 0, .ref a, .ref b])), (a, .inl (cI, 256, .inl kf)), (b, .inl (cJ, 256, .inr (.inl vf)))] H := hP
                    have hD : va_D A [(m0, .inr (2, [.int 0, .ref a, .ref b])), (a, .inl (cI, 256, .inl kf)), (b, .inl (cJ, 256, .inr (.inl vf)))] := hD
                    have hK : va_K (dC, dI) vwCl [(cI, .int), (cJ, .long)] s := hK
                    refine W.widen (k := 0) (n := 0) (Nat.le_of_ble_eq_true rfl) (Nat.le_of_ble_eq_true rfl) ?_
                    refine lv_lload hx hb dX2_fixed_113 (lv_at hl 0 rfl) ?_
                    refine W.lcmp hx hb dX2_fixed_115 ?_
                    refine lv_if_ne (tgt := 122) hx hb dX2_fixed_116 (by decide) (fun c_50 => ?_) (fun c_50 => ?_)
                    · simp only [lq_ne] at c_50
                      refine lv_iinc (v := 2) (lv' := [(6, .int 2), (7, .long r_46), (4, .long v_41), (0, .ref m0), (1, .int f), (2, .int t), (3, .int w)]) hx hb dX2_fixed_122 hl (k := 2) rfl (by decide) (by decide) rfl (fun ls hl => ?_)
                      refine lv_lload hx hb dX2_fixed_125 (lv_at hl 2 rfl) ?_
                      refine lv_lneg hx hb dX2_fixed_127 ?_
                      refine lv_topl (fun v_51 ev_51 => ?_)
                      refine lv_lstore (lv' := [(4, .long v_51), (6, .int 2), (7, .long r_46), (0, .ref m0), (1, .int f), (2, .int t), (3, .int w)]) hx hb dX2_fixed_128 hl (by decide) rfl (fun ls hl => ?_)
                      refine lv_goto (tgt := 75) hx hb dX2_fixed_130 (by decide) ?_
                      refine lv_iload hx hb dX2_fixed_75 (lv_at hl 1 rfl) ?_
                      refine lv_iconst (v := 2) hx hb dX2_fixed_77 (by decide) ?_
                      refine lv_icmp_ge (tgt := 133) hx hb dX2_fixed_78 (by decide) (fun c_52 => ?_) (fun c_52 => ?_)
                      · refine lv_aload_n hx hb dX2_fixed_133 rfl (lv_at hl 3 rfl) ?_
                        refine lv_iconst (v := 1) hx hb dX2_fixed_134 (by decide) ?_
                        refine lv_iconst (v := 2) hx hb dX2_fixed_135 (by decide) ?_
                        have hPc := hP.sub (ws' := [(m0, .inr (2, [.int 0, .ref a, .ref b]))]) [0] rfl
                        have hDc := hD.sub (ws' := [(m0, .inr (2, [.int 0, .ref a, .ref b]))]) [0] (by decide) rfl
                        have hKc := hK.sub (tys' := []) [] rfl
                        have hFc := va_free (wc := [(m0, .inr (2, [.int 0, .ref a, .ref b]))]) hD hS hA [0] rfl
                        refine va_calli (va_runV (As := [.int 1, .int 2]) (rest := []) ⟨hx, hb, hml, hown, hts⟩ (qX2_fails l dC dI H.size m0 a b (0) (1) (2)) (cwV 2 hts gX2_fixed_X2_fails rfl rfl rfl (by decide +kernel) ⟨Nat.le_of_ble_eq_true rfl, Nat.le_of_ble_eq_true rfl⟩) ⟨fun a U g mk q => by obtain ⟨q0, q1, qP, qK, qD⟩ := q; exact ⟨q0, q1, qP, va_K.moved (u := U) (U := U.calling g mk a) (Vm.Alike.refl U.vm) qK, qD⟩, va_recv hKc hPc (ci := 2) (q0 := 0) rfl rfl, fun U hU hW => ⟨rfl, by rw [hU], by rw [hU]; exact hPc, va_K.moved hW.alike hKc, hDc.weaken (fun _ _ _ _ => trivial)⟩⟩ rfl rfl hl.1 rfl (lv_room (Nat.le_of_ble_eq_true rfl)) dX2_fixed_136 ⟨Nat.le_of_ble_eq_true rfl, Nat.le_of_ble_eq_true rfl⟩) hS (fun q _ h => hFc q h) hFc (fun r_53 u t9 H1 locs ht hvm hw hB hz1 hk1 hS => ?_)
                        obtain ⟨hP1, hK1, hD1⟩ := hB
                        rw [ht] at hP1
                        obtain ⟨h_54, rfl⟩ := hw
                        have hK1 := va_K.moved hvm.symm hK1
                        obtain ⟨hP, hD⟩ := va_join (wr := [(a, .inl (cI, 256, .inl kf)), (b, .inl (cJ, 256, .inr (.inl vf)))]) (w1 := [(m0, .inr (2, [.int (m_f 1 0 2), .ref a, .ref b]))]) hP hD [0] [1, 2] rfl rfl (by decide) (by decide) hk1 hFc hP1 hD1
                        have hK := (hK.sub (tys' := [(cI, .int), (cJ, .long)]) [0, 1] rfl).app hK1
                        generalize H1 = H at hP hS ⊢
                        have hP : va_P (dC, dI) vwCl [(a, .inl (cI, 256, .inl kf)), (b, .inl (cJ, 256, .inr (.inl vf))), (m0, .inr (2, [.int (m_f 1 0 2), .ref a, .ref b]))] H := hP
                        have hD : va_D A [(a, .inl (cI, 256, .inl kf)), (b, .inl (cJ, 256, .inr (.inl vf))), (m0, .inr (2, [.int (m_f 1 0 2), .ref a, .ref b]))] := hD
                        have hK : va_K (dC, dI) vwCl [(cI, .int), (cJ, .long)] s := hK
                        refine W.widen (k := 0) (n := 0) (Nat.le_of_ble_eq_true rfl) (Nat.le_of_ble_eq_true rfl) ?_
                        obtain rfl : r_53 = 1 := h_54.trans (by decide)
                        have hP : va_P (dC, dI) vwCl [(a, .inl (cI, 256, .inl kf)), (b, .inl (cJ, 256, .inr (.inl vf))), (m0, .inr (2, [.int 2, .ref a, .ref b]))] H := hP
                        have hD : va_D A [(a, .inl (cI, 256, .inl kf)), (b, .inl (cJ, 256, .inr (.inl vf))), (m0, .inr (2, [.int 2, .ref a, .ref b]))] := hD
                        refine lv_pop hx hb dX2_fixed_139 rfl ?_
                        refine lv_lconst (v := 0) hx hb dX2_fixed_140 (by decide) ?_
                        have hP9 := hP.sub (ws' := [(m0, .inr (2, [.int 2, .ref a, .ref b])), (a, .inl (cI, 256, .inl kf)), (b, .inl (cJ, 256, .inr (.inl vf)))]) [2, 0, 1] rfl
                        have hD9 := hD.sub (ws' := [(m0, .inr (2, [.int 2, .ref a, .ref b])), (a, .inl (cI, 256, .inl kf)), (b, .inl (cJ, 256, .inr (.inl vf)))]) [2, 0, 1] (by decide) rfl
                        have hK9 := hK.sub (tys' := [(cI, .int), (cJ, .long)]) [0, 1] rfl
                        refine W.widen (k := 0) (n := 0) (Nat.le_of_ble_eq_true rfl) (Nat.le_of_ble_eq_true rfl) ?_
                        exact W.lret (v := 0) hx hb hr (fun t9 ht hW => ⟨⟨0, 2, rfl, ⟨by first | (simp [x_c, x_v, x_f, c_3, c_7, h_9, c_10, c_17, ev_41, c_45, h_47, h_49, c_50, ev_51]; done) | (simp [x_c, x_v, x_f, ← ev_41, ← ev_51, c_3, c_7, h_9, c_10, c_17, c_45, h_47, h_49, c_50]; done) | grind [x_c, x_v, x_f], by first | (simp [x_c, x_v, x_f, c_3, c_7, h_9, c_10, c_17, ev_41, c_45, h_47, h_49, c_50, ev_51]; done) | (simp [x_c, x_v, x_f, ← ev_41, ← ev_51, c_3, c_7, h_9, c_10, c_17, c_45, h_47, h_49, c_50]; done) | grind [x_c, x_v, x_f]⟩, by rw [ht]; exact hP9, va_K.moved hW.alike hK9, hD9⟩, hS.F ht⟩) hS.2.2 dX2_fixed_141
                      · exact absurd c_52 (by decide)
                    · simp only [lq_ne] at c_50
                      refine lv_lload hx hb dX2_fixed_119 (lv_at hl 0 rfl) ?_
                      have hP9 := hP.sub (ws' := [(m0, .inr (2, [.int 0, .ref a, .ref b])), (a, .inl (cI, 256, .inl kf)), (b, .inl (cJ, 256, .inr (.inl vf)))]) [0, 1, 2] rfl
                      have hD9 := hD.sub (ws' := [(m0, .inr (2, [.int 0, .ref a, .ref b])), (a, .inl (cI, 256, .inl kf)), (b, .inl (cJ, 256, .inr (.inl vf)))]) [0, 1, 2] (by decide) rfl
                      have hK9 := hK.sub (tys' := [(cI, .int), (cJ, .long)]) [0, 1] rfl
                      refine W.widen (k := 0) (n := 0) (Nat.le_of_ble_eq_true rfl) (Nat.le_of_ble_eq_true rfl) ?_
                      exact W.lret (v := r_46) hx hb hr (fun t9 ht hW => ⟨⟨r_46, 0, rfl, ⟨by first | (simp [x_c, x_v, x_f, c_3, c_7, h_9, c_10, c_17, ev_41, c_45, h_47, h_49, c_50]; done) | (simp [x_c, x_v, x_f, ← ev_41, c_3, c_7, h_9, c_10, c_17, c_45, h_47, h_49, c_50]; done) | grind [x_c, x_v, x_f], by first | (simp [x_c, x_v, x_f, c_3, c_7, h_9, c_10, c_17, ev_41, c_45, h_47, h_49, c_50]; done) | (simp [x_c, x_v, x_f, ← ev_41, c_3, c_7, h_9, c_10, c_17, c_45, h_47, h_49, c_50]; done) | grind [x_c, x_v, x_f]⟩, by rw [ht]; exact hP9, va_K.moved hW.alike hK9, hD9⟩, hS.F ht⟩) hS.2.2 dX2_fixed_121
                  · rw [h_44, b01] at c_45
                    refine lv_goto (tgt := 122) hx hb dX2_fixed_92 (by decide) ?_
                    refine lv_iinc (v := 2) (lv' := [(6, .int 2), (4, .long v_41), (0, .ref m0), (1, .int f), (2, .int t), (3, .int w)]) hx hb dX2_fixed_122 hl (k := 1) rfl (by decide) (by decide) rfl (fun ls hl => ?_)
                    refine lv_lload hx hb dX2_fixed_125 (lv_at hl 1 rfl) ?_
                    refine lv_lneg hx hb dX2_fixed_127 ?_
                    refine lv_topl (fun v_55 ev_55 => ?_)
                    refine lv_lstore (lv' := [(4, .long v_55), (6, .int 2), (0, .ref m0), (1, .int f), (2, .int t), (3, .int w)]) hx hb dX2_fixed_128 hl (by decide) rfl (fun ls hl => ?_)
                    refine lv_goto (tgt := 75) hx hb dX2_fixed_130 (by decide) ?_
                    refine lv_iload hx hb dX2_fixed_75 (lv_at hl 1 rfl) ?_
                    refine lv_iconst (v := 2) hx hb dX2_fixed_77 (by decide) ?_
                    refine lv_icmp_ge (tgt := 133) hx hb dX2_fixed_78 (by decide) (fun c_56 => ?_) (fun c_56 => ?_)
                    · refine lv_aload_n hx hb dX2_fixed_133 rfl (lv_at hl 2 rfl) ?_
                      refine lv_iconst (v := 1) hx hb dX2_fixed_134 (by decide) ?_
                      refine lv_iconst (v := 2) hx hb dX2_fixed_135 (by decide) ?_
                      have hPc := hP.sub (ws' := [(m0, .inr (2, [.int 0, .ref a, .ref b]))]) [0] rfl
                      have hDc := hD.sub (ws' := [(m0, .inr (2, [.int 0, .ref a, .ref b]))]) [0] (by decide) rfl
                      have hKc := hK.sub (tys' := []) [] rfl
                      have hFc := va_free (wc := [(m0, .inr (2, [.int 0, .ref a, .ref b]))]) hD hS hA [0] rfl
                      refine va_calli (va_runV (As := [.int 1, .int 2]) (rest := []) ⟨hx, hb, hml, hown, hts⟩ (qX2_fails l dC dI H.size m0 a b (0) (1) (2)) (cwV 2 hts gX2_fixed_X2_fails rfl rfl rfl (by decide +kernel) ⟨Nat.le_of_ble_eq_true rfl, Nat.le_of_ble_eq_true rfl⟩) ⟨fun a U g mk q => by obtain ⟨q0, q1, qP, qK, qD⟩ := q; exact ⟨q0, q1, qP, va_K.moved (u := U) (U := U.calling g mk a) (Vm.Alike.refl U.vm) qK, qD⟩, va_recv hKc hPc (ci := 2) (q0 := 0) rfl rfl, fun U hU hW => ⟨rfl, by rw [hU], by rw [hU]; exact hPc, va_K.moved hW.alike hKc, hDc.weaken (fun _ _ _ _ => trivial)⟩⟩ rfl rfl hl.1 rfl (lv_room (Nat.le_of_ble_eq_true rfl)) dX2_fixed_136 ⟨Nat.le_of_ble_eq_true rfl, Nat.le_of_ble_eq_true rfl⟩) hS (fun q _ h => hFc q h) hFc (fun r_57 u t9 H1 locs ht hvm hw hB hz1 hk1 hS => ?_)
                      obtain ⟨hP1, hK1, hD1⟩ := hB
                      rw [ht] at hP1
                      obtain ⟨h_58, rfl⟩ := hw
                      have hK1 := va_K.moved hvm.symm hK1
                      obtain ⟨hP, hD⟩ := va_join (wr := [(a, .inl (cI, 256, .inl kf)), (b, .inl (cJ, 256, .inr (.inl vf)))]) (w1 := [(m0, .inr (2, [.int (m_f 1 0 2), .ref a, .ref b]))]) hP hD [0] [1, 2] rfl rfl (by decide) (by decide) hk1 hFc hP1 hD1
                      have hK := (hK.sub (tys' := [(cI, .int), (cJ, .long)]) [0, 1] rfl).app hK1
                      generalize H1 = H at hP hS ⊢
                      have hP : va_P (dC, dI) vwCl [(a, .inl (cI, 256, .inl kf)), (b, .inl (cJ, 256, .inr (.inl vf))), (m0, .inr (2, [.int (m_f 1 0 2), .ref a, .ref b]))] H := hP
                      have hD : va_D A [(a, .inl (cI, 256, .inl kf)), (b, .inl (cJ, 256, .inr (.inl vf))), (m0, .inr (2, [.int (m_f 1 0 2), .ref a, .ref b]))] := hD
                      have hK : va_K (dC, dI) vwCl [(cI, .int), (cJ, .long)] s := hK
                      refine W.widen (k := 0) (n := 0) (Nat.le_of_ble_eq_true rfl) (Nat.le_of_ble_eq_true rfl) ?_
                      obtain rfl : r_57 = 1 := h_58.trans (by decide)
                      have hP : va_P (dC, dI) vwCl [(a, .inl (cI, 256, .inl kf)), (b, .inl (cJ, 256, .inr (.inl vf))), (m0, .inr (2, [.int 2, .ref a, .ref b]))] H := hP
                      have hD : va_D A [(a, .inl (cI, 256, .inl kf)), (b, .inl (cJ, 256, .inr (.inl vf))), (m0, .inr (2, [.int 2, .ref a, .ref b]))] := hD
                      refine lv_pop hx hb dX2_fixed_139 rfl ?_
                      refine lv_lconst (v := 0) hx hb dX2_fixed_140 (by decide) ?_
                      have hP9 := hP.sub (ws' := [(m0, .inr (2, [.int 2, .ref a, .ref b])), (a, .inl (cI, 256, .inl kf)), (b, .inl (cJ, 256, .inr (.inl vf)))]) [2, 0, 1] rfl
                      have hD9 := hD.sub (ws' := [(m0, .inr (2, [.int 2, .ref a, .ref b])), (a, .inl (cI, 256, .inl kf)), (b, .inl (cJ, 256, .inr (.inl vf)))]) [2, 0, 1] (by decide) rfl
                      have hK9 := hK.sub (tys' := [(cI, .int), (cJ, .long)]) [0, 1] rfl
                      refine W.widen (k := 0) (n := 0) (Nat.le_of_ble_eq_true rfl) (Nat.le_of_ble_eq_true rfl) ?_
                      exact W.lret (v := 0) hx hb hr (fun t9 ht hW => ⟨⟨0, 2, rfl, ⟨by first | (simp [x_c, x_v, x_f, c_3, c_7, h_9, c_10, c_17, ev_41, c_45, ev_55]; done) | (simp [x_c, x_v, x_f, ← ev_41, ← ev_55, c_3, c_7, h_9, c_10, c_17, c_45]; done) | grind [x_c, x_v, x_f], by first | (simp [x_c, x_v, x_f, c_3, c_7, h_9, c_10, c_17, ev_41, c_45, ev_55]; done) | (simp [x_c, x_v, x_f, ← ev_41, ← ev_55, c_3, c_7, h_9, c_10, c_17, c_45]; done) | grind [x_c, x_v, x_f]⟩, by rw [ht]; exact hP9, va_K.moved hW.alike hK9, hD9⟩, hS.F ht⟩) hS.2.2 dX2_fixed_141
                    · exact absurd c_56 (by decide)
          · exact absurd c_13 (by decide)
        · simp only [lq_ne] at c_10
          refine lv_iconst (v := 1) hx hb dX2_fixed_58 (by decide) ?_
          refine lv_goto (tgt := 63) hx hb dX2_fixed_59 (by decide) ?_
          refine lv_iconst (v := 2) hx hb dX2_fixed_63 (by decide) ?_
          have hPc := hP.sub (ws' := [(m0, .inr (2, [.int 0, .ref a, .ref b]))]) [0] rfl
          have hDc := hD.sub (ws' := [(m0, .inr (2, [.int 0, .ref a, .ref b]))]) [0] (by decide) rfl
          have hKc := hK.sub (tys' := []) [] rfl
          have hFc := va_free (wc := [(m0, .inr (2, [.int 0, .ref a, .ref b]))]) hD hS hA [0] rfl
          refine va_calli (va_runV (As := [.int 1, .int 2]) (rest := []) ⟨hx, hb, hml, hown, hts⟩ (qX2_fails l dC dI H.size m0 a b (0) (1) (2)) (cwV 2 hts gX2_fixed_X2_fails rfl rfl rfl (by decide +kernel) ⟨Nat.le_of_ble_eq_true rfl, Nat.le_of_ble_eq_true rfl⟩) ⟨fun a U g mk q => by obtain ⟨q0, q1, qP, qK, qD⟩ := q; exact ⟨q0, q1, qP, va_K.moved (u := U) (U := U.calling g mk a) (Vm.Alike.refl U.vm) qK, qD⟩, va_recv hKc hPc (ci := 2) (q0 := 0) rfl rfl, fun U hU hW => ⟨rfl, by rw [hU], by rw [hU]; exact hPc, va_K.moved hW.alike hKc, hDc.weaken (fun _ _ _ _ => trivial)⟩⟩ rfl rfl hl.1 rfl (lv_room (Nat.le_of_ble_eq_true rfl)) dX2_fixed_64 ⟨Nat.le_of_ble_eq_true rfl, Nat.le_of_ble_eq_true rfl⟩) hS (fun q _ h => hFc q h) hFc (fun r_59 u t9 H1 locs ht hvm hw hB hz1 hk1 hS => ?_)
          obtain ⟨hP1, hK1, hD1⟩ := hB
          rw [ht] at hP1
          obtain ⟨h_60, rfl⟩ := hw
          have hK1 := va_K.moved hvm.symm hK1
          obtain ⟨hP, hD⟩ := va_join (wr := [(a, .inl (cI, 256, .inl kf)), (b, .inl (cJ, 256, .inr (.inl vf)))]) (w1 := [(m0, .inr (2, [.int (m_f 1 0 2), .ref a, .ref b]))]) hP hD [0] [1, 2] rfl rfl (by decide) (by decide) hk1 hFc hP1 hD1
          have hK := (hK.sub (tys' := [(cI, .int), (cJ, .long)]) [0, 1] rfl).app hK1
          generalize H1 = H at hP hS ⊢
          have hP : va_P (dC, dI) vwCl [(a, .inl (cI, 256, .inl kf)), (b, .inl (cJ, 256, .inr (.inl vf))), (m0, .inr (2, [.int (m_f 1 0 2), .ref a, .ref b]))] H := hP
          have hD : va_D A [(a, .inl (cI, 256, .inl kf)), (b, .inl (cJ, 256, .inr (.inl vf))), (m0, .inr (2, [.int (m_f 1 0 2), .ref a, .ref b]))] := hD
          have hK : va_K (dC, dI) vwCl [(cI, .int), (cJ, .long)] s := hK
          refine W.widen (k := 0) (n := 0) (Nat.le_of_ble_eq_true rfl) (Nat.le_of_ble_eq_true rfl) ?_
          obtain rfl : r_59 = 1 := h_60.trans (by decide)
          have hP : va_P (dC, dI) vwCl [(a, .inl (cI, 256, .inl kf)), (b, .inl (cJ, 256, .inr (.inl vf))), (m0, .inr (2, [.int 2, .ref a, .ref b]))] H := hP
          have hD : va_D A [(a, .inl (cI, 256, .inl kf)), (b, .inl (cJ, 256, .inr (.inl vf))), (m0, .inr (2, [.int 2, .ref a, .ref b]))] := hD
          refine lv_if_eq (tgt := 72) hx hb dX2_fixed_67 (by decide) (fun c_61 => ?_) (fun c_61 => ?_)
          · exact absurd c_61 (by decide)
          · refine lv_lconst (v := 0) hx hb dX2_fixed_70 (by decide) ?_
            have hP9 := hP.sub (ws' := [(m0, .inr (2, [.int 2, .ref a, .ref b])), (a, .inl (cI, 256, .inl kf)), (b, .inl (cJ, 256, .inr (.inl vf)))]) [2, 0, 1] rfl
            have hD9 := hD.sub (ws' := [(m0, .inr (2, [.int 2, .ref a, .ref b])), (a, .inl (cI, 256, .inl kf)), (b, .inl (cJ, 256, .inr (.inl vf)))]) [2, 0, 1] (by decide) rfl
            have hK9 := hK.sub (tys' := [(cI, .int), (cJ, .long)]) [0, 1] rfl
            refine W.widen (k := 0) (n := 0) (Nat.le_of_ble_eq_true rfl) (Nat.le_of_ble_eq_true rfl) ?_
            exact W.lret (v := 0) hx hb hr (fun t9 ht hW => ⟨⟨0, 2, rfl, ⟨by first | (simp [x_c, x_v, x_f, c_3, c_7, h_9, c_10]; done) | (simp [x_c, x_v, x_f, c_3, c_7, h_9, c_10]; done) | grind [x_c, x_v, x_f], by first | (simp [x_c, x_v, x_f, c_3, c_7, h_9, c_10]; done) | (simp [x_c, x_v, x_f, c_3, c_7, h_9, c_10]; done) | grind [x_c, x_v, x_f]⟩, by rw [ht]; exact hP9, va_K.moved hW.alike hK9, hD9⟩, hS.F ht⟩) hS.2.2 dX2_fixed_71
      · refine lv_ldc2 hx hb hown (hts (.constantLong RX2 67 (1000000000000000)) kX2_fixed_3) dX2_fixed_32 ?_
        refine lv_goto (tgt := 41) hx hb dX2_fixed_35 (by decide) ?_
        refine lv_lstore (lv' := [(4, .long 1000000000000000), (0, .ref m0), (1, .int f), (2, .int t), (3, .int w)]) hx hb dX2_fixed_41 hl (by decide) rfl (fun ls hl => ?_)
        refine lv_aload_n hx hb dX2_fixed_43 rfl (lv_at hl 1 rfl) ?_
        refine lv_aload_n hx hb dX2_fixed_44 rfl (lv_at hl 1 rfl) ?_
        refine lv_iload_n hx hb dX2_fixed_45 rfl (lv_at hl 2 rfl) ?_
        refine lv_iload_n hx hb dX2_fixed_46 rfl (lv_at hl 3 rfl) ?_
        refine lv_lload hx hb dX2_fixed_47 (lv_at hl 0 rfl) ?_
        have hPc := hP.sub (ws' := [(m0, .inr (2, [.int 0, .ref a, .ref b])), (a, .inl (cI, 256, .inl kf)), (b, .inl (cJ, 256, .inr (.inl vf)))]) [2, 0, 1] rfl
        have hDc := hD.sub (ws' := [(m0, .inr (2, [.int 0, .ref a, .ref b])), (a, .inl (cI, 256, .inl kf)), (b, .inl (cJ, 256, .inr (.inl vf)))]) [2, 0, 1] (by decide) rfl
        have hKc := hK.sub (tys' := [(cI, .int), (cJ, .long)]) [0, 1] rfl
        have hFc := va_free (wc := [(m0, .inr (2, [.int 0, .ref a, .ref b])), (a, .inl (cI, 256, .inl kf)), (b, .inl (cJ, 256, .inr (.inl vf)))]) hD hS hA [2, 0, 1] rfl
        refine va_calll (va_runV (As := [.int f, .int t, .long 1000000000000000]) (rest := [.ref m0]) ⟨hx, hb, hml, hown, hts⟩ (qX2_made l dC dI H.size m0 a b cI cJ (0) kf vf f t (1000000000000000) c_3) (cwV 3 hts gX2_fixed_X2_made rfl rfl rfl (by decide +kernel) ⟨Nat.le_of_ble_eq_true rfl, Nat.le_of_ble_eq_true rfl⟩) ⟨fun a U g mk q => by obtain ⟨q0, q1, qP, qK, qD⟩ := q; exact ⟨q0, q1, qP, va_K.moved (u := U) (U := U.calling g mk a) (Vm.Alike.refl U.vm) qK, qD⟩, va_recv hKc hPc (ci := 2) (q0 := 0) rfl rfl, fun U hU hW => ⟨rfl, by rw [hU], by rw [hU]; exact hPc, va_K.moved hW.alike hKc, hDc.weaken (fun _ _ _ _ => trivial)⟩⟩ rfl rfl hl.1 rfl (lv_room (Nat.le_of_ble_eq_true rfl)) dX2_fixed_49 ⟨Nat.le_of_ble_eq_true rfl, Nat.le_of_ble_eq_true rfl⟩) hS (fun q _ h => hFc q h) hFc (fun r_62 u t9 H1 locs ht hvm hw hB hz1 hk1 hS => ?_)
        obtain ⟨hP1, hK1, hD1⟩ := hB
        rw [ht] at hP1
        have h_63 := hw
        have hK1 := va_K.moved hvm.symm hK1
        obtain ⟨hP, hD⟩ := va_join (wr := []) (w1 := [(m0, .inr (2, [.int 0, .ref a, .ref b])), (a, .inl (cI, 256, .inl kf)), (b, .inl (cJ, 256, .inr (.inl vf)))]) hP hD [2, 0, 1] [] rfl rfl (by decide) (by decide) hk1 hFc hP1 hD1
        have hK := (hK.sub (tys' := []) [] rfl).app hK1
        generalize H1 = H at hP hS ⊢
        have hP : va_P (dC, dI) vwCl [(m0, .inr (2, [.int 0, .ref a, .ref b])), (a, .inl (cI, 256, .inl kf)), (b, .inl (cJ, 256, .inr (.inl vf)))] H := hP
        have hD : va_D A [(m0, .inr (2, [.int 0, .ref a, .ref b])), (a, .inl (cI, 256, .inl kf)), (b, .inl (cJ, 256, .inr (.inl vf)))] := hD
        have hK : va_K (dC, dI) vwCl [(cI, .int), (cJ, .long)] s := hK
        refine W.widen (k := 0) (n := 0) (Nat.le_of_ble_eq_true rfl) (Nat.le_of_ble_eq_true rfl) ?_
        refine lv_lload hx hb dX2_fixed_52 (lv_at hl 0 rfl) ?_
        refine W.lcmp hx hb dX2_fixed_54 ?_
        refine lv_if_ne (tgt := 62) hx hb dX2_fixed_55 (by decide) (fun c_64 => ?_) (fun c_64 => ?_)
        · simp only [lq_ne] at c_64
          refine lv_iconst (v := 0) hx hb dX2_fixed_62 (by decide) ?_
          refine lv_iconst (v := 2) hx hb dX2_fixed_63 (by decide) ?_
          have hPc := hP.sub (ws' := [(m0, .inr (2, [.int 0, .ref a, .ref b]))]) [0] rfl
          have hDc := hD.sub (ws' := [(m0, .inr (2, [.int 0, .ref a, .ref b]))]) [0] (by decide) rfl
          have hKc := hK.sub (tys' := []) [] rfl
          have hFc := va_free (wc := [(m0, .inr (2, [.int 0, .ref a, .ref b]))]) hD hS hA [0] rfl
          refine va_calli (va_runV (As := [.int 0, .int 2]) (rest := []) ⟨hx, hb, hml, hown, hts⟩ (qX2_fails l dC dI H.size m0 a b (0) (0) (2)) (cwV 2 hts gX2_fixed_X2_fails rfl rfl rfl (by decide +kernel) ⟨Nat.le_of_ble_eq_true rfl, Nat.le_of_ble_eq_true rfl⟩) ⟨fun a U g mk q => by obtain ⟨q0, q1, qP, qK, qD⟩ := q; exact ⟨q0, q1, qP, va_K.moved (u := U) (U := U.calling g mk a) (Vm.Alike.refl U.vm) qK, qD⟩, va_recv hKc hPc (ci := 2) (q0 := 0) rfl rfl, fun U hU hW => ⟨rfl, by rw [hU], by rw [hU]; exact hPc, va_K.moved hW.alike hKc, hDc.weaken (fun _ _ _ _ => trivial)⟩⟩ rfl rfl hl.1 rfl (lv_room (Nat.le_of_ble_eq_true rfl)) dX2_fixed_64 ⟨Nat.le_of_ble_eq_true rfl, Nat.le_of_ble_eq_true rfl⟩) hS (fun q _ h => hFc q h) hFc (fun r_65 u t9 H1 locs ht hvm hw hB hz1 hk1 hS => ?_)
          obtain ⟨hP1, hK1, hD1⟩ := hB
          rw [ht] at hP1
          obtain ⟨h_66, rfl⟩ := hw
          have hK1 := va_K.moved hvm.symm hK1
          obtain ⟨hP, hD⟩ := va_join (wr := [(a, .inl (cI, 256, .inl kf)), (b, .inl (cJ, 256, .inr (.inl vf)))]) (w1 := [(m0, .inr (2, [.int (m_f 0 0 2), .ref a, .ref b]))]) hP hD [0] [1, 2] rfl rfl (by decide) (by decide) hk1 hFc hP1 hD1
          have hK := (hK.sub (tys' := [(cI, .int), (cJ, .long)]) [0, 1] rfl).app hK1
          generalize H1 = H at hP hS ⊢
          have hP : va_P (dC, dI) vwCl [(a, .inl (cI, 256, .inl kf)), (b, .inl (cJ, 256, .inr (.inl vf))), (m0, .inr (2, [.int (m_f 0 0 2), .ref a, .ref b]))] H := hP
          have hD : va_D A [(a, .inl (cI, 256, .inl kf)), (b, .inl (cJ, 256, .inr (.inl vf))), (m0, .inr (2, [.int (m_f 0 0 2), .ref a, .ref b]))] := hD
          have hK : va_K (dC, dI) vwCl [(cI, .int), (cJ, .long)] s := hK
          refine W.widen (k := 0) (n := 0) (Nat.le_of_ble_eq_true rfl) (Nat.le_of_ble_eq_true rfl) ?_
          obtain rfl : r_65 = 0 := h_66.trans (by decide)
          have hP : va_P (dC, dI) vwCl [(a, .inl (cI, 256, .inl kf)), (b, .inl (cJ, 256, .inr (.inl vf))), (m0, .inr (2, [.int 0, .ref a, .ref b]))] H := hP
          have hD : va_D A [(a, .inl (cI, 256, .inl kf)), (b, .inl (cJ, 256, .inr (.inl vf))), (m0, .inr (2, [.int 0, .ref a, .ref b]))] := hD
          refine lv_if_eq (tgt := 72) hx hb dX2_fixed_67 (by decide) (fun c_67 => ?_) (fun c_67 => ?_)
          · refine lv_iconst (v := 0) hx hb dX2_fixed_72 (by decide) ?_
            refine lv_istore (lv' := [(6, .int 0), (4, .long 1000000000000000), (0, .ref m0), (1, .int f), (2, .int t), (3, .int w)]) hx hb dX2_fixed_73 hl (by decide) rfl (fun ls hl => ?_)
            refine lv_iload hx hb dX2_fixed_75 (lv_at hl 0 rfl) ?_
            refine lv_iconst (v := 2) hx hb dX2_fixed_77 (by decide) ?_
            refine lv_icmp_ge (tgt := 133) hx hb dX2_fixed_78 (by decide) (fun c_68 => ?_) (fun c_68 => ?_)
            · exact absurd c_68 (by decide)
            · refine lv_aload_n hx hb dX2_fixed_81 rfl (lv_at hl 2 rfl) ?_
              refine lv_iload_n hx hb dX2_fixed_82 rfl (lv_at hl 3 rfl) ?_
              refine lv_iload_n hx hb dX2_fixed_83 rfl (lv_at hl 4 rfl) ?_
              refine lv_lload hx hb dX2_fixed_84 (lv_at hl 1 rfl) ?_
              have hPc := hP.sub (ws' := [(m0, .inr (2, [.int 0, .ref a, .ref b])), (a, .inl (cI, 256, .inl kf)), (b, .inl (cJ, 256, .inr (.inl vf)))]) [2, 0, 1] rfl
              have hDc := hD.sub (ws' := [(m0, .inr (2, [.int 0, .ref a, .ref b])), (a, .inl (cI, 256, .inl kf)), (b, .inl (cJ, 256, .inr (.inl vf)))]) [2, 0, 1] (by decide) rfl
              have hKc := hK.sub (tys' := [(cI, .int), (cJ, .long)]) [0, 1] rfl
              have hFc := va_free (wc := [(m0, .inr (2, [.int 0, .ref a, .ref b])), (a, .inl (cI, 256, .inl kf)), (b, .inl (cJ, 256, .inr (.inl vf)))]) hD hS hA [2, 0, 1] rfl
              refine va_calli (va_runV (As := [.int f, .int t, .long 1000000000000000]) (rest := []) ⟨hx, hb, hml, hown, hts⟩ (qX2_ends l dC dI H.size m0 a b cI cJ (0) kf vf f t (1000000000000000) c_3) (cwV 3 hts gX2_fixed_X2_ends rfl rfl rfl (by decide +kernel) ⟨Nat.le_of_ble_eq_true rfl, Nat.le_of_ble_eq_true rfl⟩) ⟨fun a U g mk q => by obtain ⟨q0, q1, qP, qK, qD⟩ := q; exact ⟨q0, q1, qP, va_K.moved (u := U) (U := U.calling g mk a) (Vm.Alike.refl U.vm) qK, qD⟩, va_recv hKc hPc (ci := 2) (q0 := 0) rfl rfl, fun U hU hW => ⟨rfl, by rw [hU], by rw [hU]; exact hPc, va_K.moved hW.alike hKc, hDc.weaken (fun _ _ _ _ => trivial)⟩⟩ rfl rfl hl.1 rfl (lv_room (Nat.le_of_ble_eq_true rfl)) dX2_fixed_86 ⟨Nat.le_of_ble_eq_true rfl, Nat.le_of_ble_eq_true rfl⟩) hS (fun q _ h => hFc q h) hFc (fun r_69 u t9 H1 locs ht hvm hw hB hz1 hk1 hS => ?_)
              obtain ⟨hP1, hK1, hD1⟩ := hB
              rw [ht] at hP1
              have h_70 := hw
              have hK1 := va_K.moved hvm.symm hK1
              obtain ⟨hP, hD⟩ := va_join (wr := []) (w1 := [(m0, .inr (2, [.int 0, .ref a, .ref b])), (a, .inl (cI, 256, .inl kf)), (b, .inl (cJ, 256, .inr (.inl vf)))]) hP hD [2, 0, 1] [] rfl rfl (by decide) (by decide) hk1 hFc hP1 hD1
              have hK := (hK.sub (tys' := []) [] rfl).app hK1
              generalize H1 = H at hP hS ⊢
              have hP : va_P (dC, dI) vwCl [(m0, .inr (2, [.int 0, .ref a, .ref b])), (a, .inl (cI, 256, .inl kf)), (b, .inl (cJ, 256, .inr (.inl vf)))] H := hP
              have hD : va_D A [(m0, .inr (2, [.int 0, .ref a, .ref b])), (a, .inl (cI, 256, .inl kf)), (b, .inl (cJ, 256, .inr (.inl vf)))] := hD
              have hK : va_K (dC, dI) vwCl [(cI, .int), (cJ, .long)] s := hK
              refine W.widen (k := 0) (n := 0) (Nat.le_of_ble_eq_true rfl) (Nat.le_of_ble_eq_true rfl) ?_
              refine lv_if_ne (tgt := 95) hx hb dX2_fixed_89 (by decide) (fun c_71 => ?_) (fun c_71 => ?_)
              · rw [h_70, b01] at c_71
                have c_71 := Classical.not_not.mp c_71
                refine lv_aload_n hx hb dX2_fixed_95 rfl (lv_at hl 2 rfl) ?_
                refine lv_iload_n hx hb dX2_fixed_96 rfl (lv_at hl 3 rfl) ?_
                refine lv_iload_n hx hb dX2_fixed_97 rfl (lv_at hl 4 rfl) ?_
                refine lv_lload hx hb dX2_fixed_98 (lv_at hl 1 rfl) ?_
                have hPc := hP.sub (ws' := [(m0, .inr (2, [.int 0, .ref a, .ref b])), (a, .inl (cI, 256, .inl kf)), (b, .inl (cJ, 256, .inr (.inl vf)))]) [0, 1, 2] rfl
                have hDc := hD.sub (ws' := [(m0, .inr (2, [.int 0, .ref a, .ref b])), (a, .inl (cI, 256, .inl kf)), (b, .inl (cJ, 256, .inr (.inl vf)))]) [0, 1, 2] (by decide) rfl
                have hKc := hK.sub (tys' := [(cI, .int), (cJ, .long)]) [0, 1] rfl
                have hFc := va_free (wc := [(m0, .inr (2, [.int 0, .ref a, .ref b])), (a, .inl (cI, 256, .inl kf)), (b, .inl (cJ, 256, .inr (.inl vf)))]) hD hS hA [0, 1, 2] rfl
                refine va_calll (va_runV (As := [.int f, .int t, .long 1000000000000000]) (rest := []) ⟨hx, hb, hml, hown, hts⟩ (qX2_made l dC dI H.size m0 a b cI cJ (0) kf vf f t (1000000000000000) c_3) (cwV 3 hts gX2_fixed_X2_made rfl rfl rfl (by decide +kernel) ⟨Nat.le_of_ble_eq_true rfl, Nat.le_of_ble_eq_true rfl⟩) ⟨fun a U g mk q => by obtain ⟨q0, q1, qP, qK, qD⟩ := q; exact ⟨q0, q1, qP, va_K.moved (u := U) (U := U.calling g mk a) (Vm.Alike.refl U.vm) qK, qD⟩, va_recv hKc hPc (ci := 2) (q0 := 0) rfl rfl, fun U hU hW => ⟨rfl, by rw [hU], by rw [hU]; exact hPc, va_K.moved hW.alike hKc, hDc.weaken (fun _ _ _ _ => trivial)⟩⟩ rfl rfl hl.1 rfl (lv_room (Nat.le_of_ble_eq_true rfl)) dX2_fixed_100 ⟨Nat.le_of_ble_eq_true rfl, Nat.le_of_ble_eq_true rfl⟩) hS (fun q _ h => hFc q h) hFc (fun r_72 u t9 H1 locs ht hvm hw hB hz1 hk1 hS => ?_)
                obtain ⟨hP1, hK1, hD1⟩ := hB
                rw [ht] at hP1
                have h_73 := hw
                have hK1 := va_K.moved hvm.symm hK1
                obtain ⟨hP, hD⟩ := va_join (wr := []) (w1 := [(m0, .inr (2, [.int 0, .ref a, .ref b])), (a, .inl (cI, 256, .inl kf)), (b, .inl (cJ, 256, .inr (.inl vf)))]) hP hD [0, 1, 2] [] rfl rfl (by decide) (by decide) hk1 hFc hP1 hD1
                have hK := (hK.sub (tys' := []) [] rfl).app hK1
                generalize H1 = H at hP hS ⊢
                have hP : va_P (dC, dI) vwCl [(m0, .inr (2, [.int 0, .ref a, .ref b])), (a, .inl (cI, 256, .inl kf)), (b, .inl (cJ, 256, .inr (.inl vf)))] H := hP
                have hD : va_D A [(m0, .inr (2, [.int 0, .ref a, .ref b])), (a, .inl (cI, 256, .inl kf)), (b, .inl (cJ, 256, .inr (.inl vf)))] := hD
                have hK : va_K (dC, dI) vwCl [(cI, .int), (cJ, .long)] s := hK
                refine W.widen (k := 0) (n := 0) (Nat.le_of_ble_eq_true rfl) (Nat.le_of_ble_eq_true rfl) ?_
                refine lv_lstore (lv' := [(7, .long r_72), (6, .int 0), (4, .long 1000000000000000), (0, .ref m0), (1, .int f), (2, .int t), (3, .int w)]) hx hb dX2_fixed_103 hl (by decide) rfl (fun ls hl => ?_)
                refine lv_aload_n hx hb dX2_fixed_105 rfl (lv_at hl 3 rfl) ?_
                refine lv_iload_n hx hb dX2_fixed_106 rfl (lv_at hl 4 rfl) ?_
                refine lv_iload_n hx hb dX2_fixed_107 rfl (lv_at hl 5 rfl) ?_
                refine lv_lload hx hb dX2_fixed_108 (lv_at hl 0 rfl) ?_
                have hPc := hP.sub (ws' := [(m0, .inr (2, [.int 0, .ref a, .ref b])), (a, .inl (cI, 256, .inl kf)), (b, .inl (cJ, 256, .inr (.inl vf)))]) [0, 1, 2] rfl
                have hDc := hD.sub (ws' := [(m0, .inr (2, [.int 0, .ref a, .ref b])), (a, .inl (cI, 256, .inl kf)), (b, .inl (cJ, 256, .inr (.inl vf)))]) [0, 1, 2] (by decide) rfl
                have hKc := hK.sub (tys' := [(cI, .int), (cJ, .long)]) [0, 1] rfl
                have hFc := va_free (wc := [(m0, .inr (2, [.int 0, .ref a, .ref b])), (a, .inl (cI, 256, .inl kf)), (b, .inl (cJ, 256, .inr (.inl vf)))]) hD hS hA [0, 1, 2] rfl
                refine va_calll (va_runV (As := [.int f, .int t, .long r_72]) (rest := []) ⟨hx, hb, hml, hown, hts⟩ (qX2_made l dC dI H.size m0 a b cI cJ (0) kf vf f t r_72 c_3) (cwV 3 hts gX2_fixed_X2_made rfl rfl rfl (by decide +kernel) ⟨Nat.le_of_ble_eq_true rfl, Nat.le_of_ble_eq_true rfl⟩) ⟨fun a U g mk q => by obtain ⟨q0, q1, qP, qK, qD⟩ := q; exact ⟨q0, q1, qP, va_K.moved (u := U) (U := U.calling g mk a) (Vm.Alike.refl U.vm) qK, qD⟩, va_recv hKc hPc (ci := 2) (q0 := 0) rfl rfl, fun U hU hW => ⟨rfl, by rw [hU], by rw [hU]; exact hPc, va_K.moved hW.alike hKc, hDc.weaken (fun _ _ _ _ => trivial)⟩⟩ rfl rfl hl.1 rfl (lv_room (Nat.le_of_ble_eq_true rfl)) dX2_fixed_110 ⟨Nat.le_of_ble_eq_true rfl, Nat.le_of_ble_eq_true rfl⟩) hS (fun q _ h => hFc q h) hFc (fun r_74 u t9 H1 locs ht hvm hw hB hz1 hk1 hS => ?_)
                obtain ⟨hP1, hK1, hD1⟩ := hB
                rw [ht] at hP1
                have h_75 := hw
                have hK1 := va_K.moved hvm.symm hK1
                obtain ⟨hP, hD⟩ := va_join (wr := []) (w1 := [(m0, .inr (2, [.int 0, .ref a, .ref b])), (a, .inl (cI, 256, .inl kf)), (b, .inl (cJ, 256, .inr (.inl vf)))]) hP hD [0, 1, 2] [] rfl rfl (by decide) (by decide) hk1 hFc hP1 hD1
                have hK := (hK.sub (tys' := []) [] rfl).app hK1
                generalize H1 = H at hP hS ⊢
                have hP : va_P (dC, dI) vwCl [(m0, .inr (2, [.int 0, .ref a, .ref b])), (a, .inl (cI, 256, .inl kf)), (b, .inl (cJ, 256, .inr (.inl vf)))] H := hP
                have hD : va_D A [(m0, .inr (2, [.int 0, .ref a, .ref b])), (a, .inl (cI, 256, .inl kf)), (b, .inl (cJ, 256, .inr (.inl vf)))] := hD
                have hK : va_K (dC, dI) vwCl [(cI, .int), (cJ, .long)] s := hK
                refine W.widen (k := 0) (n := 0) (Nat.le_of_ble_eq_true rfl) (Nat.le_of_ble_eq_true rfl) ?_
                refine lv_lload hx hb dX2_fixed_113 (lv_at hl 0 rfl) ?_
                refine W.lcmp hx hb dX2_fixed_115 ?_
                refine lv_if_ne (tgt := 122) hx hb dX2_fixed_116 (by decide) (fun c_76 => ?_) (fun c_76 => ?_)
                · simp only [lq_ne] at c_76
                  refine lv_iinc (v := 1) (lv' := [(6, .int 1), (7, .long r_72), (4, .long 1000000000000000), (0, .ref m0), (1, .int f), (2, .int t), (3, .int w)]) hx hb dX2_fixed_122 hl (k := 1) rfl (by decide) (by decide) rfl (fun ls hl => ?_)
                  refine lv_lload hx hb dX2_fixed_125 (lv_at hl 2 rfl) ?_
                  refine lv_lneg hx hb dX2_fixed_127 ?_
                  refine lv_lstore (lv' := [(4, .long (-1000000000000000)), (6, .int 1), (7, .long r_72), (0, .ref m0), (1, .int f), (2, .int t), (3, .int w)]) hx hb dX2_fixed_128 hl (by decide) rfl (fun ls hl => ?_)
                  refine lv_goto (tgt := 75) hx hb dX2_fixed_130 (by decide) ?_
                  refine lv_iload hx hb dX2_fixed_75 (lv_at hl 1 rfl) ?_
                  refine lv_iconst (v := 2) hx hb dX2_fixed_77 (by decide) ?_
                  refine lv_icmp_ge (tgt := 133) hx hb dX2_fixed_78 (by decide) (fun c_77 => ?_) (fun c_77 => ?_)
                  · exact absurd c_77 (by decide)
                  · refine lv_aload_n hx hb dX2_fixed_81 rfl (lv_at hl 3 rfl) ?_
                    refine lv_iload_n hx hb dX2_fixed_82 rfl (lv_at hl 4 rfl) ?_
                    refine lv_iload_n hx hb dX2_fixed_83 rfl (lv_at hl 5 rfl) ?_
                    refine lv_lload hx hb dX2_fixed_84 (lv_at hl 0 rfl) ?_
                    have hPc := hP.sub (ws' := [(m0, .inr (2, [.int 0, .ref a, .ref b])), (a, .inl (cI, 256, .inl kf)), (b, .inl (cJ, 256, .inr (.inl vf)))]) [0, 1, 2] rfl
                    have hDc := hD.sub (ws' := [(m0, .inr (2, [.int 0, .ref a, .ref b])), (a, .inl (cI, 256, .inl kf)), (b, .inl (cJ, 256, .inr (.inl vf)))]) [0, 1, 2] (by decide) rfl
                    have hKc := hK.sub (tys' := [(cI, .int), (cJ, .long)]) [0, 1] rfl
                    have hFc := va_free (wc := [(m0, .inr (2, [.int 0, .ref a, .ref b])), (a, .inl (cI, 256, .inl kf)), (b, .inl (cJ, 256, .inr (.inl vf)))]) hD hS hA [0, 1, 2] rfl
                    refine va_calli (va_runV (As := [.int f, .int t, .long (-1000000000000000)]) (rest := []) ⟨hx, hb, hml, hown, hts⟩ (qX2_ends l dC dI H.size m0 a b cI cJ (0) kf vf f t (-1000000000000000) c_3) (cwV 3 hts gX2_fixed_X2_ends rfl rfl rfl (by decide +kernel) ⟨Nat.le_of_ble_eq_true rfl, Nat.le_of_ble_eq_true rfl⟩) ⟨fun a U g mk q => by obtain ⟨q0, q1, qP, qK, qD⟩ := q; exact ⟨q0, q1, qP, va_K.moved (u := U) (U := U.calling g mk a) (Vm.Alike.refl U.vm) qK, qD⟩, va_recv hKc hPc (ci := 2) (q0 := 0) rfl rfl, fun U hU hW => ⟨rfl, by rw [hU], by rw [hU]; exact hPc, va_K.moved hW.alike hKc, hDc.weaken (fun _ _ _ _ => trivial)⟩⟩ rfl rfl hl.1 rfl (lv_room (Nat.le_of_ble_eq_true rfl)) dX2_fixed_86 ⟨Nat.le_of_ble_eq_true rfl, Nat.le_of_ble_eq_true rfl⟩) hS (fun q _ h => hFc q h) hFc (fun r_78 u t9 H1 locs ht hvm hw hB hz1 hk1 hS => ?_)
                    obtain ⟨hP1, hK1, hD1⟩ := hB
                    rw [ht] at hP1
                    have h_79 := hw
                    have hK1 := va_K.moved hvm.symm hK1
                    obtain ⟨hP, hD⟩ := va_join (wr := []) (w1 := [(m0, .inr (2, [.int 0, .ref a, .ref b])), (a, .inl (cI, 256, .inl kf)), (b, .inl (cJ, 256, .inr (.inl vf)))]) hP hD [0, 1, 2] [] rfl rfl (by decide) (by decide) hk1 hFc hP1 hD1
                    have hK := (hK.sub (tys' := []) [] rfl).app hK1
                    generalize H1 = H at hP hS ⊢
                    have hP : va_P (dC, dI) vwCl [(m0, .inr (2, [.int 0, .ref a, .ref b])), (a, .inl (cI, 256, .inl kf)), (b, .inl (cJ, 256, .inr (.inl vf)))] H := hP
                    have hD : va_D A [(m0, .inr (2, [.int 0, .ref a, .ref b])), (a, .inl (cI, 256, .inl kf)), (b, .inl (cJ, 256, .inr (.inl vf)))] := hD
                    have hK : va_K (dC, dI) vwCl [(cI, .int), (cJ, .long)] s := hK
                    refine W.widen (k := 0) (n := 0) (Nat.le_of_ble_eq_true rfl) (Nat.le_of_ble_eq_true rfl) ?_
                    refine lv_if_ne (tgt := 95) hx hb dX2_fixed_89 (by decide) (fun c_80 => ?_) (fun c_80 => ?_)
                    · rw [h_79, b01] at c_80
                      have c_80 := Classical.not_not.mp c_80
                      refine lv_aload_n hx hb dX2_fixed_95 rfl (lv_at hl 3 rfl) ?_
                      refine lv_iload_n hx hb dX2_fixed_96 rfl (lv_at hl 4 rfl) ?_
                      refine lv_iload_n hx hb dX2_fixed_97 rfl (lv_at hl 5 rfl) ?_
                      refine lv_lload hx hb dX2_fixed_98 (lv_at hl 0 rfl) ?_
                      have hPc := hP.sub (ws' := [(m0, .inr (2, [.int 0, .ref a, .ref b])), (a, .inl (cI, 256, .inl kf)), (b, .inl (cJ, 256, .inr (.inl vf)))]) [0, 1, 2] rfl
                      have hDc := hD.sub (ws' := [(m0, .inr (2, [.int 0, .ref a, .ref b])), (a, .inl (cI, 256, .inl kf)), (b, .inl (cJ, 256, .inr (.inl vf)))]) [0, 1, 2] (by decide) rfl
                      have hKc := hK.sub (tys' := [(cI, .int), (cJ, .long)]) [0, 1] rfl
                      have hFc := va_free (wc := [(m0, .inr (2, [.int 0, .ref a, .ref b])), (a, .inl (cI, 256, .inl kf)), (b, .inl (cJ, 256, .inr (.inl vf)))]) hD hS hA [0, 1, 2] rfl
                      refine va_calll (va_runV (As := [.int f, .int t, .long (-1000000000000000)]) (rest := []) ⟨hx, hb, hml, hown, hts⟩ (qX2_made l dC dI H.size m0 a b cI cJ (0) kf vf f t (-1000000000000000) c_3) (cwV 3 hts gX2_fixed_X2_made rfl rfl rfl (by decide +kernel) ⟨Nat.le_of_ble_eq_true rfl, Nat.le_of_ble_eq_true rfl⟩) ⟨fun a U g mk q => by obtain ⟨q0, q1, qP, qK, qD⟩ := q; exact ⟨q0, q1, qP, va_K.moved (u := U) (U := U.calling g mk a) (Vm.Alike.refl U.vm) qK, qD⟩, va_recv hKc hPc (ci := 2) (q0 := 0) rfl rfl, fun U hU hW => ⟨rfl, by rw [hU], by rw [hU]; exact hPc, va_K.moved hW.alike hKc, hDc.weaken (fun _ _ _ _ => trivial)⟩⟩ rfl rfl hl.1 rfl (lv_room (Nat.le_of_ble_eq_true rfl)) dX2_fixed_100 ⟨Nat.le_of_ble_eq_true rfl, Nat.le_of_ble_eq_true rfl⟩) hS (fun q _ h => hFc q h) hFc (fun r_81 u t9 H1 locs ht hvm hw hB hz1 hk1 hS => ?_)
                      obtain ⟨hP1, hK1, hD1⟩ := hB
                      rw [ht] at hP1
                      have h_82 := hw
                      have hK1 := va_K.moved hvm.symm hK1
                      obtain ⟨hP, hD⟩ := va_join (wr := []) (w1 := [(m0, .inr (2, [.int 0, .ref a, .ref b])), (a, .inl (cI, 256, .inl kf)), (b, .inl (cJ, 256, .inr (.inl vf)))]) hP hD [0, 1, 2] [] rfl rfl (by decide) (by decide) hk1 hFc hP1 hD1
                      have hK := (hK.sub (tys' := []) [] rfl).app hK1
                      generalize H1 = H at hP hS ⊢
                      have hP : va_P (dC, dI) vwCl [(m0, .inr (2, [.int 0, .ref a, .ref b])), (a, .inl (cI, 256, .inl kf)), (b, .inl (cJ, 256, .inr (.inl vf)))] H := hP
                      have hD : va_D A [(m0, .inr (2, [.int 0, .ref a, .ref b])), (a, .inl (cI, 256, .inl kf)), (b, .inl (cJ, 256, .inr (.inl vf)))] := hD
                      have hK : va_K (dC, dI) vwCl [(cI, .int), (cJ, .long)] s := hK
                      refine W.widen (k := 0) (n := 0) (Nat.le_of_ble_eq_true rfl) (Nat.le_of_ble_eq_true rfl) ?_
                      refine lv_lstore (lv' := [(7, .long r_81), (4, .long (-1000000000000000)), (6, .int 1), (0, .ref m0), (1, .int f), (2, .int t), (3, .int w)]) hx hb dX2_fixed_103 hl (by decide) rfl (fun ls hl => ?_)
                      refine lv_aload_n hx hb dX2_fixed_105 rfl (lv_at hl 3 rfl) ?_
                      refine lv_iload_n hx hb dX2_fixed_106 rfl (lv_at hl 4 rfl) ?_
                      refine lv_iload_n hx hb dX2_fixed_107 rfl (lv_at hl 5 rfl) ?_
                      refine lv_lload hx hb dX2_fixed_108 (lv_at hl 0 rfl) ?_
                      have hPc := hP.sub (ws' := [(m0, .inr (2, [.int 0, .ref a, .ref b])), (a, .inl (cI, 256, .inl kf)), (b, .inl (cJ, 256, .inr (.inl vf)))]) [0, 1, 2] rfl
                      have hDc := hD.sub (ws' := [(m0, .inr (2, [.int 0, .ref a, .ref b])), (a, .inl (cI, 256, .inl kf)), (b, .inl (cJ, 256, .inr (.inl vf)))]) [0, 1, 2] (by decide) rfl
                      have hKc := hK.sub (tys' := [(cI, .int), (cJ, .long)]) [0, 1] rfl
                      have hFc := va_free (wc := [(m0, .inr (2, [.int 0, .ref a, .ref b])), (a, .inl (cI, 256, .inl kf)), (b, .inl (cJ, 256, .inr (.inl vf)))]) hD hS hA [0, 1, 2] rfl
                      refine va_calll (va_runV (As := [.int f, .int t, .long r_81]) (rest := []) ⟨hx, hb, hml, hown, hts⟩ (qX2_made l dC dI H.size m0 a b cI cJ (0) kf vf f t r_81 c_3) (cwV 3 hts gX2_fixed_X2_made rfl rfl rfl (by decide +kernel) ⟨Nat.le_of_ble_eq_true rfl, Nat.le_of_ble_eq_true rfl⟩) ⟨fun a U g mk q => by obtain ⟨q0, q1, qP, qK, qD⟩ := q; exact ⟨q0, q1, qP, va_K.moved (u := U) (U := U.calling g mk a) (Vm.Alike.refl U.vm) qK, qD⟩, va_recv hKc hPc (ci := 2) (q0 := 0) rfl rfl, fun U hU hW => ⟨rfl, by rw [hU], by rw [hU]; exact hPc, va_K.moved hW.alike hKc, hDc.weaken (fun _ _ _ _ => trivial)⟩⟩ rfl rfl hl.1 rfl (lv_room (Nat.le_of_ble_eq_true rfl)) dX2_fixed_110 ⟨Nat.le_of_ble_eq_true rfl, Nat.le_of_ble_eq_true rfl⟩) hS (fun q _ h => hFc q h) hFc (fun r_83 u t9 H1 locs ht hvm hw hB hz1 hk1 hS => ?_)
                      obtain ⟨hP1, hK1, hD1⟩ := hB
                      rw [ht] at hP1
                      have h_84 := hw
                      have hK1 := va_K.moved hvm.symm hK1
                      obtain ⟨hP, hD⟩ := va_join (wr := []) (w1 := [(m0, .inr (2, [.int 0, .ref a, .ref b])), (a, .inl (cI, 256, .inl kf)), (b, .inl (cJ, 256, .inr (.inl vf)))]) hP hD [0, 1, 2] [] rfl rfl (by decide) (by decide) hk1 hFc hP1 hD1
                      have hK := (hK.sub (tys' := []) [] rfl).app hK1
                      generalize H1 = H at hP hS ⊢
                      have hP : va_P (dC, dI) vwCl [(m0, .inr (2, [.int 0, .ref a, .ref b])), (a, .inl (cI, 256, .inl kf)), (b, .inl (cJ, 256, .inr (.inl vf)))] H := hP
                      have hD : va_D A [(m0, .inr (2, [.int 0, .ref a, .ref b])), (a, .inl (cI, 256, .inl kf)), (b, .inl (cJ, 256, .inr (.inl vf)))] := hD
                      have hK : va_K (dC, dI) vwCl [(cI, .int), (cJ, .long)] s := hK
                      refine W.widen (k := 0) (n := 0) (Nat.le_of_ble_eq_true rfl) (Nat.le_of_ble_eq_true rfl) ?_
                      refine lv_lload hx hb dX2_fixed_113 (lv_at hl 0 rfl) ?_
                      refine W.lcmp hx hb dX2_fixed_115 ?_
                      refine lv_if_ne (tgt := 122) hx hb dX2_fixed_116 (by decide) (fun c_85 => ?_) (fun c_85 => ?_)
                      · simp only [lq_ne] at c_85
                        refine lv_iinc (v := 2) (lv' := [(6, .int 2), (7, .long r_81), (4, .long (-1000000000000000)), (0, .ref m0), (1, .int f), (2, .int t), (3, .int w)]) hx hb dX2_fixed_122 hl (k := 2) rfl (by decide) (by decide) rfl (fun ls hl => ?_)
                        refine lv_lload hx hb dX2_fixed_125 (lv_at hl 2 rfl) ?_
                        refine lv_lneg hx hb dX2_fixed_127 ?_
                        refine lv_topl (fun v_86 ev_86 => ?_)
                        refine lv_lstore (lv' := [(4, .long v_86), (6, .int 2), (7, .long r_81), (0, .ref m0), (1, .int f), (2, .int t), (3, .int w)]) hx hb dX2_fixed_128 hl (by decide) rfl (fun ls hl => ?_)
                        refine lv_goto (tgt := 75) hx hb dX2_fixed_130 (by decide) ?_
                        refine lv_iload hx hb dX2_fixed_75 (lv_at hl 1 rfl) ?_
                        refine lv_iconst (v := 2) hx hb dX2_fixed_77 (by decide) ?_
                        refine lv_icmp_ge (tgt := 133) hx hb dX2_fixed_78 (by decide) (fun c_87 => ?_) (fun c_87 => ?_)
                        · refine lv_aload_n hx hb dX2_fixed_133 rfl (lv_at hl 3 rfl) ?_
                          refine lv_iconst (v := 1) hx hb dX2_fixed_134 (by decide) ?_
                          refine lv_iconst (v := 2) hx hb dX2_fixed_135 (by decide) ?_
                          have hPc := hP.sub (ws' := [(m0, .inr (2, [.int 0, .ref a, .ref b]))]) [0] rfl
                          have hDc := hD.sub (ws' := [(m0, .inr (2, [.int 0, .ref a, .ref b]))]) [0] (by decide) rfl
                          have hKc := hK.sub (tys' := []) [] rfl
                          have hFc := va_free (wc := [(m0, .inr (2, [.int 0, .ref a, .ref b]))]) hD hS hA [0] rfl
                          refine va_calli (va_runV (As := [.int 1, .int 2]) (rest := []) ⟨hx, hb, hml, hown, hts⟩ (qX2_fails l dC dI H.size m0 a b (0) (1) (2)) (cwV 2 hts gX2_fixed_X2_fails rfl rfl rfl (by decide +kernel) ⟨Nat.le_of_ble_eq_true rfl, Nat.le_of_ble_eq_true rfl⟩) ⟨fun a U g mk q => by obtain ⟨q0, q1, qP, qK, qD⟩ := q; exact ⟨q0, q1, qP, va_K.moved (u := U) (U := U.calling g mk a) (Vm.Alike.refl U.vm) qK, qD⟩, va_recv hKc hPc (ci := 2) (q0 := 0) rfl rfl, fun U hU hW => ⟨rfl, by rw [hU], by rw [hU]; exact hPc, va_K.moved hW.alike hKc, hDc.weaken (fun _ _ _ _ => trivial)⟩⟩ rfl rfl hl.1 rfl (lv_room (Nat.le_of_ble_eq_true rfl)) dX2_fixed_136 ⟨Nat.le_of_ble_eq_true rfl, Nat.le_of_ble_eq_true rfl⟩) hS (fun q _ h => hFc q h) hFc (fun r_88 u t9 H1 locs ht hvm hw hB hz1 hk1 hS => ?_)
                          obtain ⟨hP1, hK1, hD1⟩ := hB
                          rw [ht] at hP1
                          obtain ⟨h_89, rfl⟩ := hw
                          have hK1 := va_K.moved hvm.symm hK1
                          obtain ⟨hP, hD⟩ := va_join (wr := [(a, .inl (cI, 256, .inl kf)), (b, .inl (cJ, 256, .inr (.inl vf)))]) (w1 := [(m0, .inr (2, [.int (m_f 1 0 2), .ref a, .ref b]))]) hP hD [0] [1, 2] rfl rfl (by decide) (by decide) hk1 hFc hP1 hD1
                          have hK := (hK.sub (tys' := [(cI, .int), (cJ, .long)]) [0, 1] rfl).app hK1
                          generalize H1 = H at hP hS ⊢
                          have hP : va_P (dC, dI) vwCl [(a, .inl (cI, 256, .inl kf)), (b, .inl (cJ, 256, .inr (.inl vf))), (m0, .inr (2, [.int (m_f 1 0 2), .ref a, .ref b]))] H := hP
                          have hD : va_D A [(a, .inl (cI, 256, .inl kf)), (b, .inl (cJ, 256, .inr (.inl vf))), (m0, .inr (2, [.int (m_f 1 0 2), .ref a, .ref b]))] := hD
                          have hK : va_K (dC, dI) vwCl [(cI, .int), (cJ, .long)] s := hK
                          refine W.widen (k := 0) (n := 0) (Nat.le_of_ble_eq_true rfl) (Nat.le_of_ble_eq_true rfl) ?_
                          obtain rfl : r_88 = 1 := h_89.trans (by decide)
                          have hP : va_P (dC, dI) vwCl [(a, .inl (cI, 256, .inl kf)), (b, .inl (cJ, 256, .inr (.inl vf))), (m0, .inr (2, [.int 2, .ref a, .ref b]))] H := hP
                          have hD : va_D A [(a, .inl (cI, 256, .inl kf)), (b, .inl (cJ, 256, .inr (.inl vf))), (m0, .inr (2, [.int 2, .ref a, .ref b]))] := hD
                          refine lv_pop hx hb dX2_fixed_139 rfl ?_
                          refine lv_lconst (v := 0) hx hb dX2_fixed_140 (by decide) ?_
                          have hP9 := hP.sub (ws' := [(m0, .inr (2, [.int 2, .ref a, .ref b])), (a, .inl (cI, 256, .inl kf)), (b, .inl (cJ, 256, .inr (.inl vf)))]) [2, 0, 1] rfl
                          have hD9 := hD.sub (ws' := [(m0, .inr (2, [.int 2, .ref a, .ref b])), (a, .inl (cI, 256, .inl kf)), (b, .inl (cJ, 256, .inr (.inl vf)))]) [2, 0, 1] (by decide) rfl
                          have hK9 := hK.sub (tys' := [(cI, .int), (cJ, .long)]) [0, 1] rfl
                          refine W.widen (k := 0) (n := 0) (Nat.le_of_ble_eq_true rfl) (Nat.le_of_ble_eq_true rfl) ?_
                          exact W.lret (v := 0) hx hb hr (fun t9 ht hW => ⟨⟨0, 2, rfl, ⟨by first | (simp [x_c, x_v, x_f, c_3, c_7, h_63, c_64, c_71, h_73, h_75, c_76, c_80, h_82, h_84, c_85, ev_86]; done) | (simp [x_c, x_v, x_f, ← ev_86, c_3, c_7, h_63, c_64, c_71, h_73, h_75, c_76, c_80, h_82, h_84, c_85]; done) | grind [x_c, x_v, x_f], by first | (simp [x_c, x_v, x_f, c_3, c_7, h_63, c_64, c_71, h_73, h_75, c_76, c_80, h_82, h_84, c_85, ev_86]; done) | (simp [x_c, x_v, x_f, ← ev_86, c_3, c_7, h_63, c_64, c_71, h_73, h_75, c_76, c_80, h_82, h_84, c_85]; done) | grind [x_c, x_v, x_f]⟩, by rw [ht]; exact hP9, va_K.moved hW.alike hK9, hD9⟩, hS.F ht⟩) hS.2.2 dX2_fixed_141
                        · exact absurd c_87 (by decide)
                      · simp only [lq_ne] at c_85
                        refine lv_lload hx hb dX2_fixed_119 (lv_at hl 0 rfl) ?_
                        have hP9 := hP.sub (ws' := [(m0, .inr (2, [.int 0, .ref a, .ref b])), (a, .inl (cI, 256, .inl kf)), (b, .inl (cJ, 256, .inr (.inl vf)))]) [0, 1, 2] rfl
                        have hD9 := hD.sub (ws' := [(m0, .inr (2, [.int 0, .ref a, .ref b])), (a, .inl (cI, 256, .inl kf)), (b, .inl (cJ, 256, .inr (.inl vf)))]) [0, 1, 2] (by decide) rfl
                        have hK9 := hK.sub (tys' := [(cI, .int), (cJ, .long)]) [0, 1] rfl
                        refine W.widen (k := 0) (n := 0) (Nat.le_of_ble_eq_true rfl) (Nat.le_of_ble_eq_true rfl) ?_
                        exact W.lret (v := r_81) hx hb hr (fun t9 ht hW => ⟨⟨r_81, 0, rfl, ⟨by first | (simp [x_c, x_v, x_f, c_3, c_7, h_63, c_64, c_71, h_73, h_75, c_76, c_80, h_82, h_84, c_85]; done) | (simp [x_c, x_v, x_f, c_3, c_7, h_63, c_64, c_71, h_73, h_75, c_76, c_80, h_82, h_84, c_85]; done) | grind [x_c, x_v, x_f], by first | (simp [x_c, x_v, x_f, c_3, c_7, h_63, c_64, c_71, h_73, h_75, c_76, c_80, h_82, h_84, c_85]; done) | (simp [x_c, x_v, x_f, c_3, c_7, h_63, c_64, c_71, h_73, h_75, c_76, c_80, h_82, h_84, c_85]; done) | grind [x_c, x_v, x_f]⟩, by rw [ht]; exact hP9, va_K.moved hW.alike hK9, hD9⟩, hS.F ht⟩) hS.2.2 dX2_fixed_121
                    · rw [h_79, b01] at c_80
                      refine lv_goto (tgt := 122) hx hb dX2_fixed_92 (by decide) ?_
                      refine lv_iinc (v := 2) (lv' := [(6, .int 2), (4, .long (-1000000000000000)), (7, .long r_72), (0, .ref m0), (1, .int f), (2, .int t), (3, .int w)]) hx hb dX2_fixed_122 hl (k := 1) rfl (by decide) (by decide) rfl (fun ls hl => ?_)
                      refine lv_lload hx hb dX2_fixed_125 (lv_at hl 1 rfl) ?_
                      refine lv_lneg hx hb dX2_fixed_127 ?_
                      refine lv_topl (fun v_90 ev_90 => ?_)
                      refine lv_lstore (lv' := [(4, .long v_90), (6, .int 2), (7, .long r_72), (0, .ref m0), (1, .int f), (2, .int t), (3, .int w)]) hx hb dX2_fixed_128 hl (by decide) rfl (fun ls hl => ?_)
                      refine lv_goto (tgt := 75) hx hb dX2_fixed_130 (by decide) ?_
                      refine lv_iload hx hb dX2_fixed_75 (lv_at hl 1 rfl) ?_
                      refine lv_iconst (v := 2) hx hb dX2_fixed_77 (by decide) ?_
                      refine lv_icmp_ge (tgt := 133) hx hb dX2_fixed_78 (by decide) (fun c_91 => ?_) (fun c_91 => ?_)
                      · refine lv_aload_n hx hb dX2_fixed_133 rfl (lv_at hl 3 rfl) ?_
                        refine lv_iconst (v := 1) hx hb dX2_fixed_134 (by decide) ?_
                        refine lv_iconst (v := 2) hx hb dX2_fixed_135 (by decide) ?_
                        have hPc := hP.sub (ws' := [(m0, .inr (2, [.int 0, .ref a, .ref b]))]) [0] rfl
                        have hDc := hD.sub (ws' := [(m0, .inr (2, [.int 0, .ref a, .ref b]))]) [0] (by decide) rfl
                        have hKc := hK.sub (tys' := []) [] rfl
                        have hFc := va_free (wc := [(m0, .inr (2, [.int 0, .ref a, .ref b]))]) hD hS hA [0] rfl
                        refine va_calli (va_runV (As := [.int 1, .int 2]) (rest := []) ⟨hx, hb, hml, hown, hts⟩ (qX2_fails l dC dI H.size m0 a b (0) (1) (2)) (cwV 2 hts gX2_fixed_X2_fails rfl rfl rfl (by decide +kernel) ⟨Nat.le_of_ble_eq_true rfl, Nat.le_of_ble_eq_true rfl⟩) ⟨fun a U g mk q => by obtain ⟨q0, q1, qP, qK, qD⟩ := q; exact ⟨q0, q1, qP, va_K.moved (u := U) (U := U.calling g mk a) (Vm.Alike.refl U.vm) qK, qD⟩, va_recv hKc hPc (ci := 2) (q0 := 0) rfl rfl, fun U hU hW => ⟨rfl, by rw [hU], by rw [hU]; exact hPc, va_K.moved hW.alike hKc, hDc.weaken (fun _ _ _ _ => trivial)⟩⟩ rfl rfl hl.1 rfl (lv_room (Nat.le_of_ble_eq_true rfl)) dX2_fixed_136 ⟨Nat.le_of_ble_eq_true rfl, Nat.le_of_ble_eq_true rfl⟩) hS (fun q _ h => hFc q h) hFc (fun r_92 u t9 H1 locs ht hvm hw hB hz1 hk1 hS => ?_)
                        obtain ⟨hP1, hK1, hD1⟩ := hB
                        rw [ht] at hP1
                        obtain ⟨h_93, rfl⟩ := hw
                        have hK1 := va_K.moved hvm.symm hK1
                        obtain ⟨hP, hD⟩ := va_join (wr := [(a, .inl (cI, 256, .inl kf)), (b, .inl (cJ, 256, .inr (.inl vf)))]) (w1 := [(m0, .inr (2, [.int (m_f 1 0 2), .ref a, .ref b]))]) hP hD [0] [1, 2] rfl rfl (by decide) (by decide) hk1 hFc hP1 hD1
                        have hK := (hK.sub (tys' := [(cI, .int), (cJ, .long)]) [0, 1] rfl).app hK1
                        generalize H1 = H at hP hS ⊢
                        have hP : va_P (dC, dI) vwCl [(a, .inl (cI, 256, .inl kf)), (b, .inl (cJ, 256, .inr (.inl vf))), (m0, .inr (2, [.int (m_f 1 0 2), .ref a, .ref b]))] H := hP
                        have hD : va_D A [(a, .inl (cI, 256, .inl kf)), (b, .inl (cJ, 256, .inr (.inl vf))), (m0, .inr (2, [.int (m_f 1 0 2), .ref a, .ref b]))] := hD
                        have hK : va_K (dC, dI) vwCl [(cI, .int), (cJ, .long)] s := hK
                        refine W.widen (k := 0) (n := 0) (Nat.le_of_ble_eq_true rfl) (Nat.le_of_ble_eq_true rfl) ?_
                        obtain rfl : r_92 = 1 := h_93.trans (by decide)
                        have hP : va_P (dC, dI) vwCl [(a, .inl (cI, 256, .inl kf)), (b, .inl (cJ, 256, .inr (.inl vf))), (m0, .inr (2, [.int 2, .ref a, .ref b]))] H := hP
                        have hD : va_D A [(a, .inl (cI, 256, .inl kf)), (b, .inl (cJ, 256, .inr (.inl vf))), (m0, .inr (2, [.int 2, .ref a, .ref b]))] := hD
                        refine lv_pop hx hb dX2_fixed_139 rfl ?_
                        refine lv_lconst (v := 0) hx hb dX2_fixed_140 (by decide) ?_
                        have hP9 := hP.sub (ws' := [(m0, .inr (2, [.int 2, .ref a, .ref b])), (a, .inl (cI, 256, .inl kf)), (b, .inl (cJ, 256, .inr (.inl vf)))]) [2, 0, 1] rfl
                        have hD9 := hD.sub (ws' := [(m0, .inr (2, [.int 2, .ref a, .ref b])), (a, .inl (cI, 256, .inl kf)), (b, .inl (cJ, 256, .inr (.inl vf)))]) [2, 0, 1] (by decide) rfl
                        have hK9 := hK.sub (tys' := [(cI, .int), (cJ, .long)]) [0, 1] rfl
                        refine W.widen (k := 0) (n := 0) (Nat.le_of_ble_eq_true rfl) (Nat.le_of_ble_eq_true rfl) ?_
                        exact W.lret (v := 0) hx hb hr (fun t9 ht hW => ⟨⟨0, 2, rfl, ⟨by first | (simp [x_c, x_v, x_f, c_3, c_7, h_63, c_64, c_71, h_73, h_75, c_76, c_80, ev_90]; done) | (simp [x_c, x_v, x_f, ← ev_90, c_3, c_7, h_63, c_64, c_71, h_73, h_75, c_76, c_80]; done) | grind [x_c, x_v, x_f], by first | (simp [x_c, x_v, x_f, c_3, c_7, h_63, c_64, c_71, h_73, h_75, c_76, c_80, ev_90]; done) | (simp [x_c, x_v, x_f, ← ev_90, c_3, c_7, h_63, c_64, c_71, h_73, h_75, c_76, c_80]; done) | grind [x_c, x_v, x_f]⟩, by rw [ht]; exact hP9, va_K.moved hW.alike hK9, hD9⟩, hS.F ht⟩) hS.2.2 dX2_fixed_141
                      · exact absurd c_91 (by decide)
                · simp only [lq_ne] at c_76
                  refine lv_lload hx hb dX2_fixed_119 (lv_at hl 0 rfl) ?_
                  have hP9 := hP.sub (ws' := [(m0, .inr (2, [.int 0, .ref a, .ref b])), (a, .inl (cI, 256, .inl kf)), (b, .inl (cJ, 256, .inr (.inl vf)))]) [0, 1, 2] rfl
                  have hD9 := hD.sub (ws' := [(m0, .inr (2, [.int 0, .ref a, .ref b])), (a, .inl (cI, 256, .inl kf)), (b, .inl (cJ, 256, .inr (.inl vf)))]) [0, 1, 2] (by decide) rfl
                  have hK9 := hK.sub (tys' := [(cI, .int), (cJ, .long)]) [0, 1] rfl
                  refine W.widen (k := 0) (n := 0) (Nat.le_of_ble_eq_true rfl) (Nat.le_of_ble_eq_true rfl) ?_
                  exact W.lret (v := r_72) hx hb hr (fun t9 ht hW => ⟨⟨r_72, 0, rfl, ⟨by first | (simp [x_c, x_v, x_f, c_3, c_7, h_63, c_64, c_71, h_73, h_75, c_76]; done) | (simp [x_c, x_v, x_f, c_3, c_7, h_63, c_64, c_71, h_73, h_75, c_76]; done) | grind [x_c, x_v, x_f], by first | (simp [x_c, x_v, x_f, c_3, c_7, h_63, c_64, c_71, h_73, h_75, c_76]; done) | (simp [x_c, x_v, x_f, c_3, c_7, h_63, c_64, c_71, h_73, h_75, c_76]; done) | grind [x_c, x_v, x_f]⟩, by rw [ht]; exact hP9, va_K.moved hW.alike hK9, hD9⟩, hS.F ht⟩) hS.2.2 dX2_fixed_121
              · rw [h_70, b01] at c_71
                refine lv_goto (tgt := 122) hx hb dX2_fixed_92 (by decide) ?_
                refine lv_iinc (v := 1) (lv' := [(6, .int 1), (4, .long 1000000000000000), (0, .ref m0), (1, .int f), (2, .int t), (3, .int w)]) hx hb dX2_fixed_122 hl (k := 0) rfl (by decide) (by decide) rfl (fun ls hl => ?_)
                refine lv_lload hx hb dX2_fixed_125 (lv_at hl 1 rfl) ?_
                refine lv_lneg hx hb dX2_fixed_127 ?_
                refine lv_lstore (lv' := [(4, .long (-1000000000000000)), (6, .int 1), (0, .ref m0), (1, .int f), (2, .int t), (3, .int w)]) hx hb dX2_fixed_128 hl (by decide) rfl (fun ls hl => ?_)
                refine lv_goto (tgt := 75) hx hb dX2_fixed_130 (by decide) ?_
                refine lv_iload hx hb dX2_fixed_75 (lv_at hl 1 rfl) ?_
                refine lv_iconst (v := 2) hx hb dX2_fixed_77 (by decide) ?_
                refine lv_icmp_ge (tgt := 133) hx hb dX2_fixed_78 (by decide) (fun c_94 => ?_) (fun c_94 => ?_)
                · exact absurd c_94 (by decide)
                · refine lv_aload_n hx hb dX2_fixed_81 rfl (lv_at hl 2 rfl) ?_
                  refine lv_iload_n hx hb dX2_fixed_82 rfl (lv_at hl 3 rfl) ?_
                  refine lv_iload_n hx hb dX2_fixed_83 rfl (lv_at hl 4 rfl) ?_
                  refine lv_lload hx hb dX2_fixed_84 (lv_at hl 0 rfl) ?_
                  have hPc := hP.sub (ws' := [(m0, .inr (2, [.int 0, .ref a, .ref b])), (a, .inl (cI, 256, .inl kf)), (b, .inl (cJ, 256, .inr (.inl vf)))]) [0, 1, 2] rfl
                  have hDc := hD.sub (ws' := [(m0, .inr (2, [.int 0, .ref a, .ref b])), (a, .inl (cI, 256, .inl kf)), (b, .inl (cJ, 256, .inr (.inl vf)))]) [0, 1, 2] (by decide) rfl
                  have hKc := hK.sub (tys' := [(cI, .int), (cJ, .long)]) [0, 1] rfl
                  have hFc := va_free (wc := [(m0, .inr (2, [.int 0, .ref a, .ref b])), (a, .inl (cI, 256, .inl kf)), (b, .inl (cJ, 256, .inr (.inl vf)))]) hD hS hA [0, 1, 2] rfl
                  refine va_calli (va_runV (As := [.int f, .int t, .long (-1000000000000000)]) (rest := []) ⟨hx, hb, hml, hown, hts⟩ (qX2_ends l dC dI H.size m0 a b cI cJ (0) kf vf f t (-1000000000000000) c_3) (cwV 3 hts gX2_fixed_X2_ends rfl rfl rfl (by decide +kernel) ⟨Nat.le_of_ble_eq_true rfl, Nat.le_of_ble_eq_true rfl⟩) ⟨fun a U g mk q => by obtain ⟨q0, q1, qP, qK, qD⟩ := q; exact ⟨q0, q1, qP, va_K.moved (u := U) (U := U.calling g mk a) (Vm.Alike.refl U.vm) qK, qD⟩, va_recv hKc hPc (ci := 2) (q0 := 0) rfl rfl, fun U hU hW => ⟨rfl, by rw [hU], by rw [hU]; exact hPc, va_K.moved hW.alike hKc, hDc.weaken (fun _ _ _ _ => trivial)⟩⟩ rfl rfl hl.1 rfl (lv_room (Nat.le_of_ble_eq_true rfl)) dX2_fixed_86 ⟨Nat.le_of_ble_eq_true rfl, Nat.le_of_ble_eq_true rfl⟩) hS (fun q _ h => hFc q h) hFc (fun r_95 u t9 H1 locs ht hvm hw hB hz1 hk1 hS => ?_)
                  obtain ⟨hP1, hK1, hD1⟩ := hB
                  rw [ht] at hP1
                  have h_96 := hw
                  have hK1 := va_K.moved hvm.symm hK1
                  obtain ⟨hP, hD⟩ := va_join (wr := []) (w1 := [(m0, .inr (2, [.int 0, .ref a, .ref b])), (a, .inl (cI, 256, .inl kf)), (b, .inl (cJ, 256, .inr (.inl vf)))]) hP hD [0, 1, 2] [] rfl rfl (by decide) (by decide) hk1 hFc hP1 hD1
                  have hK := (hK.sub (tys' := []) [] rfl).app hK1
                  generalize H1 = H at hP hS ⊢
                  have hP : va_P (dC, dI) vwCl [(m0, .inr (2, [.int 0, .ref a, .ref b])), (a, .inl (cI, 256, .inl kf)), (b, .inl (cJ, 256, .inr (.inl vf)))] H := hP
                  have hD : va_D A [(m0, .inr (2, [.int 0, .ref a, .ref b])), (a, .inl (cI, 256, .inl kf)), (b, .inl (cJ, 256, .inr (.inl vf)))] := hD
                  have hK : va_K (dC, dI) vwCl [(cI, .int), (cJ, .long)] s := hK
                  refine W.widen (k := 0) (n := 0) (Nat.le_of_ble_eq_true rfl) (Nat.le_of_ble_eq_true rfl) ?_
                  refine lv_if_ne (tgt := 95) hx hb dX2_fixed_89 (by decide) (fun c_97 => ?_) (fun c_97 => ?_)
                  · rw [h_96, b01] at c_97
                    have c_97 := Classical.not_not.mp c_97
                    refine lv_aload_n hx hb dX2_fixed_95 rfl (lv_at hl 2 rfl) ?_
                    refine lv_iload_n hx hb dX2_fixed_96 rfl (lv_at hl 3 rfl) ?_
                    refine lv_iload_n hx hb dX2_fixed_97 rfl (lv_at hl 4 rfl) ?_
                    refine lv_lload hx hb dX2_fixed_98 (lv_at hl 0 rfl) ?_
                    have hPc := hP.sub (ws' := [(m0, .inr (2, [.int 0, .ref a, .ref b])), (a, .inl (cI, 256, .inl kf)), (b, .inl (cJ, 256, .inr (.inl vf)))]) [0, 1, 2] rfl
                    have hDc := hD.sub (ws' := [(m0, .inr (2, [.int 0, .ref a, .ref b])), (a, .inl (cI, 256, .inl kf)), (b, .inl (cJ, 256, .inr (.inl vf)))]) [0, 1, 2] (by decide) rfl
                    have hKc := hK.sub (tys' := [(cI, .int), (cJ, .long)]) [0, 1] rfl
                    have hFc := va_free (wc := [(m0, .inr (2, [.int 0, .ref a, .ref b])), (a, .inl (cI, 256, .inl kf)), (b, .inl (cJ, 256, .inr (.inl vf)))]) hD hS hA [0, 1, 2] rfl
                    refine va_calll (va_runV (As := [.int f, .int t, .long (-1000000000000000)]) (rest := []) ⟨hx, hb, hml, hown, hts⟩ (qX2_made l dC dI H.size m0 a b cI cJ (0) kf vf f t (-1000000000000000) c_3) (cwV 3 hts gX2_fixed_X2_made rfl rfl rfl (by decide +kernel) ⟨Nat.le_of_ble_eq_true rfl, Nat.le_of_ble_eq_true rfl⟩) ⟨fun a U g mk q => by obtain ⟨q0, q1, qP, qK, qD⟩ := q; exact ⟨q0, q1, qP, va_K.moved (u := U) (U := U.calling g mk a) (Vm.Alike.refl U.vm) qK, qD⟩, va_recv hKc hPc (ci := 2) (q0 := 0) rfl rfl, fun U hU hW => ⟨rfl, by rw [hU], by rw [hU]; exact hPc, va_K.moved hW.alike hKc, hDc.weaken (fun _ _ _ _ => trivial)⟩⟩ rfl rfl hl.1 rfl (lv_room (Nat.le_of_ble_eq_true rfl)) dX2_fixed_100 ⟨Nat.le_of_ble_eq_true rfl, Nat.le_of_ble_eq_true rfl⟩) hS (fun q _ h => hFc q h) hFc (fun r_98 u t9 H1 locs ht hvm hw hB hz1 hk1 hS => ?_)
                    obtain ⟨hP1, hK1, hD1⟩ := hB
                    rw [ht] at hP1
                    have h_99 := hw
                    have hK1 := va_K.moved hvm.symm hK1
                    obtain ⟨hP, hD⟩ := va_join (wr := []) (w1 := [(m0, .inr (2, [.int 0, .ref a, .ref b])), (a, .inl (cI, 256, .inl kf)), (b, .inl (cJ, 256, .inr (.inl vf)))]) hP hD [0, 1, 2] [] rfl rfl (by decide) (by decide) hk1 hFc hP1 hD1
                    have hK := (hK.sub (tys' := []) [] rfl).app hK1
                    generalize H1 = H at hP hS ⊢
                    have hP : va_P (dC, dI) vwCl [(m0, .inr (2, [.int 0, .ref a, .ref b])), (a, .inl (cI, 256, .inl kf)), (b, .inl (cJ, 256, .inr (.inl vf)))] H := hP
                    have hD : va_D A [(m0, .inr (2, [.int 0, .ref a, .ref b])), (a, .inl (cI, 256, .inl kf)), (b, .inl (cJ, 256, .inr (.inl vf)))] := hD
                    have hK : va_K (dC, dI) vwCl [(cI, .int), (cJ, .long)] s := hK
                    refine W.widen (k := 0) (n := 0) (Nat.le_of_ble_eq_true rfl) (Nat.le_of_ble_eq_true rfl) ?_
                    refine lv_lstore (lv' := [(7, .long r_98), (4, .long (-1000000000000000)), (6, .int 1), (0, .ref m0), (1, .int f), (2, .int t), (3, .int w)]) hx hb dX2_fixed_103 hl (by decide) rfl (fun ls hl => ?_)
                    refine lv_aload_n hx hb dX2_fixed_105 rfl (lv_at hl 3 rfl) ?_
                    refine lv_iload_n hx hb dX2_fixed_106 rfl (lv_at hl 4 rfl) ?_
                    refine lv_iload_n hx hb dX2_fixed_107 rfl (lv_at hl 5 rfl) ?_
                    refine lv_lload hx hb dX2_fixed_108 (lv_at hl 0 rfl) ?_
                    have hPc := hP.sub (ws' := [(m0, .inr (2, [.int 0, .ref a, .ref b])), (a, .inl (cI, 256, .inl kf)), (b, .inl (cJ, 256, .inr (.inl vf)))]) [0, 1, 2] rfl
                    have hDc := hD.sub (ws' := [(m0, .inr (2, [.int 0, .ref a, .ref b])), (a, .inl (cI, 256, .inl kf)), (b, .inl (cJ, 256, .inr (.inl vf)))]) [0, 1, 2] (by decide) rfl
                    have hKc := hK.sub (tys' := [(cI, .int), (cJ, .long)]) [0, 1] rfl
                    have hFc := va_free (wc := [(m0, .inr (2, [.int 0, .ref a, .ref b])), (a, .inl (cI, 256, .inl kf)), (b, .inl (cJ, 256, .inr (.inl vf)))]) hD hS hA [0, 1, 2] rfl
                    refine va_calll (va_runV (As := [.int f, .int t, .long r_98]) (rest := []) ⟨hx, hb, hml, hown, hts⟩ (qX2_made l dC dI H.size m0 a b cI cJ (0) kf vf f t r_98 c_3) (cwV 3 hts gX2_fixed_X2_made rfl rfl rfl (by decide +kernel) ⟨Nat.le_of_ble_eq_true rfl, Nat.le_of_ble_eq_true rfl⟩) ⟨fun a U g mk q => by obtain ⟨q0, q1, qP, qK, qD⟩ := q; exact ⟨q0, q1, qP, va_K.moved (u := U) (U := U.calling g mk a) (Vm.Alike.refl U.vm) qK, qD⟩, va_recv hKc hPc (ci := 2) (q0 := 0) rfl rfl, fun U hU hW => ⟨rfl, by rw [hU], by rw [hU]; exact hPc, va_K.moved hW.alike hKc, hDc.weaken (fun _ _ _ _ => trivial)⟩⟩ rfl rfl hl.1 rfl (lv_room (Nat.le_of_ble_eq_true rfl)) dX2_fixed_110 ⟨Nat.le_of_ble_eq_true rfl, Nat.le_of_ble_eq_true rfl⟩) hS (fun q _ h => hFc q h) hFc (fun r_100 u t9 H1 locs ht hvm hw hB hz1 hk1 hS => ?_)
                    obtain ⟨hP1, hK1, hD1⟩ := hB
                    rw [ht] at hP1
                    have h_101 := hw
                    have hK1 := va_K.moved hvm.symm hK1
                    obtain ⟨hP, hD⟩ := va_join (wr := []) (w1 := [(m0, .inr (2, [.int 0, .ref a, .ref b])), (a, .inl (cI, 256, .inl kf)), (b, .inl (cJ, 256, .inr (.inl vf)))]) hP hD [0, 1, 2] [] rfl rfl (by decide) (by decide) hk1 hFc hP1 hD1
                    have hK := (hK.sub (tys' := []) [] rfl).app hK1
                    generalize H1 = H at hP hS ⊢
                    have hP : va_P (dC, dI) vwCl [(m0, .inr (2, [.int 0, .ref a, .ref b])), (a, .inl (cI, 256, .inl kf)), (b, .inl (cJ, 256, .inr (.inl vf)))] H := hP
                    have hD : va_D A [(m0, .inr (2, [.int 0, .ref a, .ref b])), (a, .inl (cI, 256, .inl kf)), (b, .inl (cJ, 256, .inr (.inl vf)))] := hD
                    have hK : va_K (dC, dI) vwCl [(cI, .int), (cJ, .long)] s := hK
                    refine W.widen (k := 0) (n := 0) (Nat.le_of_ble_eq_true rfl) (Nat.le_of_ble_eq_true rfl) ?_
                    refine lv_lload hx hb dX2_fixed_113 (lv_at hl 0 rfl) ?_
                    refine W.lcmp hx hb dX2_fixed_115 ?_
                    refine lv_if_ne (tgt := 122) hx hb dX2_fixed_116 (by decide) (fun c_102 => ?_) (fun c_102 => ?_)
                    · simp only [lq_ne] at c_102
                      refine lv_iinc (v := 2) (lv' := [(6, .int 2), (7, .long r_98), (4, .long (-1000000000000000)), (0, .ref m0), (1, .int f), (2, .int t), (3, .int w)]) hx hb dX2_fixed_122 hl (k := 2) rfl (by decide) (by decide) rfl (fun ls hl => ?_)
                      refine lv_lload hx hb dX2_fixed_125 (lv_at hl 2 rfl) ?_
                      refine lv_lneg hx hb dX2_fixed_127 ?_
                      refine lv_topl (fun v_103 ev_103 => ?_)
                      refine lv_lstore (lv' := [(4, .long v_103), (6, .int 2), (7, .long r_98), (0, .ref m0), (1, .int f), (2, .int t), (3, .int w)]) hx hb dX2_fixed_128 hl (by decide) rfl (fun ls hl => ?_)
                      refine lv_goto (tgt := 75) hx hb dX2_fixed_130 (by decide) ?_
                      refine lv_iload hx hb dX2_fixed_75 (lv_at hl 1 rfl) ?_
                      refine lv_iconst (v := 2) hx hb dX2_fixed_77 (by decide) ?_
                      refine lv_icmp_ge (tgt := 133) hx hb dX2_fixed_78 (by decide) (fun c_104 => ?_) (fun c_104 => ?_)
                      · refine lv_aload_n hx hb dX2_fixed_133 rfl (lv_at hl 3 rfl) ?_
                        refine lv_iconst (v := 1) hx hb dX2_fixed_134 (by decide) ?_
                        refine lv_iconst (v := 2) hx hb dX2_fixed_135 (by decide) ?_
                        have hPc := hP.sub (ws' := [(m0, .inr (2, [.int 0, .ref a, .ref b]))]) [0] rfl
                        have hDc := hD.sub (ws' := [(m0, .inr (2, [.int 0, .ref a, .ref b]))]) [0] (by decide) rfl
                        have hKc := hK.sub (tys' := []) [] rfl
                        have hFc := va_free (wc := [(m0, .inr (2, [.int 0, .ref a, .ref b]))]) hD hS hA [0] rfl
                        refine va_calli (va_runV (As := [.int 1, .int 2]) (rest := []) ⟨hx, hb, hml, hown, hts⟩ (qX2_fails l dC dI H.size m0 a b (0) (1) (2)) (cwV 2 hts gX2_fixed_X2_fails rfl rfl rfl (by decide +kernel) ⟨Nat.le_of_ble_eq_true rfl, Nat.le_of_ble_eq_true rfl⟩) ⟨fun a U g mk q => by obtain ⟨q0, q1, qP, qK, qD⟩ := q; exact ⟨q0, q1, qP, va_K.moved (u := U) (U := U.calling g mk a) (Vm.Alike.refl U.vm) qK, qD⟩, va_recv hKc hPc (ci := 2) (q0 := 0) rfl rfl, fun U hU hW => ⟨rfl, by rw [hU], by rw [hU]; exact hPc, va_K.moved hW.alike hKc, hDc.weaken (fun _ _ _ _ => trivial)⟩⟩ rfl rfl hl.1 rfl (lv_room (Nat.le_of_ble_eq_true rfl)) dX2_fixed_136 ⟨Nat.le_of_ble_eq_true rfl, Nat.le_of_ble_eq_true rfl⟩) hS (fun q _ h => hFc q h) hFc (fun r_105 u t9 H1 locs ht hvm hw hB hz1 hk1 hS => ?_)
                        obtain ⟨hP1, hK1, hD1⟩ := hB
                        rw [ht] at hP1
                        obtain ⟨h_106, rfl⟩ := hw
                        have hK1 := va_K.moved hvm.symm hK1
                        obtain ⟨hP, hD⟩ := va_join (wr := [(a, .inl (cI, 256, .inl kf)), (b, .inl (cJ, 256, .inr (.inl vf)))]) (w1 := [(m0, .inr (2, [.int (m_f 1 0 2), .ref a, .ref b]))]) hP hD [0] [1, 2] rfl rfl (by decide) (by decide) hk1 hFc hP1 hD1
                        have hK := (hK.sub (tys' := [(cI, .int), (cJ, .long)]) [0, 1] rfl).app hK1
                        generalize H1 = H at hP hS ⊢
                        have hP : va_P (dC, dI) vwCl [(a, .inl (cI, 256, .inl kf)), (b, .inl (cJ, 256, .inr (.inl vf))), (m0, .inr (2, [.int (m_f 1 0 2), .ref a, .ref b]))] H := hP
                        have hD : va_D A [(a, .inl (cI, 256, .inl kf)), (b, .inl (cJ, 256, .inr (.inl vf))), (m0, .inr (2, [.int (m_f 1 0 2), .ref a, .ref b]))] := hD
                        have hK : va_K (dC, dI) vwCl [(cI, .int), (cJ, .long)] s := hK
                        refine W.widen (k := 0) (n := 0) (Nat.le_of_ble_eq_true rfl) (Nat.le_of_ble_eq_true rfl) ?_
                        obtain rfl : r_105 = 1 := h_106.trans (by decide)
                        have hP : va_P (dC, dI) vwCl [(a, .inl (cI, 256, .inl kf)), (b, .inl (cJ, 256, .inr (.inl vf))), (m0, .inr (2, [.int 2, .ref a, .ref b]))] H := hP
                        have hD : va_D A [(a, .inl (cI, 256, .inl kf)), (b, .inl (cJ, 256, .inr (.inl vf))), (m0, .inr (2, [.int 2, .ref a, .ref b]))] := hD
                        refine lv_pop hx hb dX2_fixed_139 rfl ?_
                        refine lv_lconst (v := 0) hx hb dX2_fixed_140 (by decide) ?_
                        have hP9 := hP.sub (ws' := [(m0, .inr (2, [.int 2, .ref a, .ref b])), (a, .inl (cI, 256, .inl kf)), (b, .inl (cJ, 256, .inr (.inl vf)))]) [2, 0, 1] rfl
                        have hD9 := hD.sub (ws' := [(m0, .inr (2, [.int 2, .ref a, .ref b])), (a, .inl (cI, 256, .inl kf)), (b, .inl (cJ, 256, .inr (.inl vf)))]) [2, 0, 1] (by decide) rfl
                        have hK9 := hK.sub (tys' := [(cI, .int), (cJ, .long)]) [0, 1] rfl
                        refine W.widen (k := 0) (n := 0) (Nat.le_of_ble_eq_true rfl) (Nat.le_of_ble_eq_true rfl) ?_
                        exact W.lret (v := 0) hx hb hr (fun t9 ht hW => ⟨⟨0, 2, rfl, ⟨by first | (simp [x_c, x_v, x_f, c_3, c_7, h_63, c_64, c_71, c_97, h_99, h_101, c_102, ev_103]; done) | (simp [x_c, x_v, x_f, ← ev_103, c_3, c_7, h_63, c_64, c_71, c_97, h_99, h_101, c_102]; done) | grind [x_c, x_v, x_f], by first | (simp [x_c, x_v, x_f, c_3, c_7, h_63, c_64, c_71, c_97, h_99, h_101, c_102, ev_103]; done) | (simp [x_c, x_v, x_f, ← ev_103, c_3, c_7, h_63, c_64, c_71, c_97, h_99, h_101, c_102]; done) | grind [x_c, x_v, x_f]⟩, by rw [ht]; exact hP9, va_K.moved hW.alike hK9, hD9⟩, hS.F ht⟩) hS.2.2 dX2_fixed_141
                      · exact absurd c_104 (by decide)
                    · simp only [lq_ne] at c_102
                      refine lv_lload hx hb dX2_fixed_119 (lv_at hl 0 rfl) ?_
                      have hP9 := hP.sub (ws' := [(m0, .inr (2, [.int 0, .ref a, .ref b])), (a, .inl (cI, 256, .inl kf)), (b, .inl (cJ, 256, .inr (.inl vf)))]) [0, 1, 2] rfl
                      have hD9 := hD.sub (ws' := [(m0, .inr (2, [.int 0, .ref a, .ref b])), (a, .inl (cI, 256, .inl kf)), (b, .inl (cJ, 256, .inr (.inl vf)))]) [0, 1, 2] (by decide) rfl
                      have hK9 := hK.sub (tys' := [(cI, .int), (cJ, .long)]) [0, 1] rfl
                      refine W.widen (k := 0) (n := 0) (Nat.le_of_ble_eq_true rfl) (Nat.le_of_ble_eq_true rfl) ?_
                      exact W.lret (v := r_98) hx hb hr (fun t9 ht hW => ⟨⟨r_98, 0, rfl, ⟨by first | (simp [x_c, x_v, x_f, c_3, c_7, h_63, c_64, c_71, c_97, h_99, h_101, c_102]; done) | (simp [x_c, x_v, x_f, c_3, c_7, h_63, c_64, c_71, c_97, h_99, h_101, c_102]; done) | grind [x_c, x_v, x_f], by first | (simp [x_c, x_v, x_f, c_3, c_7, h_63, c_64, c_71, c_97, h_99, h_101, c_102]; done) | (simp [x_c, x_v, x_f, c_3, c_7, h_63, c_64, c_71, c_97, h_99, h_101, c_102]; done) | grind [x_c, x_v, x_f]⟩, by rw [ht]; exact hP9, va_K.moved hW.alike hK9, hD9⟩, hS.F ht⟩) hS.2.2 dX2_fixed_121
                  · rw [h_96, b01] at c_97
                    refine lv_goto (tgt := 122) hx hb dX2_fixed_92 (by decide) ?_
                    refine lv_iinc (v := 2) (lv' := [(6, .int 2), (4, .long (-1000000000000000)), (0, .ref m0), (1, .int f), (2, .int t), (3, .int w)]) hx hb dX2_fixed_122 hl (k := 1) rfl (by decide) (by decide) rfl (fun ls hl => ?_)
                    refine lv_lload hx hb dX2_fixed_125 (lv_at hl 1 rfl) ?_
                    refine lv_lneg hx hb dX2_fixed_127 ?_
                    refine lv_topl (fun v_107 ev_107 => ?_)
                    refine lv_lstore (lv' := [(4, .long v_107), (6, .int 2), (0, .ref m0), (1, .int f), (2, .int t), (3, .int w)]) hx hb dX2_fixed_128 hl (by decide) rfl (fun ls hl => ?_)
                    refine lv_goto (tgt := 75) hx hb dX2_fixed_130 (by decide) ?_
                    refine lv_iload hx hb dX2_fixed_75 (lv_at hl 1 rfl) ?_
                    refine lv_iconst (v := 2) hx hb dX2_fixed_77 (by decide) ?_
                    refine lv_icmp_ge (tgt := 133) hx hb dX2_fixed_78 (by decide) (fun c_108 => ?_) (fun c_108 => ?_)
                    · refine lv_aload_n hx hb dX2_fixed_133 rfl (lv_at hl 2 rfl) ?_
                      refine lv_iconst (v := 1) hx hb dX2_fixed_134 (by decide) ?_
                      refine lv_iconst (v := 2) hx hb dX2_fixed_135 (by decide) ?_
                      have hPc := hP.sub (ws' := [(m0, .inr (2, [.int 0, .ref a, .ref b]))]) [0] rfl
                      have hDc := hD.sub (ws' := [(m0, .inr (2, [.int 0, .ref a, .ref b]))]) [0] (by decide) rfl
                      have hKc := hK.sub (tys' := []) [] rfl
                      have hFc := va_free (wc := [(m0, .inr (2, [.int 0, .ref a, .ref b]))]) hD hS hA [0] rfl
                      refine va_calli (va_runV (As := [.int 1, .int 2]) (rest := []) ⟨hx, hb, hml, hown, hts⟩ (qX2_fails l dC dI H.size m0 a b (0) (1) (2)) (cwV 2 hts gX2_fixed_X2_fails rfl rfl rfl (by decide +kernel) ⟨Nat.le_of_ble_eq_true rfl, Nat.le_of_ble_eq_true rfl⟩) ⟨fun a U g mk q => by obtain ⟨q0, q1, qP, qK, qD⟩ := q; exact ⟨q0, q1, qP, va_K.moved (u := U) (U := U.calling g mk a) (Vm.Alike.refl U.vm) qK, qD⟩, va_recv hKc hPc (ci := 2) (q0 := 0) rfl rfl, fun U hU hW => ⟨rfl, by rw [hU], by rw [hU]; exact hPc, va_K.moved hW.alike hKc, hDc.weaken (fun _ _ _ _ => trivial)⟩⟩ rfl rfl hl.1 rfl (lv_room (Nat.le_of_ble_eq_true rfl)) dX2_fixed_136 ⟨Nat.le_of_ble_eq_true rfl, Nat.le_of_ble_eq_true rfl⟩) hS (fun q _ h => hFc q h) hFc (fun r_109 u t9 H1 locs ht hvm hw hB hz1 hk1 hS => ?_)
                      obtain ⟨hP1, hK1, hD1⟩ := hB
                      rw [ht] at hP1
                      obtain ⟨h_110, rfl⟩ := hw
                      have hK1 := va_K.moved hvm.symm hK1
                      obtain ⟨hP, hD⟩ := va_join (wr := [(a, .inl (cI, 256, .inl kf)), (b, .inl (cJ, 256, .inr (.inl vf)))]) (w1 := [(m0, .inr (2, [.int (m_f 1 0 2), .ref a, .ref b]))]) hP hD [0] [1, 2] rfl rfl (by decide) (by decide) hk1 hFc hP1 hD1
                      have hK := (hK.sub (tys' := [(cI, .int), (cJ, .long)]) [0, 1] rfl).app hK1
                      generalize H1 = H at hP hS ⊢
                      have hP : va_P (dC, dI) vwCl [(a, .inl (cI, 256, .inl kf)), (b, .inl (cJ, 256, .inr (.inl vf))), (m0, .inr (2, [.int (m_f 1 0 2), .ref a, .ref b]))] H := hP
                      have hD : va_D A [(a, .inl (cI, 256, .inl kf)), (b, .inl (cJ, 256, .inr (.inl vf))), (m0, .inr (2, [.int (m_f 1 0 2), .ref a, .ref b]))] := hD
                      have hK : va_K (dC, dI) vwCl [(cI, .int), (cJ, .long)] s := hK
                      refine W.widen (k := 0) (n := 0) (Nat.le_of_ble_eq_true rfl) (Nat.le_of_ble_eq_true rfl) ?_
                      obtain rfl : r_109 = 1 := h_110.trans (by decide)
                      have hP : va_P (dC, dI) vwCl [(a, .inl (cI, 256, .inl kf)), (b, .inl (cJ, 256, .inr (.inl vf))), (m0, .inr (2, [.int 2, .ref a, .ref b]))] H := hP
                      have hD : va_D A [(a, .inl (cI, 256, .inl kf)), (b, .inl (cJ, 256, .inr (.inl vf))), (m0, .inr (2, [.int 2, .ref a, .ref b]))] := hD
                      refine lv_pop hx hb dX2_fixed_139 rfl ?_
                      refine lv_lconst (v := 0) hx hb dX2_fixed_140 (by decide) ?_
                      have hP9 := hP.sub (ws' := [(m0, .inr (2, [.int 2, .ref a, .ref b])), (a, .inl (cI, 256, .inl kf)), (b, .inl (cJ, 256, .inr (.inl vf)))]) [2, 0, 1] rfl
                      have hD9 := hD.sub (ws' := [(m0, .inr (2, [.int 2, .ref a, .ref b])), (a, .inl (cI, 256, .inl kf)), (b, .inl (cJ, 256, .inr (.inl vf)))]) [2, 0, 1] (by decide) rfl
                      have hK9 := hK.sub (tys' := [(cI, .int), (cJ, .long)]) [0, 1] rfl
                      refine W.widen (k := 0) (n := 0) (Nat.le_of_ble_eq_true rfl) (Nat.le_of_ble_eq_true rfl) ?_
                      exact W.lret (v := 0) hx hb hr (fun t9 ht hW => ⟨⟨0, 2, rfl, ⟨by first | (simp [x_c, x_v, x_f, c_3, c_7, h_63, c_64, c_71, c_97, ev_107]; done) | (simp [x_c, x_v, x_f, ← ev_107, c_3, c_7, h_63, c_64, c_71, c_97]; done) | grind [x_c, x_v, x_f], by first | (simp [x_c, x_v, x_f, c_3, c_7, h_63, c_64, c_71, c_97, ev_107]; done) | (simp [x_c, x_v, x_f, ← ev_107, c_3, c_7, h_63, c_64, c_71, c_97]; done) | grind [x_c, x_v, x_f]⟩, by rw [ht]; exact hP9, va_K.moved hW.alike hK9, hD9⟩, hS.F ht⟩) hS.2.2 dX2_fixed_141
                    · exact absurd c_108 (by decide)
          · exact absurd c_67 (by decide)
        · simp only [lq_ne] at c_64
          refine lv_iconst (v := 1) hx hb dX2_fixed_58 (by decide) ?_
          refine lv_goto (tgt := 63) hx hb dX2_fixed_59 (by decide) ?_
          refine lv_iconst (v := 2) hx hb dX2_fixed_63 (by decide) ?_
          have hPc := hP.sub (ws' := [(m0, .inr (2, [.int 0, .ref a, .ref b]))]) [0] rfl
          have hDc := hD.sub (ws' := [(m0, .inr (2, [.int 0, .ref a, .ref b]))]) [0] (by decide) rfl
          have hKc := hK.sub (tys' := []) [] rfl
          have hFc := va_free (wc := [(m0, .inr (2, [.int 0, .ref a, .ref b]))]) hD hS hA [0] rfl
          refine va_calli (va_runV (As := [.int 1, .int 2]) (rest := []) ⟨hx, hb, hml, hown, hts⟩ (qX2_fails l dC dI H.size m0 a b (0) (1) (2)) (cwV 2 hts gX2_fixed_X2_fails rfl rfl rfl (by decide +kernel) ⟨Nat.le_of_ble_eq_true rfl, Nat.le_of_ble_eq_true rfl⟩) ⟨fun a U g mk q => by obtain ⟨q0, q1, qP, qK, qD⟩ := q; exact ⟨q0, q1, qP, va_K.moved (u := U) (U := U.calling g mk a) (Vm.Alike.refl U.vm) qK, qD⟩, va_recv hKc hPc (ci := 2) (q0 := 0) rfl rfl, fun U hU hW => ⟨rfl, by rw [hU], by rw [hU]; exact hPc, va_K.moved hW.alike hKc, hDc.weaken (fun _ _ _ _ => trivial)⟩⟩ rfl rfl hl.1 rfl (lv_room (Nat.le_of_ble_eq_true rfl)) dX2_fixed_64 ⟨Nat.le_of_ble_eq_true rfl, Nat.le_of_ble_eq_true rfl⟩) hS (fun q _ h => hFc q h) hFc (fun r_111 u t9 H1 locs ht hvm hw hB hz1 hk1 hS => ?_)
          obtain ⟨hP1, hK1, hD1⟩ := hB
          rw [ht] at hP1
          obtain ⟨h_112, rfl⟩ := hw
          have hK1 := va_K.moved hvm.symm hK1
          obtain ⟨hP, hD⟩ := va_join (wr := [(a, .inl (cI, 256, .inl kf)), (b, .inl (cJ, 256, .inr (.inl vf)))]) (w1 := [(m0, .inr (2, [.int (m_f 1 0 2), .ref a, .ref b]))]) hP hD [0] [1, 2] rfl rfl (by decide) (by decide) hk1 hFc hP1 hD1
          have hK := (hK.sub (tys' := [(cI, .int), (cJ, .long)]) [0, 1] rfl).app hK1
          generalize H1 = H at hP hS ⊢
          have hP : va_P (dC, dI) vwCl [(a, .inl (cI, 256, .inl kf)), (b, .inl (cJ, 256, .inr (.inl vf))), (m0, .inr (2, [.int (m_f 1 0 2), .ref a, .ref b]))] H := hP
          have hD : va_D A [(a, .inl (cI, 256, .inl kf)), (b, .inl (cJ, 256, .inr (.inl vf))), (m0, .inr (2, [.int (m_f 1 0 2), .ref a, .ref b]))] := hD
          have hK : va_K (dC, dI) vwCl [(cI, .int), (cJ, .long)] s := hK
          refine W.widen (k := 0) (n := 0) (Nat.le_of_ble_eq_true rfl) (Nat.le_of_ble_eq_true rfl) ?_
          obtain rfl : r_111 = 1 := h_112.trans (by decide)
          have hP : va_P (dC, dI) vwCl [(a, .inl (cI, 256, .inl kf)), (b, .inl (cJ, 256, .inr (.inl vf))), (m0, .inr (2, [.int 2, .ref a, .ref b]))] H := hP
          have hD : va_D A [(a, .inl (cI, 256, .inl kf)), (b, .inl (cJ, 256, .inr (.inl vf))), (m0, .inr (2, [.int 2, .ref a, .ref b]))] := hD
          refine lv_if_eq (tgt := 72) hx hb dX2_fixed_67 (by decide) (fun c_113 => ?_) (fun c_113 => ?_)
          · exact absurd c_113 (by decide)
          · refine lv_lconst (v := 0) hx hb dX2_fixed_70 (by decide) ?_
            have hP9 := hP.sub (ws' := [(m0, .inr (2, [.int 2, .ref a, .ref b])), (a, .inl (cI, 256, .inl kf)), (b, .inl (cJ, 256, .inr (.inl vf)))]) [2, 0, 1] rfl
            have hD9 := hD.sub (ws' := [(m0, .inr (2, [.int 2, .ref a, .ref b])), (a, .inl (cI, 256, .inl kf)), (b, .inl (cJ, 256, .inr (.inl vf)))]) [2, 0, 1] (by decide) rfl
            have hK9 := hK.sub (tys' := [(cI, .int), (cJ, .long)]) [0, 1] rfl
            refine W.widen (k := 0) (n := 0) (Nat.le_of_ble_eq_true rfl) (Nat.le_of_ble_eq_true rfl) ?_
            exact W.lret (v := 0) hx hb hr (fun t9 ht hW => ⟨⟨0, 2, rfl, ⟨by first | (simp [x_c, x_v, x_f, c_3, c_7, h_63, c_64]; done) | (simp [x_c, x_v, x_f, c_3, c_7, h_63, c_64]; done) | grind [x_c, x_v, x_f], by first | (simp [x_c, x_v, x_f, c_3, c_7, h_63, c_64]; done) | (simp [x_c, x_v, x_f, c_3, c_7, h_63, c_64]; done) | grind [x_c, x_v, x_f]⟩, by rw [ht]; exact hP9, va_K.moved hW.alike hK9, hD9⟩, hS.F ht⟩) hS.2.2 dX2_fixed_71
    · exact absurd c_6 (by decide)
  · rw [h_2, b01] at c_3
    refine lv_iconst (v := 1) hx hb dX2_fixed_14 (by decide) ?_
    refine lv_goto (tgt := 19) hx hb dX2_fixed_15 (by decide) ?_
    refine lv_iconst (v := 1) hx hb dX2_fixed_19 (by decide) ?_
    have hPc := hP.sub (ws' := [(m0, .inr (2, [.int 0, .ref a, .ref b]))]) [0] rfl
    have hDc := hD.sub (ws' := [(m0, .inr (2, [.int 0, .ref a, .ref b]))]) [0] (by decide) rfl
    have hKc := hK.sub (tys' := []) [] rfl
    have hFc := va_free (wc := [(m0, .inr (2, [.int 0, .ref a, .ref b]))]) hD hS hA [0] rfl
    refine va_calli (va_runV (As := [.int 1, .int 1]) (rest := []) ⟨hx, hb, hml, hown, hts⟩ (qX2_fails l dC dI H.size m0 a b (0) (1) (1)) (cwV 2 hts gX2_fixed_X2_fails rfl rfl rfl (by decide +kernel) ⟨Nat.le_of_ble_eq_true rfl, Nat.le_of_ble_eq_true rfl⟩) ⟨fun a U g mk q => by obtain ⟨q0, q1, qP, qK, qD⟩ := q; exact ⟨q0, q1, qP, va_K.moved (u := U) (U := U.calling g mk a) (Vm.Alike.refl U.vm) qK, qD⟩, va_recv hKc hPc (ci := 2) (q0 := 0) rfl rfl, fun U hU hW => ⟨rfl, by rw [hU], by rw [hU]; exact hPc, va_K.moved hW.alike hKc, hDc.weaken (fun _ _ _ _ => trivial)⟩⟩ rfl rfl hl.1 rfl (lv_room (Nat.le_of_ble_eq_true rfl)) dX2_fixed_20 ⟨Nat.le_of_ble_eq_true rfl, Nat.le_of_ble_eq_true rfl⟩) hS (fun q _ h => hFc q h) hFc (fun r_114 u t9 H1 locs ht hvm hw hB hz1 hk1 hS => ?_)
    obtain ⟨hP1, hK1, hD1⟩ := hB
    rw [ht] at hP1
    obtain ⟨h_115, rfl⟩ := hw
    have hK1 := va_K.moved hvm.symm hK1
    obtain ⟨hP, hD⟩ := va_join (wr := [(a, .inl (cI, 256, .inl kf)), (b, .inl (cJ, 256, .inr (.inl vf)))]) (w1 := [(m0, .inr (2, [.int (m_f 1 0 1), .ref a, .ref b]))]) hP hD [0] [1, 2] rfl rfl (by decide) (by decide) hk1 hFc hP1 hD1
    have hK := (hK.sub (tys' := [(cI, .int), (cJ, .long)]) [0, 1] rfl).app hK1
    generalize H1 = H at hP hS ⊢
    have hP : va_P (dC, dI) vwCl [(a, .inl (cI, 256, .inl kf)), (b, .inl (cJ, 256, .inr (.inl vf))), (m0, .inr (2, [.int (m_f 1 0 1), .ref a, .ref b]))] H := hP
    have hD : va_D A [(a, .inl (cI, 256, .inl kf)), (b, .inl (cJ, 256, .inr (.inl vf))), (m0, .inr (2, [.int (m_f 1 0 1), .ref a, .ref b]))] := hD
    have hK : va_K (dC, dI) vwCl [(cI, .int), (cJ, .long)] s := hK
    refine W.widen (k := 0) (n := 0) (Nat.le_of_ble_eq_true rfl) (Nat.le_of_ble_eq_true rfl) ?_
    obtain rfl : r_114 = 1 := h_115.trans (by decide)
    have hP : va_P (dC, dI) vwCl [(a, .inl (cI, 256, .inl kf)), (b, .inl (cJ, 256, .inr (.inl vf))), (m0, .inr (2, [.int 1, .ref a, .ref b]))] H := hP
    have hD : va_D A [(a, .inl (cI, 256, .inl kf)), (b, .inl (cJ, 256, .inr (.inl vf))), (m0, .inr (2, [.int 1, .ref a, .ref b]))] := hD
    refine lv_if_eq (tgt := 28) hx hb dX2_fixed_23 (by decide) (fun c_116 => ?_) (fun c_116 => ?_)
    · exact absurd c_116 (by decide)
    · refine lv_lconst (v := 0) hx hb dX2_fixed_26 (by decide) ?_
      have hP9 := hP.sub (ws' := [(m0, .inr (2, [.int 1, .ref a, .ref b])), (a, .inl (cI, 256, .inl kf)), (b, .inl (cJ, 256, .inr (.inl vf)))]) [2, 0, 1] rfl
      have hD9 := hD.sub (ws' := [(m0, .inr (2, [.int 1, .ref a, .ref b])), (a, .inl (cI, 256, .inl kf)), (b, .inl (cJ, 256, .inr (.inl vf)))]) [2, 0, 1] (by decide) rfl
      have hK9 := hK.sub (tys' := [(cI, .int), (cJ, .long)]) [0, 1] rfl
      refine W.widen (k := 0) (n := 0) (Nat.le_of_ble_eq_true rfl) (Nat.le_of_ble_eq_true rfl) ?_
      exact W.lret (v := 0) hx hb hr (fun t9 ht hW => ⟨⟨0, 1, rfl, ⟨by first | (simp [x_c, x_v, x_f, c_3]; done) | (simp [x_c, x_v, x_f, c_3]; done) | grind [x_c, x_v, x_f], by first | (simp [x_c, x_v, x_f, c_3]; done) | (simp [x_c, x_v, x_f, c_3]; done) | grind [x_c, x_v, x_f]⟩, by rw [ht]; exact hP9, va_K.moved hW.alike hK9, hD9⟩, hS.F ht⟩) hS.2.2 dX2_fixed_27
