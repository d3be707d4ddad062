/-! ===== FoldRowModel, the reference: its methods, one contract each ===== -/
set_option maxRecDepth 20000 in
theorem kX2_fill_0 : ∀ w ∈ wsX20, w ∈ wsX2_fill := by decide +kernel
set_option maxRecDepth 20000 in
theorem kX2_fill_1 : (.fieldLink RX2 17 "FoldRowModel" "err" "I" : Cond) ∈ wsX2_fill := by decide +kernel
set_option maxRecDepth 20000 in
theorem kX2_fill_2 : (.fieldLink RX2 9 "FoldRowModel" "kinds" "[I" : Cond) ∈ wsX2_fill := by decide +kernel
set_option maxRecDepth 20000 in
theorem kX2_fill_3 : (.fieldLink RX2 13 "FoldRowModel" "numbers" "[J" : Cond) ∈ wsX2_fill := by decide +kernel
set_option maxHeartbeats 4000000 in
set_option maxRecDepth 100000 in
theorem qX2_fill (l : Launch) (dC : Nat → ClassId) (dI : Nat → Nat → Nat) (sz : Nat) (m0 a b : Nat) (cI cJ : ClassId) (er : Int32) (kf : Nat → Int32) (vf : Nat → Int64) (f t kd : Int32) (v : Int64)  : Met l yX2_fill wsX2_fill ({ frames := 2, cells := 0, slots := 0, locals := 60 }) (va_Pc [.ref m0, .int f, .int t, .int kd, .long v] (fun U => U.heap.size = sz ∧ va_P (dC, dI) vwCl [(m0, .inr (2, [.int er, .ref a, .ref b])), (a, .inl (cI, 256, .inl kf)), (b, .inl (cJ, 256, .inr (.inl vf)))] U.heap ∧ va_K (dC, dI) vwCl [(cI, .int), (cJ, .long)] U ∧ va_D (fun _ => True) [(m0, .inr (2, [.int er, .ref a, .ref b])), (a, .inl (cI, 256, .inl kf)), (b, .inl (cJ, 256, .inr (.inl vf)))])) (va_Qv (fun (u : Int32 × (Nat → Int32) × (Nat → Int64)) => u = (f_c f t kd v, f_k kf f t kd v, f_v vf f t kd v)) (fun (u : Int32 × (Nat → Int32) × (Nat → Int64)) (t9 : State) => va_P (dC, dI) vwCl [(m0, .inr (2, [.int u.1, .ref a, .ref b])), (a, .inl (cI, 256, .inl u.2.1)), (b, .inl (cJ, 256, .inr (.inl u.2.2)))] t9.heap ∧ va_K (dC, dI) vwCl [(cI, .int), (cJ, .long)] t9 ∧ va_D (va_A [(m0, .inr (2, [.int er, .ref a, .ref b])), (a, .inl (cI, 256, .inl kf)), (b, .inl (cJ, 256, .inr (.inl vf)))] sz) [(m0, .inr (2, [.int u.1, .ref a, .ref b])), (a, .inl (cI, 256, .inl u.2.1)), (b, .inl (cJ, 256, .inr (.inl u.2.2)))]) (va_A [(m0, .inr (2, [.int er, .ref a, .ref b])), (a, .inl (cI, 256, .inl kf)), (b, .inl (cJ, 256, .inr (.inl vf)))] sz)) 0 0 (va_A [(m0, .inr (2, [.int er, .ref a, .ref b])), (a, .inl (cI, 256, .inl kf)), (b, .inl (cJ, 256, .inr (.inl vf)))] sz) := by
  refine Met.ofW (cc := cX2_fill) (maxL := 7) (ret := none) (by decide) rfl ?_
  intro p e s m args below meth c s₁ B hml hv
  obtain ⟨rfl, hsz, hP, hK, hD0⟩ := hv
  have hx := B.exec
  have hb := B.bytes
  have hr := B.returns
  have hts := atoms_spec (ws := wsX2_fill) B.pre
  have hown : s.vm.findClass RX2 = some m.cls := findClass_of_methodNamed B.named
  have hlocks := B.notSynchronized
  subst hsz
  have hD := hD0.self (sz := s.heap.size)
  generalize hAe : va_A [(m0, .inr (2, [.int er, .ref a, .ref b])), (a, .inl (cI, 256, .inl kf)), (b, .inl (cJ, 256, .inr (.inl vf)))] s.heap.size = A at hD ⊢
  have hA : ∀ q : Nat, s.heap.size ≤ q → A q := fun q h => by rw [← hAe]; exact Or.inr h
  have hS : va_S A s.heap s.heap [] := va_S.rf
  have hP : va_P (dC, dI) vwCl [(m0, .inr (2, [.int er, .ref a, .ref b])), (a, .inl (cI, 256, .inl kf)), (b, .inl (cJ, 256, .inr (.inl vf)))] s.heap := hP
  have hl := lv_entry ([.ref m0, .int f, .int t, .int kd, .long v]) (n := 7) (Nat.le_of_ble_eq_true rfl)
  rw [lg_entry_eq]
  generalize (lg_sl ([.ref m0, .int f, .int t, .int kd, .long v]) ++ List.replicate (7 - (lg_sl ([.ref m0, .int f, .int t, .int kd, .long v])).length) Slot.unset).toArray = ls at hl ⊢
  have hl : lv_has ls 7 [(0, .ref m0), (1, .int f), (2, .int t), (3, .int kd), (4, .long v)] := hl
  refine lv_aload_n hx hb dX2_fill_0 rfl (lv_at hl 0 rfl) ?_
  refine lv_iconst (v := 0) hx hb dX2_fill_1 (by decide) ?_
  refine va_put (D := (dC, dI)) (ci := 2) (v := .int 0) (ty := .int) (C := RX2) (T := TX2) (N := 3) hx hb hts kX2_fill_0 tyX2 tyX2_ok nmX2 hown hK hP hD hS 0 rfl rfl 0 (by decide) (hts (.fieldLink RX2 17 "FoldRowModel" "err" "I") kX2_fill_1) (fun _ h9 => h9) rfl (by decide +kernel) rfl rfl (Nat.le_of_ble_eq_true rfl) dX2_fill_2 (fun H locs hP hD hS => ?_)
  have hP : va_P (dC, dI) vwCl [(m0, .inr (2, [.int 0, .ref a, .ref b])), (a, .inl (cI, 256, .inl kf)), (b, .inl (cJ, 256, .inr (.inl vf)))] H := hP
  have hD : va_D A [(m0, .inr (2, [.int 0, .ref a, .ref b])), (a, .inl (cI, 256, .inl kf)), (b, .inl (cJ, 256, .inr (.inl vf)))] := hD
  refine lv_aload_n hx hb dX2_fill_5 rfl (lv_at hl 0 rfl) ?_
  refine lv_iload_n hx hb dX2_fill_6 rfl (lv_at hl 3 rfl) ?_
  refine lv_lload hx hb dX2_fill_7 (lv_at hl 4 rfl) ?_
  have hPc := hP.sub (ws' := []) [] rfl
  have hDc := hD.sub (ws' := []) [] (by decide) rfl
  have hKc := hK.sub (tys' := []) [] rfl
  have hFc := va_free (wc := []) hD hS hA [] rfl
  refine va_calli (va_runS (As := [.int kd, .long v]) (rest := [.ref m0]) ⟨hx, hb, hml, hown, hts⟩ (qX2_isRule l dC dI H.size kd v) (va_cwS 2 hts gX2_fill_X2_isRule rfl rfl rfl (by decide +kernel) ⟨Nat.le_of_ble_eq_true rfl, Nat.le_of_ble_eq_true rfl⟩) ⟨fun a U g mk q => by obtain ⟨q0, q1, qP, qK, qD⟩ := q; exact ⟨q0, q1, qP, va_K.moved (u := U) (U := U.calling g mk a) (Vm.Alike.refl U.vm) qK, qD⟩, fun U hU hW => ⟨rfl, by rw [hU], by rw [hU]; exact hPc, va_K.moved hW.alike hKc, hDc.weaken (fun _ _ _ _ => trivial)⟩⟩ rfl rfl hl.1 rfl (lv_room (Nat.le_of_ble_eq_true rfl)) dX2_fill_9 ⟨Nat.le_of_ble_eq_true rfl, Nat.le_of_ble_eq_true rfl⟩) hS (fun q _ h => hFc q h) hFc (fun r_1 u t9 H1 locs ht hvm hw hB hz1 hk1 hS => ?_)
  obtain ⟨hP1, hK1, hD1⟩ := hB
  rw [ht] at hP1
  have h_2 := hw
  have hK1 := va_K.moved hvm.symm hK1
  obtain ⟨hP, hD⟩ := va_join (wr := [(m0, .inr (2, [.int 0, .ref a, .ref b])), (a, .inl (cI, 256, .inl kf)), (b, .inl (cJ, 256, .inr (.inl vf)))]) (w1 := []) hP hD [] [0, 1, 2] rfl rfl (by decide) (by decide) hk1 hFc hP1 hD1
  have hK := (hK.sub (tys' := [(cI, .int), (cJ, .long)]) [0, 1] rfl).app hK1
  generalize H1 = H at hP hS ⊢
  have hP : va_P (dC, dI) vwCl [(m0, .inr (2, [.int 0, .ref a, .ref b])), (a, .inl (cI, 256, .inl kf)), (b, .inl (cJ, 256, .inr (.inl vf)))] H := hP
  have hD : va_D A [(m0, .inr (2, [.int 0, .ref a, .ref b])), (a, .inl (cI, 256, .inl kf)), (b, .inl (cJ, 256, .inr (.inl vf)))] := hD
  have hK : va_K (dC, dI) vwCl [(cI, .int), (cJ, .long)] s := hK
  refine W.widen (k := 0) (n := 0) (Nat.le_of_ble_eq_true rfl) (Nat.le_of_ble_eq_true rfl) ?_
  refine lv_if_ne (tgt := 19) hx hb dX2_fill_12 (by decide) (fun c_3 => ?_) (fun c_3 => ?_)
  · rw [h_2, b01] at c_3
    have c_3 := Classical.not_not.mp c_3
    refine lv_iconst (v := 0) hx hb dX2_fill_19 (by decide) ?_
    refine lv_iconst (v := 1) hx hb dX2_fill_20 (by decide) ?_
    have hPc := hP.sub (ws' := [(m0, .inr (2, [.int 0, .ref a, .ref b]))]) [0] rfl
    have hDc := hD.sub (ws' := [(m0, .inr (2, [.int 0, .ref a, .ref b]))]) [0] (by decide) rfl
    have hKc := hK.sub (tys' := []) [] rfl
    have hFc := va_free (wc := [(m0, .inr (2, [.int 0, .ref a, .ref b]))]) hD hS hA [0] rfl
    refine va_calli (va_runV (As := [.int 0, .int 1]) (rest := []) ⟨hx, hb, hml, hown, hts⟩ (qX2_fails l dC dI H.size m0 a b (0) (0) (1)) (cwV 2 hts gX2_fill_X2_fails rfl rfl rfl (by decide +kernel) ⟨Nat.le_of_ble_eq_true rfl, Nat.le_of_ble_eq_true rfl⟩) ⟨fun a U g mk q => by obtain ⟨q0, q1, qP, qK, qD⟩ := q; exact ⟨q0, q1, qP, va_K.moved (u := U) (U := U.calling g mk a) (Vm.Alike.refl U.vm) qK, qD⟩, va_recv hKc hPc (ci := 2) (q0 := 0) rfl rfl, fun U hU hW => ⟨rfl, by rw [hU], by rw [hU]; exact hPc, va_K.moved hW.alike hKc, hDc.weaken (fun _ _ _ _ => trivial)⟩⟩ rfl rfl hl.1 rfl (lv_room (Nat.le_of_ble_eq_true rfl)) dX2_fill_21 ⟨Nat.le_of_ble_eq_true rfl, Nat.le_of_ble_eq_true rfl⟩) hS (fun q _ h => hFc q h) hFc (fun r_4 u t9 H1 locs ht hvm hw hB hz1 hk1 hS => ?_)
    obtain ⟨hP1, hK1, hD1⟩ := hB
    rw [ht] at hP1
    obtain ⟨h_5, rfl⟩ := hw
    have hK1 := va_K.moved hvm.symm hK1
    obtain ⟨hP, hD⟩ := va_join (wr := [(a, .inl (cI, 256, .inl kf)), (b, .inl (cJ, 256, .inr (.inl vf)))]) (w1 := [(m0, .inr (2, [.int (m_f 0 0 1), .ref a, .ref b]))]) hP hD [0] [1, 2] rfl rfl (by decide) (by decide) hk1 hFc hP1 hD1
    have hK := (hK.sub (tys' := [(cI, .int), (cJ, .long)]) [0, 1] rfl).app hK1
    generalize H1 = H at hP hS ⊢
    have hP : va_P (dC, dI) vwCl [(a, .inl (cI, 256, .inl kf)), (b, .inl (cJ, 256, .inr (.inl vf))), (m0, .inr (2, [.int (m_f 0 0 1), .ref a, .ref b]))] H := hP
    have hD : va_D A [(a, .inl (cI, 256, .inl kf)), (b, .inl (cJ, 256, .inr (.inl vf))), (m0, .inr (2, [.int (m_f 0 0 1), .ref a, .ref b]))] := hD
    have hK : va_K (dC, dI) vwCl [(cI, .int), (cJ, .long)] s := hK
    refine W.widen (k := 0) (n := 0) (Nat.le_of_ble_eq_true rfl) (Nat.le_of_ble_eq_true rfl) ?_
    obtain rfl : r_4 = 0 := h_5.trans (by decide)
    have hP : va_P (dC, dI) vwCl [(a, .inl (cI, 256, .inl kf)), (b, .inl (cJ, 256, .inr (.inl vf))), (m0, .inr (2, [.int 0, .ref a, .ref b]))] H := hP
    have hD : va_D A [(a, .inl (cI, 256, .inl kf)), (b, .inl (cJ, 256, .inr (.inl vf))), (m0, .inr (2, [.int 0, .ref a, .ref b]))] := hD
    refine lv_if_ne (tgt := 48) hx hb dX2_fill_24 (by decide) (fun c_6 => ?_) (fun c_6 => ?_)
    · exact absurd c_6 (by decide)
    · refine lv_aload_n hx hb dX2_fill_27 rfl (lv_at hl 0 rfl) ?_
      refine lv_iload_n hx hb dX2_fill_28 rfl (lv_at hl 1 rfl) ?_
      refine lv_iload_n hx hb dX2_fill_29 rfl (lv_at hl 2 rfl) ?_
      have hPc := hP.sub (ws' := []) [] rfl
      have hDc := hD.sub (ws' := []) [] (by decide) rfl
      have hKc := hK.sub (tys' := []) [] rfl
      have hFc := va_free (wc := []) hD hS hA [] rfl
      refine va_calli (va_runS (As := [.int f, .int t]) (rest := [.ref m0]) ⟨hx, hb, hml, hown, hts⟩ (qX2_isPart l dC dI H.size f t) (va_cwS 2 hts gX2_fill_X2_isPart rfl rfl rfl (by decide +kernel) ⟨Nat.le_of_ble_eq_true rfl, Nat.le_of_ble_eq_true rfl⟩) ⟨fun a U g mk q => by obtain ⟨q0, q1, qP, qK, qD⟩ := q; exact ⟨q0, q1, qP, va_K.moved (u := U) (U := U.calling g mk a) (Vm.Alike.refl U.vm) qK, qD⟩, fun U hU hW => ⟨rfl, by rw [hU], by rw [hU]; exact hPc, va_K.moved hW.alike hKc, hDc.weaken (fun _ _ _ _ => trivial)⟩⟩ rfl rfl hl.1 rfl (lv_room (Nat.le_of_ble_eq_true rfl)) dX2_fill_30 ⟨Nat.le_of_ble_eq_true rfl, Nat.le_of_ble_eq_true rfl⟩) hS (fun q _ h => hFc q h) hFc (fun r_7 u t9 H1 locs ht hvm hw hB hz1 hk1 hS => ?_)
      obtain ⟨hP1, hK1, hD1⟩ := hB
      rw [ht] at hP1
      have h_8 := hw
      have hK1 := va_K.moved hvm.symm hK1
      obtain ⟨hP, hD⟩ := va_join (wr := [(a, .inl (cI, 256, .inl kf)), (b, .inl (cJ, 256, .inr (.inl vf))), (m0, .inr (2, [.int 0, .ref a, .ref b]))]) (w1 := []) hP hD [] [0, 1, 2] rfl rfl (by decide) (by decide) hk1 hFc hP1 hD1
      have hK := (hK.sub (tys' := [(cI, .int), (cJ, .long)]) [0, 1] rfl).app hK1
      generalize H1 = H at hP hS ⊢
      have hP : va_P (dC, dI) vwCl [(a, .inl (cI, 256, .inl kf)), (b, .inl (cJ, 256, .inr (.inl vf))), (m0, .inr (2, [.int 0, .ref a, .ref b]))] H := hP
      have hD : va_D A [(a, .inl (cI, 256, .inl kf)), (b, .inl (cJ, 256, .inr (.inl vf))), (m0, .inr (2, [.int 0, .ref a, .ref b]))] := hD
      have hK : va_K (dC, dI) vwCl [(cI, .int), (cJ, .long)] s := hK
      refine W.widen (k := 0) (n := 0) (Nat.le_of_ble_eq_true rfl) (Nat.le_of_ble_eq_true rfl) ?_
      refine lv_if_ne (tgt := 40) hx hb dX2_fill_33 (by decide) (fun c_9 => ?_) (fun c_9 => ?_)
      · rw [h_8, b01] at c_9
        have c_9 := Classical.not_not.mp c_9
        refine lv_iconst (v := 0) hx hb dX2_fill_40 (by decide) ?_
        refine lv_iconst (v := 2) hx hb dX2_fill_41 (by decide) ?_
        have hPc := hP.sub (ws' := [(m0, .inr (2, [.int 0, .ref a, .ref b]))]) [2] rfl
        have hDc := hD.sub (ws' := [(m0, .inr (2, [.int 0, .ref a, .ref b]))]) [2] (by decide) rfl
        have hKc := hK.sub (tys' := []) [] rfl
        have hFc := va_free (wc := [(m0, .inr (2, [.int 0, .ref a, .ref b]))]) hD hS hA [2] rfl
        refine va_calli (va_runV (As := [.int 0, .int 2]) (rest := []) ⟨hx, hb, hml, hown, hts⟩ (qX2_fails l dC dI H.size m0 a b (0) (0) (2)) (cwV 2 hts gX2_fill_X2_fails rfl rfl rfl (by decide +kernel) ⟨Nat.le_of_ble_eq_true rfl, Nat.le_of_ble_eq_true rfl⟩) ⟨fun a U g mk q => by obtain ⟨q0, q1, qP, qK, qD⟩ := q; exact ⟨q0, q1, qP, va_K.moved (u := U) (U := U.calling g mk a) (Vm.Alike.refl U.vm) qK, qD⟩, va_recv hKc hPc (ci := 2) (q0 := 0) rfl rfl, fun U hU hW => ⟨rfl, by rw [hU], by rw [hU]; exact hPc, va_K.moved hW.alike hKc, hDc.weaken (fun _ _ _ _ => trivial)⟩⟩ rfl rfl hl.1 rfl (lv_room (Nat.le_of_ble_eq_true rfl)) dX2_fill_42 ⟨Nat.le_of_ble_eq_true rfl, Nat.le_of_ble_eq_true rfl⟩) hS (fun q _ h => hFc q h) hFc (fun r_10 u t9 H1 locs ht hvm hw hB hz1 hk1 hS => ?_)
        obtain ⟨hP1, hK1, hD1⟩ := hB
        rw [ht] at hP1
        obtain ⟨h_11, rfl⟩ := hw
        have hK1 := va_K.moved hvm.symm hK1
        obtain ⟨hP, hD⟩ := va_join (wr := [(a, .inl (cI, 256, .inl kf)), (b, .inl (cJ, 256, .inr (.inl vf)))]) (w1 := [(m0, .inr (2, [.int (m_f 0 0 2), .ref a, .ref b]))]) hP hD [2] [0, 1] rfl rfl (by decide) (by decide) hk1 hFc hP1 hD1
        have hK := (hK.sub (tys' := [(cI, .int), (cJ, .long)]) [0, 1] rfl).app hK1
        generalize H1 = H at hP hS ⊢
        have hP : va_P (dC, dI) vwCl [(a, .inl (cI, 256, .inl kf)), (b, .inl (cJ, 256, .inr (.inl vf))), (m0, .inr (2, [.int (m_f 0 0 2), .ref a, .ref b]))] H := hP
        have hD : va_D A [(a, .inl (cI, 256, .inl kf)), (b, .inl (cJ, 256, .inr (.inl vf))), (m0, .inr (2, [.int (m_f 0 0 2), .ref a, .ref b]))] := hD
        have hK : va_K (dC, dI) vwCl [(cI, .int), (cJ, .long)] s := hK
        refine W.widen (k := 0) (n := 0) (Nat.le_of_ble_eq_true rfl) (Nat.le_of_ble_eq_true rfl) ?_
        obtain rfl : r_10 = 0 := h_11.trans (by decide)
        have hP : va_P (dC, dI) vwCl [(a, .inl (cI, 256, .inl kf)), (b, .inl (cJ, 256, .inr (.inl vf))), (m0, .inr (2, [.int 0, .ref a, .ref b]))] H := hP
        have hD : va_D A [(a, .inl (cI, 256, .inl kf)), (b, .inl (cJ, 256, .inr (.inl vf))), (m0, .inr (2, [.int 0, .ref a, .ref b]))] := hD
        refine lv_if_eq (tgt := 49) hx hb dX2_fill_45 (by decide) (fun c_12 => ?_) (fun c_12 => ?_)
        · refine lv_iload_n hx hb dX2_fill_49 rfl (lv_at hl 1 rfl) ?_
          refine lv_istore (lv' := [(6, .int f), (0, .ref m0), (1, .int f), (2, .int t), (3, .int kd), (4, .long v)]) hx hb dX2_fill_50 hl (by decide) rfl (fun ls hl => ?_)
          obtain ⟨a9, n9, han, hfe, hte, hfa, hln⟩ := okW_nat c_9
          have hP : va_P (dC, dI) vwCl [(a, .inl (cI, 256, .inl (f_fi kf a9 0 kd))), (b, .inl (cJ, 256, .inr (.inl (f_fi vf a9 0 v)))), (m0, .inr (2, [.int 0, .ref a, .ref b]))] H := by rw [f_fi0, f_fi0]; exact hP
          have hD : va_D A [(a, .inl (cI, 256, .inl (f_fi kf a9 0 kd))), (b, .inl (cJ, 256, .inr (.inl (f_fi vf a9 0 v)))), (m0, .inr (2, [.int 0, .ref a, .ref b]))] := by rw [f_fi0, f_fi0]; exact hD
          refine lp_up (N := n9) (α := Int32) (fun j z9 H locs ls => (z9 = nI (a9 + j)) ∧ va_P (dC, dI) vwCl [(m0, .inr (2, [.int 0, .ref a, .ref b])), (a, .inl (cI, 256, .inl (f_fi kf a9 j kd))), (b, .inl (cJ, 256, .inr (.inl (f_fi vf a9 j v))))] H ∧ va_D A [(m0, .inr (2, [.int 0, .ref a, .ref b])), (a, .inl (cI, 256, .inl (f_fi kf a9 j kd))), (b, .inl (cJ, 256, .inr (.inl (f_fi vf a9 j v))))] ∧ va_K (dC, dI) vwCl [(cI, .int), (cJ, .long)] s ∧ va_S A s.heap H locs ∧ lv_has ls 7 [(0, .ref m0), (1, .int f), (2, .int t), (3, .int kd), (4, .long v), (6, .int z9)]) ?_ (f) H _ ls ⟨hfe, hP.sub [2, 0, 1] rfl, hD.sub [2, 0, 1] (by decide) rfl, hK.sub [0, 1] rfl, hS, lv_sub hl [1, 2, 3, 4, 5, 0] rfl⟩
          intro j z9 H locs ls hj hI hn
          obtain ⟨k, rfl⟩ : ∃ z, z = z9 := ⟨_, rfl⟩
          try dsimp only at hI
          obtain ⟨hi0, hP, hD, hK, hS, hl⟩ := hI
          have hkc : k.toNatClampNeg = a9 + j := by rw [hi0]; exact nI_clamp (by omega)
          refine lv_iload hx hb dX2_fill_52 (lv_at hl 5 rfl) ?_
          refine lv_iload_n hx hb dX2_fill_54 rfl (lv_at hl 2 rfl) ?_
          refine lv_icmp_ge (tgt := 81) hx hb dX2_fill_55 (by decide) (fun c_13 => ?_) (fun c_13 => ?_)
          · rw [hte, hi0] at c_13
            have hjn := lp_ge han hj c_13
            subst hjn
            have hP9 := hP.sub (ws' := [(m0, .inr (2, [.int 0, .ref a, .ref b])), (a, .inl (cI, 256, .inl (f_fi kf a9 j kd))), (b, .inl (cJ, 256, .inr (.inl (f_fi vf a9 j v))))]) [0, 1, 2] rfl
            have hD9 := hD.sub (ws' := [(m0, .inr (2, [.int 0, .ref a, .ref b])), (a, .inl (cI, 256, .inl (f_fi kf a9 j kd))), (b, .inl (cJ, 256, .inr (.inl (f_fi vf a9 j v))))]) [0, 1, 2] (by decide) rfl
            have hK9 := hK.sub (tys' := [(cI, .int), (cJ, .long)]) [0, 1] rfl
            refine W.widen (k := 0) (n := 0) (Nat.le_of_ble_eq_true rfl) (Nat.le_of_ble_eq_true rfl) ?_
            exact W.vret hx hb hr (fun t9 ht hW => ⟨⟨(0, f_fi kf a9 j kd, f_fi vf a9 j v), rfl, by first | (simp [f_c, f_k, f_v, hfa, hln, c_3, c_9]; done) | (simp [f_c, f_k, f_v, hfa, hln, c_3, c_9]; done) | grind [f_c, f_k, f_v], by rw [ht]; exact hP9, va_K.moved hW.alike hK9, hD9⟩, hS.F ht⟩) hS.2.2 dX2_fill_81
          · rw [hte, hi0] at c_13
            have hjn := lp_lt han hj c_13
            refine lv_aload_n hx hb dX2_fill_58 rfl (lv_at hl 0 rfl) ?_
            refine va_get (D := (dC, dI)) (ci := 2) (v := .ref a) (C := RX2) (T := TX2) (N := 3) hx hb hts kX2_fill_0 hown hK hP 0 rfl rfl 1 (by decide) (hts (.fieldLink RX2 9 "FoldRowModel" "kinds" "[I") kX2_fill_2) (fun _ h9 => h9) rfl dX2_fill_59 ?_
            refine lv_iload hx hb dX2_fill_62 (lv_at hl 5 rfl) ?_
            refine lv_iload_n hx hb dX2_fill_64 rfl (lv_at hl 3 rfl) ?_
            refine va_iast hx hb hK hP hD hS 1 0 rfl rfl (by rw [hi0]; exact vp_in_nI (by omega) (by omega)) dX2_fill_65 (fun H locs hP hD hS => ?_)
            have hP : va_P (dC, dI) vwCl [(m0, .inr (2, [.int 0, .ref a, .ref b])), (a, .inl (cI, 256, .inl (upd (f_fi kf a9 j kd) k.toNatClampNeg kd))), (b, .inl (cJ, 256, .inr (.inl (f_fi vf a9 j v))))] H := hP
            have hD : va_D A [(m0, .inr (2, [.int 0, .ref a, .ref b])), (a, .inl (cI, 256, .inl (upd (f_fi kf a9 j kd) k.toNatClampNeg kd))), (b, .inl (cJ, 256, .inr (.inl (f_fi vf a9 j v))))] := hD
            refine lv_aload_n hx hb dX2_fill_66 rfl (lv_at hl 0 rfl) ?_
            refine va_get (D := (dC, dI)) (ci := 2) (v := .ref b) (C := RX2) (T := TX2) (N := 3) hx hb hts kX2_fill_0 hown hK hP 0 rfl rfl 2 (by decide) (hts (.fieldLink RX2 13 "FoldRowModel" "numbers" "[J") kX2_fill_3) (fun _ h9 => h9) rfl dX2_fill_67 ?_
            refine lv_iload hx hb dX2_fill_70 (lv_at hl 5 rfl) ?_
            refine lv_lload hx hb dX2_fill_72 (lv_at hl 4 rfl) ?_
            refine va_last hx hb hK hP hD hS 2 1 rfl rfl (by rw [hi0]; exact vp_in_nI (by omega) (by omega)) dX2_fill_74 (fun H locs hP hD hS => ?_)
            have hP : va_P (dC, dI) vwCl [(m0, .inr (2, [.int 0, .ref a, .ref b])), (a, .inl (cI, 256, .inl (upd (f_fi kf a9 j kd) k.toNatClampNeg kd))), (b, .inl (cJ, 256, .inr (.inl (vp_updL (f_fi vf a9 j v) k.toNatClampNeg v))))] H := hP
            have hD : va_D A [(m0, .inr (2, [.int 0, .ref a, .ref b])), (a, .inl (cI, 256, .inl (upd (f_fi kf a9 j kd) k.toNatClampNeg kd))), (b, .inl (cJ, 256, .inr (.inl (vp_updL (f_fi vf a9 j v) k.toNatClampNeg v))))] := hD
            obtain ⟨i_14, ei_14⟩ : ∃ y : Int32, y = k + 1 := ⟨_, rfl⟩
            refine lv_iinc (v := i_14) (lv' := [(6, .int i_14), (0, .ref m0), (1, .int f), (2, .int t), (3, .int kd), (4, .long v)]) hx hb dX2_fill_75 hl (k := 5) rfl (by rw [ei_14]; rfl) (by decide) rfl (fun ls hl => ?_)
            refine lv_goto (tgt := 52) hx hb dX2_fill_78 (by decide) ?_
            rw [hkc, f_fiI, f_fiL] at hP hD
            exact hn (by omega) (i_14) _ _ ls ⟨by rw [ei_14, hi0]; exact nI_1 _, hP.sub [0, 1, 2] rfl, hD.sub [0, 1, 2] (by decide) rfl, hK.sub [0, 1] rfl, hS, lv_sub hl [1, 2, 3, 4, 5, 0] rfl⟩
        · exact absurd c_12 (by decide)
      · rw [h_8, b01] at c_9
        refine lv_iconst (v := 1) hx hb dX2_fill_36 (by decide) ?_
        refine lv_goto (tgt := 41) hx hb dX2_fill_37 (by decide) ?_
        refine lv_iconst (v := 2) hx hb dX2_fill_41 (by decide) ?_
        have hPc := hP.sub (ws' := [(m0, .inr (2, [.int 0, .ref a, .ref b]))]) [2] rfl
        have hDc := hD.sub (ws' := [(m0, .inr (2, [.int 0, .ref a, .ref b]))]) [2] (by decide) rfl
        have hKc := hK.sub (tys' := []) [] rfl
        have hFc := va_free (wc := [(m0, .inr (2, [.int 0, .ref a, .ref b]))]) hD hS hA [2] rfl
        refine va_calli (va_runV (As := [.int 1, .int 2]) (rest := []) ⟨hx, hb, hml, hown, hts⟩ (qX2_fails l dC dI H.size m0 a b (0) (1) (2)) (cwV 2 hts gX2_fill_X2_fails rfl rfl rfl (by decide +kernel) ⟨Nat.le_of_ble_eq_true rfl, Nat.le_of_ble_eq_true rfl⟩) ⟨fun a U g mk q => by obtain ⟨q0, q1, qP, qK, qD⟩ := q; exact ⟨q0, q1, qP, va_K.moved (u := U) (U := U.calling g mk a) (Vm.Alike.refl U.vm) qK, qD⟩, va_recv hKc hPc (ci := 2) (q0 := 0) rfl rfl, fun U hU hW => ⟨rfl, by rw [hU], by rw [hU]; exact hPc, va_K.moved hW.alike hKc, hDc.weaken (fun _ _ _ _ => trivial)⟩⟩ rfl rfl hl.1 rfl (lv_room (Nat.le_of_ble_eq_true rfl)) dX2_fill_42 ⟨Nat.le_of_ble_eq_true rfl, Nat.le_of_ble_eq_true rfl⟩) hS (fun q _ h => hFc q h) hFc (fun r_15 u t9 H1 locs ht hvm hw hB hz1 hk1 hS => ?_)
        obtain ⟨hP1, hK1, hD1⟩ := hB
        rw [ht] at hP1
        obtain ⟨h_16, rfl⟩ := hw
        have hK1 := va_K.moved hvm.symm hK1
        obtain ⟨hP, hD⟩ := va_join (wr := [(a, .inl (cI, 256, .inl kf)), (b, .inl (cJ, 256, .inr (.inl vf)))]) (w1 := [(m0, .inr (2, [.int (m_f 1 0 2), .ref a, .ref b]))]) hP hD [2] [0, 1] rfl rfl (by decide) (by decide) hk1 hFc hP1 hD1
        have hK := (hK.sub (tys' := [(cI, .int), (cJ, .long)]) [0, 1] rfl).app hK1
        generalize H1 = H at hP hS ⊢
        have hP : va_P (dC, dI) vwCl [(a, .inl (cI, 256, .inl kf)), (b, .inl (cJ, 256, .inr (.inl vf))), (m0, .inr (2, [.int (m_f 1 0 2), .ref a, .ref b]))] H := hP
        have hD : va_D A [(a, .inl (cI, 256, .inl kf)), (b, .inl (cJ, 256, .inr (.inl vf))), (m0, .inr (2, [.int (m_f 1 0 2), .ref a, .ref b]))] := hD
        have hK : va_K (dC, dI) vwCl [(cI, .int), (cJ, .long)] s := hK
        refine W.widen (k := 0) (n := 0) (Nat.le_of_ble_eq_true rfl) (Nat.le_of_ble_eq_true rfl) ?_
        obtain rfl : r_15 = 1 := h_16.trans (by decide)
        have hP : va_P (dC, dI) vwCl [(a, .inl (cI, 256, .inl kf)), (b, .inl (cJ, 256, .inr (.inl vf))), (m0, .inr (2, [.int 2, .ref a, .ref b]))] H := hP
        have hD : va_D A [(a, .inl (cI, 256, .inl kf)), (b, .inl (cJ, 256, .inr (.inl vf))), (m0, .inr (2, [.int 2, .ref a, .ref b]))] := hD
        refine lv_if_eq (tgt := 49) hx hb dX2_fill_45 (by decide) (fun c_17 => ?_) (fun c_17 => ?_)
        · exact absurd c_17 (by decide)
        · have hP9 := hP.sub (ws' := [(m0, .inr (2, [.int 2, .ref a, .ref b])), (a, .inl (cI, 256, .inl kf)), (b, .inl (cJ, 256, .inr (.inl vf)))]) [2, 0, 1] rfl
          have hD9 := hD.sub (ws' := [(m0, .inr (2, [.int 2, .ref a, .ref b])), (a, .inl (cI, 256, .inl kf)), (b, .inl (cJ, 256, .inr (.inl vf)))]) [2, 0, 1] (by decide) rfl
          have hK9 := hK.sub (tys' := [(cI, .int), (cJ, .long)]) [0, 1] rfl
          refine W.widen (k := 0) (n := 0) (Nat.le_of_ble_eq_true rfl) (Nat.le_of_ble_eq_true rfl) ?_
          exact W.vret hx hb hr (fun t9 ht hW => ⟨⟨(2, kf, vf), rfl, by first | (simp [f_c, f_k, f_v, c_3, c_9]; done) | (simp [f_c, f_k, f_v, c_3, c_9]; done) | grind [f_c, f_k, f_v], by rw [ht]; exact hP9, va_K.moved hW.alike hK9, hD9⟩, hS.F ht⟩) hS.2.2 dX2_fill_48
  · rw [h_2, b01] at c_3
    refine lv_iconst (v := 1) hx hb dX2_fill_15 (by decide) ?_
    refine lv_goto (tgt := 20) hx hb dX2_fill_16 (by decide) ?_
    refine lv_iconst (v := 1) hx hb dX2_fill_20 (by decide) ?_
    have hPc := hP.sub (ws' := [(m0, .inr (2, [.int 0, .ref a, .ref b]))]) [0] rfl
    have hDc := hD.sub (ws' := [(m0, .inr (2, [.int 0, .ref a, .ref b]))]) [0] (by decide) rfl
    have hKc := hK.sub (tys' := []) [] rfl
    have hFc := va_free (wc := [(m0, .inr (2, [.int 0, .ref a, .ref b]))]) hD hS hA [0] rfl
    refine va_calli (va_runV (As := [.int 1, .int 1]) (rest := []) ⟨hx, hb, hml, hown, hts⟩ (qX2_fails l dC dI H.size m0 a b (0) (1) (1)) (cwV 2 hts gX2_fill_X2_fails rfl rfl rfl (by decide +kernel) ⟨Nat.le_of_ble_eq_true rfl, Nat.le_of_ble_eq_true rfl⟩) ⟨fun a U g mk q => by obtain ⟨q0, q1, qP, qK, qD⟩ := q; exact ⟨q0, q1, qP, va_K.moved (u := U) (U := U.calling g mk a) (Vm.Alike.refl U.vm) qK, qD⟩, va_recv hKc hPc (ci := 2) (q0 := 0) rfl rfl, fun U hU hW => ⟨rfl, by rw [hU], by rw [hU]; exact hPc, va_K.moved hW.alike hKc, hDc.weaken (fun _ _ _ _ => trivial)⟩⟩ rfl rfl hl.1 rfl (lv_room (Nat.le_of_ble_eq_true rfl)) dX2_fill_21 ⟨Nat.le_of_ble_eq_true rfl, Nat.le_of_ble_eq_true rfl⟩) hS (fun q _ h => hFc q h) hFc (fun r_18 u t9 H1 locs ht hvm hw hB hz1 hk1 hS => ?_)
    obtain ⟨hP1, hK1, hD1⟩ := hB
    rw [ht] at hP1
    obtain ⟨h_19, rfl⟩ := hw
    have hK1 := va_K.moved hvm.symm hK1
    obtain ⟨hP, hD⟩ := va_join (wr := [(a, .inl (cI, 256, .inl kf)), (b, .inl (cJ, 256, .inr (.inl vf)))]) (w1 := [(m0, .inr (2, [.int (m_f 1 0 1), .ref a, .ref b]))]) hP hD [0] [1, 2] rfl rfl (by decide) (by decide) hk1 hFc hP1 hD1
    have hK := (hK.sub (tys' := [(cI, .int), (cJ, .long)]) [0, 1] rfl).app hK1
    generalize H1 = H at hP hS ⊢
    have hP : va_P (dC, dI) vwCl [(a, .inl (cI, 256, .inl kf)), (b, .inl (cJ, 256, .inr (.inl vf))), (m0, .inr (2, [.int (m_f 1 0 1), .ref a, .ref b]))] H := hP
    have hD : va_D A [(a, .inl (cI, 256, .inl kf)), (b, .inl (cJ, 256, .inr (.inl vf))), (m0, .inr (2, [.int (m_f 1 0 1), .ref a, .ref b]))] := hD
    have hK : va_K (dC, dI) vwCl [(cI, .int), (cJ, .long)] s := hK
    refine W.widen (k := 0) (n := 0) (Nat.le_of_ble_eq_true rfl) (Nat.le_of_ble_eq_true rfl) ?_
    obtain rfl : r_18 = 1 := h_19.trans (by decide)
    have hP : va_P (dC, dI) vwCl [(a, .inl (cI, 256, .inl kf)), (b, .inl (cJ, 256, .inr (.inl vf))), (m0, .inr (2, [.int 1, .ref a, .ref b]))] H := hP
    have hD : va_D A [(a, .inl (cI, 256, .inl kf)), (b, .inl (cJ, 256, .inr (.inl vf))), (m0, .inr (2, [.int 1, .ref a, .ref b]))] := hD
    refine lv_if_ne (tgt := 48) hx hb dX2_fill_24 (by decide) (fun c_20 => ?_) (fun c_20 => ?_)
    · have hP9 := hP.sub (ws' := [(m0, .inr (2, [.int 1, .ref a, .ref b])), (a, .inl (cI, 256, .inl kf)), (b, .inl (cJ, 256, .inr (.inl vf)))]) [2, 0, 1] rfl
      have hD9 := hD.sub (ws' := [(m0, .inr (2, [.int 1, .ref a, .ref b])), (a, .inl (cI, 256, .inl kf)), (b, .inl (cJ, 256, .inr (.inl vf)))]) [2, 0, 1] (by decide) rfl
      have hK9 := hK.sub (tys' := [(cI, .int), (cJ, .long)]) [0, 1] rfl
      refine W.widen (k := 0) (n := 0) (Nat.le_of_ble_eq_true rfl) (Nat.le_of_ble_eq_true rfl) ?_
      exact W.vret hx hb hr (fun t9 ht hW => ⟨⟨(1, kf, vf), rfl, by first | (simp [f_c, f_k, f_v, c_3]; done) | (simp [f_c, f_k, f_v, c_3]; done) | grind [f_c, f_k, f_v], by rw [ht]; exact hP9, va_K.moved hW.alike hK9, hD9⟩, hS.F ht⟩) hS.2.2 dX2_fill_48
    · exact absurd c_20 (by decide)

set_option maxRecDepth 20000 in
theorem kX2_swap_0 : ∀ w ∈ wsX20, w ∈ wsX2_swap := by decide +kernel
set_option maxRecDepth 20000 in
theorem kX2_swap_1 : (.fieldLink RX2 17 "FoldRowModel" "err" "I" : Cond) ∈ wsX2_swap := by decide +kernel
set_option maxRecDepth 20000 in
theorem kX2_swap_2 : (.constantLong RX2 43 (255) : Cond) ∈ wsX2_swap := by decide +kernel
set_option maxRecDepth 20000 in
theorem kX2_swap_3 : (.fieldLink RX2 9 "FoldRowModel" "kinds" "[I" : Cond) ∈ wsX2_swap := by decide +kernel
set_option maxRecDepth 20000 in
theorem kX2_swap_4 : (.fieldLink RX2 13 "FoldRowModel" "numbers" "[J" : Cond) ∈ wsX2_swap := by decide +kernel
set_option maxHeartbeats 4000000 in
set_option maxRecDepth 100000 in
theorem qX2_swap (l : Launch) (dC : Nat → ClassId) (dI : Nat → Nat → Nat) (sz : Nat) (m0 a b : Nat) (cI cJ : ClassId) (er : Int32) (kf : Nat → Int32) (vf : Nat → Int64) (i k : Int32)  : Met l yX2_swap wsX2_swap ({ frames := 2, cells := 0, slots := 0, locals := 60 }) (va_Pc [.ref m0, .int i, .int k] (fun U => U.heap.size = sz ∧ va_P (dC, dI) vwCl [(m0, .inr (2, [.int er, .ref a, .ref b])), (a, .inl (cI, 256, .inl kf)), (b, .inl (cJ, 256, .inr (.inl vf)))] U.heap ∧ va_K (dC, dI) vwCl [(cI, .int), (cJ, .long)] U ∧ va_D (fun _ => True) [(m0, .inr (2, [.int er, .ref a, .ref b])), (a, .inl (cI, 256, .inl kf)), (b, .inl (cJ, 256, .inr (.inl vf)))])) (va_Qv (fun (u : Int32 × (Nat → Int32) × (Nat → Int64)) => u = (w_c i k, w_k kf i k, w_v vf i k)) (fun (u : Int32 × (Nat → Int32) × (Nat → Int64)) (t9 : State) => va_P (dC, dI) vwCl [(m0, .inr (2, [.int u.1, .ref a, .ref b])), (a, .inl (cI, 256, .inl u.2.1)), (b, .inl (cJ, 256, .inr (.inl u.2.2)))] t9.heap ∧ va_K (dC, dI) vwCl [(cI, .int), (cJ, .long)] t9 ∧ va_D (va_A [(m0, .inr (2, [.int er, .ref a, .ref b])), (a, .inl (cI, 256, .inl kf)), (b, .inl (cJ, 256, .inr (.inl vf)))] sz) [(m0, .inr (2, [.int u.1, .ref a, .ref b])), (a, .inl (cI, 256, .inl u.2.1)), (b, .inl (cJ, 256, .inr (.inl u.2.2)))]) (va_A [(m0, .inr (2, [.int er, .ref a, .ref b])), (a, .inl (cI, 256, .inl kf)), (b, .inl (cJ, 256, .inr (.inl vf)))] sz)) 0 0 (va_A [(m0, .inr (2, [.int er, .ref a, .ref b])), (a, .inl (cI, 256, .inl kf)), (b, .inl (cJ, 256, .inr (.inl vf)))] sz) := by
  refine Met.ofW (cc := cX2_swap) (maxL := 6) (ret := none) (by decide) rfl ?_
  intro p e s m args below meth c s₁ B hml hv
  obtain ⟨rfl, hsz, hP, hK, hD0⟩ := hv
  have hx := B.exec
  have hb := B.bytes
  have hr := B.returns
  have hts := atoms_spec (ws := wsX2_swap) B.pre
  have hown : s.vm.findClass RX2 = some m.cls := findClass_of_methodNamed B.named
  have hlocks := B.notSynchronized
  subst hsz
  have hD := hD0.self (sz := s.heap.size)
  generalize hAe : va_A [(m0, .inr (2, [.int er, .ref a, .ref b])), (a, .inl (cI, 256, .inl kf)), (b, .inl (cJ, 256, .inr (.inl vf)))] s.heap.size = A at hD ⊢
  have hA : ∀ q : Nat, s.heap.size ≤ q → A q := fun q h => by rw [← hAe]; exact Or.inr h
  have hS : va_S A s.heap s.heap [] := va_S.rf
  have hP : va_P (dC, dI) vwCl [(m0, .inr (2, [.int er, .ref a, .ref b])), (a, .inl (cI, 256, .inl kf)), (b, .inl (cJ, 256, .inr (.inl vf)))] s.heap := hP
  have hl := lv_entry ([.ref m0, .int i, .int k]) (n := 6) (Nat.le_of_ble_eq_true rfl)
  rw [lg_entry_eq]
  generalize (lg_sl ([.ref m0, .int i, .int k]) ++ List.replicate (6 - (lg_sl ([.ref m0, .int i, .int k])).length) Slot.unset).toArray = ls at hl ⊢
  have hl : lv_has ls 6 [(0, .ref m0), (1, .int i), (2, .int k)] := hl
  refine lv_aload_n hx hb dX2_swap_0 rfl (lv_at hl 0 rfl) ?_
  refine lv_iconst (v := 0) hx hb dX2_swap_1 (by decide) ?_
  refine va_put (D := (dC, dI)) (ci := 2) (v := .int 0) (ty := .int) (C := RX2) (T := TX2) (N := 3) hx hb hts kX2_swap_0 tyX2 tyX2_ok nmX2 hown hK hP hD hS 0 rfl rfl 0 (by decide) (hts (.fieldLink RX2 17 "FoldRowModel" "err" "I") kX2_swap_1) (fun _ h9 => h9) rfl (by decide +kernel) rfl rfl (Nat.le_of_ble_eq_true rfl) dX2_swap_2 (fun H locs hP hD hS => ?_)
  have hP : va_P (dC, dI) vwCl [(m0, .inr (2, [.int 0, .ref a, .ref b])), (a, .inl (cI, 256, .inl kf)), (b, .inl (cJ, 256, .inr (.inl vf)))] H := hP
  have hD : va_D A [(m0, .inr (2, [.int 0, .ref a, .ref b])), (a, .inl (cI, 256, .inl kf)), (b, .inl (cJ, 256, .inr (.inl vf)))] := hD
  refine lv_aload_n hx hb dX2_swap_5 rfl (lv_at hl 0 rfl) ?_
  refine lv_iload_n hx hb dX2_swap_6 rfl (lv_at hl 1 rfl) ?_
  refine lv_i2l (v := i.toInt64) hx hb dX2_swap_7 rfl ?_
  refine lv_lconst (v := 0) hx hb dX2_swap_8 (by decide) ?_
  refine lv_ldc2 hx hb hown (hts (.constantLong RX2 43 (255)) kX2_swap_2) dX2_swap_9 ?_
  have hPc := hP.sub (ws' := []) [] rfl
  have hDc := hD.sub (ws' := []) [] (by decide) rfl
  have hKc := hK.sub (tys' := []) [] rfl
  have hFc := va_free (wc := []) hD hS hA [] rfl
  refine va_calli (va_runS (As := [.long i.toInt64, .long 0, .long 255]) (rest := [.ref m0]) ⟨hx, hb, hml, hown, hts⟩ (qX2_in l dC dI H.size i.toInt64 (0) (255)) (va_cwS 3 hts gX2_swap_X2_in rfl rfl rfl (by decide +kernel) ⟨Nat.le_of_ble_eq_true rfl, Nat.le_of_ble_eq_true rfl⟩) ⟨fun a U g mk q => by obtain ⟨q0, q1, qP, qK, qD⟩ := q; exact ⟨q0, q1, qP, va_K.moved (u := U) (U := U.calling g mk a) (Vm.Alike.refl U.vm) qK, qD⟩, fun U hU hW => ⟨rfl, by rw [hU], by rw [hU]; exact hPc, va_K.moved hW.alike hKc, hDc.weaken (fun _ _ _ _ => trivial)⟩⟩ rfl rfl hl.1 rfl (lv_room (Nat.le_of_ble_eq_true rfl)) dX2_swap_12 ⟨Nat.le_of_ble_eq_true rfl, Nat.le_of_ble_eq_true rfl⟩) hS (fun q _ h => hFc q h) hFc (fun r_1 u t9 H1 locs ht hvm hw hB hz1 hk1 hS => ?_)
  obtain ⟨hP1, hK1, hD1⟩ := hB
  rw [ht] at hP1
  have h_2 := hw
  have hK1 := va_K.moved hvm.symm hK1
  obtain ⟨hP, hD⟩ := va_join (wr := [(m0, .inr (2, [.int 0, .ref a, .ref b])), (a, .inl (cI, 256, .inl kf)), (b, .inl (cJ, 256, .inr (.inl vf)))]) (w1 := []) hP hD [] [0, 1, 2] rfl rfl (by decide) (by decide) hk1 hFc hP1 hD1
  have hK := (hK.sub (tys' := [(cI, .int), (cJ, .long)]) [0, 1] rfl).app hK1
  generalize H1 = H at hP hS ⊢
  have hP : va_P (dC, dI) vwCl [(m0, .inr (2, [.int 0, .ref a, .ref b])), (a, .inl (cI, 256, .inl kf)), (b, .inl (cJ, 256, .inr (.inl vf)))] H := hP
  have hD : va_D A [(m0, .inr (2, [.int 0, .ref a, .ref b])), (a, .inl (cI, 256, .inl kf)), (b, .inl (cJ, 256, .inr (.inl vf)))] := hD
  have hK : va_K (dC, dI) vwCl [(cI, .int), (cJ, .long)] s := hK
  refine W.widen (k := 0) (n := 0) (Nat.le_of_ble_eq_true rfl) (Nat.le_of_ble_eq_true rfl) ?_
  refine lv_if_eq (tgt := 30) hx hb dX2_swap_15 (by decide) (fun c_3 => ?_) (fun c_3 => ?_)
  · rw [h_2, b01] at c_3
    refine lv_iconst (v := 1) hx hb dX2_swap_30 (by decide) ?_
    refine lv_goto (tgt := 35) hx hb dX2_swap_31 (by decide) ?_
    refine lv_iconst (v := 1) hx hb dX2_swap_35 (by decide) ?_
    have hPc := hP.sub (ws' := [(m0, .inr (2, [.int 0, .ref a, .ref b]))]) [0] rfl
    have hDc := hD.sub (ws' := [(m0, .inr (2, [.int 0, .ref a, .ref b]))]) [0] (by decide) rfl
    have hKc := hK.sub (tys' := []) [] rfl
    have hFc := va_free (wc := [(m0, .inr (2, [.int 0, .ref a, .ref b]))]) hD hS hA [0] rfl
    refine va_calli (va_runV (As := [.int 1, .int 1]) (rest := []) ⟨hx, hb, hml, hown, hts⟩ (qX2_fails l dC dI H.size m0 a b (0) (1) (1)) (cwV 2 hts gX2_swap_X2_fails rfl rfl rfl (by decide +kernel) ⟨Nat.le_of_ble_eq_true rfl, Nat.le_of_ble_eq_true rfl⟩) ⟨fun a U g mk q => by obtain ⟨q0, q1, qP, qK, qD⟩ := q; exact ⟨q0, q1, qP, va_K.moved (u := U) (U := U.calling g mk a) (Vm.Alike.refl U.vm) qK, qD⟩, va_recv hKc hPc (ci := 2) (q0 := 0) rfl rfl, fun U hU hW => ⟨rfl, by rw [hU], by rw [hU]; exact hPc, va_K.moved hW.alike hKc, hDc.weaken (fun _ _ _ _ => trivial)⟩⟩ rfl rfl hl.1 rfl (lv_room (Nat.le_of_ble_eq_true rfl)) dX2_swap_36 ⟨Nat.le_of_ble_eq_true rfl, Nat.le_of_ble_eq_true rfl⟩) hS (fun q _ h => hFc q h) hFc (fun r_4 u t9 H1 locs ht hvm hw hB hz1 hk1 hS => ?_)
    obtain ⟨hP1, hK1, hD1⟩ := hB
    rw [ht] at hP1
    obtain ⟨h_5, rfl⟩ := hw
    have hK1 := va_K.moved hvm.symm hK1
    obtain ⟨hP, hD⟩ := va_join (wr := [(a, .inl (cI, 256, .inl kf)), (b, .inl (cJ, 256, .inr (.inl vf)))]) (w1 := [(m0, .inr (2, [.int (m_f 1 0 1), .ref a, .ref b]))]) hP hD [0] [1, 2] rfl rfl (by decide) (by decide) hk1 hFc hP1 hD1
    have hK := (hK.sub (tys' := [(cI, .int), (cJ, .long)]) [0, 1] rfl).app hK1
    generalize H1 = H at hP hS ⊢
    have hP : va_P (dC, dI) vwCl [(a, .inl (cI, 256, .inl kf)), (b, .inl (cJ, 256, .inr (.inl vf))), (m0, .inr (2, [.int (m_f 1 0 1), .ref a, .ref b]))] H := hP
    have hD : va_D A [(a, .inl (cI, 256, .inl kf)), (b, .inl (cJ, 256, .inr (.inl vf))), (m0, .inr (2, [.int (m_f 1 0 1), .ref a, .ref b]))] := hD
    have hK : va_K (dC, dI) vwCl [(cI, .int), (cJ, .long)] s := hK
    refine W.widen (k := 0) (n := 0) (Nat.le_of_ble_eq_true rfl) (Nat.le_of_ble_eq_true rfl) ?_
    obtain rfl : r_4 = 1 := h_5.trans (by decide)
    have hP : va_P (dC, dI) vwCl [(a, .inl (cI, 256, .inl kf)), (b, .inl (cJ, 256, .inr (.inl vf))), (m0, .inr (2, [.int 1, .ref a, .ref b]))] H := hP
    have hD : va_D A [(a, .inl (cI, 256, .inl kf)), (b, .inl (cJ, 256, .inr (.inl vf))), (m0, .inr (2, [.int 1, .ref a, .ref b]))] := hD
    refine lv_if_eq (tgt := 43) hx hb dX2_swap_39 (by decide) (fun c_6 => ?_) (fun c_6 => ?_)
    · exact absurd c_6 (by decide)
    · have hP9 := hP.sub (ws' := [(m0, .inr (2, [.int 1, .ref a, .ref b])), (a, .inl (cI, 256, .inl kf)), (b, .inl (cJ, 256, .inr (.inl vf)))]) [2, 0, 1] rfl
      have hD9 := hD.sub (ws' := [(m0, .inr (2, [.int 1, .ref a, .ref b])), (a, .inl (cI, 256, .inl kf)), (b, .inl (cJ, 256, .inr (.inl vf)))]) [2, 0, 1] (by decide) rfl
      have hK9 := hK.sub (tys' := [(cI, .int), (cJ, .long)]) [0, 1] rfl
      refine W.widen (k := 0) (n := 0) (Nat.le_of_ble_eq_true rfl) (Nat.le_of_ble_eq_true rfl) ?_
      exact W.vret hx hb hr (fun t9 ht hW => ⟨⟨(1, kf, vf), rfl, by first | (simp [w_c, w_k, w_v, w64_0, w64_4, w64_255, w64_1000, w64_2, c_3]; done) | (simp [w_c, w_k, w_v, w64_0, w64_4, w64_255, w64_1000, w64_2, c_3]; done) | grind [w_c, w_k, w_v, w64_0, w64_4, w64_255, w64_1000, w64_2], by rw [ht]; exact hP9, va_K.moved hW.alike hK9, hD9⟩, hS.F ht⟩) hS.2.2 dX2_swap_42
  · rw [h_2, b01] at c_3
    have c_3 := Classical.not_not.mp c_3
    refine lv_iload_n hx hb dX2_swap_18 rfl (lv_at hl 2 rfl) ?_
    refine lv_i2l (v := k.toInt64) hx hb dX2_swap_19 rfl ?_
    refine lv_lconst (v := 0) hx hb dX2_swap_20 (by decide) ?_
    refine lv_ldc2 hx hb hown (hts (.constantLong RX2 43 (255)) kX2_swap_2) dX2_swap_21 ?_
    have hPc := hP.sub (ws' := []) [] rfl
    have hDc := hD.sub (ws' := []) [] (by decide) rfl
    have hKc := hK.sub (tys' := []) [] rfl
    have hFc := va_free (wc := []) hD hS hA [] rfl
    refine va_calli (va_runS (As := [.long k.toInt64, .long 0, .long 255]) (rest := [.ref m0]) ⟨hx, hb, hml, hown, hts⟩ (qX2_in l dC dI H.size k.toInt64 (0) (255)) (va_cwS 3 hts gX2_swap_X2_in rfl rfl rfl (by decide +kernel) ⟨Nat.le_of_ble_eq_true rfl, Nat.le_of_ble_eq_true rfl⟩) ⟨fun a U g mk q => by obtain ⟨q0, q1, qP, qK, qD⟩ := q; exact ⟨q0, q1, qP, va_K.moved (u := U) (U := U.calling g mk a) (Vm.Alike.refl U.vm) qK, qD⟩, fun U hU hW => ⟨rfl, by rw [hU], by rw [hU]; exact hPc, va_K.moved hW.alike hKc, hDc.weaken (fun _ _ _ _ => trivial)⟩⟩ rfl rfl hl.1 rfl (lv_room (Nat.le_of_ble_eq_true rfl)) dX2_swap_24 ⟨Nat.le_of_ble_eq_true rfl, Nat.le_of_ble_eq_true rfl⟩) hS (fun q _ h => hFc q h) hFc (fun r_7 u t9 H1 locs ht hvm hw hB hz1 hk1 hS => ?_)
    obtain ⟨hP1, hK1, hD1⟩ := hB
    rw [ht] at hP1
    have h_8 := hw
    have hK1 := va_K.moved hvm.symm hK1
    obtain ⟨hP, hD⟩ := va_join (wr := [(m0, .inr (2, [.int 0, .ref a, .ref b])), (a, .inl (cI, 256, .inl kf)), (b, .inl (cJ, 256, .inr (.inl vf)))]) (w1 := []) hP hD [] [0, 1, 2] rfl rfl (by decide) (by decide) hk1 hFc hP1 hD1
    have hK := (hK.sub (tys' := [(cI, .int), (cJ, .long)]) [0, 1] rfl).app hK1
    generalize H1 = H at hP hS ⊢
    have hP : va_P (dC, dI) vwCl [(m0, .inr (2, [.int 0, .ref a, .ref b])), (a, .inl (cI, 256, .inl kf)), (b, .inl (cJ, 256, .inr (.inl vf)))] H := hP
    have hD : va_D A [(m0, .inr (2, [.int 0, .ref a, .ref b])), (a, .inl (cI, 256, .inl kf)), (b, .inl (cJ, 256, .inr (.inl vf)))] := hD
    have hK : va_K (dC, dI) vwCl [(cI, .int), (cJ, .long)] s := hK
    refine W.widen (k := 0) (n := 0) (Nat.le_of_ble_eq_true rfl) (Nat.le_of_ble_eq_true rfl) ?_
    refine lv_if_ne (tgt := 34) hx hb dX2_swap_27 (by decide) (fun c_9 => ?_) (fun c_9 => ?_)
    · rw [h_8, b01] at c_9
      have c_9 := Classical.not_not.mp c_9
      refine lv_iconst (v := 0) hx hb dX2_swap_34 (by decide) ?_
      refine lv_iconst (v := 1) hx hb dX2_swap_35 (by decide) ?_
      have hPc := hP.sub (ws' := [(m0, .inr (2, [.int 0, .ref a, .ref b]))]) [0] rfl
      have hDc := hD.sub (ws' := [(m0, .inr (2, [.int 0, .ref a, .ref b]))]) [0] (by decide) rfl
      have hKc := hK.sub (tys' := []) [] rfl
      have hFc := va_free (wc := [(m0, .inr (2, [.int 0, .ref a, .ref b]))]) hD hS hA [0] rfl
      refine va_calli (va_runV (As := [.int 0, .int 1]) (rest := []) ⟨hx, hb, hml, hown, hts⟩ (qX2_fails l dC dI H.size m0 a b (0) (0) (1)) (cwV 2 hts gX2_swap_X2_fails rfl rfl rfl (by decide +kernel) ⟨Nat.le_of_ble_eq_true rfl, Nat.le_of_ble_eq_true rfl⟩) ⟨fun a U g mk q => by obtain ⟨q0, q1, qP, qK, qD⟩ := q; exact ⟨q0, q1, qP, va_K.moved (u := U) (U := U.calling g mk a) (Vm.Alike.refl U.vm) qK, qD⟩, va_recv hKc hPc (ci := 2) (q0 := 0) rfl rfl, fun U hU hW => ⟨rfl, by rw [hU], by rw [hU]; exact hPc, va_K.moved hW.alike hKc, hDc.weaken (fun _ _ _ _ => trivial)⟩⟩ rfl rfl hl.1 rfl (lv_room (Nat.le_of_ble_eq_true rfl)) dX2_swap_36 ⟨Nat.le_of_ble_eq_true rfl, Nat.le_of_ble_eq_true rfl⟩) hS (fun q _ h => hFc q h) hFc (fun r_10 u t9 H1 locs ht hvm hw hB hz1 hk1 hS => ?_)
      obtain ⟨hP1, hK1, hD1⟩ := hB
      rw [ht] at hP1
      obtain ⟨h_11, rfl⟩ := hw
      have hK1 := va_K.moved hvm.symm hK1
      obtain ⟨hP, hD⟩ := va_join (wr := [(a, .inl (cI, 256, .inl kf)), (b, .inl (cJ, 256, .inr (.inl vf)))]) (w1 := [(m0, .inr (2, [.int (m_f 0 0 1), .ref a, .ref b]))]) hP hD [0] [1, 2] rfl rfl (by decide) (by decide) hk1 hFc hP1 hD1
      have hK := (hK.sub (tys' := [(cI, .int), (cJ, .long)]) [0, 1] rfl).app hK1
      generalize H1 = H at hP hS ⊢
      have hP : va_P (dC, dI) vwCl [(a, .inl (cI, 256, .inl kf)), (b, .inl (cJ, 256, .inr (.inl vf))), (m0, .inr (2, [.int (m_f 0 0 1), .ref a, .ref b]))] H := hP
      have hD : va_D A [(a, .inl (cI, 256, .inl kf)), (b, .inl (cJ, 256, .inr (.inl vf))), (m0, .inr (2, [.int (m_f 0 0 1), .ref a, .ref b]))] := hD
      have hK : va_K (dC, dI) vwCl [(cI, .int), (cJ, .long)] s := hK
      refine W.widen (k := 0) (n := 0) (Nat.le_of_ble_eq_true rfl) (Nat.le_of_ble_eq_true rfl) ?_
      obtain rfl : r_10 = 0 := h_11.trans (by decide)
      have hP : va_P (dC, dI) vwCl [(a, .inl (cI, 256, .inl kf)), (b, .inl (cJ, 256, .inr (.inl vf))), (m0, .inr (2, [.int 0, .ref a, .ref b]))] H := hP
      have hD : va_D A [(a, .inl (cI, 256, .inl kf)), (b, .inl (cJ, 256, .inr (.inl vf))), (m0, .inr (2, [.int 0, .ref a, .ref b]))] := hD
      refine lv_if_eq (tgt := 43) hx hb dX2_swap_39 (by decide) (fun c_12 => ?_) (fun c_12 => ?_)
      · refine lv_aload_n hx hb dX2_swap_43 rfl (lv_at hl 0 rfl) ?_
        refine va_get (D := (dC, dI)) (ci := 2) (v := .ref a) (C := RX2) (T := TX2) (N := 3) hx hb hts kX2_swap_0 hown hK hP 2 rfl rfl 1 (by decide) (hts (.fieldLink RX2 9 "FoldRowModel" "kinds" "[I") kX2_swap_3) (fun _ h9 => h9) rfl dX2_swap_44 ?_
        refine lv_iload_n hx hb dX2_swap_47 rfl (lv_at hl 1 rfl) ?_
        refine va_iald hx hb hK hP 0 0 rfl rfl (in_P (by have h9 := c_3; rw [w64_0, w64_255] at h9; exact ⟨h9.1, Classical.not_not.mp h9.2⟩)) dX2_swap_48 ?_
        refine lv_topi (fun v_13 ev_13 => ?_)
        refine lv_istore_n (lv' := [(3, .int v_13), (0, .ref m0), (1, .int i), (2, .int k)]) hx hb dX2_swap_49 rfl hl (by decide) rfl (fun ls hl => ?_)
        refine lv_aload_n hx hb dX2_swap_50 rfl (lv_at hl 1 rfl) ?_
        refine va_get (D := (dC, dI)) (ci := 2) (v := .ref b) (C := RX2) (T := TX2) (N := 3) hx hb hts kX2_swap_0 hown hK hP 2 rfl rfl 2 (by decide) (hts (.fieldLink RX2 13 "FoldRowModel" "numbers" "[J") kX2_swap_4) (fun _ h9 => h9) rfl dX2_swap_51 ?_
        refine lv_iload_n hx hb dX2_swap_54 rfl (lv_at hl 2 rfl) ?_
        refine va_lald hx hb hK hP 1 1 rfl rfl (in_P (by have h9 := c_3; rw [w64_0, w64_255] at h9; exact ⟨h9.1, Classical.not_not.mp h9.2⟩)) dX2_swap_55 ?_
        refine lv_topl (fun v_14 ev_14 => ?_)
        refine lv_lstore (lv' := [(4, .long v_14), (3, .int v_13), (0, .ref m0), (1, .int i), (2, .int k)]) hx hb dX2_swap_56 hl (by decide) rfl (fun ls hl => ?_)
        refine lv_aload_n hx hb dX2_swap_58 rfl (lv_at hl 2 rfl) ?_
        refine va_get (D := (dC, dI)) (ci := 2) (v := .ref a) (C := RX2) (T := TX2) (N := 3) hx hb hts kX2_swap_0 hown hK hP 2 rfl rfl 1 (by decide) (hts (.fieldLink RX2 9 "FoldRowModel" "kinds" "[I") kX2_swap_3) (fun _ h9 => h9) rfl dX2_swap_59 ?_
        refine lv_iload_n hx hb dX2_swap_62 rfl (lv_at hl 3 rfl) ?_
        refine lv_aload_n hx hb dX2_swap_63 rfl (lv_at hl 2 rfl) ?_
        refine va_get (D := (dC, dI)) (ci := 2) (v := .ref a) (C := RX2) (T := TX2) (N := 3) hx hb hts kX2_swap_0 hown hK hP 2 rfl rfl 1 (by decide) (hts (.fieldLink RX2 9 "FoldRowModel" "kinds" "[I") kX2_swap_3) (fun _ h9 => h9) rfl dX2_swap_64 ?_
        refine lv_iload_n hx hb dX2_swap_67 rfl (lv_at hl 4 rfl) ?_
        refine va_iald hx hb hK hP 0 0 rfl rfl (in_P (by have h9 := c_9; rw [w64_0, w64_255] at h9; exact ⟨h9.1, Classical.not_not.mp h9.2⟩)) dX2_swap_68 ?_
        refine lv_topi (fun v_15 ev_15 => ?_)
        refine va_iast hx hb hK hP hD hS 0 0 rfl rfl (in_P (by have h9 := c_3; rw [w64_0, w64_255] at h9; exact ⟨h9.1, Classical.not_not.mp h9.2⟩)) dX2_swap_69 (fun H locs hP hD hS => ?_)
        have hP : va_P (dC, dI) vwCl [(a, .inl (cI, 256, .inl (upd kf i.toNatClampNeg v_15))), (b, .inl (cJ, 256, .inr (.inl vf))), (m0, .inr (2, [.int 0, .ref a, .ref b]))] H := hP
        have hD : va_D A [(a, .inl (cI, 256, .inl (upd kf i.toNatClampNeg v_15))), (b, .inl (cJ, 256, .inr (.inl vf))), (m0, .inr (2, [.int 0, .ref a, .ref b]))] := hD
        refine lv_aload_n hx hb dX2_swap_70 rfl (lv_at hl 2 rfl) ?_
        refine va_get (D := (dC, dI)) (ci := 2) (v := .ref b) (C := RX2) (T := TX2) (N := 3) hx hb hts kX2_swap_0 hown hK hP 2 rfl rfl 2 (by decide) (hts (.fieldLink RX2 13 "FoldRowModel" "numbers" "[J") kX2_swap_4) (fun _ h9 => h9) rfl dX2_swap_71 ?_
        refine lv_iload_n hx hb dX2_swap_74 rfl (lv_at hl 3 rfl) ?_
        refine lv_aload_n hx hb dX2_swap_75 rfl (lv_at hl 2 rfl) ?_
        refine va_get (D := (dC, dI)) (ci := 2) (v := .ref b) (C := RX2) (T := TX2) (N := 3) hx hb hts kX2_swap_0 hown hK hP 2 rfl rfl 2 (by decide) (hts (.fieldLink RX2 13 "FoldRowModel" "numbers" "[J") kX2_swap_4) (fun _ h9 => h9) rfl dX2_swap_76 ?_
        refine lv_iload_n hx hb dX2_swap_79 rfl (lv_at hl 4 rfl) ?_
        refine va_lald hx hb hK hP 1 1 rfl rfl (in_P (by have h9 := c_9; rw [w64_0, w64_255] at h9; exact ⟨h9.1, Classical.not_not.mp h9.2⟩)) dX2_swap_80 ?_
        refine lv_topl (fun v_16 ev_16 => ?_)
        refine va_last hx hb hK hP hD hS 1 1 rfl rfl (in_P (by have h9 := c_3; rw [w64_0, w64_255] at h9; exact ⟨h9.1, Classical.not_not.mp h9.2⟩)) dX2_swap_81 (fun H locs hP hD hS => ?_)
        have hP : va_P (dC, dI) vwCl [(a, .inl (cI, 256, .inl (upd kf i.toNatClampNeg v_15))), (b, .inl (cJ, 256, .inr (.inl (vp_updL vf i.toNatClampNeg v_16)))), (m0, .inr (2, [.int 0, .ref a, .ref b]))] H := hP
        have hD : va_D A [(a, .inl (cI, 256, .inl (upd kf i.toNatClampNeg v_15))), (b, .inl (cJ, 256, .inr (.inl (vp_updL vf i.toNatClampNeg v_16)))), (m0, .inr (2, [.int 0, .ref a, .ref b]))] := hD
        refine lv_aload_n hx hb dX2_swap_82 rfl (lv_at hl 2 rfl) ?_
        refine va_get (D := (dC, dI)) (ci := 2) (v := .ref a) (C := RX2) (T := TX2) (N := 3) hx hb hts kX2_swap_0 hown hK hP 2 rfl rfl 1 (by decide) (hts (.fieldLink RX2 9 "FoldRowModel" "kinds" "[I") kX2_swap_3) (fun _ h9 => h9) rfl dX2_swap_83 ?_
        refine lv_iload_n hx hb dX2_swap_86 rfl (lv_at hl 4 rfl) ?_
        refine lv_iload_n hx hb dX2_swap_87 rfl (lv_at hl 1 rfl) ?_
        refine va_iast hx hb hK hP hD hS 0 0 rfl rfl (in_P (by have h9 := c_9; rw [w64_0, w64_255] at h9; exact ⟨h9.1, Classical.not_not.mp h9.2⟩)) dX2_swap_88 (fun H locs hP hD hS => ?_)
        have hP : va_P (dC, dI) vwCl [(a, .inl (cI, 256, .inl (upd (upd kf i.toNatClampNeg v_15) k.toNatClampNeg v_13))), (b, .inl (cJ, 256, .inr (.inl (vp_updL vf i.toNatClampNeg v_16)))), (m0, .inr (2, [.int 0, .ref a, .ref b]))] H := hP
        have hD : va_D A [(a, .inl (cI, 256, .inl (upd (upd kf i.toNatClampNeg v_15) k.toNatClampNeg v_13))), (b, .inl (cJ, 256, .inr (.inl (vp_updL vf i.toNatClampNeg v_16)))), (m0, .inr (2, [.int 0, .ref a, .ref b]))] := hD
        refine lv_aload_n hx hb dX2_swap_89 rfl (lv_at hl 2 rfl) ?_
        refine va_get (D := (dC, dI)) (ci := 2) (v := .ref b) (C := RX2) (T := TX2) (N := 3) hx hb hts kX2_swap_0 hown hK hP 2 rfl rfl 2 (by decide) (hts (.fieldLink RX2 13 "FoldRowModel" "numbers" "[J") kX2_swap_4) (fun _ h9 => h9) rfl dX2_swap_90 ?_
        refine lv_iload_n hx hb dX2_swap_93 rfl (lv_at hl 4 rfl) ?_
        refine lv_lload hx hb dX2_swap_94 (lv_at hl 0 rfl) ?_
        refine va_last hx hb hK hP hD hS 1 1 rfl rfl (in_P (by have h9 := c_9; rw [w64_0, w64_255] at h9; exact ⟨h9.1, Classical.not_not.mp h9.2⟩)) dX2_swap_96 (fun H locs hP hD hS => ?_)
        have hP : va_P (dC, dI) vwCl [(a, .inl (cI, 256, .inl (upd (upd kf i.toNatClampNeg v_15) k.toNatClampNeg v_13))), (b, .inl (cJ, 256, .inr (.inl (vp_updL (vp_updL vf i.toNatClampNeg v_16) k.toNatClampNeg v_14)))), (m0, .inr (2, [.int 0, .ref a, .ref b]))] H := hP
        have hD : va_D A [(a, .inl (cI, 256, .inl (upd (upd kf i.toNatClampNeg v_15) k.toNatClampNeg v_13))), (b, .inl (cJ, 256, .inr (.inl (vp_updL (vp_updL vf i.toNatClampNeg v_16) k.toNatClampNeg v_14)))), (m0, .inr (2, [.int 0, .ref a, .ref b]))] := hD
        have hP9 := hP.sub (ws' := [(m0, .inr (2, [.int 0, .ref a, .ref b])), (a, .inl (cI, 256, .inl (upd (upd kf i.toNatClampNeg v_15) k.toNatClampNeg v_13))), (b, .inl (cJ, 256, .inr (.inl (vp_updL (vp_updL vf i.toNatClampNeg v_16) k.toNatClampNeg v_14))))]) [2, 0, 1] rfl
        have hD9 := hD.sub (ws' := [(m0, .inr (2, [.int 0, .ref a, .ref b])), (a, .inl (cI, 256, .inl (upd (upd kf i.toNatClampNeg v_15) k.toNatClampNeg v_13))), (b, .inl (cJ, 256, .inr (.inl (vp_updL (vp_updL vf i.toNatClampNeg v_16) k.toNatClampNeg v_14))))]) [2, 0, 1] (by decide) rfl
        have hK9 := hK.sub (tys' := [(cI, .int), (cJ, .long)]) [0, 1] rfl
        refine W.widen (k := 0) (n := 0) (Nat.le_of_ble_eq_true rfl) (Nat.le_of_ble_eq_true rfl) ?_
        exact W.vret hx hb hr (fun t9 ht hW => ⟨⟨(0, upd (upd kf i.toNatClampNeg v_15) k.toNatClampNeg v_13, vp_updL (vp_updL vf i.toNatClampNeg v_16) k.toNatClampNeg v_14), rfl, by first | (simp [w_c, w_k, w_v, w64_0, w64_4, w64_255, w64_1000, w64_2, c_3, c_9, ev_13, ev_14, ev_15, ev_16]; done) | (simp [w_c, w_k, w_v, w64_0, w64_4, w64_255, w64_1000, w64_2, ← ev_13, ← ev_14, ← ev_15, ← ev_16, c_3, c_9]; done) | grind [w_c, w_k, w_v, w64_0, w64_4, w64_255, w64_1000, w64_2], by rw [ht]; exact hP9, va_K.moved hW.alike hK9, hD9⟩, hS.F ht⟩) hS.2.2 dX2_swap_97
      · exact absurd c_12 (by decide)
    · rw [h_8, b01] at c_9
      refine lv_iconst (v := 1) hx hb dX2_swap_30 (by decide) ?_
      refine lv_goto (tgt := 35) hx hb dX2_swap_31 (by decide) ?_
      refine lv_iconst (v := 1) hx hb dX2_swap_35 (by decide) ?_
      have hPc := hP.sub (ws' := [(m0, .inr (2, [.int 0, .ref a, .ref b]))]) [0] rfl
      have hDc := hD.sub (ws' := [(m0, .inr (2, [.int 0, .ref a, .ref b]))]) [0] (by decide) rfl
      have hKc := hK.sub (tys' := []) [] rfl
      have hFc := va_free (wc := [(m0, .inr (2, [.int 0, .ref a, .ref b]))]) hD hS hA [0] rfl
      refine va_calli (va_runV (As := [.int 1, .int 1]) (rest := []) ⟨hx, hb, hml, hown, hts⟩ (qX2_fails l dC dI H.size m0 a b (0) (1) (1)) (cwV 2 hts gX2_swap_X2_fails rfl rfl rfl (by decide +kernel) ⟨Nat.le_of_ble_eq_true rfl, Nat.le_of_ble_eq_true rfl⟩) ⟨fun a U g mk q => by obtain ⟨q0, q1, qP, qK, qD⟩ := q; exact ⟨q0, q1, qP, va_K.moved (u := U) (U := U.calling g mk a) (Vm.Alike.refl U.vm) qK, qD⟩, va_recv hKc hPc (ci := 2) (q0 := 0) rfl rfl, fun U hU hW => ⟨rfl, by rw [hU], by rw [hU]; exact hPc, va_K.moved hW.alike hKc, hDc.weaken (fun _ _ _ _ => trivial)⟩⟩ rfl rfl hl.1 rfl (lv_room (Nat.le_of_ble_eq_true rfl)) dX2_swap_36 ⟨Nat.le_of_ble_eq_true rfl, Nat.le_of_ble_eq_true rfl⟩) hS (fun q _ h => hFc q h) hFc (fun r_17 u t9 H1 locs ht hvm hw hB hz1 hk1 hS => ?_)
      obtain ⟨hP1, hK1, hD1⟩ := hB
      rw [ht] at hP1
      obtain ⟨h_18, rfl⟩ := hw
      have hK1 := va_K.moved hvm.symm hK1
      obtain ⟨hP, hD⟩ := va_join (wr := [(a, .inl (cI, 256, .inl kf)), (b, .inl (cJ, 256, .inr (.inl vf)))]) (w1 := [(m0, .inr (2, [.int (m_f 1 0 1), .ref a, .ref b]))]) hP hD [0] [1, 2] rfl rfl (by decide) (by decide) hk1 hFc hP1 hD1
      have hK := (hK.sub (tys' := [(cI, .int), (cJ, .long)]) [0, 1] rfl).app hK1
      generalize H1 = H at hP hS ⊢
      have hP : va_P (dC, dI) vwCl [(a, .inl (cI, 256, .inl kf)), (b, .inl (cJ, 256, .inr (.inl vf))), (m0, .inr (2, [.int (m_f 1 0 1), .ref a, .ref b]))] H := hP
      have hD : va_D A [(a, .inl (cI, 256, .inl kf)), (b, .inl (cJ, 256, .inr (.inl vf))), (m0, .inr (2, [.int (m_f 1 0 1), .ref a, .ref b]))] := hD
      have hK : va_K (dC, dI) vwCl [(cI, .int), (cJ, .long)] s := hK
      refine W.widen (k := 0) (n := 0) (Nat.le_of_ble_eq_true rfl) (Nat.le_of_ble_eq_true rfl) ?_
      obtain rfl : r_17 = 1 := h_18.trans (by decide)
      have hP : va_P (dC, dI) vwCl [(a, .inl (cI, 256, .inl kf)), (b, .inl (cJ, 256, .inr (.inl vf))), (m0, .inr (2, [.int 1, .ref a, .ref b]))] H := hP
      have hD : va_D A [(a, .inl (cI, 256, .inl kf)), (b, .inl (cJ, 256, .inr (.inl vf))), (m0, .inr (2, [.int 1, .ref a, .ref b]))] := hD
      refine lv_if_eq (tgt := 43) hx hb dX2_swap_39 (by decide) (fun c_19 => ?_) (fun c_19 => ?_)
      · exact absurd c_19 (by decide)
      · have hP9 := hP.sub (ws' := [(m0, .inr (2, [.int 1, .ref a, .ref b])), (a, .inl (cI, 256, .inl kf)), (b, .inl (cJ, 256, .inr (.inl vf)))]) [2, 0, 1] rfl
        have hD9 := hD.sub (ws' := [(m0, .inr (2, [.int 1, .ref a, .ref b])), (a, .inl (cI, 256, .inl kf)), (b, .inl (cJ, 256, .inr (.inl vf)))]) [2, 0, 1] (by decide) rfl
        have hK9 := hK.sub (tys' := [(cI, .int), (cJ, .long)]) [0, 1] rfl
        refine W.widen (k := 0) (n := 0) (Nat.le_of_ble_eq_true rfl) (Nat.le_of_ble_eq_true rfl) ?_
        exact W.vret hx hb hr (fun t9 ht hW => ⟨⟨(1, kf, vf), rfl, by first | (simp [w_c, w_k, w_v, w64_0, w64_4, w64_255, w64_1000, w64_2, c_3, c_9]; done) | (simp [w_c, w_k, w_v, w64_0, w64_4, w64_255, w64_1000, w64_2, c_3, c_9]; done) | grind [w_c, w_k, w_v, w64_0, w64_4, w64_255, w64_1000, w64_2], by rw [ht]; exact hP9, va_K.moved hW.alike hK9, hD9⟩, hS.F ht⟩) hS.2.2 dX2_swap_42

set_option maxRecDepth 20000 in
theorem kX2_ends_0 : (.constantLong RX2 59 (2) : Cond) ∈ wsX2_ends := by decide +kernel
set_option maxHeartbeats 4000000 in
set_option maxRecDepth 100000 in
theorem qX2_ends (l : Launch) (dC : Nat → ClassId) (dI : Nat → Nat → Nat) (sz : Nat) (m0 a b : Nat) (cI cJ : ClassId) (er : Int32) (kf : Nat → Int32) (vf : Nat → Int64) (f t : Int32) (x : Int64) (hok : okW f t) : Met l yX2_ends wsX2_ends ({ frames := 1, cells := 0, slots := 0, locals := 30 }) (va_Pc [.ref m0, .int f, .int t, .long x] (fun U => U.heap.size = sz ∧ va_P (dC, dI) vwCl [(m0, .inr (2, [.int er, .ref a, .ref b])), (a, .inl (cI, 256, .inl kf)), (b, .inl (cJ, 256, .inr (.inl vf)))] U.heap ∧ va_K (dC, dI) vwCl [(cI, .int), (cJ, .long)] U ∧ va_D (fun _ => True) [(m0, .inr (2, [.int er, .ref a, .ref b])), (a, .inl (cI, 256, .inl kf)), (b, .inl (cJ, 256, .inr (.inl vf)))])) (va_Qi (fun (r : Int32) (u : Unit) => (r = if m_en kf vf f t x then 1 else 0)) (fun (u : Unit) (t9 : State) => va_P (dC, dI) vwCl [(m0, .inr (2, [.int er, .ref a, .ref b])), (a, .inl (cI, 256, .inl kf)), (b, .inl (cJ, 256, .inr (.inl vf)))] t9.heap ∧ va_K (dC, dI) vwCl [(cI, .int), (cJ, .long)] t9 ∧ va_D (va_A [(m0, .inr (2, [.int er, .ref a, .ref b])), (a, .inl (cI, 256, .inl kf)), (b, .inl (cJ, 256, .inr (.inl vf)))] sz) [(m0, .inr (2, [.int er, .ref a, .ref b])), (a, .inl (cI, 256, .inl kf)), (b, .inl (cJ, 256, .inr (.inl vf)))]) (va_A [(m0, .inr (2, [.int er, .ref a, .ref b])), (a, .inl (cI, 256, .inl kf)), (b, .inl (cJ, 256, .inr (.inl vf)))] sz)) 0 0 (va_A [(m0, .inr (2, [.int er, .ref a, .ref b])), (a, .inl (cI, 256, .inl kf)), (b, .inl (cJ, 256, .inr (.inl vf)))] sz) := by
  refine Met.ofW (cc := cX2_ends) (maxL := 5) (ret := (some .boolean)) (by decide) rfl ?_
  intro p e s m args below meth c s₁ B hml hv
  obtain ⟨rfl, hsz, hP, hK, hD0⟩ := hv
  have hx := B.exec
  have hb := B.bytes
  have hr := B.returns
  have hts := atoms_spec (ws := wsX2_ends) B.pre
  have hown : s.vm.findClass RX2 = some m.cls := findClass_of_methodNamed B.named
  have hlocks := B.notSynchronized
  subst hsz
  have hD := hD0.self (sz := s.heap.size)
  generalize hAe : va_A [(m0, .inr (2, [.int er, .ref a, .ref b])), (a, .inl (cI, 256, .inl kf)), (b, .inl (cJ, 256, .inr (.inl vf)))] s.heap.size = A at hD ⊢
  have hA : ∀ q : Nat, s.heap.size ≤ q → A q := fun q h => by rw [← hAe]; exact Or.inr h
  have hS : va_S A s.heap s.heap [] := va_S.rf
  have hP : va_P (dC, dI) vwCl [(m0, .inr (2, [.int er, .ref a, .ref b])), (a, .inl (cI, 256, .inl kf)), (b, .inl (cJ, 256, .inr (.inl vf)))] s.heap := hP
  have hl := lv_entry ([.ref m0, .int f, .int t, .long x]) (n := 5) (Nat.le_of_ble_eq_true rfl)
  rw [lg_entry_eq]
  generalize (lg_sl ([.ref m0, .int f, .int t, .long x]) ++ List.replicate (5 - (lg_sl ([.ref m0, .int f, .int t, .long x])).length) Slot.unset).toArray = ls at hl ⊢
  have hl : lv_has ls 5 [(0, .ref m0), (1, .int f), (2, .int t), (3, .long x)] := hl
  refine lv_aload_n hx hb dX2_ends_0 rfl (lv_at hl 0 rfl) ?_
  refine lv_iload_n hx hb dX2_ends_1 rfl (lv_at hl 1 rfl) ?_
  refine lv_iload_n hx hb dX2_ends_2 rfl (lv_at hl 2 rfl) ?_
  refine lv_lload_n hx hb dX2_ends_3 rfl (lv_at hl 3 rfl) ?_
  have hPc := hP.sub (ws' := [(m0, .inr (2, [.int er, .ref a, .ref b])), (a, .inl (cI, 256, .inl kf)), (b, .inl (cJ, 256, .inr (.inl vf)))]) [0, 1, 2] rfl
  have hDc := hD.sub (ws' := [(m0, .inr (2, [.int er, .ref a, .ref b])), (a, .inl (cI, 256, .inl kf)), (b, .inl (cJ, 256, .inr (.inl vf)))]) [0, 1, 2] (by decide) rfl
  have hKc := hK.sub (tys' := [(cI, .int), (cJ, .long)]) [0, 1] rfl
  have hFc := va_free (wc := [(m0, .inr (2, [.int er, .ref a, .ref b])), (a, .inl (cI, 256, .inl kf)), (b, .inl (cJ, 256, .inr (.inl vf)))]) hD hS hA [0, 1, 2] rfl
  refine va_calll (va_runV (As := [.int f, .int t, .long x]) (rest := []) ⟨hx, hb, hml, hown, hts⟩ (qX2_made l dC dI s.heap.size m0 a b cI cJ er kf vf f t x (by grind)) (cwV 3 hts gX2_ends_X2_made rfl rfl rfl (by decide +kernel) ⟨Nat.le_of_ble_eq_true rfl, Nat.le_of_ble_eq_true rfl⟩) ⟨fun a U g mk q => by obtain ⟨q0, q1, qP, qK, qD⟩ := q; exact ⟨q0, q1, qP, va_K.moved (u := U) (U := U.calling g mk a) (Vm.Alike.refl U.vm) qK, qD⟩, va_recv hKc hPc (ci := 2) (q0 := 0) rfl rfl, fun U hU hW => ⟨rfl, by rw [hU], by rw [hU]; exact hPc, va_K.moved hW.alike hKc, hDc.weaken (fun _ _ _ _ => trivial)⟩⟩ rfl rfl hl.1 rfl (lv_room (Nat.le_of_ble_eq_true rfl)) dX2_ends_4 ⟨Nat.le_of_ble_eq_true rfl, Nat.le_of_ble_eq_true rfl⟩) hS (fun q _ h => hFc q h) hFc (fun r_1 u t9 H1 locs ht hvm hw hB hz1 hk1 hS => ?_)
  obtain ⟨hP1, hK1, hD1⟩ := hB
  rw [ht] at hP1
  have h_2 := hw
  have hK1 := va_K.moved hvm.symm hK1
  obtain ⟨hP, hD⟩ := va_join (wr := []) (w1 := [(m0, .inr (2, [.int er, .ref a, .ref b])), (a, .inl (cI, 256, .inl kf)), (b, .inl (cJ, 256, .inr (.inl vf)))]) hP hD [0, 1, 2] [] rfl rfl (by decide) (by decide) hk1 hFc hP1 hD1
  have hK := (hK.sub (tys' := []) [] rfl).app hK1
  generalize H1 = H at hP hS ⊢
  have hP : va_P (dC, dI) vwCl [(m0, .inr (2, [.int er, .ref a, .ref b])), (a, .inl (cI, 256, .inl kf)), (b, .inl (cJ, 256, .inr (.inl vf)))] H := hP
  have hD : va_D A [(m0, .inr (2, [.int er, .ref a, .ref b])), (a, .inl (cI, 256, .inl kf)), (b, .inl (cJ, 256, .inr (.inl vf)))] := hD
  have hK : va_K (dC, dI) vwCl [(cI, .int), (cJ, .long)] s := hK
  refine W.widen (k := 0) (n := 0) (Nat.le_of_ble_eq_true rfl) (Nat.le_of_ble_eq_true rfl) ?_
  refine lv_aload_n hx hb dX2_ends_7 rfl (lv_at hl 0 rfl) ?_
  refine lv_iload_n hx hb dX2_ends_8 rfl (lv_at hl 1 rfl) ?_
  refine lv_iload_n hx hb dX2_ends_9 rfl (lv_at hl 2 rfl) ?_
  refine lv_ldc2 hx hb hown (hts (.constantLong RX2 59 (2)) kX2_ends_0) dX2_ends_10 ?_
  refine lv_lload_n hx hb dX2_ends_13 rfl (lv_at hl 3 rfl) ?_
  refine lv_lmul hx hb dX2_ends_14 ?_
  refine lv_topl (fun v_3 ev_3 => ?_)
  have hPc := hP.sub (ws' := [(m0, .inr (2, [.int er, .ref a, .ref b])), (a, .inl (cI, 256, .inl kf)), (b, .inl (cJ, 256, .inr (.inl vf)))]) [0, 1, 2] rfl
  have hDc := hD.sub (ws' := [(m0, .inr (2, [.int er, .ref a, .ref b])), (a, .inl (cI, 256, .inl kf)), (b, .inl (cJ, 256, .inr (.inl vf)))]) [0, 1, 2] (by decide) rfl
  have hKc := hK.sub (tys' := [(cI, .int), (cJ, .long)]) [0, 1] rfl
  have hFc := va_free (wc := [(m0, .inr (2, [.int er, .ref a, .ref b])), (a, .inl (cI, 256, .inl kf)), (b, .inl (cJ, 256, .inr (.inl vf)))]) hD hS hA [0, 1, 2] rfl
  refine va_calll (va_runV (As := [.int f, .int t, .long v_3]) (rest := [.long r_1]) ⟨hx, hb, hml, hown, hts⟩ (qX2_made l dC dI H.size m0 a b cI cJ er kf vf f t v_3 (by grind)) (cwV 3 hts gX2_ends_X2_made rfl rfl rfl (by decide +kernel) ⟨Nat.le_of_ble_eq_true rfl, Nat.le_of_ble_eq_true rfl⟩) ⟨fun a U g mk q => by obtain ⟨q0, q1, qP, qK, qD⟩ := q; exact ⟨q0, q1, qP, va_K.moved (u := U) (U := U.calling g mk a) (Vm.Alike.refl U.vm) qK, qD⟩, va_recv hKc hPc (ci := 2) (q0 := 0) rfl rfl, fun U hU hW => ⟨rfl, by rw [hU], by rw [hU]; exact hPc, va_K.moved hW.alike hKc, hDc.weaken (fun _ _ _ _ => trivial)⟩⟩ rfl rfl hl.1 rfl (lv_room (Nat.le_of_ble_eq_true rfl)) dX2_ends_15 ⟨Nat.le_of_ble_eq_true rfl, Nat.le_of_ble_eq_true rfl⟩) hS (fun q _ h => hFc q h) hFc (fun r_4 u t9 H1 locs ht hvm hw hB hz1 hk1 hS => ?_)
  obtain ⟨hP1, hK1, hD1⟩ := hB
  rw [ht] at hP1
  have h_5 := hw
  have hK1 := va_K.moved hvm.symm hK1
  obtain ⟨hP, hD⟩ := va_join (wr := []) (w1 := [(m0, .inr (2, [.int er, .ref a, .ref b])), (a, .inl (cI, 256, .inl kf)), (b, .inl (cJ, 256, .inr (.inl vf)))]) hP hD [0, 1, 2] [] rfl rfl (by decide) (by decide) hk1 hFc hP1 hD1
  have hK := (hK.sub (tys' := []) [] rfl).app hK1
  generalize H1 = H at hP hS ⊢
  have hP : va_P (dC, dI) vwCl [(m0, .inr (2, [.int er, .ref a, .ref b])), (a, .inl (cI, 256, .inl kf)), (b, .inl (cJ, 256, .inr (.inl vf)))] H := hP
  have hD : va_D A [(m0, .inr (2, [.int er, .ref a, .ref b])), (a, .inl (cI, 256, .inl kf)), (b, .inl (cJ, 256, .inr (.inl vf)))] := hD
  have hK : va_K (dC, dI) vwCl [(cI, .int), (cJ, .long)] s := hK
  refine W.widen (k := 0) (n := 0) (Nat.le_of_ble_eq_true rfl) (Nat.le_of_ble_eq_true rfl) ?_
  refine W.lcmp hx hb dX2_ends_18 ?_
  refine lv_if_ne (tgt := 26) hx hb dX2_ends_19 (by decide) (fun c_6 => ?_) (fun c_6 => ?_)
  · simp only [lq_ne] at c_6
    refine lv_iconst (v := 0) hx hb dX2_ends_26 (by decide) ?_
    have hP9 := hP.sub (ws' := [(m0, .inr (2, [.int er, .ref a, .ref b])), (a, .inl (cI, 256, .inl kf)), (b, .inl (cJ, 256, .inr (.inl vf)))]) [0, 1, 2] rfl
    have hD9 := hD.sub (ws' := [(m0, .inr (2, [.int er, .ref a, .ref b])), (a, .inl (cI, 256, .inl kf)), (b, .inl (cJ, 256, .inr (.inl vf)))]) [0, 1, 2] (by decide) rfl
    have hK9 := hK.sub (tys' := [(cI, .int), (cJ, .long)]) [0, 1] rfl
    refine W.widen (k := 0) (n := 0) (Nat.le_of_ble_eq_true rfl) (Nat.le_of_ble_eq_true rfl) ?_
    exact W.zret (v := 0) hx hb hr rfl (fun t9 ht hW => ⟨⟨0, (), rfl, by first | (simp [h_2, ev_3, h_5, c_6]; done) | (simp [← ev_3, h_2, h_5, c_6]; done) | grind [], by rw [ht]; exact hP9, va_K.moved hW.alike hK9, hD9⟩, hS.F ht⟩) hS.2.2 dX2_ends_27
  · simp only [lq_ne] at c_6
    refine lv_iconst (v := 1) hx hb dX2_ends_22 (by decide) ?_
    refine lv_goto (tgt := 27) hx hb dX2_ends_23 (by decide) ?_
    have hP9 := hP.sub (ws' := [(m0, .inr (2, [.int er, .ref a, .ref b])), (a, .inl (cI, 256, .inl kf)), (b, .inl (cJ, 256, .inr (.inl vf)))]) [0, 1, 2] rfl
    have hD9 := hD.sub (ws' := [(m0, .inr (2, [.int er, .ref a, .ref b])), (a, .inl (cI, 256, .inl kf)), (b, .inl (cJ, 256, .inr (.inl vf)))]) [0, 1, 2] (by decide) rfl
    have hK9 := hK.sub (tys' := [(cI, .int), (cJ, .long)]) [0, 1] rfl
    refine W.widen (k := 0) (n := 0) (Nat.le_of_ble_eq_true rfl) (Nat.le_of_ble_eq_true rfl) ?_
    exact W.zret (v := 1) hx hb hr rfl (fun t9 ht hW => ⟨⟨1, (), rfl, by first | (simp [h_2, ev_3, h_5, c_6]; done) | (simp [← ev_3, h_2, h_5, c_6]; done) | grind [], by rw [ht]; exact hP9, va_K.moved hW.alike hK9, hD9⟩, hS.F ht⟩) hS.2.2 dX2_ends_27

set_option maxRecDepth 20000 in
theorem kX2_fold_0 : ∀ w ∈ wsX20, w ∈ wsX2_fold := by decide +kernel
set_option maxRecDepth 20000 in
theorem kX2_fold_1 : (.fieldLink RX2 17 "FoldRowModel" "err" "I" : Cond) ∈ wsX2_fold := by decide +kernel
set_option maxHeartbeats 4000000 in
set_option maxRecDepth 100000 in
theorem qX2_fold (l : Launch) (dC : Nat → ClassId) (dI : Nat → Nat → Nat) (sz : Nat) (m0 a b : Nat) (cI cJ : ClassId) (er : Int32) (kf : Nat → Int32) (vf : Nat → Int64) (f t : Int32) (x : Int64)  : Met l yX2_fold wsX2_fold ({ frames := 3, cells := 0, slots := 0, locals := 90 }) (va_Pc [.ref m0, .int f, .int t, .long x] (fun U => U.heap.size = sz ∧ va_P (dC, dI) vwCl [(m0, .inr (2, [.int er, .ref a, .ref b])), (a, .inl (cI, 256, .inl kf)), (b, .inl (cJ, 256, .inr (.inl vf)))] U.heap ∧ va_K (dC, dI) vwCl [(cI, .int), (cJ, .long)] U ∧ va_D (fun _ => True) [(m0, .inr (2, [.int er, .ref a, .ref b])), (a, .inl (cI, 256, .inl kf)), (b, .inl (cJ, 256, .inr (.inl vf)))])) (va_Ql (fun (r : Int64) (u : Int32) => (r = if okX x ∧ okW f t then mW kf vf f t x else 0) ∧ u = o_c f t x) (fun (u : Int32) (t9 : State) => va_P (dC, dI) vwCl [(m0, .inr (2, [.int u, .ref a, .ref b])), (a, .inl (cI, 256, .inl kf)), (b, .inl (cJ, 256, .inr (.inl vf)))] t9.heap ∧ va_K (dC, dI) vwCl [(cI, .int), (cJ, .long)] t9 ∧ va_D (va_A [(m0, .inr (2, [.int er, .ref a, .ref b])), (a, .inl (cI, 256, .inl kf)), (b, .inl (cJ, 256, .inr (.inl vf)))] sz) [(m0, .inr (2, [.int u, .ref a, .ref b])), (a, .inl (cI, 256, .inl kf)), (b, .inl (cJ, 256, .inr (.inl vf)))]) (va_A [(m0, .inr (2, [.int er, .ref a, .ref b])), (a, .inl (cI, 256, .inl kf)), (b, .inl (cJ, 256, .inr (.inl vf)))] sz)) 0 0 (va_A [(m0, .inr (2, [.int er, .ref a, .ref b])), (a, .inl (cI, 256, .inl kf)), (b, .inl (cJ, 256, .inr (.inl vf)))] sz) := by
  refine Met.ofW (cc := cX2_fold) (maxL := 5) (ret := (some .long)) (by decide) rfl ?_
  intro p e s m args below meth c s₁ B hml hv
  obtain ⟨rfl, hsz, hP, hK, hD0⟩ := hv
  have hx := B.exec
  have hb := B.bytes
  have hr := B.returns
  have hts := atoms_spec (ws := wsX2_fold) B.pre
  have hown : s.vm.findClass RX2 = some m.cls := findClass_of_methodNamed B.named
  have hlocks := B.notSynchronized
  subst hsz
  have hD := hD0.self (sz := s.heap.size)
  generalize hAe : va_A [(m0, .inr (2, [.int er, .ref a, .ref b])), (a, .inl (cI, 256, .inl kf)), (b, .inl (cJ, 256, .inr (.inl vf)))] s.heap.size = A at hD ⊢
  have hA : ∀ q : Nat, s.heap.size ≤ q → A q := fun q h => by rw [← hAe]; exact Or.inr h
  have hS : va_S A s.heap s.heap [] := va_S.rf
  have hP : va_P (dC, dI) vwCl [(m0, .inr (2, [.int er, .ref a, .ref b])), (a, .inl (cI, 256, .inl kf)), (b, .inl (cJ, 256, .inr (.inl vf)))] s.heap := hP
  have hl := lv_entry ([.ref m0, .int f, .int t, .long x]) (n := 5) (Nat.le_of_ble_eq_true rfl)
  rw [lg_entry_eq]
  generalize (lg_sl ([.ref m0, .int f, .int t, .long x]) ++ List.replicate (5 - (lg_sl ([.ref m0, .int f, .int t, .long x])).length) Slot.unset).toArray = ls at hl ⊢
  have hl : lv_has ls 5 [(0, .ref m0), (1, .int f), (2, .int t), (3, .long x)] := hl
  refine lv_aload_n hx hb dX2_fold_0 rfl (lv_at hl 0 rfl) ?_
  refine lv_iconst (v := 0) hx hb dX2_fold_1 (by decide) ?_
  refine va_put (D := (dC, dI)) (ci := 2) (v := .int 0) (ty := .int) (C := RX2) (T := TX2) (N := 3) hx hb hts kX2_fold_0 tyX2 tyX2_ok nmX2 hown hK hP hD hS 0 rfl rfl 0 (by decide) (hts (.fieldLink RX2 17 "FoldRowModel" "err" "I") kX2_fold_1) (fun _ h9 => h9) rfl (by decide +kernel) rfl rfl (Nat.le_of_ble_eq_true rfl) dX2_fold_2 (fun H locs hP hD hS => ?_)
  have hP : va_P (dC, dI) vwCl [(m0, .inr (2, [.int 0, .ref a, .ref b])), (a, .inl (cI, 256, .inl kf)), (b, .inl (cJ, 256, .inr (.inl vf)))] H := hP
  have hD : va_D A [(m0, .inr (2, [.int 0, .ref a, .ref b])), (a, .inl (cI, 256, .inl kf)), (b, .inl (cJ, 256, .inr (.inl vf)))] := hD
  refine lv_aload_n hx hb dX2_fold_5 rfl (lv_at hl 0 rfl) ?_
  refine lv_lload_n hx hb dX2_fold_6 rfl (lv_at hl 3 rfl) ?_
  have hPc := hP.sub (ws' := []) [] rfl
  have hDc := hD.sub (ws' := []) [] (by decide) rfl
  have hKc := hK.sub (tys' := []) [] rfl
  have hFc := va_free (wc := []) hD hS hA [] rfl
  refine va_calli (va_runS (As := [.long x]) (rest := [.ref m0]) ⟨hx, hb, hml, hown, hts⟩ (qX2_isNumber l dC dI H.size x) (va_cwS 1 hts gX2_fold_X2_isNumber rfl rfl rfl (by decide +kernel) ⟨Nat.le_of_ble_eq_true rfl, Nat.le_of_ble_eq_true rfl⟩) ⟨fun a U g mk q => by obtain ⟨q0, q1, qP, qK, qD⟩ := q; exact ⟨q0, q1, qP, va_K.moved (u := U) (U := U.calling g mk a) (Vm.Alike.refl U.vm) qK, qD⟩, fun U hU hW => ⟨rfl, by rw [hU], by rw [hU]; exact hPc, va_K.moved hW.alike hKc, hDc.weaken (fun _ _ _ _ => trivial)⟩⟩ rfl rfl hl.1 rfl (lv_room (Nat.le_of_ble_eq_true rfl)) dX2_fold_7 ⟨Nat.le_of_ble_eq_true rfl, Nat.le_of_ble_eq_true rfl⟩) hS (fun q _ h => hFc q h) hFc (fun r_1 u t9 H1 locs ht hvm hw hB hz1 hk1 hS => ?_)
  obtain ⟨hP1, hK1, hD1⟩ := hB
  rw [ht] at hP1
  have h_2 := hw
  have hK1 := va_K.moved hvm.symm hK1
  obtain ⟨hP, hD⟩ := va_join (wr := [(m0, .inr (2, [.int 0, .ref a, .ref b])), (a, .inl (cI, 256, .inl kf)), (b, .inl (cJ, 256, .inr (.inl vf)))]) (w1 := []) hP hD [] [0, 1, 2] rfl rfl (by decide) (by decide) hk1 hFc hP1 hD1
  have hK := (hK.sub (tys' := [(cI, .int), (cJ, .long)]) [0, 1] rfl).app hK1
  generalize H1 = H at hP hS ⊢
  have hP : va_P (dC, dI) vwCl [(m0, .inr (2, [.int 0, .ref a, .ref b])), (a, .inl (cI, 256, .inl kf)), (b, .inl (cJ, 256, .inr (.inl vf)))] H := hP
  have hD : va_D A [(m0, .inr (2, [.int 0, .ref a, .ref b])), (a, .inl (cI, 256, .inl kf)), (b, .inl (cJ, 256, .inr (.inl vf)))] := hD
  have hK : va_K (dC, dI) vwCl [(cI, .int), (cJ, .long)] s := hK
  refine W.widen (k := 0) (n := 0) (Nat.le_of_ble_eq_true rfl) (Nat.le_of_ble_eq_true rfl) ?_
  refine lv_if_ne (tgt := 17) hx hb dX2_fold_10 (by decide) (fun c_3 => ?_) (fun c_3 => ?_)
  · rw [h_2, b01] at c_3
    have c_3 := Classical.not_not.mp c_3
    refine lv_iconst (v := 0) hx hb dX2_fold_17 (by decide) ?_
    refine lv_iconst (v := 1) hx hb dX2_fold_18 (by decide) ?_
    have hPc := hP.sub (ws' := [(m0, .inr (2, [.int 0, .ref a, .ref b]))]) [0] rfl
    have hDc := hD.sub (ws' := [(m0, .inr (2, [.int 0, .ref a, .ref b]))]) [0] (by decide) rfl
    have hKc := hK.sub (tys' := []) [] rfl
    have hFc := va_free (wc := [(m0, .inr (2, [.int 0, .ref a, .ref b]))]) hD hS hA [0] rfl
    refine va_calli (va_runV (As := [.int 0, .int 1]) (rest := []) ⟨hx, hb, hml, hown, hts⟩ (qX2_fails l dC dI H.size m0 a b (0) (0) (1)) (cwV 2 hts gX2_fold_X2_fails rfl rfl rfl (by decide +kernel) ⟨Nat.le_of_ble_eq_true rfl, Nat.le_of_ble_eq_true rfl⟩) ⟨fun a U g mk q => by obtain ⟨q0, q1, qP, qK, qD⟩ := q; exact ⟨q0, q1, qP, va_K.moved (u := U) (U := U.calling g mk a) (Vm.Alike.refl U.vm) qK, qD⟩, va_recv hKc hPc (ci := 2) (q0 := 0) rfl rfl, fun U hU hW => ⟨rfl, by rw [hU], by rw [hU]; exact hPc, va_K.moved hW.alike hKc, hDc.weaken (fun _ _ _ _ => trivial)⟩⟩ rfl rfl hl.1 rfl (lv_room (Nat.le_of_ble_eq_true rfl)) dX2_fold_19 ⟨Nat.le_of_ble_eq_true rfl, Nat.le_of_ble_eq_true rfl⟩) hS (fun q _ h => hFc q h) hFc (fun r_4 u t9 H1 locs ht hvm hw hB hz1 hk1 hS => ?_)
    obtain ⟨hP1, hK1, hD1⟩ := hB
    rw [ht] at hP1
    obtain ⟨h_5, rfl⟩ := hw
    have hK1 := va_K.moved hvm.symm hK1
    obtain ⟨hP, hD⟩ := va_join (wr := [(a, .inl (cI, 256, .inl kf)), (b, .inl (cJ, 256, .inr (.inl vf)))]) (w1 := [(m0, .inr (2, [.int (m_f 0 0 1), .ref a, .ref b]))]) hP hD [0] [1, 2] rfl rfl (by decide) (by decide) hk1 hFc hP1 hD1
    have hK := (hK.sub (tys' := [(cI, .int), (cJ, .long)]) [0, 1] rfl).app hK1
    generalize H1 = H at hP hS ⊢
    have hP : va_P (dC, dI) vwCl [(a, .inl (cI, 256, .inl kf)), (b, .inl (cJ, 256, .inr (.inl vf))), (m0, .inr (2, [.int (m_f 0 0 1), .ref a, .ref b]))] H := hP
    have hD : va_D A [(a, .inl (cI, 256, .inl kf)), (b, .inl (cJ, 256, .inr (.inl vf))), (m0, .inr (2, [.int (m_f 0 0 1), .ref a, .ref b]))] := hD
    have hK : va_K (dC, dI) vwCl [(cI, .int), (cJ, .long)] s := hK
    refine W.widen (k := 0) (n := 0) (Nat.le_of_ble_eq_true rfl) (Nat.le_of_ble_eq_true rfl) ?_
    obtain rfl : r_4 = 0 := h_5.trans (by decide)
    have hP : va_P (dC, dI) vwCl [(a, .inl (cI, 256, .inl kf)), (b, .inl (cJ, 256, .inr (.inl vf))), (m0, .inr (2, [.int 0, .ref a, .ref b]))] H := hP
    have hD : va_D A [(a, .inl (cI, 256, .inl kf)), (b, .inl (cJ, 256, .inr (.inl vf))), (m0, .inr (2, [.int 0, .ref a, .ref b]))] := hD
    refine lv_if_ne (tgt := 46) hx hb dX2_fold_22 (by decide) (fun c_6 => ?_) (fun c_6 => ?_)
    · exact absurd c_6 (by decide)
    · refine lv_aload_n hx hb dX2_fold_25 rfl (lv_at hl 0 rfl) ?_
      refine lv_iload_n hx hb dX2_fold_26 rfl (lv_at hl 1 rfl) ?_
      refine lv_iload_n hx hb dX2_fold_27 rfl (lv_at hl 2 rfl) ?_
      have hPc := hP.sub (ws' := []) [] rfl
      have hDc := hD.sub (ws' := []) [] (by decide) rfl
      have hKc := hK.sub (tys' := []) [] rfl
      have hFc := va_free (wc := []) hD hS hA [] rfl
      refine va_calli (va_runS (As := [.int f, .int t]) (rest := [.ref m0]) ⟨hx, hb, hml, hown, hts⟩ (qX2_isPart l dC dI H.size f t) (va_cwS 2 hts gX2_fold_X2_isPart rfl rfl rfl (by decide +kernel) ⟨Nat.le_of_ble_eq_true rfl, Nat.le_of_ble_eq_true rfl⟩) ⟨fun a U g mk q => by obtain ⟨q0, q1, qP, qK, qD⟩ := q; exact ⟨q0, q1, qP, va_K.moved (u := U) (U := U.calling g mk a) (Vm.Alike.refl U.vm) qK, qD⟩, fun U hU hW => ⟨rfl, by rw [hU], by rw [hU]; exact hPc, va_K.moved hW.alike hKc, hDc.weaken (fun _ _ _ _ => trivial)⟩⟩ rfl rfl hl.1 rfl (lv_room (Nat.le_of_ble_eq_true rfl)) dX2_fold_28 ⟨Nat.le_of_ble_eq_true rfl, Nat.le_of_ble_eq_true rfl⟩) hS (fun q _ h => hFc q h) hFc (fun r_7 u t9 H1 locs ht hvm hw hB hz1 hk1 hS => ?_)
      obtain ⟨hP1, hK1, hD1⟩ := hB
      rw [ht] at hP1
      have h_8 := hw
      have hK1 := va_K.moved hvm.symm hK1
      obtain ⟨hP, hD⟩ := va_join (wr := [(a, .inl (cI, 256, .inl kf)), (b, .inl (cJ, 256, .inr (.inl vf))), (m0, .inr (2, [.int 0, .ref a, .ref b]))]) (w1 := []) hP hD [] [0, 1, 2] rfl rfl (by decide) (by decide) hk1 hFc hP1 hD1
      have hK := (hK.sub (tys' := [(cI, .int), (cJ, .long)]) [0, 1] rfl).app hK1
      generalize H1 = H at hP hS ⊢
      have hP : va_P (dC, dI) vwCl [(a, .inl (cI, 256, .inl kf)), (b, .inl (cJ, 256, .inr (.inl vf))), (m0, .inr (2, [.int 0, .ref a, .ref b]))] H := hP
      have hD : va_D A [(a, .inl (cI, 256, .inl kf)), (b, .inl (cJ, 256, .inr (.inl vf))), (m0, .inr (2, [.int 0, .ref a, .ref b]))] := hD
      have hK : va_K (dC, dI) vwCl [(cI, .int), (cJ, .long)] s := hK
      refine W.widen (k := 0) (n := 0) (Nat.le_of_ble_eq_true rfl) (Nat.le_of_ble_eq_true rfl) ?_
      refine lv_if_ne (tgt := 38) hx hb dX2_fold_31 (by decide) (fun c_9 => ?_) (fun c_9 => ?_)
      · rw [h_8, b01] at c_9
        have c_9 := Classical.not_not.mp c_9
        refine lv_iconst (v := 0) hx hb dX2_fold_38 (by decide) ?_
        refine lv_iconst (v := 2) hx hb dX2_fold_39 (by decide) ?_
        have hPc := hP.sub (ws' := [(m0, .inr (2, [.int 0, .ref a, .ref b]))]) [2] rfl
        have hDc := hD.sub (ws' := [(m0, .inr (2, [.int 0, .ref a, .ref b]))]) [2] (by decide) rfl
        have hKc := hK.sub (tys' := []) [] rfl
        have hFc := va_free (wc := [(m0, .inr (2, [.int 0, .ref a, .ref b]))]) hD hS hA [2] rfl
        refine va_calli (va_runV (As := [.int 0, .int 2]) (rest := []) ⟨hx, hb, hml, hown, hts⟩ (qX2_fails l dC dI H.size m0 a b (0) (0) (2)) (cwV 2 hts gX2_fold_X2_fails rfl rfl rfl (by decide +kernel) ⟨Nat.le_of_ble_eq_true rfl, Nat.le_of_ble_eq_true rfl⟩) ⟨fun a U g mk q => by obtain ⟨q0, q1, qP, qK, qD⟩ := q; exact ⟨q0, q1, qP, va_K.moved (u := U) (U := U.calling g mk a) (Vm.Alike.refl U.vm) qK, qD⟩, va_recv hKc hPc (ci := 2) (q0 := 0) rfl rfl, fun U hU hW => ⟨rfl, by rw [hU], by rw [hU]; exact hPc, va_K.moved hW.alike hKc, hDc.weaken (fun _ _ _ _ => trivial)⟩⟩ rfl rfl hl.1 rfl (lv_room (Nat.le_of_ble_eq_true rfl)) dX2_fold_40 ⟨Nat.le_of_ble_eq_true rfl, Nat.le_of_ble_eq_true rfl⟩) hS (fun q _ h => hFc q h) hFc (fun r_10 u t9 H1 locs ht hvm hw hB hz1 hk1 hS => ?_)
        obtain ⟨hP1, hK1, hD1⟩ := hB
        rw [ht] at hP1
        obtain ⟨h_11, rfl⟩ := hw
        have hK1 := va_K.moved hvm.symm hK1
        obtain ⟨hP, hD⟩ := va_join (wr := [(a, .inl (cI, 256, .inl kf)), (b, .inl (cJ, 256, .inr (.inl vf)))]) (w1 := [(m0, .inr (2, [.int (m_f 0 0 2), .ref a, .ref b]))]) hP hD [2] [0, 1] rfl rfl (by decide) (by decide) hk1 hFc hP1 hD1
        have hK := (hK.sub (tys' := [(cI, .int), (cJ, .long)]) [0, 1] rfl).app hK1
        generalize H1 = H at hP hS ⊢
        have hP : va_P (dC, dI) vwCl [(a, .inl (cI, 256, .inl kf)), (b, .inl (cJ, 256, .inr (.inl vf))), (m0, .inr (2, [.int (m_f 0 0 2), .ref a, .ref b]))] H := hP
        have hD : va_D A [(a, .inl (cI, 256, .inl kf)), (b, .inl (cJ, 256, .inr (.inl vf))), (m0, .inr (2, [.int (m_f 0 0 2), .ref a, .ref b]))] := hD
        have hK : va_K (dC, dI) vwCl [(cI, .int), (cJ, .long)] s := hK
        refine W.widen (k := 0) (n := 0) (Nat.le_of_ble_eq_true rfl) (Nat.le_of_ble_eq_true rfl) ?_
        obtain rfl : r_10 = 0 := h_11.trans (by decide)
        have hP : va_P (dC, dI) vwCl [(a, .inl (cI, 256, .inl kf)), (b, .inl (cJ, 256, .inr (.inl vf))), (m0, .inr (2, [.int 0, .ref a, .ref b]))] H := hP
        have hD : va_D A [(a, .inl (cI, 256, .inl kf)), (b, .inl (cJ, 256, .inr (.inl vf))), (m0, .inr (2, [.int 0, .ref a, .ref b]))] := hD
        refine lv_if_eq (tgt := 50) hx hb dX2_fold_43 (by decide) (fun c_12 => ?_) (fun c_12 => ?_)
        · refine lv_aload_n hx hb dX2_fold_50 rfl (lv_at hl 0 rfl) ?_
          refine lv_iload_n hx hb dX2_fold_51 rfl (lv_at hl 1 rfl) ?_
          refine lv_iload_n hx hb dX2_fold_52 rfl (lv_at hl 2 rfl) ?_
          refine lv_lload_n hx hb dX2_fold_53 rfl (lv_at hl 3 rfl) ?_
          have hPc := hP.sub (ws' := [(m0, .inr (2, [.int 0, .ref a, .ref b])), (a, .inl (cI, 256, .inl kf)), (b, .inl (cJ, 256, .inr (.inl vf)))]) [2, 0, 1] rfl
          have hDc := hD.sub (ws' := [(m0, .inr (2, [.int 0, .ref a, .ref b])), (a, .inl (cI, 256, .inl kf)), (b, .inl (cJ, 256, .inr (.inl vf)))]) [2, 0, 1] (by decide) rfl
          have hKc := hK.sub (tys' := [(cI, .int), (cJ, .long)]) [0, 1] rfl
          have hFc := va_free (wc := [(m0, .inr (2, [.int 0, .ref a, .ref b])), (a, .inl (cI, 256, .inl kf)), (b, .inl (cJ, 256, .inr (.inl vf)))]) hD hS hA [2, 0, 1] rfl
          refine va_calll (va_runV (As := [.int f, .int t, .long x]) (rest := []) ⟨hx, hb, hml, hown, hts⟩ (qX2_made l dC dI H.size m0 a b cI cJ (0) kf vf f t x c_9) (cwV 3 hts gX2_fold_X2_made rfl rfl rfl (by decide +kernel) ⟨Nat.le_of_ble_eq_true rfl, Nat.le_of_ble_eq_true rfl⟩) ⟨fun a U g mk q => by obtain ⟨q0, q1, qP, qK, qD⟩ := q; exact ⟨q0, q1, qP, va_K.moved (u := U) (U := U.calling g mk a) (Vm.Alike.refl U.vm) qK, qD⟩, va_recv hKc hPc (ci := 2) (q0 := 0) rfl rfl, fun U hU hW => ⟨rfl, by rw [hU], by rw [hU]; exact hPc, va_K.moved hW.alike hKc, hDc.weaken (fun _ _ _ _ => trivial)⟩⟩ rfl rfl hl.1 rfl (lv_room (Nat.le_of_ble_eq_true rfl)) dX2_fold_54 ⟨Nat.le_of_ble_eq_true rfl, Nat.le_of_ble_eq_true rfl⟩) hS (fun q _ h => hFc q h) hFc (fun r_13 u t9 H1 locs ht hvm hw hB hz1 hk1 hS => ?_)
          obtain ⟨hP1, hK1, hD1⟩ := hB
          rw [ht] at hP1
          have h_14 := hw
          have hK1 := va_K.moved hvm.symm hK1
          obtain ⟨hP, hD⟩ := va_join (wr := []) (w1 := [(m0, .inr (2, [.int 0, .ref a, .ref b])), (a, .inl (cI, 256, .inl kf)), (b, .inl (cJ, 256, .inr (.inl vf)))]) hP hD [2, 0, 1] [] rfl rfl (by decide) (by decide) hk1 hFc hP1 hD1
          have hK := (hK.sub (tys' := []) [] rfl).app hK1
          generalize H1 = H at hP hS ⊢
          have hP : va_P (dC, dI) vwCl [(m0, .inr (2, [.int 0, .ref a, .ref b])), (a, .inl (cI, 256, .inl kf)), (b, .inl (cJ, 256, .inr (.inl vf)))] H := hP
          have hD : va_D A [(m0, .inr (2, [.int 0, .ref a, .ref b])), (a, .inl (cI, 256, .inl kf)), (b, .inl (cJ, 256, .inr (.inl vf)))] := hD
          have hK : va_K (dC, dI) vwCl [(cI, .int), (cJ, .long)] s := hK
          refine W.widen (k := 0) (n := 0) (Nat.le_of_ble_eq_true rfl) (Nat.le_of_ble_eq_true rfl) ?_
          have hP9 := hP.sub (ws' := [(m0, .inr (2, [.int 0, .ref a, .ref b])), (a, .inl (cI, 256, .inl kf)), (b, .inl (cJ, 256, .inr (.inl vf)))]) [0, 1, 2] rfl
          have hD9 := hD.sub (ws' := [(m0, .inr (2, [.int 0, .ref a, .ref b])), (a, .inl (cI, 256, .inl kf)), (b, .inl (cJ, 256, .inr (.inl vf)))]) [0, 1, 2] (by decide) rfl
          have hK9 := hK.sub (tys' := [(cI, .int), (cJ, .long)]) [0, 1] rfl
          refine W.widen (k := 0) (n := 0) (Nat.le_of_ble_eq_true rfl) (Nat.le_of_ble_eq_true rfl) ?_
          exact W.lret (v := r_13) hx hb hr (fun t9 ht hW => ⟨⟨r_13, 0, rfl, ⟨by first | (simp [o_c, c_3, c_9, h_14]; done) | (simp [o_c, c_3, c_9, h_14]; done) | grind [o_c], by first | (simp [o_c, c_3, c_9, h_14]; done) | (simp [o_c, c_3, c_9, h_14]; done) | grind [o_c]⟩, by rw [ht]; exact hP9, va_K.moved hW.alike hK9, hD9⟩, hS.F ht⟩) hS.2.2 dX2_fold_57
        · exact absurd c_12 (by decide)
      · rw [h_8, b01] at c_9
        refine lv_iconst (v := 1) hx hb dX2_fold_34 (by decide) ?_
        refine lv_goto (tgt := 39) hx hb dX2_fold_35 (by decide) ?_
        refine lv_iconst (v := 2) hx hb dX2_fold_39 (by decide) ?_
        have hPc := hP.sub (ws' := [(m0, .inr (2, [.int 0, .ref a, .ref b]))]) [2] rfl
        have hDc := hD.sub (ws' := [(m0, .inr (2, [.int 0, .ref a, .ref b]))]) [2] (by decide) rfl
        have hKc := hK.sub (tys' := []) [] rfl
        have hFc := va_free (wc := [(m0, .inr (2, [.int 0, .ref a, .ref b]))]) hD hS hA [2] rfl
        refine va_calli (va_runV (As := [.int 1, .int 2]) (rest := []) ⟨hx, hb, hml, hown, hts⟩ (qX2_fails l dC dI H.size m0 a b (0) (1) (2)) (cwV 2 hts gX2_fold_X2_fails rfl rfl rfl (by decide +kernel) ⟨Nat.le_of_ble_eq_true rfl, Nat.le_of_ble_eq_true rfl⟩) ⟨fun a U g mk q => by obtain ⟨q0, q1, qP, qK, qD⟩ := q; exact ⟨q0, q1, qP, va_K.moved (u := U) (U := U.calling g mk a) (Vm.Alike.refl U.vm) qK, qD⟩, va_recv hKc hPc (ci := 2) (q0 := 0) rfl rfl, fun U hU hW => ⟨rfl, by rw [hU], by rw [hU]; exact hPc, va_K.moved hW.alike hKc, hDc.weaken (fun _ _ _ _ => trivial)⟩⟩ rfl rfl hl.1 rfl (lv_room (Nat.le_of_ble_eq_true rfl)) dX2_fold_40 ⟨Nat.le_of_ble_eq_true rfl, Nat.le_of_ble_eq_true rfl⟩) hS (fun q _ h => hFc q h) hFc (fun r_15 u t9 H1 locs ht hvm hw hB hz1 hk1 hS => ?_)
        obtain ⟨hP1, hK1, hD1⟩ := hB
        rw [ht] at hP1
        obtain ⟨h_16, rfl⟩ := hw
        have hK1 := va_K.moved hvm.symm hK1
        obtain ⟨hP, hD⟩ := va_join (wr := [(a, .inl (cI, 256, .inl kf)), (b, .inl (cJ, 256, .inr (.inl vf)))]) (w1 := [(m0, .inr (2, [.int (m_f 1 0 2), .ref a, .ref b]))]) hP hD [2] [0, 1] rfl rfl (by decide) (by decide) hk1 hFc hP1 hD1
        have hK := (hK.sub (tys' := [(cI, .int), (cJ, .long)]) [0, 1] rfl).app hK1
        generalize H1 = H at hP hS ⊢
        have hP : va_P (dC, dI) vwCl [(a, .inl (cI, 256, .inl kf)), (b, .inl (cJ, 256, .inr (.inl vf))), (m0, .inr (2, [.int (m_f 1 0 2), .ref a, .ref b]))] H := hP
        have hD : va_D A [(a, .inl (cI, 256, .inl kf)), (b, .inl (cJ, 256, .inr (.inl vf))), (m0, .inr (2, [.int (m_f 1 0 2), .ref a, .ref b]))] := hD
        have hK : va_K (dC, dI) vwCl [(cI, .int), (cJ, .long)] s := hK
        refine W.widen (k := 0) (n := 0) (Nat.le_of_ble_eq_true rfl) (Nat.le_of_ble_eq_true rfl) ?_
        obtain rfl : r_15 = 1 := h_16.trans (by decide)
        have hP : va_P (dC, dI) vwCl [(a, .inl (cI, 256, .inl kf)), (b, .inl (cJ, 256, .inr (.inl vf))), (m0, .inr (2, [.int 2, .ref a, .ref b]))] H := hP
        have hD : va_D A [(a, .inl (cI, 256, .inl kf)), (b, .inl (cJ, 256, .inr (.inl vf))), (m0, .inr (2, [.int 2, .ref a, .ref b]))] := hD
        refine lv_if_eq (tgt := 50) hx hb dX2_fold_43 (by decide) (fun c_17 => ?_) (fun c_17 => ?_)
        · exact absurd c_17 (by decide)
        · refine lv_lconst (v := 0) hx hb dX2_fold_46 (by decide) ?_
          refine lv_goto (tgt := 57) hx hb dX2_fold_47 (by decide) ?_
          have hP9 := hP.sub (ws' := [(m0, .inr (2, [.int 2, .ref a, .ref b])), (a, .inl (cI, 256, .inl kf)), (b, .inl (cJ, 256, .inr (.inl vf)))]) [2, 0, 1] rfl
          have hD9 := hD.sub (ws' := [(m0, .inr (2, [.int 2, .ref a, .ref b])), (a, .inl (cI, 256, .inl kf)), (b, .inl (cJ, 256, .inr (.inl vf)))]) [2, 0, 1] (by decide) rfl
          have hK9 := hK.sub (tys' := [(cI, .int), (cJ, .long)]) [0, 1] rfl
          refine W.widen (k := 0) (n := 0) (Nat.le_of_ble_eq_true rfl) (Nat.le_of_ble_eq_true rfl) ?_
          exact W.lret (v := 0) hx hb hr (fun t9 ht hW => ⟨⟨0, 2, rfl, ⟨by first | (simp [o_c, c_3, c_9]; done) | (simp [o_c, c_3, c_9]; done) | grind [o_c], by first | (simp [o_c, c_3, c_9]; done) | (simp [o_c, c_3, c_9]; done) | grind [o_c]⟩, by rw [ht]; exact hP9, va_K.moved hW.alike hK9, hD9⟩, hS.F ht⟩) hS.2.2 dX2_fold_57
  · rw [h_2, b01] at c_3
    refine lv_iconst (v := 1) hx hb dX2_fold_13 (by decide) ?_
    refine lv_goto (tgt := 18) hx hb dX2_fold_14 (by decide) ?_
    refine lv_iconst (v := 1) hx hb dX2_fold_18 (by decide) ?_
    have hPc := hP.sub (ws' := [(m0, .inr (2, [.int 0, .ref a, .ref b]))]) [0] rfl
    have hDc := hD.sub (ws' := [(m0, .inr (2, [.int 0, .ref a, .ref b]))]) [0] (by decide) rfl
    have hKc := hK.sub (tys' := []) [] rfl
    have hFc := va_free (wc := [(m0, .inr (2, [.int 0, .ref a, .ref b]))]) hD hS hA [0] rfl
    refine va_calli (va_runV (As := [.int 1, .int 1]) (rest := []) ⟨hx, hb, hml, hown, hts⟩ (qX2_fails l dC dI H.size m0 a b (0) (1) (1)) (cwV 2 hts gX2_fold_X2_fails rfl rfl rfl (by decide +kernel) ⟨Nat.le_of_ble_eq_true rfl, Nat.le_of_ble_eq_true rfl⟩) ⟨fun a U g mk q => by obtain ⟨q0, q1, qP, qK, qD⟩ := q; exact ⟨q0, q1, qP, va_K.moved (u := U) (U := U.calling g mk a) (Vm.Alike.refl U.vm) qK, qD⟩, va_recv hKc hPc (ci := 2) (q0 := 0) rfl rfl, fun U hU hW => ⟨rfl, by rw [hU], by rw [hU]; exact hPc, va_K.moved hW.alike hKc, hDc.weaken (fun _ _ _ _ => trivial)⟩⟩ rfl rfl hl.1 rfl (lv_room (Nat.le_of_ble_eq_true rfl)) dX2_fold_19 ⟨Nat.le_of_ble_eq_true rfl, Nat.le_of_ble_eq_true rfl⟩) hS (fun q _ h => hFc q h) hFc (fun r_18 u t9 H1 locs ht hvm hw hB hz1 hk1 hS => ?_)
    obtain ⟨hP1, hK1, hD1⟩ := hB
    rw [ht] at hP1
    obtain ⟨h_19, rfl⟩ := hw
    have hK1 := va_K.moved hvm.symm hK1
    obtain ⟨hP, hD⟩ := va_join (wr := [(a, .inl (cI, 256, .inl kf)), (b, .inl (cJ, 256, .inr (.inl vf)))]) (w1 := [(m0, .inr (2, [.int (m_f 1 0 1), .ref a, .ref b]))]) hP hD [0] [1, 2] rfl rfl (by decide) (by decide) hk1 hFc hP1 hD1
    have hK := (hK.sub (tys' := [(cI, .int), (cJ, .long)]) [0, 1] rfl).app hK1
    generalize H1 = H at hP hS ⊢
    have hP : va_P (dC, dI) vwCl [(a, .inl (cI, 256, .inl kf)), (b, .inl (cJ, 256, .inr (.inl vf))), (m0, .inr (2, [.int (m_f 1 0 1), .ref a, .ref b]))] H := hP
    have hD : va_D A [(a, .inl (cI, 256, .inl kf)), (b, .inl (cJ, 256, .inr (.inl vf))), (m0, .inr (2, [.int (m_f 1 0 1), .ref a, .ref b]))] := hD
    have hK : va_K (dC, dI) vwCl [(cI, .int), (cJ, .long)] s := hK
    refine W.widen (k := 0) (n := 0) (Nat.le_of_ble_eq_true rfl) (Nat.le_of_ble_eq_true rfl) ?_
    obtain rfl : r_18 = 1 := h_19.trans (by decide)
    have hP : va_P (dC, dI) vwCl [(a, .inl (cI, 256, .inl kf)), (b, .inl (cJ, 256, .inr (.inl vf))), (m0, .inr (2, [.int 1, .ref a, .ref b]))] H := hP
    have hD : va_D A [(a, .inl (cI, 256, .inl kf)), (b, .inl (cJ, 256, .inr (.inl vf))), (m0, .inr (2, [.int 1, .ref a, .ref b]))] := hD
    refine lv_if_ne (tgt := 46) hx hb dX2_fold_22 (by decide) (fun c_20 => ?_) (fun c_20 => ?_)
    · refine lv_lconst (v := 0) hx hb dX2_fold_46 (by decide) ?_
      refine lv_goto (tgt := 57) hx hb dX2_fold_47 (by decide) ?_
      have hP9 := hP.sub (ws' := [(m0, .inr (2, [.int 1, .ref a, .ref b])), (a, .inl (cI, 256, .inl kf)), (b, .inl (cJ, 256, .inr (.inl vf)))]) [2, 0, 1] rfl
      have hD9 := hD.sub (ws' := [(m0, .inr (2, [.int 1, .ref a, .ref b])), (a, .inl (cI, 256, .inl kf)), (b, .inl (cJ, 256, .inr (.inl vf)))]) [2, 0, 1] (by decide) rfl
      have hK9 := hK.sub (tys' := [(cI, .int), (cJ, .long)]) [0, 1] rfl
      refine W.widen (k := 0) (n := 0) (Nat.le_of_ble_eq_true rfl) (Nat.le_of_ble_eq_true rfl) ?_
      exact W.lret (v := 0) hx hb hr (fun t9 ht hW => ⟨⟨0, 1, rfl, ⟨by first | (simp [o_c, c_3]; done) | (simp [o_c, c_3]; done) | grind [o_c], by first | (simp [o_c, c_3]; done) | (simp [o_c, c_3]; done) | grind [o_c]⟩, by rw [ht]; exact hP9, va_K.moved hW.alike hK9, hD9⟩, hS.F ht⟩) hS.2.2 dX2_fold_57
    · exact absurd c_20 (by decide)
