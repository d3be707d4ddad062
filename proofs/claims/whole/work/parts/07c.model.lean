/-! ===== FoldRowModel, the reference: its methods, one contract each ===== -/
set_option maxRecDepth 20000 in
theorem kX2_again_0 : ∀ w ∈ wsX20, w ∈ wsX2_again := by decide +kernel
set_option maxRecDepth 20000 in
theorem kX2_again_1 : (.fieldLink RX2 17 "FoldRowModel" "err" "I" : Cond) ∈ wsX2_again := by decide +kernel
set_option maxRecDepth 20000 in
theorem kX2_again_2 : (.constantLong RX2 57 (1000) : Cond) ∈ wsX2_again := by decide +kernel
set_option maxHeartbeats 4000000 in
set_option maxRecDepth 100000 in
theorem qX2_again (l : Launch) (dC : Nat → ClassId) (dI : Nat → Nat → Nat) (sz : Nat) (m0 a b : Nat) (cI cJ : ClassId) (er : Int32) (kf : Nat → Int32) (vf : Nat → Int64) (f t : Int32) (x : Int64) (n : Int32)  : Met l yX2_again wsX2_again ({ frames := 3, cells := 0, slots := 0, locals := 90 }) (va_Pc [.ref m0, .int f, .int t, .long x, .int n] (fun U => U.heap.size = sz ∧ va_P (dC, dI) vwCl [(m0, .inr (2, [.int er, .ref a, .ref b])), (a, .inl (cI, 256, .inl kf)), (b, .inl (cJ, 256, .inr (.inl vf)))] U.heap ∧ va_K (dC, dI) vwCl [(cI, .int), (cJ, .long)] U ∧ va_D (fun _ => True) [(m0, .inr (2, [.int er, .ref a, .ref b])), (a, .inl (cI, 256, .inl kf)), (b, .inl (cJ, 256, .inr (.inl vf)))])) (va_Ql (fun (r : Int64) (u : Int32) => (r = if (okX x ∧ okN n) ∧ okW f t then m_it kf vf f.toNatClampNeg (ln f t) x n.toNatClampNeg else 0) ∧ u = a_c f t x n) (fun (u : Int32) (t9 : State) => va_P (dC, dI) vwCl [(m0, .inr (2, [.int u, .ref a, .ref b])), (a, .inl (cI, 256, .inl kf)), (b, .inl (cJ, 256, .inr (.inl vf)))] t9.heap ∧ va_K (dC, dI) vwCl [(cI, .int), (cJ, .long)] t9 ∧ va_D (va_A [(m0, .inr (2, [.int er, .ref a, .ref b])), (a, .inl (cI, 256, .inl kf)), (b, .inl (cJ, 256, .inr (.inl vf)))] sz) [(m0, .inr (2, [.int u, .ref a, .ref b])), (a, .inl (cI, 256, .inl kf)), (b, .inl (cJ, 256, .inr (.inl vf)))]) (va_A [(m0, .inr (2, [.int er, .ref a, .ref b])), (a, .inl (cI, 256, .inl kf)), (b, .inl (cJ, 256, .inr (.inl vf)))] sz)) 0 0 (va_A [(m0, .inr (2, [.int er, .ref a, .ref b])), (a, .inl (cI, 256, .inl kf)), (b, .inl (cJ, 256, .inr (.inl vf)))] sz) := by
  refine Met.ofW (cc := cX2_again) (maxL := 9) (ret := (some .long)) (by decide) rfl ?_
  intro p e s m args below meth c s₁ B hml hv
  obtain ⟨rfl, hsz, hP, hK, hD0⟩ := hv
  have hx := B.exec
  have hb := B.bytes
  have hr := B.returns
  have hts := atoms_spec (ws := wsX2_again) B.pre
  have hown : s.vm.findClass RX2 = some m.cls := findClass_of_methodNamed B.named
  have hlocks := B.notSynchronized
  subst hsz
  have hD := hD0.self (sz := s.heap.size)
  generalize hAe : va_A [(m0, .inr (2, [.int er, .ref a, .ref b])), (a, .inl (cI, 256, .inl kf)), (b, .inl (cJ, 256, .inr (.inl vf)))] s.heap.size = A at hD ⊢
  have hA : ∀ q : Nat, s.heap.size ≤ q → A q := fun q h => by rw [← hAe]; exact Or.inr h
  have hS : va_S A s.heap s.heap [] := va_S.rf
  have hP : va_P (dC, dI) vwCl [(m0, .inr (2, [.int er, .ref a, .ref b])), (a, .inl (cI, 256, .inl kf)), (b, .inl (cJ, 256, .inr (.inl vf)))] s.heap := hP
  have hl := lv_entry ([.ref m0, .int f, .int t, .long x, .int n]) (n := 9) (Nat.le_of_ble_eq_true rfl)
  rw [lg_entry_eq]
  generalize (lg_sl ([.ref m0, .int f, .int t, .long x, .int n]) ++ List.replicate (9 - (lg_sl ([.ref m0, .int f, .int t, .long x, .int n])).length) Slot.unset).toArray = ls at hl ⊢
  have hl : lv_has ls 9 [(0, .ref m0), (1, .int f), (2, .int t), (3, .long x), (5, .int n)] := hl
  refine lv_aload_n hx hb dX2_again_0 rfl (lv_at hl 0 rfl) ?_
  refine lv_iconst (v := 0) hx hb dX2_again_1 (by decide) ?_
  refine va_put (D := (dC, dI)) (ci := 2) (v := .int 0) (ty := .int) (C := RX2) (T := TX2) (N := 3) hx hb hts kX2_again_0 tyX2 tyX2_ok nmX2 hown hK hP hD hS 0 rfl rfl 0 (by decide) (hts (.fieldLink RX2 17 "FoldRowModel" "err" "I") kX2_again_1) (fun _ h9 => h9) rfl (by decide +kernel) rfl rfl (Nat.le_of_ble_eq_true rfl) dX2_again_2 (fun H locs hP hD hS => ?_)
  have hP : va_P (dC, dI) vwCl [(m0, .inr (2, [.int 0, .ref a, .ref b])), (a, .inl (cI, 256, .inl kf)), (b, .inl (cJ, 256, .inr (.inl vf)))] H := hP
  have hD : va_D A [(m0, .inr (2, [.int 0, .ref a, .ref b])), (a, .inl (cI, 256, .inl kf)), (b, .inl (cJ, 256, .inr (.inl vf)))] := hD
  refine lv_aload_n hx hb dX2_again_5 rfl (lv_at hl 0 rfl) ?_
  refine lv_lload_n hx hb dX2_again_6 rfl (lv_at hl 3 rfl) ?_
  have hPc := hP.sub (ws' := []) [] rfl
  have hDc := hD.sub (ws' := []) [] (by decide) rfl
  have hKc := hK.sub (tys' := []) [] rfl
  have hFc := va_free (wc := []) hD hS hA [] rfl
  refine va_calli (va_runS (As := [.long x]) (rest := [.ref m0]) ⟨hx, hb, hml, hown, hts⟩ (qX2_isNumber l dC dI H.size x) (va_cwS 1 hts gX2_again_X2_isNumber rfl rfl rfl (by decide +kernel) ⟨Nat.le_of_ble_eq_true rfl, Nat.le_of_ble_eq_true rfl⟩) ⟨fun a U g mk q => by obtain ⟨q0, q1, qP, qK, qD⟩ := q; exact ⟨q0, q1, qP, va_K.moved (u := U) (U := U.calling g mk a) (Vm.Alike.refl U.vm) qK, qD⟩, fun U hU hW => ⟨rfl, by rw [hU], by rw [hU]; exact hPc, va_K.moved hW.alike hKc, hDc.weaken (fun _ _ _ _ => trivial)⟩⟩ rfl rfl hl.1 rfl (lv_room (Nat.le_of_ble_eq_true rfl)) dX2_again_7 ⟨Nat.le_of_ble_eq_true rfl, Nat.le_of_ble_eq_true rfl⟩) hS (fun q _ h => hFc q h) hFc (fun r_1 u t9 H1 locs ht hvm hw hB hz1 hk1 hS => ?_)
  obtain ⟨hP1, hK1, hD1⟩ := hB
  rw [ht] at hP1
  have h_2 := hw
  have hK1 := va_K.moved hvm.symm hK1
  obtain ⟨hP, hD⟩ := va_join (wr := [(m0, .inr (2, [.int 0, .ref a, .ref b])), (a, .inl (cI, 256, .inl kf)), (b, .inl (cJ, 256, .inr (.inl vf)))]) (w1 := []) hP hD [] [0, 1, 2] rfl rfl (by decide) (by decide) hk1 hFc hP1 hD1
  have hK := (hK.sub (tys' := [(cI, .int), (cJ, .long)]) [0, 1] rfl).app hK1
  generalize H1 = H at hP hS ⊢
  have hP : va_P (dC, dI) vwCl [(m0, .inr (2, [.int 0, .ref a, .ref b])), (a, .inl (cI, 256, .inl kf)), (b, .inl (cJ, 256, .inr (.inl vf)))] H := hP
  have hD : va_D A [(m0, .inr (2, [.int 0, .ref a, .ref b])), (a, .inl (cI, 256, .inl kf)), (b, .inl (cJ, 256, .inr (.inl vf)))] := hD
  have hK : va_K (dC, dI) vwCl [(cI, .int), (cJ, .long)] s := hK
  refine W.widen (k := 0) (n := 0) (Nat.le_of_ble_eq_true rfl) (Nat.le_of_ble_eq_true rfl) ?_
  refine lv_if_eq (tgt := 26) hx hb dX2_again_10 (by decide) (fun c_3 => ?_) (fun c_3 => ?_)
  · rw [h_2, b01] at c_3
    refine lv_iconst (v := 1) hx hb dX2_again_26 (by decide) ?_
    refine lv_goto (tgt := 31) hx hb dX2_again_27 (by decide) ?_
    refine lv_iconst (v := 1) hx hb dX2_again_31 (by decide) ?_
    have hPc := hP.sub (ws' := [(m0, .inr (2, [.int 0, .ref a, .ref b]))]) [0] rfl
    have hDc := hD.sub (ws' := [(m0, .inr (2, [.int 0, .ref a, .ref b]))]) [0] (by decide) rfl
    have hKc := hK.sub (tys' := []) [] rfl
    have hFc := va_free (wc := [(m0, .inr (2, [.int 0, .ref a, .ref b]))]) hD hS hA [0] rfl
    refine va_calli (va_runV (As := [.int 1, .int 1]) (rest := []) ⟨hx, hb, hml, hown, hts⟩ (qX2_fails l dC dI H.size m0 a b (0) (1) (1)) (cwV 2 hts gX2_again_X2_fails rfl rfl rfl (by decide +kernel) ⟨Nat.le_of_ble_eq_true rfl, Nat.le_of_ble_eq_true rfl⟩) ⟨fun a U g mk q => by obtain ⟨q0, q1, qP, qK, qD⟩ := q; exact ⟨q0, q1, qP, va_K.moved (u := U) (U := U.calling g mk a) (Vm.Alike.refl U.vm) qK, qD⟩, va_recv hKc hPc (ci := 2) (q0 := 0) rfl rfl, fun U hU hW => ⟨rfl, by rw [hU], by rw [hU]; exact hPc, va_K.moved hW.alike hKc, hDc.weaken (fun _ _ _ _ => trivial)⟩⟩ rfl rfl hl.1 rfl (lv_room (Nat.le_of_ble_eq_true rfl)) dX2_again_32 ⟨Nat.le_of_ble_eq_true rfl, Nat.le_of_ble_eq_true rfl⟩) hS (fun q _ h => hFc q h) hFc (fun r_4 u t9 H1 locs ht hvm hw hB hz1 hk1 hS => ?_)
    obtain ⟨hP1, hK1, hD1⟩ := hB
    rw [ht] at hP1
    obtain ⟨h_5, rfl⟩ := hw
    have hK1 := va_K.moved hvm.symm hK1
    obtain ⟨hP, hD⟩ := va_join (wr := [(a, .inl (cI, 256, .inl kf)), (b, .inl (cJ, 256, .inr (.inl vf)))]) (w1 := [(m0, .inr (2, [.int (m_f 1 0 1), .ref a, .ref b]))]) hP hD [0] [1, 2] rfl rfl (by decide) (by decide) hk1 hFc hP1 hD1
    have hK := (hK.sub (tys' := [(cI, .int), (cJ, .long)]) [0, 1] rfl).app hK1
    generalize H1 = H at hP hS ⊢
    have hP : va_P (dC, dI) vwCl [(a, .inl (cI, 256, .inl kf)), (b, .inl (cJ, 256, .inr (.inl vf))), (m0, .inr (2, [.int (m_f 1 0 1), .ref a, .ref b]))] H := hP
    have hD : va_D A [(a, .inl (cI, 256, .inl kf)), (b, .inl (cJ, 256, .inr (.inl vf))), (m0, .inr (2, [.int (m_f 1 0 1), .ref a, .ref b]))] := hD
    have hK : va_K (dC, dI) vwCl [(cI, .int), (cJ, .long)] s := hK
    refine W.widen (k := 0) (n := 0) (Nat.le_of_ble_eq_true rfl) (Nat.le_of_ble_eq_true rfl) ?_
    obtain rfl : r_4 = 1 := h_5.trans (by decide)
    have hP : va_P (dC, dI) vwCl [(a, .inl (cI, 256, .inl kf)), (b, .inl (cJ, 256, .inr (.inl vf))), (m0, .inr (2, [.int 1, .ref a, .ref b]))] H := hP
    have hD : va_D A [(a, .inl (cI, 256, .inl kf)), (b, .inl (cJ, 256, .inr (.inl vf))), (m0, .inr (2, [.int 1, .ref a, .ref b]))] := hD
    refine lv_if_ne (tgt := 59) hx hb dX2_again_35 (by decide) (fun c_6 => ?_) (fun c_6 => ?_)
    · refine lv_lconst (v := 0) hx hb dX2_again_59 (by decide) ?_
      have hP9 := hP.sub (ws' := [(m0, .inr (2, [.int 1, .ref a, .ref b])), (a, .inl (cI, 256, .inl kf)), (b, .inl (cJ, 256, .inr (.inl vf)))]) [2, 0, 1] rfl
      have hD9 := hD.sub (ws' := [(m0, .inr (2, [.int 1, .ref a, .ref b])), (a, .inl (cI, 256, .inl kf)), (b, .inl (cJ, 256, .inr (.inl vf)))]) [2, 0, 1] (by decide) rfl
      have hK9 := hK.sub (tys' := [(cI, .int), (cJ, .long)]) [0, 1] rfl
      refine W.widen (k := 0) (n := 0) (Nat.le_of_ble_eq_true rfl) (Nat.le_of_ble_eq_true rfl) ?_
      exact W.lret (v := 0) hx hb hr (fun t9 ht hW => ⟨⟨0, 1, rfl, ⟨by first | (simp [a_c, w64_0, w64_4, w64_255, w64_1000, w64_2, c_3]; done) | (simp [a_c, w64_0, w64_4, w64_255, w64_1000, w64_2, c_3]; done) | grind [a_c, w64_0, w64_4, w64_255, w64_1000, w64_2], by first | (simp [a_c, w64_0, w64_4, w64_255, w64_1000, w64_2, c_3]; done) | (simp [a_c, w64_0, w64_4, w64_255, w64_1000, w64_2, c_3]; done) | grind [a_c, w64_0, w64_4, w64_255, w64_1000, w64_2]⟩, by rw [ht]; exact hP9, va_K.moved hW.alike hK9, hD9⟩, hS.F ht⟩) hS.2.2 dX2_again_60
    · exact absurd c_6 (by decide)
  · rw [h_2, b01] at c_3
    have c_3 := Classical.not_not.mp c_3
    refine lv_iload hx hb dX2_again_13 (lv_at hl 4 rfl) ?_
    refine lv_i2l (v := n.toInt64) hx hb dX2_again_15 rfl ?_
    refine lv_lconst (v := 0) hx hb dX2_again_16 (by decide) ?_
    refine lv_ldc2 hx hb hown (hts (.constantLong RX2 57 (1000)) kX2_again_2) dX2_again_17 ?_
    have hPc := hP.sub (ws' := []) [] rfl
    have hDc := hD.sub (ws' := []) [] (by decide) rfl
    have hKc := hK.sub (tys' := []) [] rfl
    have hFc := va_free (wc := []) hD hS hA [] rfl
    refine va_calli (va_runS (As := [.long n.toInt64, .long 0, .long 1000]) (rest := [.ref m0]) ⟨hx, hb, hml, hown, hts⟩ (qX2_in l dC dI H.size n.toInt64 (0) (1000)) (va_cwS 3 hts gX2_again_X2_in rfl rfl rfl (by decide +kernel) ⟨Nat.le_of_ble_eq_true rfl, Nat.le_of_ble_eq_true rfl⟩) ⟨fun a U g mk q => by obtain ⟨q0, q1, qP, qK, qD⟩ := q; exact ⟨q0, q1, qP, va_K.moved (u := U) (U := U.calling g mk a) (Vm.Alike.refl U.vm) qK, qD⟩, fun U hU hW => ⟨rfl, by rw [hU], by rw [hU]; exact hPc, va_K.moved hW.alike hKc, hDc.weaken (fun _ _ _ _ => trivial)⟩⟩ rfl rfl hl.1 rfl (lv_room (Nat.le_of_ble_eq_true rfl)) dX2_again_20 ⟨Nat.le_of_ble_eq_true rfl, Nat.le_of_ble_eq_true rfl⟩) hS (fun q _ h => hFc q h) hFc (fun r_7 u t9 H1 locs ht hvm hw hB hz1 hk1 hS => ?_)
    obtain ⟨hP1, hK1, hD1⟩ := hB
    rw [ht] at hP1
    have h_8 := hw
    have hK1 := va_K.moved hvm.symm hK1
    obtain ⟨hP, hD⟩ := va_join (wr := [(m0, .inr (2, [.int 0, .ref a, .ref b])), (a, .inl (cI, 256, .inl kf)), (b, .inl (cJ, 256, .inr (.inl vf)))]) (w1 := []) hP hD [] [0, 1, 2] rfl rfl (by decide) (by decide) hk1 hFc hP1 hD1
    have hK := (hK.sub (tys' := [(cI, .int), (cJ, .long)]) [0, 1] rfl).app hK1
    generalize H1 = H at hP hS ⊢
    have hP : va_P (dC, dI) vwCl [(m0, .inr (2, [.int 0, .ref a, .ref b])), (a, .inl (cI, 256, .inl kf)), (b, .inl (cJ, 256, .inr (.inl vf)))] H := hP
    have hD : va_D A [(m0, .inr (2, [.int 0, .ref a, .ref b])), (a, .inl (cI, 256, .inl kf)), (b, .inl (cJ, 256, .inr (.inl vf)))] := hD
    have hK : va_K (dC, dI) vwCl [(cI, .int), (cJ, .long)] s := hK
    refine W.widen (k := 0) (n := 0) (Nat.le_of_ble_eq_true rfl) (Nat.le_of_ble_eq_true rfl) ?_
    refine lv_if_ne (tgt := 30) hx hb dX2_again_23 (by decide) (fun c_9 => ?_) (fun c_9 => ?_)
    · rw [h_8, b01] at c_9
      have c_9 := Classical.not_not.mp c_9
      refine lv_iconst (v := 0) hx hb dX2_again_30 (by decide) ?_
      refine lv_iconst (v := 1) hx hb dX2_again_31 (by decide) ?_
      have hPc := hP.sub (ws' := [(m0, .inr (2, [.int 0, .ref a, .ref b]))]) [0] rfl
      have hDc := hD.sub (ws' := [(m0, .inr (2, [.int 0, .ref a, .ref b]))]) [0] (by decide) rfl
      have hKc := hK.sub (tys' := []) [] rfl
      have hFc := va_free (wc := [(m0, .inr (2, [.int 0, .ref a, .ref b]))]) hD hS hA [0] rfl
      refine va_calli (va_runV (As := [.int 0, .int 1]) (rest := []) ⟨hx, hb, hml, hown, hts⟩ (qX2_fails l dC dI H.size m0 a b (0) (0) (1)) (cwV 2 hts gX2_again_X2_fails rfl rfl rfl (by decide +kernel) ⟨Nat.le_of_ble_eq_true rfl, Nat.le_of_ble_eq_true rfl⟩) ⟨fun a U g mk q => by obtain ⟨q0, q1, qP, qK, qD⟩ := q; exact ⟨q0, q1, qP, va_K.moved (u := U) (U := U.calling g mk a) (Vm.Alike.refl U.vm) qK, qD⟩, va_recv hKc hPc (ci := 2) (q0 := 0) rfl rfl, fun U hU hW => ⟨rfl, by rw [hU], by rw [hU]; exact hPc, va_K.moved hW.alike hKc, hDc.weaken (fun _ _ _ _ => trivial)⟩⟩ rfl rfl hl.1 rfl (lv_room (Nat.le_of_ble_eq_true rfl)) dX2_again_32 ⟨Nat.le_of_ble_eq_true rfl, Nat.le_of_ble_eq_true rfl⟩) hS (fun q _ h => hFc q h) hFc (fun r_10 u t9 H1 locs ht hvm hw hB hz1 hk1 hS => ?_)
      obtain ⟨hP1, hK1, hD1⟩ := hB
      rw [ht] at hP1
      obtain ⟨h_11, rfl⟩ := hw
      have hK1 := va_K.moved hvm.symm hK1
      obtain ⟨hP, hD⟩ := va_join (wr := [(a, .inl (cI, 256, .inl kf)), (b, .inl (cJ, 256, .inr (.inl vf)))]) (w1 := [(m0, .inr (2, [.int (m_f 0 0 1), .ref a, .ref b]))]) hP hD [0] [1, 2] rfl rfl (by decide) (by decide) hk1 hFc hP1 hD1
      have hK := (hK.sub (tys' := [(cI, .int), (cJ, .long)]) [0, 1] rfl).app hK1
      generalize H1 = H at hP hS ⊢
      have hP : va_P (dC, dI) vwCl [(a, .inl (cI, 256, .inl kf)), (b, .inl (cJ, 256, .inr (.inl vf))), (m0, .inr (2, [.int (m_f 0 0 1), .ref a, .ref b]))] H := hP
      have hD : va_D A [(a, .inl (cI, 256, .inl kf)), (b, .inl (cJ, 256, .inr (.inl vf))), (m0, .inr (2, [.int (m_f 0 0 1), .ref a, .ref b]))] := hD
      have hK : va_K (dC, dI) vwCl [(cI, .int), (cJ, .long)] s := hK
      refine W.widen (k := 0) (n := 0) (Nat.le_of_ble_eq_true rfl) (Nat.le_of_ble_eq_true rfl) ?_
      obtain rfl : r_10 = 0 := h_11.trans (by decide)
      have hP : va_P (dC, dI) vwCl [(a, .inl (cI, 256, .inl kf)), (b, .inl (cJ, 256, .inr (.inl vf))), (m0, .inr (2, [.int 0, .ref a, .ref b]))] H := hP
      have hD : va_D A [(a, .inl (cI, 256, .inl kf)), (b, .inl (cJ, 256, .inr (.inl vf))), (m0, .inr (2, [.int 0, .ref a, .ref b]))] := hD
      refine lv_if_ne (tgt := 59) hx hb dX2_again_35 (by decide) (fun c_12 => ?_) (fun c_12 => ?_)
      · exact absurd c_12 (by decide)
      · refine lv_aload_n hx hb dX2_again_38 rfl (lv_at hl 0 rfl) ?_
        refine lv_iload_n hx hb dX2_again_39 rfl (lv_at hl 1 rfl) ?_
        refine lv_iload_n hx hb dX2_again_40 rfl (lv_at hl 2 rfl) ?_
        have hPc := hP.sub (ws' := []) [] rfl
        have hDc := hD.sub (ws' := []) [] (by decide) rfl
        have hKc := hK.sub (tys' := []) [] rfl
        have hFc := va_free (wc := []) hD hS hA [] rfl
        refine va_calli (va_runS (As := [.int f, .int t]) (rest := [.ref m0]) ⟨hx, hb, hml, hown, hts⟩ (qX2_isPart l dC dI H.size f t) (va_cwS 2 hts gX2_again_X2_isPart rfl rfl rfl (by decide +kernel) ⟨Nat.le_of_ble_eq_true rfl, Nat.le_of_ble_eq_true rfl⟩) ⟨fun a U g mk q => by obtain ⟨q0, q1, qP, qK, qD⟩ := q; exact ⟨q0, q1, qP, va_K.moved (u := U) (U := U.calling g mk a) (Vm.Alike.refl U.vm) qK, qD⟩, fun U hU hW => ⟨rfl, by rw [hU], by rw [hU]; exact hPc, va_K.moved hW.alike hKc, hDc.weaken (fun _ _ _ _ => trivial)⟩⟩ rfl rfl hl.1 rfl (lv_room (Nat.le_of_ble_eq_true rfl)) dX2_again_41 ⟨Nat.le_of_ble_eq_true rfl, Nat.le_of_ble_eq_true rfl⟩) hS (fun q _ h => hFc q h) hFc (fun r_13 u t9 H1 locs ht hvm hw hB hz1 hk1 hS => ?_)
        obtain ⟨hP1, hK1, hD1⟩ := hB
        rw [ht] at hP1
        have h_14 := hw
        have hK1 := va_K.moved hvm.symm hK1
        obtain ⟨hP, hD⟩ := va_join (wr := [(a, .inl (cI, 256, .inl kf)), (b, .inl (cJ, 256, .inr (.inl vf))), (m0, .inr (2, [.int 0, .ref a, .ref b]))]) (w1 := []) hP hD [] [0, 1, 2] rfl rfl (by decide) (by decide) hk1 hFc hP1 hD1
        have hK := (hK.sub (tys' := [(cI, .int), (cJ, .long)]) [0, 1] rfl).app hK1
        generalize H1 = H at hP hS ⊢
        have hP : va_P (dC, dI) vwCl [(a, .inl (cI, 256, .inl kf)), (b, .inl (cJ, 256, .inr (.inl vf))), (m0, .inr (2, [.int 0, .ref a, .ref b]))] H := hP
        have hD : va_D A [(a, .inl (cI, 256, .inl kf)), (b, .inl (cJ, 256, .inr (.inl vf))), (m0, .inr (2, [.int 0, .ref a, .ref b]))] := hD
        have hK : va_K (dC, dI) vwCl [(cI, .int), (cJ, .long)] s := hK
        refine W.widen (k := 0) (n := 0) (Nat.le_of_ble_eq_true rfl) (Nat.le_of_ble_eq_true rfl) ?_
        refine lv_if_ne (tgt := 51) hx hb dX2_again_44 (by decide) (fun c_15 => ?_) (fun c_15 => ?_)
        · rw [h_14, b01] at c_15
          have c_15 := Classical.not_not.mp c_15
          refine lv_iconst (v := 0) hx hb dX2_again_51 (by decide) ?_
          refine lv_iconst (v := 2) hx hb dX2_again_52 (by decide) ?_
          have hPc := hP.sub (ws' := [(m0, .inr (2, [.int 0, .ref a, .ref b]))]) [2] rfl
          have hDc := hD.sub (ws' := [(m0, .inr (2, [.int 0, .ref a, .ref b]))]) [2] (by decide) rfl
          have hKc := hK.sub (tys' := []) [] rfl
          have hFc := va_free (wc := [(m0, .inr (2, [.int 0, .ref a, .ref b]))]) hD hS hA [2] rfl
          refine va_calli (va_runV (As := [.int 0, .int 2]) (rest := []) ⟨hx, hb, hml, hown, hts⟩ (qX2_fails l dC dI H.size m0 a b (0) (0) (2)) (cwV 2 hts gX2_again_X2_fails rfl rfl rfl (by decide +kernel) ⟨Nat.le_of_ble_eq_true rfl, Nat.le_of_ble_eq_true rfl⟩) ⟨fun a U g mk q => by obtain ⟨q0, q1, qP, qK, qD⟩ := q; exact ⟨q0, q1, qP, va_K.moved (u := U) (U := U.calling g mk a) (Vm.Alike.refl U.vm) qK, qD⟩, va_recv hKc hPc (ci := 2) (q0 := 0) rfl rfl, fun U hU hW => ⟨rfl, by rw [hU], by rw [hU]; exact hPc, va_K.moved hW.alike hKc, hDc.weaken (fun _ _ _ _ => trivial)⟩⟩ rfl rfl hl.1 rfl (lv_room (Nat.le_of_ble_eq_true rfl)) dX2_again_53 ⟨Nat.le_of_ble_eq_true rfl, Nat.le_of_ble_eq_true rfl⟩) hS (fun q _ h => hFc q h) hFc (fun r_16 u t9 H1 locs ht hvm hw hB hz1 hk1 hS => ?_)
          obtain ⟨hP1, hK1, hD1⟩ := hB
          rw [ht] at hP1
          obtain ⟨h_17, rfl⟩ := hw
          have hK1 := va_K.moved hvm.symm hK1
          obtain ⟨hP, hD⟩ := va_join (wr := [(a, .inl (cI, 256, .inl kf)), (b, .inl (cJ, 256, .inr (.inl vf)))]) (w1 := [(m0, .inr (2, [.int (m_f 0 0 2), .ref a, .ref b]))]) hP hD [2] [0, 1] rfl rfl (by decide) (by decide) hk1 hFc hP1 hD1
          have hK := (hK.sub (tys' := [(cI, .int), (cJ, .long)]) [0, 1] rfl).app hK1
          generalize H1 = H at hP hS ⊢
          have hP : va_P (dC, dI) vwCl [(a, .inl (cI, 256, .inl kf)), (b, .inl (cJ, 256, .inr (.inl vf))), (m0, .inr (2, [.int (m_f 0 0 2), .ref a, .ref b]))] H := hP
          have hD : va_D A [(a, .inl (cI, 256, .inl kf)), (b, .inl (cJ, 256, .inr (.inl vf))), (m0, .inr (2, [.int (m_f 0 0 2), .ref a, .ref b]))] := hD
          have hK : va_K (dC, dI) vwCl [(cI, .int), (cJ, .long)] s := hK
          refine W.widen (k := 0) (n := 0) (Nat.le_of_ble_eq_true rfl) (Nat.le_of_ble_eq_true rfl) ?_
          obtain rfl : r_16 = 0 := h_17.trans (by decide)
          have hP : va_P (dC, dI) vwCl [(a, .inl (cI, 256, .inl kf)), (b, .inl (cJ, 256, .inr (.inl vf))), (m0, .inr (2, [.int 0, .ref a, .ref b]))] H := hP
          have hD : va_D A [(a, .inl (cI, 256, .inl kf)), (b, .inl (cJ, 256, .inr (.inl vf))), (m0, .inr (2, [.int 0, .ref a, .ref b]))] := hD
          refine lv_if_eq (tgt := 61) hx hb dX2_again_56 (by decide) (fun c_18 => ?_) (fun c_18 => ?_)
          · refine lv_lload_n hx hb dX2_again_61 rfl (lv_at hl 3 rfl) ?_
            refine lv_lstore (lv' := [(6, .long x), (0, .ref m0), (1, .int f), (2, .int t), (3, .long x), (5, .int n)]) hx hb dX2_again_62 hl (by decide) rfl (fun ls hl => ?_)
            refine lv_iconst (v := 0) hx hb dX2_again_64 (by decide) ?_
            refine lv_istore (lv' := [(8, .int 0), (6, .long x), (0, .ref m0), (1, .int f), (2, .int t), (3, .long x), (5, .int n)]) hx hb dX2_again_65 hl (by decide) rfl (fun ls hl => ?_)
            obtain ⟨n8, hn8, hne, hnc⟩ := okN_nat (n := n) (by have h9 := c_9; rw [w64_0, w64_1000] at h9; exact h9)
            refine lp_up (N := n8) (α := Int64 × Int32) (fun j z9 H locs ls => (z9.2 = nI j) ∧ (z9.1 = m_it kf vf f.toNatClampNeg (ln f t) x j) ∧ va_P (dC, dI) vwCl [(m0, .inr (2, [.int 0, .ref a, .ref b])), (a, .inl (cI, 256, .inl kf)), (b, .inl (cJ, 256, .inr (.inl vf)))] H ∧ va_D A [(m0, .inr (2, [.int 0, .ref a, .ref b])), (a, .inl (cI, 256, .inl kf)), (b, .inl (cJ, 256, .inr (.inl vf)))] ∧ va_K (dC, dI) vwCl [(cI, .int), (cJ, .long)] s ∧ va_S A s.heap H locs ∧ lv_has ls 9 [(0, .ref m0), (1, .int f), (2, .int t), (3, .long x), (5, .int n), (6, .long z9.1), (8, .int z9.2)]) ?_ (x, 0) H _ ls ⟨nI_0.symm, rfl, hP.sub [2, 0, 1] rfl, hD.sub [2, 0, 1] (by decide) rfl, hK.sub [0, 1] rfl, hS, lv_sub hl [2, 3, 4, 5, 6, 1, 0] rfl⟩
            intro j z9 H locs ls hj hI hn
            obtain ⟨y, k⟩ := z9
            try dsimp only at hI
            obtain ⟨hi0, hi1, hP, hD, hK, hS, hl⟩ := hI
            refine lv_iload hx hb dX2_again_67 (lv_at hl 6 rfl) ?_
            refine lv_iload hx hb dX2_again_69 (lv_at hl 4 rfl) ?_
            refine lv_icmp_ge (tgt := 90) hx hb dX2_again_71 (by decide) (fun c_19 => ?_) (fun c_19 => ?_)
            · rw [hne, hi0] at c_19
              have hjn := lp_ge0 hn8 hj c_19
              subst hjn
              refine lv_lload hx hb dX2_again_90 (lv_at hl 5 rfl) ?_
              have hP9 := hP.sub (ws' := [(m0, .inr (2, [.int 0, .ref a, .ref b])), (a, .inl (cI, 256, .inl kf)), (b, .inl (cJ, 256, .inr (.inl vf)))]) [0, 1, 2] rfl
              have hD9 := hD.sub (ws' := [(m0, .inr (2, [.int 0, .ref a, .ref b])), (a, .inl (cI, 256, .inl kf)), (b, .inl (cJ, 256, .inr (.inl vf)))]) [0, 1, 2] (by decide) rfl
              have hK9 := hK.sub (tys' := [(cI, .int), (cJ, .long)]) [0, 1] rfl
              refine W.widen (k := 0) (n := 0) (Nat.le_of_ble_eq_true rfl) (Nat.le_of_ble_eq_true rfl) ?_
              exact W.lret (v := y) hx hb hr (fun t9 ht hW => ⟨⟨y, 0, rfl, ⟨by first | (simp [a_c, w64_0, w64_4, w64_255, w64_1000, w64_2, hnc, hi1, c_3, c_9, c_15]; done) | (simp [a_c, w64_0, w64_4, w64_255, w64_1000, w64_2, hnc, hi1, c_3, c_9, c_15]; done) | grind [a_c, w64_0, w64_4, w64_255, w64_1000, w64_2], by first | (simp [a_c, w64_0, w64_4, w64_255, w64_1000, w64_2, c_3, c_9, c_15]; done) | (simp [a_c, w64_0, w64_4, w64_255, w64_1000, w64_2, c_3, c_9, c_15]; done) | grind [a_c, w64_0, w64_4, w64_255, w64_1000, w64_2]⟩, by rw [ht]; exact hP9, va_K.moved hW.alike hK9, hD9⟩, hS.F ht⟩) hS.2.2 dX2_again_92
            · rw [hne, hi0] at c_19
              have hjn := lp_lt0 hn8 hj c_19
              refine lv_aload_n hx hb dX2_again_74 rfl (lv_at hl 0 rfl) ?_
              refine lv_iload_n hx hb dX2_again_75 rfl (lv_at hl 1 rfl) ?_
              refine lv_iload_n hx hb dX2_again_76 rfl (lv_at hl 2 rfl) ?_
              refine lv_lload hx hb dX2_again_77 (lv_at hl 5 rfl) ?_
              have hPc := hP.sub (ws' := [(m0, .inr (2, [.int 0, .ref a, .ref b])), (a, .inl (cI, 256, .inl kf)), (b, .inl (cJ, 256, .inr (.inl vf)))]) [0, 1, 2] rfl
              have hDc := hD.sub (ws' := [(m0, .inr (2, [.int 0, .ref a, .ref b])), (a, .inl (cI, 256, .inl kf)), (b, .inl (cJ, 256, .inr (.inl vf)))]) [0, 1, 2] (by decide) rfl
              have hKc := hK.sub (tys' := [(cI, .int), (cJ, .long)]) [0, 1] rfl
              have hFc := va_free (wc := [(m0, .inr (2, [.int 0, .ref a, .ref b])), (a, .inl (cI, 256, .inl kf)), (b, .inl (cJ, 256, .inr (.inl vf)))]) hD hS hA [0, 1, 2] rfl
              refine va_calll (va_runV (As := [.int f, .int t, .long y]) (rest := []) ⟨hx, hb, hml, hown, hts⟩ (qX2_made l dC dI H.size m0 a b cI cJ (0) kf vf f t y c_15) (cwV 3 hts gX2_again_X2_made rfl rfl rfl (by decide +kernel) ⟨Nat.le_of_ble_eq_true rfl, Nat.le_of_ble_eq_true rfl⟩) ⟨fun a U g mk q => by obtain ⟨q0, q1, qP, qK, qD⟩ := q; exact ⟨q0, q1, qP, va_K.moved (u := U) (U := U.calling g mk a) (Vm.Alike.refl U.vm) qK, qD⟩, va_recv hKc hPc (ci := 2) (q0 := 0) rfl rfl, fun U hU hW => ⟨rfl, by rw [hU], by rw [hU]; exact hPc, va_K.moved hW.alike hKc, hDc.weaken (fun _ _ _ _ => trivial)⟩⟩ rfl rfl hl.1 rfl (lv_room (Nat.le_of_ble_eq_true rfl)) dX2_again_79 ⟨Nat.le_of_ble_eq_true rfl, Nat.le_of_ble_eq_true rfl⟩) hS (fun q _ h => hFc q h) hFc (fun r_20 u t9 H1 locs ht hvm hw hB hz1 hk1 hS => ?_)
              obtain ⟨hP1, hK1, hD1⟩ := hB
              rw [ht] at hP1
              have h_21 := hw
              have hK1 := va_K.moved hvm.symm hK1
              obtain ⟨hP, hD⟩ := va_join (wr := []) (w1 := [(m0, .inr (2, [.int 0, .ref a, .ref b])), (a, .inl (cI, 256, .inl kf)), (b, .inl (cJ, 256, .inr (.inl vf)))]) hP hD [0, 1, 2] [] rfl rfl (by decide) (by decide) hk1 hFc hP1 hD1
              have hK := (hK.sub (tys' := []) [] rfl).app hK1
              generalize H1 = H at hP hS ⊢
              have hP : va_P (dC, dI) vwCl [(m0, .inr (2, [.int 0, .ref a, .ref b])), (a, .inl (cI, 256, .inl kf)), (b, .inl (cJ, 256, .inr (.inl vf)))] H := hP
              have hD : va_D A [(m0, .inr (2, [.int 0, .ref a, .ref b])), (a, .inl (cI, 256, .inl kf)), (b, .inl (cJ, 256, .inr (.inl vf)))] := hD
              have hK : va_K (dC, dI) vwCl [(cI, .int), (cJ, .long)] s := hK
              refine W.widen (k := 0) (n := 0) (Nat.le_of_ble_eq_true rfl) (Nat.le_of_ble_eq_true rfl) ?_
              refine lv_lstore (lv' := [(6, .long r_20), (0, .ref m0), (1, .int f), (2, .int t), (3, .long x), (5, .int n), (8, .int k)]) hx hb dX2_again_82 hl (by decide) rfl (fun ls hl => ?_)
              obtain ⟨i_22, ei_22⟩ : ∃ y : Int32, y = k + 1 := ⟨_, rfl⟩
              refine lv_iinc (v := i_22) (lv' := [(8, .int i_22), (6, .long r_20), (0, .ref m0), (1, .int f), (2, .int t), (3, .long x), (5, .int n)]) hx hb dX2_again_84 hl (k := 6) rfl (by rw [ei_22]; rfl) (by decide) rfl (fun ls hl => ?_)
              refine lv_goto (tgt := 67) hx hb dX2_again_87 (by decide) ?_
              exact hn (by omega) (r_20, i_22) _ _ ls ⟨by rw [ei_22, hi0]; exact nI_1 _, by rw [h_21, hi1]; rfl, hP.sub [0, 1, 2] rfl, hD.sub [0, 1, 2] (by decide) rfl, hK.sub [0, 1] rfl, hS, lv_sub hl [2, 3, 4, 5, 6, 1, 0] rfl⟩
          · exact absurd c_18 (by decide)
        · rw [h_14, b01] at c_15
          refine lv_iconst (v := 1) hx hb dX2_again_47 (by decide) ?_
          refine lv_goto (tgt := 52) hx hb dX2_again_48 (by decide) ?_
          refine lv_iconst (v := 2) hx hb dX2_again_52 (by decide) ?_
          have hPc := hP.sub (ws' := [(m0, .inr (2, [.int 0, .ref a, .ref b]))]) [2] rfl
          have hDc := hD.sub (ws' := [(m0, .inr (2, [.int 0, .ref a, .ref b]))]) [2] (by decide) rfl
          have hKc := hK.sub (tys' := []) [] rfl
          have hFc := va_free (wc := [(m0, .inr (2, [.int 0, .ref a, .ref b]))]) hD hS hA [2] rfl
          refine va_calli (va_runV (As := [.int 1, .int 2]) (rest := []) ⟨hx, hb, hml, hown, hts⟩ (qX2_fails l dC dI H.size m0 a b (0) (1) (2)) (cwV 2 hts gX2_again_X2_fails rfl rfl rfl (by decide +kernel) ⟨Nat.le_of_ble_eq_true rfl, Nat.le_of_ble_eq_true rfl⟩) ⟨fun a U g mk q => by obtain ⟨q0, q1, qP, qK, qD⟩ := q; exact ⟨q0, q1, qP, va_K.moved (u := U) (U := U.calling g mk a) (Vm.Alike.refl U.vm) qK, qD⟩, va_recv hKc hPc (ci := 2) (q0 := 0) rfl rfl, fun U hU hW => ⟨rfl, by rw [hU], by rw [hU]; exact hPc, va_K.moved hW.alike hKc, hDc.weaken (fun _ _ _ _ => trivial)⟩⟩ rfl rfl hl.1 rfl (lv_room (Nat.le_of_ble_eq_true rfl)) dX2_again_53 ⟨Nat.le_of_ble_eq_true rfl, Nat.le_of_ble_eq_true rfl⟩) hS (fun q _ h => hFc q h) hFc (fun r_23 u t9 H1 locs ht hvm hw hB hz1 hk1 hS => ?_)
          obtain ⟨hP1, hK1, hD1⟩ := hB
          rw [ht] at hP1
          obtain ⟨h_24, rfl⟩ := hw
          have hK1 := va_K.moved hvm.symm hK1
          obtain ⟨hP, hD⟩ := va_join (wr := [(a, .inl (cI, 256, .inl kf)), (b, .inl (cJ, 256, .inr (.inl vf)))]) (w1 := [(m0, .inr (2, [.int (m_f 1 0 2), .ref a, .ref b]))]) hP hD [2] [0, 1] rfl rfl (by decide) (by decide) hk1 hFc hP1 hD1
          have hK := (hK.sub (tys' := [(cI, .int), (cJ, .long)]) [0, 1] rfl).app hK1
          generalize H1 = H at hP hS ⊢
          have hP : va_P (dC, dI) vwCl [(a, .inl (cI, 256, .inl kf)), (b, .inl (cJ, 256, .inr (.inl vf))), (m0, .inr (2, [.int (m_f 1 0 2), .ref a, .ref b]))] H := hP
          have hD : va_D A [(a, .inl (cI, 256, .inl kf)), (b, .inl (cJ, 256, .inr (.inl vf))), (m0, .inr (2, [.int (m_f 1 0 2), .ref a, .ref b]))] := hD
          have hK : va_K (dC, dI) vwCl [(cI, .int), (cJ, .long)] s := hK
          refine W.widen (k := 0) (n := 0) (Nat.le_of_ble_eq_true rfl) (Nat.le_of_ble_eq_true rfl) ?_
          obtain rfl : r_23 = 1 := h_24.trans (by decide)
          have hP : va_P (dC, dI) vwCl [(a, .inl (cI, 256, .inl kf)), (b, .inl (cJ, 256, .inr (.inl vf))), (m0, .inr (2, [.int 2, .ref a, .ref b]))] H := hP
          have hD : va_D A [(a, .inl (cI, 256, .inl kf)), (b, .inl (cJ, 256, .inr (.inl vf))), (m0, .inr (2, [.int 2, .ref a, .ref b]))] := hD
          refine lv_if_eq (tgt := 61) hx hb dX2_again_56 (by decide) (fun c_25 => ?_) (fun c_25 => ?_)
          · exact absurd c_25 (by decide)
          · refine lv_lconst (v := 0) hx hb dX2_again_59 (by decide) ?_
            have hP9 := hP.sub (ws' := [(m0, .inr (2, [.int 2, .ref a, .ref b])), (a, .inl (cI, 256, .inl kf)), (b, .inl (cJ, 256, .inr (.inl vf)))]) [2, 0, 1] rfl
            have hD9 := hD.sub (ws' := [(m0, .inr (2, [.int 2, .ref a, .ref b])), (a, .inl (cI, 256, .inl kf)), (b, .inl (cJ, 256, .inr (.inl vf)))]) [2, 0, 1] (by decide) rfl
            have hK9 := hK.sub (tys' := [(cI, .int), (cJ, .long)]) [0, 1] rfl
            refine W.widen (k := 0) (n := 0) (Nat.le_of_ble_eq_true rfl) (Nat.le_of_ble_eq_true rfl) ?_
            exact W.lret (v := 0) hx hb hr (fun t9 ht hW => ⟨⟨0, 2, rfl, ⟨by first | (simp [a_c, w64_0, w64_4, w64_255, w64_1000, w64_2, c_3, c_9, c_15]; done) | (simp [a_c, w64_0, w64_4, w64_255, w64_1000, w64_2, c_3, c_9, c_15]; done) | grind [a_c, w64_0, w64_4, w64_255, w64_1000, w64_2], by first | (simp [a_c, w64_0, w64_4, w64_255, w64_1000, w64_2, c_3, c_9, c_15]; done) | (simp [a_c, w64_0, w64_4, w64_255, w64_1000, w64_2, c_3, c_9, c_15]; done) | grind [a_c, w64_0, w64_4, w64_255, w64_1000, w64_2]⟩, by rw [ht]; exact hP9, va_K.moved hW.alike hK9, hD9⟩, hS.F ht⟩) hS.2.2 dX2_again_60
    · rw [h_8, b01] at c_9
      refine lv_iconst (v := 1) hx hb dX2_again_26 (by decide) ?_
      refine lv_goto (tgt := 31) hx hb dX2_again_27 (by decide) ?_
      refine lv_iconst (v := 1) hx hb dX2_again_31 (by decide) ?_
      have hPc := hP.sub (ws' := [(m0, .inr (2, [.int 0, .ref a, .ref b]))]) [0] rfl
      have hDc := hD.sub (ws' := [(m0, .inr (2, [.int 0, .ref a, .ref b]))]) [0] (by decide) rfl
      have hKc := hK.sub (tys' := []) [] rfl
      have hFc := va_free (wc := [(m0, .inr (2, [.int 0, .ref a, .ref b]))]) hD hS hA [0] rfl
      refine va_calli (va_runV (As := [.int 1, .int 1]) (rest := []) ⟨hx, hb, hml, hown, hts⟩ (qX2_fails l dC dI H.size m0 a b (0) (1) (1)) (cwV 2 hts gX2_again_X2_fails rfl rfl rfl (by decide +kernel) ⟨Nat.le_of_ble_eq_true rfl, Nat.le_of_ble_eq_true rfl⟩) ⟨fun a U g mk q => by obtain ⟨q0, q1, qP, qK, qD⟩ := q; exact ⟨q0, q1, qP, va_K.moved (u := U) (U := U.calling g mk a) (Vm.Alike.refl U.vm) qK, qD⟩, va_recv hKc hPc (ci := 2) (q0 := 0) rfl rfl, fun U hU hW => ⟨rfl, by rw [hU], by rw [hU]; exact hPc, va_K.moved hW.alike hKc, hDc.weaken (fun _ _ _ _ => trivial)⟩⟩ rfl rfl hl.1 rfl (lv_room (Nat.le_of_ble_eq_true rfl)) dX2_again_32 ⟨Nat.le_of_ble_eq_true rfl, Nat.le_of_ble_eq_true rfl⟩) hS (fun q _ h => hFc q h) hFc (fun r_26 u t9 H1 locs ht hvm hw hB hz1 hk1 hS => ?_)
      obtain ⟨hP1, hK1, hD1⟩ := hB
      rw [ht] at hP1
      obtain ⟨h_27, rfl⟩ := hw
      have hK1 := va_K.moved hvm.symm hK1
      obtain ⟨hP, hD⟩ := va_join (wr := [(a, .inl (cI, 256, .inl kf)), (b, .inl (cJ, 256, .inr (.inl vf)))]) (w1 := [(m0, .inr (2, [.int (m_f 1 0 1), .ref a, .ref b]))]) hP hD [0] [1, 2] rfl rfl (by decide) (by decide) hk1 hFc hP1 hD1
      have hK := (hK.sub (tys' := [(cI, .int), (cJ, .long)]) [0, 1] rfl).app hK1
      generalize H1 = H at hP hS ⊢
      have hP : va_P (dC, dI) vwCl [(a, .inl (cI, 256, .inl kf)), (b, .inl (cJ, 256, .inr (.inl vf))), (m0, .inr (2, [.int (m_f 1 0 1), .ref a, .ref b]))] H := hP
      have hD : va_D A [(a, .inl (cI, 256, .inl kf)), (b, .inl (cJ, 256, .inr (.inl vf))), (m0, .inr (2, [.int (m_f 1 0 1), .ref a, .ref b]))] := hD
      have hK : va_K (dC, dI) vwCl [(cI, .int), (cJ, .long)] s := hK
      refine W.widen (k := 0) (n := 0) (Nat.le_of_ble_eq_true rfl) (Nat.le_of_ble_eq_true rfl) ?_
      obtain rfl : r_26 = 1 := h_27.trans (by decide)
      have hP : va_P (dC, dI) vwCl [(a, .inl (cI, 256, .inl kf)), (b, .inl (cJ, 256, .inr (.inl vf))), (m0, .inr (2, [.int 1, .ref a, .ref b]))] H := hP
      have hD : va_D A [(a, .inl (cI, 256, .inl kf)), (b, .inl (cJ, 256, .inr (.inl vf))), (m0, .inr (2, [.int 1, .ref a, .ref b]))] := hD
      refine lv_if_ne (tgt := 59) hx hb dX2_again_35 (by decide) (fun c_28 => ?_) (fun c_28 => ?_)
      · refine lv_lconst (v := 0) hx hb dX2_again_59 (by decide) ?_
        have hP9 := hP.sub (ws' := [(m0, .inr (2, [.int 1, .ref a, .ref b])), (a, .inl (cI, 256, .inl kf)), (b, .inl (cJ, 256, .inr (.inl vf)))]) [2, 0, 1] rfl
        have hD9 := hD.sub (ws' := [(m0, .inr (2, [.int 1, .ref a, .ref b])), (a, .inl (cI, 256, .inl kf)), (b, .inl (cJ, 256, .inr (.inl vf)))]) [2, 0, 1] (by decide) rfl
        have hK9 := hK.sub (tys' := [(cI, .int), (cJ, .long)]) [0, 1] rfl
        refine W.widen (k := 0) (n := 0) (Nat.le_of_ble_eq_true rfl) (Nat.le_of_ble_eq_true rfl) ?_
        exact W.lret (v := 0) hx hb hr (fun t9 ht hW => ⟨⟨0, 1, rfl, ⟨by first | (simp [a_c, w64_0, w64_4, w64_255, w64_1000, w64_2, c_3, c_9]; done) | (simp [a_c, w64_0, w64_4, w64_255, w64_1000, w64_2, c_3, c_9]; done) | grind [a_c, w64_0, w64_4, w64_255, w64_1000, w64_2], by first | (simp [a_c, w64_0, w64_4, w64_255, w64_1000, w64_2, c_3, c_9]; done) | (simp [a_c, w64_0, w64_4, w64_255, w64_1000, w64_2, c_3, c_9]; done) | grind [a_c, w64_0, w64_4, w64_255, w64_1000, w64_2]⟩, by rw [ht]; exact hP9, va_K.moved hW.alike hK9, hD9⟩, hS.F ht⟩) hS.2.2 dX2_again_60
      · exact absurd c_28 (by decide)

set_option maxRecDepth 20000 in
theorem kX2_least_0 : ∀ w ∈ wsX20, w ∈ wsX2_least := by decide +kernel
set_option maxRecDepth 20000 in
theorem kX2_least_1 : (.fieldLink RX2 17 "FoldRowModel" "err" "I" : Cond) ∈ wsX2_least := by decide +kernel
set_option maxRecDepth 20000 in
theorem kX2_least_2 : (.constantLong RX2 61 (-1000000000000000) : Cond) ∈ wsX2_least := by decide +kernel
set_option maxHeartbeats 4000000 in
set_option maxRecDepth 100000 in
theorem qX2_least (l : Launch) (dC : Nat → ClassId) (dI : Nat → Nat → Nat) (sz : Nat) (m0 a b : Nat) (cI cJ : ClassId) (er : Int32) (kf : Nat → Int32) (vf : Nat → Int64) (f t : Int32)  : Met l yX2_least wsX2_least ({ frames := 3, cells := 0, slots := 0, locals := 90 }) (va_Pc [.ref m0, .int f, .int t] (fun U => U.heap.size = sz ∧ va_P (dC, dI) vwCl [(m0, .inr (2, [.int er, .ref a, .ref b])), (a, .inl (cI, 256, .inl kf)), (b, .inl (cJ, 256, .inr (.inl vf)))] U.heap ∧ va_K (dC, dI) vwCl [(cI, .int), (cJ, .long)] U ∧ va_D (fun _ => True) [(m0, .inr (2, [.int er, .ref a, .ref b])), (a, .inl (cI, 256, .inl kf)), (b, .inl (cJ, 256, .inr (.inl vf)))])) (va_Ql (fun (r : Int64) (u : Int32) => (r = if l_c kf vf f t (-1000000000000000) = 0 then mW kf vf f t (-1000000000000000) else 0) ∧ u = l_c kf vf f t (-1000000000000000)) (fun (u : Int32) (t9 : State) => va_P (dC, dI) vwCl [(m0, .inr (2, [.int u, .ref a, .ref b])), (a, .inl (cI, 256, .inl kf)), (b, .inl (cJ, 256, .inr (.inl vf)))] t9.heap ∧ va_K (dC, dI) vwCl [(cI, .int), (cJ, .long)] t9 ∧ va_D (va_A [(m0, .inr (2, [.int er, .ref a, .ref b])), (a, .inl (cI, 256, .inl kf)), (b, .inl (cJ, 256, .inr (.inl vf)))] sz) [(m0, .inr (2, [.int u, .ref a, .ref b])), (a, .inl (cI, 256, .inl kf)), (b, .inl (cJ, 256, .inr (.inl vf)))]) (va_A [(m0, .inr (2, [.int er, .ref a, .ref b])), (a, .inl (cI, 256, .inl kf)), (b, .inl (cJ, 256, .inr (.inl vf)))] sz)) 0 0 (va_A [(m0, .inr (2, [.int er, .ref a, .ref b])), (a, .inl (cI, 256, .inl kf)), (b, .inl (cJ, 256, .inr (.inl vf)))] sz) := by
  refine Met.ofW (cc := cX2_least) (maxL := 3) (ret := (some .long)) (by decide) rfl ?_
  intro p e s m args below meth c s₁ B hml hv
  obtain ⟨rfl, hsz, hP, hK, hD0⟩ := hv
  have hx := B.exec
  have hb := B.bytes
  have hr := B.returns
  have hts := atoms_spec (ws := wsX2_least) B.pre
  have hown : s.vm.findClass RX2 = some m.cls := findClass_of_methodNamed B.named
  have hlocks := B.notSynchronized
  subst hsz
  have hD := hD0.self (sz := s.heap.size)
  generalize hAe : va_A [(m0, .inr (2, [.int er, .ref a, .ref b])), (a, .inl (cI, 256, .inl kf)), (b, .inl (cJ, 256, .inr (.inl vf)))] s.heap.size = A at hD ⊢
  have hA : ∀ q : Nat, s.heap.size ≤ q → A q := fun q h => by rw [← hAe]; exact Or.inr h
  have hS : va_S A s.heap s.heap [] := va_S.rf
  have hP : va_P (dC, dI) vwCl [(m0, .inr (2, [.int er, .ref a, .ref b])), (a, .inl (cI, 256, .inl kf)), (b, .inl (cJ, 256, .inr (.inl vf)))] s.heap := hP
  have hl := lv_entry ([.ref m0, .int f, .int t]) (n := 3) (Nat.le_of_ble_eq_true rfl)
  rw [lg_entry_eq]
  generalize (lg_sl ([.ref m0, .int f, .int t]) ++ List.replicate (3 - (lg_sl ([.ref m0, .int f, .int t])).length) Slot.unset).toArray = ls at hl ⊢
  have hl : lv_has ls 3 [(0, .ref m0), (1, .int f), (2, .int t)] := hl
  refine lv_aload_n hx hb dX2_least_0 rfl (lv_at hl 0 rfl) ?_
  refine lv_iconst (v := 0) hx hb dX2_least_1 (by decide) ?_
  refine va_put (D := (dC, dI)) (ci := 2) (v := .int 0) (ty := .int) (C := RX2) (T := TX2) (N := 3) hx hb hts kX2_least_0 tyX2 tyX2_ok nmX2 hown hK hP hD hS 0 rfl rfl 0 (by decide) (hts (.fieldLink RX2 17 "FoldRowModel" "err" "I") kX2_least_1) (fun _ h9 => h9) rfl (by decide +kernel) rfl rfl (Nat.le_of_ble_eq_true rfl) dX2_least_2 (fun H locs hP hD hS => ?_)
  have hP : va_P (dC, dI) vwCl [(m0, .inr (2, [.int 0, .ref a, .ref b])), (a, .inl (cI, 256, .inl kf)), (b, .inl (cJ, 256, .inr (.inl vf)))] H := hP
  have hD : va_D A [(m0, .inr (2, [.int 0, .ref a, .ref b])), (a, .inl (cI, 256, .inl kf)), (b, .inl (cJ, 256, .inr (.inl vf)))] := hD
  refine lv_aload_n hx hb dX2_least_5 rfl (lv_at hl 0 rfl) ?_
  refine lv_iload_n hx hb dX2_least_6 rfl (lv_at hl 1 rfl) ?_
  refine lv_iload_n hx hb dX2_least_7 rfl (lv_at hl 2 rfl) ?_
  have hPc := hP.sub (ws' := []) [] rfl
  have hDc := hD.sub (ws' := []) [] (by decide) rfl
  have hKc := hK.sub (tys' := []) [] rfl
  have hFc := va_free (wc := []) hD hS hA [] rfl
  refine va_calli (va_runS (As := [.int f, .int t]) (rest := [.ref m0]) ⟨hx, hb, hml, hown, hts⟩ (qX2_isPart l dC dI H.size f t) (va_cwS 2 hts gX2_least_X2_isPart rfl rfl rfl (by decide +kernel) ⟨Nat.le_of_ble_eq_true rfl, Nat.le_of_ble_eq_true rfl⟩) ⟨fun a U g mk q => by obtain ⟨q0, q1, qP, qK, qD⟩ := q; exact ⟨q0, q1, qP, va_K.moved (u := U) (U := U.calling g mk a) (Vm.Alike.refl U.vm) qK, qD⟩, fun U hU hW => ⟨rfl, by rw [hU], by rw [hU]; exact hPc, va_K.moved hW.alike hKc, hDc.weaken (fun _ _ _ _ => trivial)⟩⟩ rfl rfl hl.1 rfl (lv_room (Nat.le_of_ble_eq_true rfl)) dX2_least_8 ⟨Nat.le_of_ble_eq_true rfl, Nat.le_of_ble_eq_true rfl⟩) hS (fun q _ h => hFc q h) hFc (fun r_1 u t9 H1 locs ht hvm hw hB hz1 hk1 hS => ?_)
  obtain ⟨hP1, hK1, hD1⟩ := hB
  rw [ht] at hP1
  have h_2 := hw
  have hK1 := va_K.moved hvm.symm hK1
  obtain ⟨hP, hD⟩ := va_join (wr := [(m0, .inr (2, [.int 0, .ref a, .ref b])), (a, .inl (cI, 256, .inl kf)), (b, .inl (cJ, 256, .inr (.inl vf)))]) (w1 := []) hP hD [] [0, 1, 2] rfl rfl (by decide) (by decide) hk1 hFc hP1 hD1
  have hK := (hK.sub (tys' := [(cI, .int), (cJ, .long)]) [0, 1] rfl).app hK1
  generalize H1 = H at hP hS ⊢
  have hP : va_P (dC, dI) vwCl [(m0, .inr (2, [.int 0, .ref a, .ref b])), (a, .inl (cI, 256, .inl kf)), (b, .inl (cJ, 256, .inr (.inl vf)))] H := hP
  have hD : va_D A [(m0, .inr (2, [.int 0, .ref a, .ref b])), (a, .inl (cI, 256, .inl kf)), (b, .inl (cJ, 256, .inr (.inl vf)))] := hD
  have hK : va_K (dC, dI) vwCl [(cI, .int), (cJ, .long)] s := hK
  refine W.widen (k := 0) (n := 0) (Nat.le_of_ble_eq_true rfl) (Nat.le_of_ble_eq_true rfl) ?_
  refine lv_if_ne (tgt := 18) hx hb dX2_least_11 (by decide) (fun c_3 => ?_) (fun c_3 => ?_)
  · rw [h_2, b01] at c_3
    have c_3 := Classical.not_not.mp c_3
    refine lv_iconst (v := 0) hx hb dX2_least_18 (by decide) ?_
    refine lv_iconst (v := 1) hx hb dX2_least_19 (by decide) ?_
    have hPc := hP.sub (ws' := [(m0, .inr (2, [.int 0, .ref a, .ref b]))]) [0] rfl
    have hDc := hD.sub (ws' := [(m0, .inr (2, [.int 0, .ref a, .ref b]))]) [0] (by decide) rfl
    have hKc := hK.sub (tys' := []) [] rfl
    have hFc := va_free (wc := [(m0, .inr (2, [.int 0, .ref a, .ref b]))]) hD hS hA [0] rfl
    refine va_calli (va_runV (As := [.int 0, .int 1]) (rest := []) ⟨hx, hb, hml, hown, hts⟩ (qX2_fails l dC dI H.size m0 a b (0) (0) (1)) (cwV 2 hts gX2_least_X2_fails rfl rfl rfl (by decide +kernel) ⟨Nat.le_of_ble_eq_true rfl, Nat.le_of_ble_eq_true rfl⟩) ⟨fun a U g mk q => by obtain ⟨q0, q1, qP, qK, qD⟩ := q; exact ⟨q0, q1, qP, va_K.moved (u := U) (U := U.calling g mk a) (Vm.Alike.refl U.vm) qK, qD⟩, va_recv hKc hPc (ci := 2) (q0 := 0) rfl rfl, fun U hU hW => ⟨rfl, by rw [hU], by rw [hU]; exact hPc, va_K.moved hW.alike hKc, hDc.weaken (fun _ _ _ _ => trivial)⟩⟩ rfl rfl hl.1 rfl (lv_room (Nat.le_of_ble_eq_true rfl)) dX2_least_20 ⟨Nat.le_of_ble_eq_true rfl, Nat.le_of_ble_eq_true rfl⟩) hS (fun q _ h => hFc q h) hFc (fun r_4 u t9 H1 locs ht hvm hw hB hz1 hk1 hS => ?_)
    obtain ⟨hP1, hK1, hD1⟩ := hB
    rw [ht] at hP1
    obtain ⟨h_5, rfl⟩ := hw
    have hK1 := va_K.moved hvm.symm hK1
    obtain ⟨hP, hD⟩ := va_join (wr := [(a, .inl (cI, 256, .inl kf)), (b, .inl (cJ, 256, .inr (.inl vf)))]) (w1 := [(m0, .inr (2, [.int (m_f 0 0 1), .ref a, .ref b]))]) hP hD [0] [1, 2] rfl rfl (by decide) (by decide) hk1 hFc hP1 hD1
    have hK := (hK.sub (tys' := [(cI, .int), (cJ, .long)]) [0, 1] rfl).app hK1
    generalize H1 = H at hP hS ⊢
    have hP : va_P (dC, dI) vwCl [(a, .inl (cI, 256, .inl kf)), (b, .inl (cJ, 256, .inr (.inl vf))), (m0, .inr (2, [.int (m_f 0 0 1), .ref a, .ref b]))] H := hP
    have hD : va_D A [(a, .inl (cI, 256, .inl kf)), (b, .inl (cJ, 256, .inr (.inl vf))), (m0, .inr (2, [.int (m_f 0 0 1), .ref a, .ref b]))] := hD
    have hK : va_K (dC, dI) vwCl [(cI, .int), (cJ, .long)] s := hK
    refine W.widen (k := 0) (n := 0) (Nat.le_of_ble_eq_true rfl) (Nat.le_of_ble_eq_true rfl) ?_
    obtain rfl : r_4 = 0 := h_5.trans (by decide)
    have hP : va_P (dC, dI) vwCl [(a, .inl (cI, 256, .inl kf)), (b, .inl (cJ, 256, .inr (.inl vf))), (m0, .inr (2, [.int 0, .ref a, .ref b]))] H := hP
    have hD : va_D A [(a, .inl (cI, 256, .inl kf)), (b, .inl (cJ, 256, .inr (.inl vf))), (m0, .inr (2, [.int 0, .ref a, .ref b]))] := hD
    refine lv_if_ne (tgt := 51) hx hb dX2_least_23 (by decide) (fun c_6 => ?_) (fun c_6 => ?_)
    · exact absurd c_6 (by decide)
    · refine lv_aload_n hx hb dX2_least_26 rfl (lv_at hl 0 rfl) ?_
      refine lv_aload_n hx hb dX2_least_27 rfl (lv_at hl 0 rfl) ?_
      refine lv_iload_n hx hb dX2_least_28 rfl (lv_at hl 1 rfl) ?_
      refine lv_iload_n hx hb dX2_least_29 rfl (lv_at hl 2 rfl) ?_
      refine lv_ldc2 hx hb hown (hts (.constantLong RX2 61 (-1000000000000000)) kX2_least_2) dX2_least_30 ?_
      have hPc := hP.sub (ws' := [(m0, .inr (2, [.int 0, .ref a, .ref b])), (a, .inl (cI, 256, .inl kf)), (b, .inl (cJ, 256, .inr (.inl vf)))]) [2, 0, 1] rfl
      have hDc := hD.sub (ws' := [(m0, .inr (2, [.int 0, .ref a, .ref b])), (a, .inl (cI, 256, .inl kf)), (b, .inl (cJ, 256, .inr (.inl vf)))]) [2, 0, 1] (by decide) rfl
      have hKc := hK.sub (tys' := [(cI, .int), (cJ, .long)]) [0, 1] rfl
      have hFc := va_free (wc := [(m0, .inr (2, [.int 0, .ref a, .ref b])), (a, .inl (cI, 256, .inl kf)), (b, .inl (cJ, 256, .inr (.inl vf)))]) hD hS hA [2, 0, 1] rfl
      refine va_calli (va_runV (As := [.int f, .int t, .long (-1000000000000000)]) (rest := [.ref m0]) ⟨hx, hb, hml, hown, hts⟩ (qX2_ends l dC dI H.size m0 a b cI cJ (0) kf vf f t (-1000000000000000) c_3) (cwV 3 hts gX2_least_X2_ends rfl rfl rfl (by decide +kernel) ⟨Nat.le_of_ble_eq_true rfl, Nat.le_of_ble_eq_true rfl⟩) ⟨fun a U g mk q => by obtain ⟨q0, q1, qP, qK, qD⟩ := q; exact ⟨q0, q1, qP, va_K.moved (u := U) (U := U.calling g mk a) (Vm.Alike.refl U.vm) qK, qD⟩, va_recv hKc hPc (ci := 2) (q0 := 0) rfl rfl, fun U hU hW => ⟨rfl, by rw [hU], by rw [hU]; exact hPc, va_K.moved hW.alike hKc, hDc.weaken (fun _ _ _ _ => trivial)⟩⟩ rfl rfl hl.1 rfl (lv_room (Nat.le_of_ble_eq_true rfl)) dX2_least_33 ⟨Nat.le_of_ble_eq_true rfl, Nat.le_of_ble_eq_true rfl⟩) hS (fun q _ h => hFc q h) hFc (fun r_7 u t9 H1 locs ht hvm hw hB hz1 hk1 hS => ?_)
      obtain ⟨hP1, hK1, hD1⟩ := hB
      rw [ht] at hP1
      have h_8 := hw
      have hK1 := va_K.moved hvm.symm hK1
      obtain ⟨hP, hD⟩ := va_join (wr := []) (w1 := [(m0, .inr (2, [.int 0, .ref a, .ref b])), (a, .inl (cI, 256, .inl kf)), (b, .inl (cJ, 256, .inr (.inl vf)))]) hP hD [2, 0, 1] [] rfl rfl (by decide) (by decide) hk1 hFc hP1 hD1
      have hK := (hK.sub (tys' := []) [] rfl).app hK1
      generalize H1 = H at hP hS ⊢
      have hP : va_P (dC, dI) vwCl [(m0, .inr (2, [.int 0, .ref a, .ref b])), (a, .inl (cI, 256, .inl kf)), (b, .inl (cJ, 256, .inr (.inl vf)))] H := hP
      have hD : va_D A [(m0, .inr (2, [.int 0, .ref a, .ref b])), (a, .inl (cI, 256, .inl kf)), (b, .inl (cJ, 256, .inr (.inl vf)))] := hD
      have hK : va_K (dC, dI) vwCl [(cI, .int), (cJ, .long)] s := hK
      refine W.widen (k := 0) (n := 0) (Nat.le_of_ble_eq_true rfl) (Nat.le_of_ble_eq_true rfl) ?_
      refine lv_if_ne (tgt := 43) hx hb dX2_least_36 (by decide) (fun c_9 => ?_) (fun c_9 => ?_)
      · rw [h_8, b01] at c_9
        have c_9 := Classical.not_not.mp c_9
        refine lv_iconst (v := 0) hx hb dX2_least_43 (by decide) ?_
        refine lv_iconst (v := 2) hx hb dX2_least_44 (by decide) ?_
        have hPc := hP.sub (ws' := [(m0, .inr (2, [.int 0, .ref a, .ref b]))]) [0] rfl
        have hDc := hD.sub (ws' := [(m0, .inr (2, [.int 0, .ref a, .ref b]))]) [0] (by decide) rfl
        have hKc := hK.sub (tys' := []) [] rfl
        have hFc := va_free (wc := [(m0, .inr (2, [.int 0, .ref a, .ref b]))]) hD hS hA [0] rfl
        refine va_calli (va_runV (As := [.int 0, .int 2]) (rest := []) ⟨hx, hb, hml, hown, hts⟩ (qX2_fails l dC dI H.size m0 a b (0) (0) (2)) (cwV 2 hts gX2_least_X2_fails rfl rfl rfl (by decide +kernel) ⟨Nat.le_of_ble_eq_true rfl, Nat.le_of_ble_eq_true rfl⟩) ⟨fun a U g mk q => by obtain ⟨q0, q1, qP, qK, qD⟩ := q; exact ⟨q0, q1, qP, va_K.moved (u := U) (U := U.calling g mk a) (Vm.Alike.refl U.vm) qK, qD⟩, va_recv hKc hPc (ci := 2) (q0 := 0) rfl rfl, fun U hU hW => ⟨rfl, by rw [hU], by rw [hU]; exact hPc, va_K.moved hW.alike hKc, hDc.weaken (fun _ _ _ _ => trivial)⟩⟩ rfl rfl hl.1 rfl (lv_room (Nat.le_of_ble_eq_true rfl)) dX2_least_45 ⟨Nat.le_of_ble_eq_true rfl, Nat.le_of_ble_eq_true rfl⟩) hS (fun q _ h => hFc q h) hFc (fun r_10 u t9 H1 locs ht hvm hw hB hz1 hk1 hS => ?_)
        obtain ⟨hP1, hK1, hD1⟩ := hB
        rw [ht] at hP1
        obtain ⟨h_11, rfl⟩ := hw
        have hK1 := va_K.moved hvm.symm hK1
        obtain ⟨hP, hD⟩ := va_join (wr := [(a, .inl (cI, 256, .inl kf)), (b, .inl (cJ, 256, .inr (.inl vf)))]) (w1 := [(m0, .inr (2, [.int (m_f 0 0 2), .ref a, .ref b]))]) hP hD [0] [1, 2] rfl rfl (by decide) (by decide) hk1 hFc hP1 hD1
        have hK := (hK.sub (tys' := [(cI, .int), (cJ, .long)]) [0, 1] rfl).app hK1
        generalize H1 = H at hP hS ⊢
        have hP : va_P (dC, dI) vwCl [(a, .inl (cI, 256, .inl kf)), (b, .inl (cJ, 256, .inr (.inl vf))), (m0, .inr (2, [.int (m_f 0 0 2), .ref a, .ref b]))] H := hP
        have hD : va_D A [(a, .inl (cI, 256, .inl kf)), (b, .inl (cJ, 256, .inr (.inl vf))), (m0, .inr (2, [.int (m_f 0 0 2), .ref a, .ref b]))] := hD
        have hK : va_K (dC, dI) vwCl [(cI, .int), (cJ, .long)] s := hK
        refine W.widen (k := 0) (n := 0) (Nat.le_of_ble_eq_true rfl) (Nat.le_of_ble_eq_true rfl) ?_
        obtain rfl : r_10 = 0 := h_11.trans (by decide)
        have hP : va_P (dC, dI) vwCl [(a, .inl (cI, 256, .inl kf)), (b, .inl (cJ, 256, .inr (.inl vf))), (m0, .inr (2, [.int 0, .ref a, .ref b]))] H := hP
        have hD : va_D A [(a, .inl (cI, 256, .inl kf)), (b, .inl (cJ, 256, .inr (.inl vf))), (m0, .inr (2, [.int 0, .ref a, .ref b]))] := hD
        refine lv_if_eq (tgt := 55) hx hb dX2_least_48 (by decide) (fun c_12 => ?_) (fun c_12 => ?_)
        · refine lv_aload_n hx hb dX2_least_55 rfl (lv_at hl 0 rfl) ?_
          refine lv_iload_n hx hb dX2_least_56 rfl (lv_at hl 1 rfl) ?_
          refine lv_iload_n hx hb dX2_least_57 rfl (lv_at hl 2 rfl) ?_
          refine lv_ldc2 hx hb hown (hts (.constantLong RX2 61 (-1000000000000000)) kX2_least_2) dX2_least_58 ?_
          have hPc := hP.sub (ws' := [(m0, .inr (2, [.int 0, .ref a, .ref b])), (a, .inl (cI, 256, .inl kf)), (b, .inl (cJ, 256, .inr (.inl vf)))]) [2, 0, 1] rfl
          have hDc := hD.sub (ws' := [(m0, .inr (2, [.int 0, .ref a, .ref b])), (a, .inl (cI, 256, .inl kf)), (b, .inl (cJ, 256, .inr (.inl vf)))]) [2, 0, 1] (by decide) rfl
          have hKc := hK.sub (tys' := [(cI, .int), (cJ, .long)]) [0, 1] rfl
          have hFc := va_free (wc := [(m0, .inr (2, [.int 0, .ref a, .ref b])), (a, .inl (cI, 256, .inl kf)), (b, .inl (cJ, 256, .inr (.inl vf)))]) hD hS hA [2, 0, 1] rfl
          refine va_calll (va_runV (As := [.int f, .int t, .long (-1000000000000000)]) (rest := []) ⟨hx, hb, hml, hown, hts⟩ (qX2_made l dC dI H.size m0 a b cI cJ (0) kf vf f t (-1000000000000000) c_3) (cwV 3 hts gX2_least_X2_made rfl rfl rfl (by decide +kernel) ⟨Nat.le_of_ble_eq_true rfl, Nat.le_of_ble_eq_true rfl⟩) ⟨fun a U g mk q => by obtain ⟨q0, q1, qP, qK, qD⟩ := q; exact ⟨q0, q1, qP, va_K.moved (u := U) (U := U.calling g mk a) (Vm.Alike.refl U.vm) qK, qD⟩, va_recv hKc hPc (ci := 2) (q0 := 0) rfl rfl, fun U hU hW => ⟨rfl, by rw [hU], by rw [hU]; exact hPc, va_K.moved hW.alike hKc, hDc.weaken (fun _ _ _ _ => trivial)⟩⟩ rfl rfl hl.1 rfl (lv_room (Nat.le_of_ble_eq_true rfl)) dX2_least_61 ⟨Nat.le_of_ble_eq_true rfl, Nat.le_of_ble_eq_true rfl⟩) hS (fun q _ h => hFc q h) hFc (fun r_13 u t9 H1 locs ht hvm hw hB hz1 hk1 hS => ?_)
          obtain ⟨hP1, hK1, hD1⟩ := hB
          rw [ht] at hP1
          have h_14 := hw
          have hK1 := va_K.moved hvm.symm hK1
          obtain ⟨hP, hD⟩ := va_join (wr := []) (w1 := [(m0, .inr (2, [.int 0, .ref a, .ref b])), (a, .inl (cI, 256, .inl kf)), (b, .inl (cJ, 256, .inr (.inl vf)))]) hP hD [2, 0, 1] [] rfl rfl (by decide) (by decide) hk1 hFc hP1 hD1
          have hK := (hK.sub (tys' := []) [] rfl).app hK1
          generalize H1 = H at hP hS ⊢
          have hP : va_P (dC, dI) vwCl [(m0, .inr (2, [.int 0, .ref a, .ref b])), (a, .inl (cI, 256, .inl kf)), (b, .inl (cJ, 256, .inr (.inl vf)))] H := hP
          have hD : va_D A [(m0, .inr (2, [.int 0, .ref a, .ref b])), (a, .inl (cI, 256, .inl kf)), (b, .inl (cJ, 256, .inr (.inl vf)))] := hD
          have hK : va_K (dC, dI) vwCl [(cI, .int), (cJ, .long)] s := hK
          refine W.widen (k := 0) (n := 0) (Nat.le_of_ble_eq_true rfl) (Nat.le_of_ble_eq_true rfl) ?_
          have hP9 := hP.sub (ws' := [(m0, .inr (2, [.int 0, .ref a, .ref b])), (a, .inl (cI, 256, .inl kf)), (b, .inl (cJ, 256, .inr (.inl vf)))]) [0, 1, 2] rfl
          have hD9 := hD.sub (ws' := [(m0, .inr (2, [.int 0, .ref a, .ref b])), (a, .inl (cI, 256, .inl kf)), (b, .inl (cJ, 256, .inr (.inl vf)))]) [0, 1, 2] (by decide) rfl
          have hK9 := hK.sub (tys' := [(cI, .int), (cJ, .long)]) [0, 1] rfl
          refine W.widen (k := 0) (n := 0) (Nat.le_of_ble_eq_true rfl) (Nat.le_of_ble_eq_true rfl) ?_
          exact W.lret (v := r_13) hx hb hr (fun t9 ht hW => ⟨⟨r_13, 0, rfl, ⟨by first | (simp [l_c, c_3, c_9, h_14]; done) | (simp [l_c, c_3, c_9, h_14]; done) | grind [l_c], by first | (simp [l_c, c_3, c_9, h_14]; done) | (simp [l_c, c_3, c_9, h_14]; done) | grind [l_c]⟩, by rw [ht]; exact hP9, va_K.moved hW.alike hK9, hD9⟩, hS.F ht⟩) hS.2.2 dX2_least_64
        · exact absurd c_12 (by decide)
      · rw [h_8, b01] at c_9
        refine lv_iconst (v := 1) hx hb dX2_least_39 (by decide) ?_
        refine lv_goto (tgt := 44) hx hb dX2_least_40 (by decide) ?_
        refine lv_iconst (v := 2) hx hb dX2_least_44 (by decide) ?_
        have hPc := hP.sub (ws' := [(m0, .inr (2, [.int 0, .ref a, .ref b]))]) [0] rfl
        have hDc := hD.sub (ws' := [(m0, .inr (2, [.int 0, .ref a, .ref b]))]) [0] (by decide) rfl
        have hKc := hK.sub (tys' := []) [] rfl
        have hFc := va_free (wc := [(m0, .inr (2, [.int 0, .ref a, .ref b]))]) hD hS hA [0] rfl
        refine va_calli (va_runV (As := [.int 1, .int 2]) (rest := []) ⟨hx, hb, hml, hown, hts⟩ (qX2_fails l dC dI H.size m0 a b (0) (1) (2)) (cwV 2 hts gX2_least_X2_fails rfl rfl rfl (by decide +kernel) ⟨Nat.le_of_ble_eq_true rfl, Nat.le_of_ble_eq_true rfl⟩) ⟨fun a U g mk q => by obtain ⟨q0, q1, qP, qK, qD⟩ := q; exact ⟨q0, q1, qP, va_K.moved (u := U) (U := U.calling g mk a) (Vm.Alike.refl U.vm) qK, qD⟩, va_recv hKc hPc (ci := 2) (q0 := 0) rfl rfl, fun U hU hW => ⟨rfl, by rw [hU], by rw [hU]; exact hPc, va_K.moved hW.alike hKc, hDc.weaken (fun _ _ _ _ => trivial)⟩⟩ rfl rfl hl.1 rfl (lv_room (Nat.le_of_ble_eq_true rfl)) dX2_least_45 ⟨Nat.le_of_ble_eq_true rfl, Nat.le_of_ble_eq_true rfl⟩) hS (fun q _ h => hFc q h) hFc (fun r_15 u t9 H1 locs ht hvm hw hB hz1 hk1 hS => ?_)
        obtain ⟨hP1, hK1, hD1⟩ := hB
        rw [ht] at hP1
        obtain ⟨h_16, rfl⟩ := hw
        have hK1 := va_K.moved hvm.symm hK1
        obtain ⟨hP, hD⟩ := va_join (wr := [(a, .inl (cI, 256, .inl kf)), (b, .inl (cJ, 256, .inr (.inl vf)))]) (w1 := [(m0, .inr (2, [.int (m_f 1 0 2), .ref a, .ref b]))]) hP hD [0] [1, 2] rfl rfl (by decide) (by decide) hk1 hFc hP1 hD1
        have hK := (hK.sub (tys' := [(cI, .int), (cJ, .long)]) [0, 1] rfl).app hK1
        generalize H1 = H at hP hS ⊢
        have hP : va_P (dC, dI) vwCl [(a, .inl (cI, 256, .inl kf)), (b, .inl (cJ, 256, .inr (.inl vf))), (m0, .inr (2, [.int (m_f 1 0 2), .ref a, .ref b]))] H := hP
        have hD : va_D A [(a, .inl (cI, 256, .inl kf)), (b, .inl (cJ, 256, .inr (.inl vf))), (m0, .inr (2, [.int (m_f 1 0 2), .ref a, .ref b]))] := hD
        have hK : va_K (dC, dI) vwCl [(cI, .int), (cJ, .long)] s := hK
        refine W.widen (k := 0) (n := 0) (Nat.le_of_ble_eq_true rfl) (Nat.le_of_ble_eq_true rfl) ?_
        obtain rfl : r_15 = 1 := h_16.trans (by decide)
        have hP : va_P (dC, dI) vwCl [(a, .inl (cI, 256, .inl kf)), (b, .inl (cJ, 256, .inr (.inl vf))), (m0, .inr (2, [.int 2, .ref a, .ref b]))] H := hP
        have hD : va_D A [(a, .inl (cI, 256, .inl kf)), (b, .inl (cJ, 256, .inr (.inl vf))), (m0, .inr (2, [.int 2, .ref a, .ref b]))] := hD
        refine lv_if_eq (tgt := 55) hx hb dX2_least_48 (by decide) (fun c_17 => ?_) (fun c_17 => ?_)
        · exact absurd c_17 (by decide)
        · refine lv_lconst (v := 0) hx hb dX2_least_51 (by decide) ?_
          refine lv_goto (tgt := 64) hx hb dX2_least_52 (by decide) ?_
          have hP9 := hP.sub (ws' := [(m0, .inr (2, [.int 2, .ref a, .ref b])), (a, .inl (cI, 256, .inl kf)), (b, .inl (cJ, 256, .inr (.inl vf)))]) [2, 0, 1] rfl
          have hD9 := hD.sub (ws' := [(m0, .inr (2, [.int 2, .ref a, .ref b])), (a, .inl (cI, 256, .inl kf)), (b, .inl (cJ, 256, .inr (.inl vf)))]) [2, 0, 1] (by decide) rfl
          have hK9 := hK.sub (tys' := [(cI, .int), (cJ, .long)]) [0, 1] rfl
          refine W.widen (k := 0) (n := 0) (Nat.le_of_ble_eq_true rfl) (Nat.le_of_ble_eq_true rfl) ?_
          exact W.lret (v := 0) hx hb hr (fun t9 ht hW => ⟨⟨0, 2, rfl, ⟨by first | (simp [l_c, c_3, c_9]; done) | (simp [l_c, c_3, c_9]; done) | grind [l_c], by first | (simp [l_c, c_3, c_9]; done) | (simp [l_c, c_3, c_9]; done) | grind [l_c]⟩, by rw [ht]; exact hP9, va_K.moved hW.alike hK9, hD9⟩, hS.F ht⟩) hS.2.2 dX2_least_64
  · rw [h_2, b01] at c_3
    refine lv_iconst (v := 1) hx hb dX2_least_14 (by decide) ?_
    refine lv_goto (tgt := 19) hx hb dX2_least_15 (by decide) ?_
    refine lv_iconst (v := 1) hx hb dX2_least_19 (by decide) ?_
    have hPc := hP.sub (ws' := [(m0, .inr (2, [.int 0, .ref a, .ref b]))]) [0] rfl
    have hDc := hD.sub (ws' := [(m0, .inr (2, [.int 0, .ref a, .ref b]))]) [0] (by decide) rfl
    have hKc := hK.sub (tys' := []) [] rfl
    have hFc := va_free (wc := [(m0, .inr (2, [.int 0, .ref a, .ref b]))]) hD hS hA [0] rfl
    refine va_calli (va_runV (As := [.int 1, .int 1]) (rest := []) ⟨hx, hb, hml, hown, hts⟩ (qX2_fails l dC dI H.size m0 a b (0) (1) (1)) (cwV 2 hts gX2_least_X2_fails rfl rfl rfl (by decide +kernel) ⟨Nat.le_of_ble_eq_true rfl, Nat.le_of_ble_eq_true rfl⟩) ⟨fun a U g mk q => by obtain ⟨q0, q1, qP, qK, qD⟩ := q; exact ⟨q0, q1, qP, va_K.moved (u := U) (U := U.calling g mk a) (Vm.Alike.refl U.vm) qK, qD⟩, va_recv hKc hPc (ci := 2) (q0 := 0) rfl rfl, fun U hU hW => ⟨rfl, by rw [hU], by rw [hU]; exact hPc, va_K.moved hW.alike hKc, hDc.weaken (fun _ _ _ _ => trivial)⟩⟩ rfl rfl hl.1 rfl (lv_room (Nat.le_of_ble_eq_true rfl)) dX2_least_20 ⟨Nat.le_of_ble_eq_true rfl, Nat.le_of_ble_eq_true rfl⟩) hS (fun q _ h => hFc q h) hFc (fun r_18 u t9 H1 locs ht hvm hw hB hz1 hk1 hS => ?_)
    obtain ⟨hP1, hK1, hD1⟩ := hB
    rw [ht] at hP1
    obtain ⟨h_19, rfl⟩ := hw
    have hK1 := va_K.moved hvm.symm hK1
    obtain ⟨hP, hD⟩ := va_join (wr := [(a, .inl (cI, 256, .inl kf)), (b, .inl (cJ, 256, .inr (.inl vf)))]) (w1 := [(m0, .inr (2, [.int (m_f 1 0 1), .ref a, .ref b]))]) hP hD [0] [1, 2] rfl rfl (by decide) (by decide) hk1 hFc hP1 hD1
    have hK := (hK.sub (tys' := [(cI, .int), (cJ, .long)]) [0, 1] rfl).app hK1
    generalize H1 = H at hP hS ⊢
    have hP : va_P (dC, dI) vwCl [(a, .inl (cI, 256, .inl kf)), (b, .inl (cJ, 256, .inr (.inl vf))), (m0, .inr (2, [.int (m_f 1 0 1), .ref a, .ref b]))] H := hP
    have hD : va_D A [(a, .inl (cI, 256, .inl kf)), (b, .inl (cJ, 256, .inr (.inl vf))), (m0, .inr (2, [.int (m_f 1 0 1), .ref a, .ref b]))] := hD
    have hK : va_K (dC, dI) vwCl [(cI, .int), (cJ, .long)] s := hK
    refine W.widen (k := 0) (n := 0) (Nat.le_of_ble_eq_true rfl) (Nat.le_of_ble_eq_true rfl) ?_
    obtain rfl : r_18 = 1 := h_19.trans (by decide)
    have hP : va_P (dC, dI) vwCl [(a, .inl (cI, 256, .inl kf)), (b, .inl (cJ, 256, .inr (.inl vf))), (m0, .inr (2, [.int 1, .ref a, .ref b]))] H := hP
    have hD : va_D A [(a, .inl (cI, 256, .inl kf)), (b, .inl (cJ, 256, .inr (.inl vf))), (m0, .inr (2, [.int 1, .ref a, .ref b]))] := hD
    refine lv_if_ne (tgt := 51) hx hb dX2_least_23 (by decide) (fun c_20 => ?_) (fun c_20 => ?_)
    · refine lv_lconst (v := 0) hx hb dX2_least_51 (by decide) ?_
      refine lv_goto (tgt := 64) hx hb dX2_least_52 (by decide) ?_
      have hP9 := hP.sub (ws' := [(m0, .inr (2, [.int 1, .ref a, .ref b])), (a, .inl (cI, 256, .inl kf)), (b, .inl (cJ, 256, .inr (.inl vf)))]) [2, 0, 1] rfl
      have hD9 := hD.sub (ws' := [(m0, .inr (2, [.int 1, .ref a, .ref b])), (a, .inl (cI, 256, .inl kf)), (b, .inl (cJ, 256, .inr (.inl vf)))]) [2, 0, 1] (by decide) rfl
      have hK9 := hK.sub (tys' := [(cI, .int), (cJ, .long)]) [0, 1] rfl
      refine W.widen (k := 0) (n := 0) (Nat.le_of_ble_eq_true rfl) (Nat.le_of_ble_eq_true rfl) ?_
      exact W.lret (v := 0) hx hb hr (fun t9 ht hW => ⟨⟨0, 1, rfl, ⟨by first | (simp [l_c, c_3]; done) | (simp [l_c, c_3]; done) | grind [l_c], by first | (simp [l_c, c_3]; done) | (simp [l_c, c_3]; done) | grind [l_c]⟩, by rw [ht]; exact hP9, va_K.moved hW.alike hK9, hD9⟩, hS.F ht⟩) hS.2.2 dX2_least_64
    · exact absurd c_20 (by decide)

set_option maxRecDepth 20000 in
theorem kX2_greatest_0 : ∀ w ∈ wsX20, w ∈ wsX2_greatest := by decide +kernel
set_option maxRecDepth 20000 in
theorem kX2_greatest_1 : (.fieldLink RX2 17 "FoldRowModel" "err" "I" : Cond) ∈ wsX2_greatest := by decide +kernel
set_option maxRecDepth 20000 in
theorem kX2_greatest_2 : (.constantLong RX2 67 (1000000000000000) : Cond) ∈ wsX2_greatest := by decide +kernel
set_option maxHeartbeats 4000000 in
set_option maxRecDepth 100000 in
theorem qX2_greatest (l : Launch) (dC : Nat → ClassId) (dI : Nat → Nat → Nat) (sz : Nat) (m0 a b : Nat) (cI cJ : ClassId) (er : Int32) (kf : Nat → Int32) (vf : Nat → Int64) (f t : Int32)  : Met l yX2_greatest wsX2_greatest ({ frames := 3, cells := 0, slots := 0, locals := 90 }) (va_Pc [.ref m0, .int f, .int t] (fun U => U.heap.size = sz ∧ va_P (dC, dI) vwCl [(m0, .inr (2, [.int er, .ref a, .ref b])), (a, .inl (cI, 256, .inl kf)), (b, .inl (cJ, 256, .inr (.inl vf)))] U.heap ∧ va_K (dC, dI) vwCl [(cI, .int), (cJ, .long)] U ∧ va_D (fun _ => True) [(m0, .inr (2, [.int er, .ref a, .ref b])), (a, .inl (cI, 256, .inl kf)), (b, .inl (cJ, 256, .inr (.inl vf)))])) (va_Ql (fun (r : Int64) (u : Int32) => (r = if l_c kf vf f t 1000000000000000 = 0 then mW kf vf f t 1000000000000000 else 0) ∧ u = l_c kf vf f t 1000000000000000) (fun (u : Int32) (t9 : State) => va_P (dC, dI) vwCl [(m0, .inr (2, [.int u, .ref a, .ref b])), (a, .inl (cI, 256, .inl kf)), (b, .inl (cJ, 256, .inr (.inl vf)))] t9.heap ∧ va_K (dC, dI) vwCl [(cI, .int), (cJ, .long)] t9 ∧ va_D (va_A [(m0, .inr (2, [.int er, .ref a, .ref b])), (a, .inl (cI, 256, .inl kf)), (b, .inl (cJ, 256, .inr (.inl vf)))] sz) [(m0, .inr (2, [.int u, .ref a, .ref b])), (a, .inl (cI, 256, .inl kf)), (b, .inl (cJ, 256, .inr (.inl vf)))]) (va_A [(m0, .inr (2, [.int er, .ref a, .ref b])), (a, .inl (cI, 256, .inl kf)), (b, .inl (cJ, 256, .inr (.inl vf)))] sz)) 0 0 (va_A [(m0, .inr (2, [.int er, .ref a, .ref b])), (a, .inl (cI, 256, .inl kf)), (b, .inl (cJ, 256, .inr (.inl vf)))] sz) := by
  refine Met.ofW (cc := cX2_greatest) (maxL := 3) (ret := (some .long)) (by decide) rfl ?_
  intro p e s m args below meth c s₁ B hml hv
  obtain ⟨rfl, hsz, hP, hK, hD0⟩ := hv
  have hx := B.exec
  have hb := B.bytes
  have hr := B.returns
  have hts := atoms_spec (ws := wsX2_greatest) B.pre
  have hown : s.vm.findClass RX2 = some m.cls := findClass_of_methodNamed B.named
  have hlocks := B.notSynchronized
  subst hsz
  have hD := hD0.self (sz := s.heap.size)
  generalize hAe : va_A [(m0, .inr (2, [.int er, .ref a, .ref b])), (a, .inl (cI, 256, .inl kf)), (b, .inl (cJ, 256, .inr (.inl vf)))] s.heap.size = A at hD ⊢
  have hA : ∀ q : Nat, s.heap.size ≤ q → A q := fun q h => by rw [← hAe]; exact Or.inr h
  have hS : va_S A s.heap s.heap [] := va_S.rf
  have hP : va_P (dC, dI) vwCl [(m0, .inr (2, [.int er, .ref a, .ref b])), (a, .inl (cI, 256, .inl kf)), (b, .inl (cJ, 256, .inr (.inl vf)))] s.heap := hP
  have hl := lv_entry ([.ref m0, .int f, .int t]) (n := 3) (Nat.le_of_ble_eq_true rfl)
  rw [lg_entry_eq]
  generalize (lg_sl ([.ref m0, .int f, .int t]) ++ List.replicate (3 - (lg_sl ([.ref m0, .int f, .int t])).length) Slot.unset).toArray = ls at hl ⊢
  have hl : lv_has ls 3 [(0, .ref m0), (1, .int f), (2, .int t)] := hl
  refine lv_aload_n hx hb dX2_greatest_0 rfl (lv_at hl 0 rfl) ?_
  refine lv_iconst (v := 0) hx hb dX2_greatest_1 (by decide) ?_
  refine va_put (D := (dC, dI)) (ci := 2) (v := .int 0) (ty := .int) (C := RX2) (T := TX2) (N := 3) hx hb hts kX2_greatest_0 tyX2 tyX2_ok nmX2 hown hK hP hD hS 0 rfl rfl 0 (by decide) (hts (.fieldLink RX2 17 "FoldRowModel" "err" "I") kX2_greatest_1) (fun _ h9 => h9) rfl (by decide +kernel) rfl rfl (Nat.le_of_ble_eq_true rfl) dX2_greatest_2 (fun H locs hP hD hS => ?_)
  have hP : va_P (dC, dI) vwCl [(m0, .inr (2, [.int 0, .ref a, .ref b])), (a, .inl (cI, 256, .inl kf)), (b, .inl (cJ, 256, .inr (.inl vf)))] H := hP
  have hD : va_D A [(m0, .inr (2, [.int 0, .ref a, .ref b])), (a, .inl (cI, 256, .inl kf)), (b, .inl (cJ, 256, .inr (.inl vf)))] := hD
  refine lv_aload_n hx hb dX2_greatest_5 rfl (lv_at hl 0 rfl) ?_
  refine lv_iload_n hx hb dX2_greatest_6 rfl (lv_at hl 1 rfl) ?_
  refine lv_iload_n hx hb dX2_greatest_7 rfl (lv_at hl 2 rfl) ?_
  have hPc := hP.sub (ws' := []) [] rfl
  have hDc := hD.sub (ws' := []) [] (by decide) rfl
  have hKc := hK.sub (tys' := []) [] rfl
  have hFc := va_free (wc := []) hD hS hA [] rfl
  refine va_calli (va_runS (As := [.int f, .int t]) (rest := [.ref m0]) ⟨hx, hb, hml, hown, hts⟩ (qX2_isPart l dC dI H.size f t) (va_cwS 2 hts gX2_greatest_X2_isPart rfl rfl rfl (by decide +kernel) ⟨Nat.le_of_ble_eq_true rfl, Nat.le_of_ble_eq_true rfl⟩) ⟨fun a U g mk q => by obtain ⟨q0, q1, qP, qK, qD⟩ := q; exact ⟨q0, q1, qP, va_K.moved (u := U) (U := U.calling g mk a) (Vm.Alike.refl U.vm) qK, qD⟩, fun U hU hW => ⟨rfl, by rw [hU], by rw [hU]; exact hPc, va_K.moved hW.alike hKc, hDc.weaken (fun _ _ _ _ => trivial)⟩⟩ rfl rfl hl.1 rfl (lv_room (Nat.le_of_ble_eq_true rfl)) dX2_greatest_8 ⟨Nat.le_of_ble_eq_true rfl, Nat.le_of_ble_eq_true rfl⟩) hS (fun q _ h => hFc q h) hFc (fun r_1 u t9 H1 locs ht hvm hw hB hz1 hk1 hS => ?_)
  obtain ⟨hP1, hK1, hD1⟩ := hB
  rw [ht] at hP1
  have h_2 := hw
  have hK1 := va_K.moved hvm.symm hK1
  obtain ⟨hP, hD⟩ := va_join (wr := [(m0, .inr (2, [.int 0, .ref a, .ref b])), (a, .inl (cI, 256, .inl kf)), (b, .inl (cJ, 256, .inr (.inl vf)))]) (w1 := []) hP hD [] [0, 1, 2] rfl rfl (by decide) (by decide) hk1 hFc hP1 hD1
  have hK := (hK.sub (tys' := [(cI, .int), (cJ, .long)]) [0, 1] rfl).app hK1
  generalize H1 = H at hP hS ⊢
  have hP : va_P (dC, dI) vwCl [(m0, .inr (2, [.int 0, .ref a, .ref b])), (a, .inl (cI, 256, .inl kf)), (b, .inl (cJ, 256, .inr (.inl vf)))] H := hP
  have hD : va_D A [(m0, .inr (2, [.int 0, .ref a, .ref b])), (a, .inl (cI, 256, .inl kf)), (b, .inl (cJ, 256, .inr (.inl vf)))] := hD
  have hK : va_K (dC, dI) vwCl [(cI, .int), (cJ, .long)] s := hK
  refine W.widen (k := 0) (n := 0) (Nat.le_of_ble_eq_true rfl) (Nat.le_of_ble_eq_true rfl) ?_
  refine lv_if_ne (tgt := 18) hx hb dX2_greatest_11 (by decide) (fun c_3 => ?_) (fun c_3 => ?_)
  · rw [h_2, b01] at c_3
    have c_3 := Classical.not_not.mp c_3
    refine lv_iconst (v := 0) hx hb dX2_greatest_18 (by decide) ?_
    refine lv_iconst (v := 1) hx hb dX2_greatest_19 (by decide) ?_
    have hPc := hP.sub (ws' := [(m0, .inr (2, [.int 0, .ref a, .ref b]))]) [0] rfl
    have hDc := hD.sub (ws' := [(m0, .inr (2, [.int 0, .ref a, .ref b]))]) [0] (by decide) rfl
    have hKc := hK.sub (tys' := []) [] rfl
    have hFc := va_free (wc := [(m0, .inr (2, [.int 0, .ref a, .ref b]))]) hD hS hA [0] rfl
    refine va_calli (va_runV (As := [.int 0, .int 1]) (rest := []) ⟨hx, hb, hml, hown, hts⟩ (qX2_fails l dC dI H.size m0 a b (0) (0) (1)) (cwV 2 hts gX2_greatest_X2_fails rfl rfl rfl (by decide +kernel) ⟨Nat.le_of_ble_eq_true rfl, Nat.le_of_ble_eq_true rfl⟩) ⟨fun a U g mk q => by obtain ⟨q0, q1, qP, qK, qD⟩ := q; exact ⟨q0, q1, qP, va_K.moved (u := U) (U := U.calling g mk a) (Vm.Alike.refl U.vm) qK, qD⟩, va_recv hKc hPc (ci := 2) (q0 := 0) rfl rfl, fun U hU hW => ⟨rfl, by rw [hU], by rw [hU]; exact hPc, va_K.moved hW.alike hKc, hDc.weaken (fun _ _ _ _ => trivial)⟩⟩ rfl rfl hl.1 rfl (lv_room (Nat.le_of_ble_eq_true rfl)) dX2_greatest_20 ⟨Nat.le_of_ble_eq_true rfl, Nat.le_of_ble_eq_true rfl⟩) hS (fun q _ h => hFc q h) hFc (fun r_4 u t9 H1 locs ht hvm hw hB hz1 hk1 hS => ?_)
    obtain ⟨hP1, hK1, hD1⟩ := hB
    rw [ht] at hP1
    obtain ⟨h_5, rfl⟩ := hw
    have hK1 := va_K.moved hvm.symm hK1
    obtain ⟨hP, hD⟩ := va_join (wr := [(a, .inl (cI, 256, .inl kf)), (b, .inl (cJ, 256, .inr (.inl vf)))]) (w1 := [(m0, .inr (2, [.int (m_f 0 0 1), .ref a, .ref b]))]) hP hD [0] [1, 2] rfl rfl (by decide) (by decide) hk1 hFc hP1 hD1
    have hK := (hK.sub (tys' := [(cI, .int), (cJ, .long)]) [0, 1] rfl).app hK1
    generalize H1 = H at hP hS ⊢
    have hP : va_P (dC, dI) vwCl [(a, .inl (cI, 256, .inl kf)), (b, .inl (cJ, 256, .inr (.inl vf))), (m0, .inr (2, [.int (m_f 0 0 1), .ref a, .ref b]))] H := hP
    have hD : va_D A [(a, .inl (cI, 256, .inl kf)), (b, .inl (cJ, 256, .inr (.inl vf))), (m0, .inr (2, [.int (m_f 0 0 1), .ref a, .ref b]))] := hD
    have hK : va_K (dC, dI) vwCl [(cI, .int), (cJ, .long)] s := hK
    refine W.widen (k := 0) (n := 0) (Nat.le_of_ble_eq_true rfl) (Nat.le_of_ble_eq_true rfl) ?_
    obtain rfl : r_4 = 0 := h_5.trans (by decide)
    have hP : va_P (dC, dI) vwCl [(a, .inl (cI, 256, .inl kf)), (b, .inl (cJ, 256, .inr (.inl vf))), (m0, .inr (2, [.int 0, .ref a, .ref b]))] H := hP
    have hD : va_D A [(a, .inl (cI, 256, .inl kf)), (b, .inl (cJ, 256, .inr (.inl vf))), (m0, .inr (2, [.int 0, .ref a, .ref b]))] := hD
    refine lv_if_ne (tgt := 51) hx hb dX2_greatest_23 (by decide) (fun c_6 => ?_) (fun c_6 => ?_)
    · exact absurd c_6 (by decide)
    · refine lv_aload_n hx hb dX2_greatest_26 rfl (lv_at hl 0 rfl) ?_
      refine lv_aload_n hx hb dX2_greatest_27 rfl (lv_at hl 0 rfl) ?_
      refine lv_iload_n hx hb dX2_greatest_28 rfl (lv_at hl 1 rfl) ?_
      refine lv_iload_n hx hb dX2_greatest_29 rfl (lv_at hl 2 rfl) ?_
      refine lv_ldc2 hx hb hown (hts (.constantLong RX2 67 (1000000000000000)) kX2_greatest_2) dX2_greatest_30 ?_
      have hPc := hP.sub (ws' := [(m0, .inr (2, [.int 0, .ref a, .ref b])), (a, .inl (cI, 256, .inl kf)), (b, .inl (cJ, 256, .inr (.inl vf)))]) [2, 0, 1] rfl
      have hDc := hD.sub (ws' := [(m0, .inr (2, [.int 0, .ref a, .ref b])), (a, .inl (cI, 256, .inl kf)), (b, .inl (cJ, 256, .inr (.inl vf)))]) [2, 0, 1] (by decide) rfl
      have hKc := hK.sub (tys' := [(cI, .int), (cJ, .long)]) [0, 1] rfl
      have hFc := va_free (wc := [(m0, .inr (2, [.int 0, .ref a, .ref b])), (a, .inl (cI, 256, .inl kf)), (b, .inl (cJ, 256, .inr (.inl vf)))]) hD hS hA [2, 0, 1] rfl
      refine va_calli (va_runV (As := [.int f, .int t, .long 1000000000000000]) (rest := [.ref m0]) ⟨hx, hb, hml, hown, hts⟩ (qX2_ends l dC dI H.size m0 a b cI cJ (0) kf vf f t (1000000000000000) c_3) (cwV 3 hts gX2_greatest_X2_ends rfl rfl rfl (by decide +kernel) ⟨Nat.le_of_ble_eq_true rfl, Nat.le_of_ble_eq_true rfl⟩) ⟨fun a U g mk q => by obtain ⟨q0, q1, qP, qK, qD⟩ := q; exact ⟨q0, q1, qP, va_K.moved (u := U) (U := U.calling g mk a) (Vm.Alike.refl U.vm) qK, qD⟩, va_recv hKc hPc (ci := 2) (q0 := 0) rfl rfl, fun U hU hW => ⟨rfl, by rw [hU], by rw [hU]; exact hPc, va_K.moved hW.alike hKc, hDc.weaken (fun _ _ _ _ => trivial)⟩⟩ rfl rfl hl.1 rfl (lv_room (Nat.le_of_ble_eq_true rfl)) dX2_greatest_33 ⟨Nat.le_of_ble_eq_true rfl, Nat.le_of_ble_eq_true rfl⟩) hS (fun q _ h => hFc q h) hFc (fun r_7 u t9 H1 locs ht hvm hw hB hz1 hk1 hS => ?_)
      obtain ⟨hP1, hK1, hD1⟩ := hB
      rw [ht] at hP1
      have h_8 := hw
      have hK1 := va_K.moved hvm.symm hK1
      obtain ⟨hP, hD⟩ := va_join (wr := []) (w1 := [(m0, .inr (2, [.int 0, .ref a, .ref b])), (a, .inl (cI, 256, .inl kf)), (b, .inl (cJ, 256, .inr (.inl vf)))]) hP hD [2, 0, 1] [] rfl rfl (by decide) (by decide) hk1 hFc hP1 hD1
      have hK := (hK.sub (tys' := []) [] rfl).app hK1
      generalize H1 = H at hP hS ⊢
      have hP : va_P (dC, dI) vwCl [(m0, .inr (2, [.int 0, .ref a, .ref b])), (a, .inl (cI, 256, .inl kf)), (b, .inl (cJ, 256, .inr (.inl vf)))] H := hP
      have hD : va_D A [(m0, .inr (2, [.int 0, .ref a, .ref b])), (a, .inl (cI, 256, .inl kf)), (b, .inl (cJ, 256, .inr (.inl vf)))] := hD
      have hK : va_K (dC, dI) vwCl [(cI, .int), (cJ, .long)] s := hK
      refine W.widen (k := 0) (n := 0) (Nat.le_of_ble_eq_true rfl) (Nat.le_of_ble_eq_true rfl) ?_
      refine lv_if_ne (tgt := 43) hx hb dX2_greatest_36 (by decide) (fun c_9 => ?_) (fun c_9 => ?_)
      · rw [h_8, b01] at c_9
        have c_9 := Classical.not_not.mp c_9
        refine lv_iconst (v := 0) hx hb dX2_greatest_43 (by decide) ?_
        refine lv_iconst (v := 2) hx hb dX2_greatest_44 (by decide) ?_
        have hPc := hP.sub (ws' := [(m0, .inr (2, [.int 0, .ref a, .ref b]))]) [0] rfl
        have hDc := hD.sub (ws' := [(m0, .inr (2, [.int 0, .ref a, .ref b]))]) [0] (by decide) rfl
        have hKc := hK.sub (tys' := []) [] rfl
        have hFc := va_free (wc := [(m0, .inr (2, [.int 0, .ref a, .ref b]))]) hD hS hA [0] rfl
        refine va_calli (va_runV (As := [.int 0, .int 2]) (rest := []) ⟨hx, hb, hml, hown, hts⟩ (qX2_fails l dC dI H.size m0 a b (0) (0) (2)) (cwV 2 hts gX2_greatest_X2_fails rfl rfl rfl (by decide +kernel) ⟨Nat.le_of_ble_eq_true rfl, Nat.le_of_ble_eq_true rfl⟩) ⟨fun a U g mk q => by obtain ⟨q0, q1, qP, qK, qD⟩ := q; exact ⟨q0, q1, qP, va_K.moved (u := U) (U := U.calling g mk a) (Vm.Alike.refl U.vm) qK, qD⟩, va_recv hKc hPc (ci := 2) (q0 := 0) rfl rfl, fun U hU hW => ⟨rfl, by rw [hU], by rw [hU]; exact hPc, va_K.moved hW.alike hKc, hDc.weaken (fun _ _ _ _ => trivial)⟩⟩ rfl rfl hl.1 rfl (lv_room (Nat.le_of_ble_eq_true rfl)) dX2_greatest_45 ⟨Nat.le_of_ble_eq_true rfl, Nat.le_of_ble_eq_true rfl⟩) hS (fun q _ h => hFc q h) hFc (fun r_10 u t9 H1 locs ht hvm hw hB hz1 hk1 hS => ?_)
        obtain ⟨hP1, hK1, hD1⟩ := hB
        rw [ht] at hP1
        obtain ⟨h_11, rfl⟩ := hw
        have hK1 := va_K.moved hvm.symm hK1
        obtain ⟨hP, hD⟩ := va_join (wr := [(a, .inl (cI, 256, .inl kf)), (b, .inl (cJ, 256, .inr (.inl vf)))]) (w1 := [(m0, .inr (2, [.int (m_f 0 0 2), .ref a, .ref b]))]) hP hD [0] [1, 2] rfl rfl (by decide) (by decide) hk1 hFc hP1 hD1
        have hK := (hK.sub (tys' := [(cI, .int), (cJ, .long)]) [0, 1] rfl).app hK1
        generalize H1 = H at hP hS ⊢
        have hP : va_P (dC, dI) vwCl [(a, .inl (cI, 256, .inl kf)), (b, .inl (cJ, 256, .inr (.inl vf))), (m0, .inr (2, [.int (m_f 0 0 2), .ref a, .ref b]))] H := hP
        have hD : va_D A [(a, .inl (cI, 256, .inl kf)), (b, .inl (cJ, 256, .inr (.inl vf))), (m0, .inr (2, [.int (m_f 0 0 2), .ref a, .ref b]))] := hD
        have hK : va_K (dC, dI) vwCl [(cI, .int), (cJ, .long)] s := hK
        refine W.widen (k := 0) (n := 0) (Nat.le_of_ble_eq_true rfl) (Nat.le_of_ble_eq_true rfl) ?_
        obtain rfl : r_10 = 0 := h_11.trans (by decide)
        have hP : va_P (dC, dI) vwCl [(a, .inl (cI, 256, .inl kf)), (b, .inl (cJ, 256, .inr (.inl vf))), (m0, .inr (2, [.int 0, .ref a, .ref b]))] H := hP
        have hD : va_D A [(a, .inl (cI, 256, .inl kf)), (b, .inl (cJ, 256, .inr (.inl vf))), (m0, .inr (2, [.int 0, .ref a, .ref b]))] := hD
        refine lv_if_eq (tgt := 55) hx hb dX2_greatest_48 (by decide) (fun c_12 => ?_) (fun c_12 => ?_)
        · refine lv_aload_n hx hb dX2_greatest_55 rfl (lv_at hl 0 rfl) ?_
          refine lv_iload_n hx hb dX2_greatest_56 rfl (lv_at hl 1 rfl) ?_
          refine lv_iload_n hx hb dX2_greatest_57 rfl (lv_at hl 2 rfl) ?_
          refine lv_ldc2 hx hb hown (hts (.constantLong RX2 67 (1000000000000000)) kX2_greatest_2) dX2_greatest_58 ?_
          have hPc := hP.sub (ws' := [(m0, .inr (2, [.int 0, .ref a, .ref b])), (a, .inl (cI, 256, .inl kf)), (b, .inl (cJ, 256, .inr (.inl vf)))]) [2, 0, 1] rfl
          have hDc := hD.sub (ws' := [(m0, .inr (2, [.int 0, .ref a, .ref b])), (a, .inl (cI, 256, .inl kf)), (b, .inl (cJ, 256, .inr (.inl vf)))]) [2, 0, 1] (by decide) rfl
          have hKc := hK.sub (tys' := [(cI, .int), (cJ, .long)]) [0, 1] rfl
          have hFc := va_free (wc := [(m0, .inr (2, [.int 0, .ref a, .ref b])), (a, .inl (cI, 256, .inl kf)), (b, .inl (cJ, 256, .inr (.inl vf)))]) hD hS hA [2, 0, 1] rfl
          refine va_calll (va_runV (As := [.int f, .int t, .long 1000000000000000]) (rest := []) ⟨hx, hb, hml, hown, hts⟩ (qX2_made l dC dI H.size m0 a b cI cJ (0) kf vf f t (1000000000000000) c_3) (cwV 3 hts gX2_greatest_X2_made rfl rfl rfl (by decide +kernel) ⟨Nat.le_of_ble_eq_true rfl, Nat.le_of_ble_eq_true rfl⟩) ⟨fun a U g mk q => by obtain ⟨q0, q1, qP, qK, qD⟩ := q; exact ⟨q0, q1, qP, va_K.moved (u := U) (U := U.calling g mk a) (Vm.Alike.refl U.vm) qK, qD⟩, va_recv hKc hPc (ci := 2) (q0 := 0) rfl rfl, fun U hU hW => ⟨rfl, by rw [hU], by rw [hU]; exact hPc, va_K.moved hW.alike hKc, hDc.weaken (fun _ _ _ _ => trivial)⟩⟩ rfl rfl hl.1 rfl (lv_room (Nat.le_of_ble_eq_true rfl)) dX2_greatest_61 ⟨Nat.le_of_ble_eq_true rfl, Nat.le_of_ble_eq_true rfl⟩) hS (fun q _ h => hFc q h) hFc (fun r_13 u t9 H1 locs ht hvm hw hB hz1 hk1 hS => ?_)
          obtain ⟨hP1, hK1, hD1⟩ := hB
          rw [ht] at hP1
          have h_14 := hw
          have hK1 := va_K.moved hvm.symm hK1
          obtain ⟨hP, hD⟩ := va_join (wr := []) (w1 := [(m0, .inr (2, [.int 0, .ref a, .ref b])), (a, .inl (cI, 256, .inl kf)), (b, .inl (cJ, 256, .inr (.inl vf)))]) hP hD [2, 0, 1] [] rfl rfl (by decide) (by decide) hk1 hFc hP1 hD1
          have hK := (hK.sub (tys' := []) [] rfl).app hK1
          generalize H1 = H at hP hS ⊢
          have hP : va_P (dC, dI) vwCl [(m0, .inr (2, [.int 0, .ref a, .ref b])), (a, .inl (cI, 256, .inl kf)), (b, .inl (cJ, 256, .inr (.inl vf)))] H := hP
          have hD : va_D A [(m0, .inr (2, [.int 0, .ref a, .ref b])), (a, .inl (cI, 256, .inl kf)), (b, .inl (cJ, 256, .inr (.inl vf)))] := hD
          have hK : va_K (dC, dI) vwCl [(cI, .int), (cJ, .long)] s := hK
          refine W.widen (k := 0) (n := 0) (Nat.le_of_ble_eq_true rfl) (Nat.le_of_ble_eq_true rfl) ?_
          have hP9 := hP.sub (ws' := [(m0, .inr (2, [.int 0, .ref a, .ref b])), (a, .inl (cI, 256, .inl kf)), (b, .inl (cJ, 256, .inr (.inl vf)))]) [0, 1, 2] rfl
          have hD9 := hD.sub (ws' := [(m0, .inr (2, [.int 0, .ref a, .ref b])), (a, .inl (cI, 256, .inl kf)), (b, .inl (cJ, 256, .inr (.inl vf)))]) [0, 1, 2] (by decide) rfl
          have hK9 := hK.sub (tys' := [(cI, .int), (cJ, .long)]) [0, 1] rfl
          refine W.widen (k := 0) (n := 0) (Nat.le_of_ble_eq_true rfl) (Nat.le_of_ble_eq_true rfl) ?_
          exact W.lret (v := r_13) hx hb hr (fun t9 ht hW => ⟨⟨r_13, 0, rfl, ⟨by first | (simp [l_c, c_3, c_9, h_14]; done) | (simp [l_c, c_3, c_9, h_14]; done) | grind [l_c], by first | (simp [l_c, c_3, c_9, h_14]; done) | (simp [l_c, c_3, c_9, h_14]; done) | grind [l_c]⟩, by rw [ht]; exact hP9, va_K.moved hW.alike hK9, hD9⟩, hS.F ht⟩) hS.2.2 dX2_greatest_64
        · exact absurd c_12 (by decide)
      · rw [h_8, b01] at c_9
        refine lv_iconst (v := 1) hx hb dX2_greatest_39 (by decide) ?_
        refine lv_goto (tgt := 44) hx hb dX2_greatest_40 (by decide) ?_
        refine lv_iconst (v := 2) hx hb dX2_greatest_44 (by decide) ?_
        have hPc := hP.sub (ws' := [(m0, .inr (2, [.int 0, .ref a, .ref b]))]) [0] rfl
        have hDc := hD.sub (ws' := [(m0, .inr (2, [.int 0, .ref a, .ref b]))]) [0] (by decide) rfl
        have hKc := hK.sub (tys' := []) [] rfl
        have hFc := va_free (wc := [(m0, .inr (2, [.int 0, .ref a, .ref b]))]) hD hS hA [0] rfl
        refine va_calli (va_runV (As := [.int 1, .int 2]) (rest := []) ⟨hx, hb, hml, hown, hts⟩ (qX2_fails l dC dI H.size m0 a b (0) (1) (2)) (cwV 2 hts gX2_greatest_X2_fails rfl rfl rfl (by decide +kernel) ⟨Nat.le_of_ble_eq_true rfl, Nat.le_of_ble_eq_true rfl⟩) ⟨fun a U g mk q => by obtain ⟨q0, q1, qP, qK, qD⟩ := q; exact ⟨q0, q1, qP, va_K.moved (u := U) (U := U.calling g mk a) (Vm.Alike.refl U.vm) qK, qD⟩, va_recv hKc hPc (ci := 2) (q0 := 0) rfl rfl, fun U hU hW => ⟨rfl, by rw [hU], by rw [hU]; exact hPc, va_K.moved hW.alike hKc, hDc.weaken (fun _ _ _ _ => trivial)⟩⟩ rfl rfl hl.1 rfl (lv_room (Nat.le_of_ble_eq_true rfl)) dX2_greatest_45 ⟨Nat.le_of_ble_eq_true rfl, Nat.le_of_ble_eq_true rfl⟩) hS (fun q _ h => hFc q h) hFc (fun r_15 u t9 H1 locs ht hvm hw hB hz1 hk1 hS => ?_)
        obtain ⟨hP1, hK1, hD1⟩ := hB
        rw [ht] at hP1
        obtain ⟨h_16, rfl⟩ := hw
        have hK1 := va_K.moved hvm.symm hK1
        obtain ⟨hP, hD⟩ := va_join (wr := [(a, .inl (cI, 256, .inl kf)), (b, .inl (cJ, 256, .inr (.inl vf)))]) (w1 := [(m0, .inr (2, [.int (m_f 1 0 2), .ref a, .ref b]))]) hP hD [0] [1, 2] rfl rfl (by decide) (by decide) hk1 hFc hP1 hD1
        have hK := (hK.sub (tys' := [(cI, .int), (cJ, .long)]) [0, 1] rfl).app hK1
        generalize H1 = H at hP hS ⊢
        have hP : va_P (dC, dI) vwCl [(a, .inl (cI, 256, .inl kf)), (b, .inl (cJ, 256, .inr (.inl vf))), (m0, .inr (2, [.int (m_f 1 0 2), .ref a, .ref b]))] H := hP
        have hD : va_D A [(a, .inl (cI, 256, .inl kf)), (b, .inl (cJ, 256, .inr (.inl vf))), (m0, .inr (2, [.int (m_f 1 0 2), .ref a, .ref b]))] := hD
        have hK : va_K (dC, dI) vwCl [(cI, .int), (cJ, .long)] s := hK
        refine W.widen (k := 0) (n := 0) (Nat.le_of_ble_eq_true rfl) (Nat.le_of_ble_eq_true rfl) ?_
        obtain rfl : r_15 = 1 := h_16.trans (by decide)
        have hP : va_P (dC, dI) vwCl [(a, .inl (cI, 256, .inl kf)), (b, .inl (cJ, 256, .inr (.inl vf))), (m0, .inr (2, [.int 2, .ref a, .ref b]))] H := hP
        have hD : va_D A [(a, .inl (cI, 256, .inl kf)), (b, .inl (cJ, 256, .inr (.inl vf))), (m0, .inr (2, [.int 2, .ref a, .ref b]))] := hD
        refine lv_if_eq (tgt := 55) hx hb dX2_greatest_48 (by decide) (fun c_17 => ?_) (fun c_17 => ?_)
        · exact absurd c_17 (by decide)
        · refine lv_lconst (v := 0) hx hb dX2_greatest_51 (by decide) ?_
          refine lv_goto (tgt := 64) hx hb dX2_greatest_52 (by decide) ?_
          have hP9 := hP.sub (ws' := [(m0, .inr (2, [.int 2, .ref a, .ref b])), (a, .inl (cI, 256, .inl kf)), (b, .inl (cJ, 256, .inr (.inl vf)))]) [2, 0, 1] rfl
          have hD9 := hD.sub (ws' := [(m0, .inr (2, [.int 2, .ref a, .ref b])), (a, .inl (cI, 256, .inl kf)), (b, .inl (cJ, 256, .inr (.inl vf)))]) [2, 0, 1] (by decide) rfl
          have hK9 := hK.sub (tys' := [(cI, .int), (cJ, .long)]) [0, 1] rfl
          refine W.widen (k := 0) (n := 0) (Nat.le_of_ble_eq_true rfl) (Nat.le_of_ble_eq_true rfl) ?_
          exact W.lret (v := 0) hx hb hr (fun t9 ht hW => ⟨⟨0, 2, rfl, ⟨by first | (simp [l_c, c_3, c_9]; done) | (simp [l_c, c_3, c_9]; done) | grind [l_c], by first | (simp [l_c, c_3, c_9]; done) | (simp [l_c, c_3, c_9]; done) | grind [l_c]⟩, by rw [ht]; exact hP9, va_K.moved hW.alike hK9, hD9⟩, hS.F ht⟩) hS.2.2 dX2_greatest_64
  · rw [h_2, b01] at c_3
    refine lv_iconst (v := 1) hx hb dX2_greatest_14 (by decide) ?_
    refine lv_goto (tgt := 19) hx hb dX2_greatest_15 (by decide) ?_
    refine lv_iconst (v := 1) hx hb dX2_greatest_19 (by decide) ?_
    have hPc := hP.sub (ws' := [(m0, .inr (2, [.int 0, .ref a, .ref b]))]) [0] rfl
    have hDc := hD.sub (ws' := [(m0, .inr (2, [.int 0, .ref a, .ref b]))]) [0] (by decide) rfl
    have hKc := hK.sub (tys' := []) [] rfl
    have hFc := va_free (wc := [(m0, .inr (2, [.int 0, .ref a, .ref b]))]) hD hS hA [0] rfl
    refine va_calli (va_runV (As := [.int 1, .int 1]) (rest := []) ⟨hx, hb, hml, hown, hts⟩ (qX2_fails l dC dI H.size m0 a b (0) (1) (1)) (cwV 2 hts gX2_greatest_X2_fails rfl rfl rfl (by decide +kernel) ⟨Nat.le_of_ble_eq_true rfl, Nat.le_of_ble_eq_true rfl⟩) ⟨fun a U g mk q => by obtain ⟨q0, q1, qP, qK, qD⟩ := q; exact ⟨q0, q1, qP, va_K.moved (u := U) (U := U.calling g mk a) (Vm.Alike.refl U.vm) qK, qD⟩, va_recv hKc hPc (ci := 2) (q0 := 0) rfl rfl, fun U hU hW => ⟨rfl, by rw [hU], by rw [hU]; exact hPc, va_K.moved hW.alike hKc, hDc.weaken (fun _ _ _ _ => trivial)⟩⟩ rfl rfl hl.1 rfl (lv_room (Nat.le_of_ble_eq_true rfl)) dX2_greatest_20 ⟨Nat.le_of_ble_eq_true rfl, Nat.le_of_ble_eq_true rfl⟩) hS (fun q _ h => hFc q h) hFc (fun r_18 u t9 H1 locs ht hvm hw hB hz1 hk1 hS => ?_)
    obtain ⟨hP1, hK1, hD1⟩ := hB
    rw [ht] at hP1
    obtain ⟨h_19, rfl⟩ := hw
    have hK1 := va_K.moved hvm.symm hK1
    obtain ⟨hP, hD⟩ := va_join (wr := [(a, .inl (cI, 256, .inl kf)), (b, .inl (cJ, 256, .inr (.inl vf)))]) (w1 := [(m0, .inr (2, [.int (m_f 1 0 1), .ref a, .ref b]))]) hP hD [0] [1, 2] rfl rfl (by decide) (by decide) hk1 hFc hP1 hD1
    have hK := (hK.sub (tys' := [(cI, .int), (cJ, .long)]) [0, 1] rfl).app hK1
    generalize H1 = H at hP hS ⊢
    have hP : va_P (dC, dI) vwCl [(a, .inl (cI, 256, .inl kf)), (b, .inl (cJ, 256, .inr (.inl vf))), (m0, .inr (2, [.int (m_f 1 0 1), .ref a, .ref b]))] H := hP
    have hD : va_D A [(a, .inl (cI, 256, .inl kf)), (b, .inl (cJ, 256, .inr (.inl vf))), (m0, .inr (2, [.int (m_f 1 0 1), .ref a, .ref b]))] := hD
    have hK : va_K (dC, dI) vwCl [(cI, .int), (cJ, .long)] s := hK
    refine W.widen (k := 0) (n := 0) (Nat.le_of_ble_eq_true rfl) (Nat.le_of_ble_eq_true rfl) ?_
    obtain rfl : r_18 = 1 := h_19.trans (by decide)
    have hP : va_P (dC, dI) vwCl [(a, .inl (cI, 256, .inl kf)), (b, .inl (cJ, 256, .inr (.inl vf))), (m0, .inr (2, [.int 1, .ref a, .ref b]))] H := hP
    have hD : va_D A [(a, .inl (cI, 256, .inl kf)), (b, .inl (cJ, 256, .inr (.inl vf))), (m0, .inr (2, [.int 1, .ref a, .ref b]))] := hD
    refine lv_if_ne (tgt := 51) hx hb dX2_greatest_23 (by decide) (fun c_20 => ?_) (fun c_20 => ?_)
    · refine lv_lconst (v := 0) hx hb dX2_greatest_51 (by decide) ?_
      refine lv_goto (tgt := 64) hx hb dX2_greatest_52 (by decide) ?_
      have hP9 := hP.sub (ws' := [(m0, .inr (2, [.int 1, .ref a, .ref b])), (a, .inl (cI, 256, .inl kf)), (b, .inl (cJ, 256, .inr (.inl vf)))]) [2, 0, 1] rfl
      have hD9 := hD.sub (ws' := [(m0, .inr (2, [.int 1, .ref a, .ref b])), (a, .inl (cI, 256, .inl kf)), (b, .inl (cJ, 256, .inr (.inl vf)))]) [2, 0, 1] (by decide) rfl
      have hK9 := hK.sub (tys' := [(cI, .int), (cJ, .long)]) [0, 1] rfl
      refine W.widen (k := 0) (n := 0) (Nat.le_of_ble_eq_true rfl) (Nat.le_of_ble_eq_true rfl) ?_
      exact W.lret (v := 0) hx hb hr (fun t9 ht hW => ⟨⟨0, 1, rfl, ⟨by first | (simp [l_c, c_3]; done) | (simp [l_c, c_3]; done) | grind [l_c], by first | (simp [l_c, c_3]; done) | (simp [l_c, c_3]; done) | grind [l_c]⟩, by rw [ht]; exact hP9, va_K.moved hW.alike hK9, hD9⟩, hS.F ht⟩) hS.2.2 dX2_greatest_64
    · exact absurd c_20 (by decide)

set_option maxRecDepth 20000 in
theorem kX2_about_0 : ∀ w ∈ wsX20, w ∈ wsX2_about := by decide +kernel
set_option maxRecDepth 20000 in
theorem kX2_about_1 : (.fieldLink RX2 17 "FoldRowModel" "err" "I" : Cond) ∈ wsX2_about := by decide +kernel
set_option maxRecDepth 20000 in
theorem kX2_about_2 : (.constantLong RX2 59 (2) : Cond) ∈ wsX2_about := by decide +kernel
set_option maxRecDepth 20000 in
theorem kX2_about_3 : (.constantLong RX2 61 (-1000000000000000) : Cond) ∈ wsX2_about := by decide +kernel
set_option maxRecDepth 20000 in
theorem kX2_about_4 : (.constantLong RX2 67 (1000000000000000) : Cond) ∈ wsX2_about := by decide +kernel
set_option maxRecDepth 20000 in
theorem kX2_about_5 : (.fieldLink RX2 9 "FoldRowModel" "kinds" "[I" : Cond) ∈ wsX2_about := by decide +kernel
set_option maxHeartbeats 4000000 in
set_option maxRecDepth 100000 in
theorem qX2_about (l : Launch) (dC : Nat → ClassId) (dI : Nat → Nat → Nat) (sz : Nat) (m0 a b : Nat) (cI cJ : ClassId) (er : Int32) (kf : Nat → Int32) (vf : Nat → Int64) (f t w : Int32)  : Met l yX2_about wsX2_about ({ frames := 3, cells := 0, slots := 0, locals := 90 }) (va_Pc [.ref m0, .int f, .int t, .int w] (fun U => U.heap.size = sz ∧ va_P (dC, dI) vwCl [(m0, .inr (2, [.int er, .ref a, .ref b])), (a, .inl (cI, 256, .inl kf)), (b, .inl (cJ, 256, .inr (.inl vf)))] U.heap ∧ va_K (dC, dI) vwCl [(cI, .int), (cJ, .long)] U ∧ va_D (fun _ => True) [(m0, .inr (2, [.int er, .ref a, .ref b])), (a, .inl (cI, 256, .inl kf)), (b, .inl (cJ, 256, .inr (.inl vf)))])) (va_Qi (fun (r : Int32) (u : Int32) => (r = if okQ w ∧ okW f t then b_v kf vf f t w else 0) ∧ u = b_c f t w) (fun (u : Int32) (t9 : State) => va_P (dC, dI) vwCl [(m0, .inr (2, [.int u, .ref a, .ref b])), (a, .inl (cI, 256, .inl kf)), (b, .inl (cJ, 256, .inr (.inl vf)))] t9.heap ∧ va_K (dC, dI) vwCl [(cI, .int), (cJ, .long)] t9 ∧ va_D (va_A [(m0, .inr (2, [.int er, .ref a, .ref b])), (a, .inl (cI, 256, .inl kf)), (b, .inl (cJ, 256, .inr (.inl vf)))] sz) [(m0, .inr (2, [.int u, .ref a, .ref b])), (a, .inl (cI, 256, .inl kf)), (b, .inl (cJ, 256, .inr (.inl vf)))]) (va_A [(m0, .inr (2, [.int er, .ref a, .ref b])), (a, .inl (cI, 256, .inl kf)), (b, .inl (cJ, 256, .inr (.inl vf)))] sz)) 0 0 (va_A [(m0, .inr (2, [.int er, .ref a, .ref b])), (a, .inl (cI, 256, .inl kf)), (b, .inl (cJ, 256, .inr (.inl vf)))] sz) := by
  refine Met.ofW (cc := cX2_about) (maxL := 10) (ret := (some .int)) (by decide) rfl ?_
  intro p e s m args below meth c s₁ B hml hv
  obtain ⟨rfl, hsz, hP, hK, hD0⟩ := hv
  have hx := B.exec
  have hb := B.bytes
  have hr := B.returns
  have hts := atoms_spec (ws := wsX2_about) B.pre
  have hown : s.vm.findClass RX2 = some m.cls := findClass_of_methodNamed B.named
  have hlocks := B.notSynchronized
  subst hsz
  have hD := hD0.self (sz := s.heap.size)
  generalize hAe : va_A [(m0, .inr (2, [.int er, .ref a, .ref b])), (a, .inl (cI, 256, .inl kf)), (b, .inl (cJ, 256, .inr (.inl vf)))] s.heap.size = A at hD ⊢
  have hA : ∀ q : Nat, s.heap.size ≤ q → A q := fun q h => by rw [← hAe]; exact Or.inr h
  have hS : va_S A s.heap s.heap [] := va_S.rf
  have hP : va_P (dC, dI) vwCl [(m0, .inr (2, [.int er, .ref a, .ref b])), (a, .inl (cI, 256, .inl kf)), (b, .inl (cJ, 256, .inr (.inl vf)))] s.heap := hP
  have hl := lv_entry ([.ref m0, .int f, .int t, .int w]) (n := 10) (Nat.le_of_ble_eq_true rfl)
  rw [lg_entry_eq]
  generalize (lg_sl ([.ref m0, .int f, .int t, .int w]) ++ List.replicate (10 - (lg_sl ([.ref m0, .int f, .int t, .int w])).length) Slot.unset).toArray = ls at hl ⊢
  have hl : lv_has ls 10 [(0, .ref m0), (1, .int f), (2, .int t), (3, .int w)] := hl
  refine lv_aload_n hx hb dX2_about_0 rfl (lv_at hl 0 rfl) ?_
  refine lv_iconst (v := 0) hx hb dX2_about_1 (by decide) ?_
  refine va_put (D := (dC, dI)) (ci := 2) (v := .int 0) (ty := .int) (C := RX2) (T := TX2) (N := 3) hx hb hts kX2_about_0 tyX2 tyX2_ok nmX2 hown hK hP hD hS 0 rfl rfl 0 (by decide) (hts (.fieldLink RX2 17 "FoldRowModel" "err" "I") kX2_about_1) (fun _ h9 => h9) rfl (by decide +kernel) rfl rfl (Nat.le_of_ble_eq_true rfl) dX2_about_2 (fun H locs hP hD hS => ?_)
  have hP : va_P (dC, dI) vwCl [(m0, .inr (2, [.int 0, .ref a, .ref b])), (a, .inl (cI, 256, .inl kf)), (b, .inl (cJ, 256, .inr (.inl vf)))] H := hP
  have hD : va_D A [(m0, .inr (2, [.int 0, .ref a, .ref b])), (a, .inl (cI, 256, .inl kf)), (b, .inl (cJ, 256, .inr (.inl vf)))] := hD
  refine lv_aload_n hx hb dX2_about_5 rfl (lv_at hl 0 rfl) ?_
  refine lv_iload_n hx hb dX2_about_6 rfl (lv_at hl 3 rfl) ?_
  refine lv_i2l (v := w.toInt64) hx hb dX2_about_7 rfl ?_
  refine lv_lconst (v := 0) hx hb dX2_about_8 (by decide) ?_
  refine lv_ldc2 hx hb hown (hts (.constantLong RX2 59 (2)) kX2_about_2) dX2_about_9 ?_
  have hPc := hP.sub (ws' := []) [] rfl
  have hDc := hD.sub (ws' := []) [] (by decide) rfl
  have hKc := hK.sub (tys' := []) [] rfl
  have hFc := va_free (wc := []) hD hS hA [] rfl
  refine va_calli (va_runS (As := [.long w.toInt64, .long 0, .long 2]) (rest := [.ref m0]) ⟨hx, hb, hml, hown, hts⟩ (qX2_in l dC dI H.size w.toInt64 (0) (2)) (va_cwS 3 hts gX2_about_X2_in rfl rfl rfl (by decide +kernel) ⟨Nat.le_of_ble_eq_true rfl, Nat.le_of_ble_eq_true rfl⟩) ⟨fun a U g mk q => by obtain ⟨q0, q1, qP, qK, qD⟩ := q; exact ⟨q0, q1, qP, va_K.moved (u := U) (U := U.calling g mk a) (Vm.Alike.refl U.vm) qK, qD⟩, fun U hU hW => ⟨rfl, by rw [hU], by rw [hU]; exact hPc, va_K.moved hW.alike hKc, hDc.weaken (fun _ _ _ _ => trivial)⟩⟩ rfl rfl hl.1 rfl (lv_room (Nat.le_of_ble_eq_true rfl)) dX2_about_12 ⟨Nat.le_of_ble_eq_true rfl, Nat.le_of_ble_eq_true rfl⟩) hS (fun q _ h => hFc q h) hFc (fun r_1 u t9 H1 locs ht hvm hw hB hz1 hk1 hS => ?_)
  obtain ⟨hP1, hK1, hD1⟩ := hB
  rw [ht] at hP1
  have h_2 := hw
  have hK1 := va_K.moved hvm.symm hK1
  obtain ⟨hP, hD⟩ := va_join (wr := [(m0, .inr (2, [.int 0, .ref a, .ref b])), (a, .inl (cI, 256, .inl kf)), (b, .inl (cJ, 256, .inr (.inl vf)))]) (w1 := []) hP hD [] [0, 1, 2] rfl rfl (by decide) (by decide) hk1 hFc hP1 hD1
  have hK := (hK.sub (tys' := [(cI, .int), (cJ, .long)]) [0, 1] rfl).app hK1
  generalize H1 = H at hP hS ⊢
  have hP : va_P (dC, dI) vwCl [(m0, .inr (2, [.int 0, .ref a, .ref b])), (a, .inl (cI, 256, .inl kf)), (b, .inl (cJ, 256, .inr (.inl vf)))] H := hP
  have hD : va_D A [(m0, .inr (2, [.int 0, .ref a, .ref b])), (a, .inl (cI, 256, .inl kf)), (b, .inl (cJ, 256, .inr (.inl vf)))] := hD
  have hK : va_K (dC, dI) vwCl [(cI, .int), (cJ, .long)] s := hK
  refine W.widen (k := 0) (n := 0) (Nat.le_of_ble_eq_true rfl) (Nat.le_of_ble_eq_true rfl) ?_
  refine lv_if_ne (tgt := 22) hx hb dX2_about_15 (by decide) (fun c_3 => ?_) (fun c_3 => ?_)
  · rw [h_2, b01] at c_3
    have c_3 := Classical.not_not.mp c_3
    refine lv_iconst (v := 0) hx hb dX2_about_22 (by decide) ?_
    refine lv_iconst (v := 1) hx hb dX2_about_23 (by decide) ?_
    have hPc := hP.sub (ws' := [(m0, .inr (2, [.int 0, .ref a, .ref b]))]) [0] rfl
    have hDc := hD.sub (ws' := [(m0, .inr (2, [.int 0, .ref a, .ref b]))]) [0] (by decide) rfl
    have hKc := hK.sub (tys' := []) [] rfl
    have hFc := va_free (wc := [(m0, .inr (2, [.int 0, .ref a, .ref b]))]) hD hS hA [0] rfl
    refine va_calli (va_runV (As := [.int 0, .int 1]) (rest := []) ⟨hx, hb, hml, hown, hts⟩ (qX2_fails l dC dI H.size m0 a b (0) (0) (1)) (cwV 2 hts gX2_about_X2_fails rfl rfl rfl (by decide +kernel) ⟨Nat.le_of_ble_eq_true rfl, Nat.le_of_ble_eq_true rfl⟩) ⟨fun a U g mk q => by obtain ⟨q0, q1, qP, qK, qD⟩ := q; exact ⟨q0, q1, qP, va_K.moved (u := U) (U := U.calling g mk a) (Vm.Alike.refl U.vm) qK, qD⟩, va_recv hKc hPc (ci := 2) (q0 := 0) rfl rfl, fun U hU hW => ⟨rfl, by rw [hU], by rw [hU]; exact hPc, va_K.moved hW.alike hKc, hDc.weaken (fun _ _ _ _ => trivial)⟩⟩ rfl rfl hl.1 rfl (lv_room (Nat.le_of_ble_eq_true rfl)) dX2_about_24 ⟨Nat.le_of_ble_eq_true rfl, Nat.le_of_ble_eq_true rfl⟩) hS (fun q _ h => hFc q h) hFc (fun r_4 u t9 H1 locs ht hvm hw hB hz1 hk1 hS => ?_)
    obtain ⟨hP1, hK1, hD1⟩ := hB
    rw [ht] at hP1
    obtain ⟨h_5, rfl⟩ := hw
    have hK1 := va_K.moved hvm.symm hK1
    obtain ⟨hP, hD⟩ := va_join (wr := [(a, .inl (cI, 256, .inl kf)), (b, .inl (cJ, 256, .inr (.inl vf)))]) (w1 := [(m0, .inr (2, [.int (m_f 0 0 1), .ref a, .ref b]))]) hP hD [0] [1, 2] rfl rfl (by decide) (by decide) hk1 hFc hP1 hD1
    have hK := (hK.sub (tys' := [(cI, .int), (cJ, .long)]) [0, 1] rfl).app hK1
    generalize H1 = H at hP hS ⊢
    have hP : va_P (dC, dI) vwCl [(a, .inl (cI, 256, .inl kf)), (b, .inl (cJ, 256, .inr (.inl vf))), (m0, .inr (2, [.int (m_f 0 0 1), .ref a, .ref b]))] H := hP
    have hD : va_D A [(a, .inl (cI, 256, .inl kf)), (b, .inl (cJ, 256, .inr (.inl vf))), (m0, .inr (2, [.int (m_f 0 0 1), .ref a, .ref b]))] := hD
    have hK : va_K (dC, dI) vwCl [(cI, .int), (cJ, .long)] s := hK
    refine W.widen (k := 0) (n := 0) (Nat.le_of_ble_eq_true rfl) (Nat.le_of_ble_eq_true rfl) ?_
    obtain rfl : r_4 = 0 := h_5.trans (by decide)
    have hP : va_P (dC, dI) vwCl [(a, .inl (cI, 256, .inl kf)), (b, .inl (cJ, 256, .inr (.inl vf))), (m0, .inr (2, [.int 0, .ref a, .ref b]))] H := hP
    have hD : va_D A [(a, .inl (cI, 256, .inl kf)), (b, .inl (cJ, 256, .inr (.inl vf))), (m0, .inr (2, [.int 0, .ref a, .ref b]))] := hD
    refine lv_if_ne (tgt := 51) hx hb dX2_about_27 (by decide) (fun c_6 => ?_) (fun c_6 => ?_)
    · exact absurd c_6 (by decide)
    · refine lv_aload_n hx hb dX2_about_30 rfl (lv_at hl 0 rfl) ?_
      refine lv_iload_n hx hb dX2_about_31 rfl (lv_at hl 1 rfl) ?_
      refine lv_iload_n hx hb dX2_about_32 rfl (lv_at hl 2 rfl) ?_
      have hPc := hP.sub (ws' := []) [] rfl
      have hDc := hD.sub (ws' := []) [] (by decide) rfl
      have hKc := hK.sub (tys' := []) [] rfl
      have hFc := va_free (wc := []) hD hS hA [] rfl
      refine va_calli (va_runS (As := [.int f, .int t]) (rest := [.ref m0]) ⟨hx, hb, hml, hown, hts⟩ (qX2_isPart l dC dI H.size f t) (va_cwS 2 hts gX2_about_X2_isPart rfl rfl rfl (by decide +kernel) ⟨Nat.le_of_ble_eq_true rfl, Nat.le_of_ble_eq_true rfl⟩) ⟨fun a U g mk q => by obtain ⟨q0, q1, qP, qK, qD⟩ := q; exact ⟨q0, q1, qP, va_K.moved (u := U) (U := U.calling g mk a) (Vm.Alike.refl U.vm) qK, qD⟩, fun U hU hW => ⟨rfl, by rw [hU], by rw [hU]; exact hPc, va_K.moved hW.alike hKc, hDc.weaken (fun _ _ _ _ => trivial)⟩⟩ rfl rfl hl.1 rfl (lv_room (Nat.le_of_ble_eq_true rfl)) dX2_about_33 ⟨Nat.le_of_ble_eq_true rfl, Nat.le_of_ble_eq_true rfl⟩) hS (fun q _ h => hFc q h) hFc (fun r_7 u t9 H1 locs ht hvm hw hB hz1 hk1 hS => ?_)
      obtain ⟨hP1, hK1, hD1⟩ := hB
      rw [ht] at hP1
      have h_8 := hw
      have hK1 := va_K.moved hvm.symm hK1
      obtain ⟨hP, hD⟩ := va_join (wr := [(a, .inl (cI, 256, .inl kf)), (b, .inl (cJ, 256, .inr (.inl vf))), (m0, .inr (2, [.int 0, .ref a, .ref b]))]) (w1 := []) hP hD [] [0, 1, 2] rfl rfl (by decide) (by decide) hk1 hFc hP1 hD1
      have hK := (hK.sub (tys' := [(cI, .int), (cJ, .long)]) [0, 1] rfl).app hK1
      generalize H1 = H at hP hS ⊢
      have hP : va_P (dC, dI) vwCl [(a, .inl (cI, 256, .inl kf)), (b, .inl (cJ, 256, .inr (.inl vf))), (m0, .inr (2, [.int 0, .ref a, .ref b]))] H := hP
      have hD : va_D A [(a, .inl (cI, 256, .inl kf)), (b, .inl (cJ, 256, .inr (.inl vf))), (m0, .inr (2, [.int 0, .ref a, .ref b]))] := hD
      have hK : va_K (dC, dI) vwCl [(cI, .int), (cJ, .long)] s := hK
      refine W.widen (k := 0) (n := 0) (Nat.le_of_ble_eq_true rfl) (Nat.le_of_ble_eq_true rfl) ?_
      refine lv_if_ne (tgt := 43) hx hb dX2_about_36 (by decide) (fun c_9 => ?_) (fun c_9 => ?_)
      · rw [h_8, b01] at c_9
        have c_9 := Classical.not_not.mp c_9
        refine lv_iconst (v := 0) hx hb dX2_about_43 (by decide) ?_
        refine lv_iconst (v := 2) hx hb dX2_about_44 (by decide) ?_
        have hPc := hP.sub (ws' := [(m0, .inr (2, [.int 0, .ref a, .ref b]))]) [2] rfl
        have hDc := hD.sub (ws' := [(m0, .inr (2, [.int 0, .ref a, .ref b]))]) [2] (by decide) rfl
        have hKc := hK.sub (tys' := []) [] rfl
        have hFc := va_free (wc := [(m0, .inr (2, [.int 0, .ref a, .ref b]))]) hD hS hA [2] rfl
        refine va_calli (va_runV (As := [.int 0, .int 2]) (rest := []) ⟨hx, hb, hml, hown, hts⟩ (qX2_fails l dC dI H.size m0 a b (0) (0) (2)) (cwV 2 hts gX2_about_X2_fails rfl rfl rfl (by decide +kernel) ⟨Nat.le_of_ble_eq_true rfl, Nat.le_of_ble_eq_true rfl⟩) ⟨fun a U g mk q => by obtain ⟨q0, q1, qP, qK, qD⟩ := q; exact ⟨q0, q1, qP, va_K.moved (u := U) (U := U.calling g mk a) (Vm.Alike.refl U.vm) qK, qD⟩, va_recv hKc hPc (ci := 2) (q0 := 0) rfl rfl, fun U hU hW => ⟨rfl, by rw [hU], by rw [hU]; exact hPc, va_K.moved hW.alike hKc, hDc.weaken (fun _ _ _ _ => trivial)⟩⟩ rfl rfl hl.1 rfl (lv_room (Nat.le_of_ble_eq_true rfl)) dX2_about_45 ⟨Nat.le_of_ble_eq_true rfl, Nat.le_of_ble_eq_true rfl⟩) hS (fun q _ h => hFc q h) hFc (fun r_10 u t9 H1 locs ht hvm hw hB hz1 hk1 hS => ?_)
        obtain ⟨hP1, hK1, hD1⟩ := hB
        rw [ht] at hP1
        obtain ⟨h_11, rfl⟩ := hw
        have hK1 := va_K.moved hvm.symm hK1
        obtain ⟨hP, hD⟩ := va_join (wr := [(a, .inl (cI, 256, .inl kf)), (b, .inl (cJ, 256, .inr (.inl vf)))]) (w1 := [(m0, .inr (2, [.int (m_f 0 0 2), .ref a, .ref b]))]) hP hD [2] [0, 1] rfl rfl (by decide) (by decide) hk1 hFc hP1 hD1
        have hK := (hK.sub (tys' := [(cI, .int), (cJ, .long)]) [0, 1] rfl).app hK1
        generalize H1 = H at hP hS ⊢
        have hP : va_P (dC, dI) vwCl [(a, .inl (cI, 256, .inl kf)), (b, .inl (cJ, 256, .inr (.inl vf))), (m0, .inr (2, [.int (m_f 0 0 2), .ref a, .ref b]))] H := hP
        have hD : va_D A [(a, .inl (cI, 256, .inl kf)), (b, .inl (cJ, 256, .inr (.inl vf))), (m0, .inr (2, [.int (m_f 0 0 2), .ref a, .ref b]))] := hD
        have hK : va_K (dC, dI) vwCl [(cI, .int), (cJ, .long)] s := hK
        refine W.widen (k := 0) (n := 0) (Nat.le_of_ble_eq_true rfl) (Nat.le_of_ble_eq_true rfl) ?_
        obtain rfl : r_10 = 0 := h_11.trans (by decide)
        have hP : va_P (dC, dI) vwCl [(a, .inl (cI, 256, .inl kf)), (b, .inl (cJ, 256, .inr (.inl vf))), (m0, .inr (2, [.int 0, .ref a, .ref b]))] H := hP
        have hD : va_D A [(a, .inl (cI, 256, .inl kf)), (b, .inl (cJ, 256, .inr (.inl vf))), (m0, .inr (2, [.int 0, .ref a, .ref b]))] := hD
        refine lv_if_eq (tgt := 53) hx hb dX2_about_48 (by decide) (fun c_12 => ?_) (fun c_12 => ?_)
        · refine lv_aload_n hx hb dX2_about_53 rfl (lv_at hl 0 rfl) ?_
          refine lv_iload_n hx hb dX2_about_54 rfl (lv_at hl 1 rfl) ?_
          refine lv_iload_n hx hb dX2_about_55 rfl (lv_at hl 2 rfl) ?_
          refine lv_ldc2 hx hb hown (hts (.constantLong RX2 61 (-1000000000000000)) kX2_about_3) dX2_about_56 ?_
          have hPc := hP.sub (ws' := [(m0, .inr (2, [.int 0, .ref a, .ref b])), (a, .inl (cI, 256, .inl kf)), (b, .inl (cJ, 256, .inr (.inl vf)))]) [2, 0, 1] rfl
          have hDc := hD.sub (ws' := [(m0, .inr (2, [.int 0, .ref a, .ref b])), (a, .inl (cI, 256, .inl kf)), (b, .inl (cJ, 256, .inr (.inl vf)))]) [2, 0, 1] (by decide) rfl
          have hKc := hK.sub (tys' := [(cI, .int), (cJ, .long)]) [0, 1] rfl
          have hFc := va_free (wc := [(m0, .inr (2, [.int 0, .ref a, .ref b])), (a, .inl (cI, 256, .inl kf)), (b, .inl (cJ, 256, .inr (.inl vf)))]) hD hS hA [2, 0, 1] rfl
          refine va_calll (va_runV (As := [.int f, .int t, .long (-1000000000000000)]) (rest := []) ⟨hx, hb, hml, hown, hts⟩ (qX2_made l dC dI H.size m0 a b cI cJ (0) kf vf f t (-1000000000000000) c_9) (cwV 3 hts gX2_about_X2_made rfl rfl rfl (by decide +kernel) ⟨Nat.le_of_ble_eq_true rfl, Nat.le_of_ble_eq_true rfl⟩) ⟨fun a U g mk q => by obtain ⟨q0, q1, qP, qK, qD⟩ := q; exact ⟨q0, q1, qP, va_K.moved (u := U) (U := U.calling g mk a) (Vm.Alike.refl U.vm) qK, qD⟩, va_recv hKc hPc (ci := 2) (q0 := 0) rfl rfl, fun U hU hW => ⟨rfl, by rw [hU], by rw [hU]; exact hPc, va_K.moved hW.alike hKc, hDc.weaken (fun _ _ _ _ => trivial)⟩⟩ rfl rfl hl.1 rfl (lv_room (Nat.le_of_ble_eq_true rfl)) dX2_about_59 ⟨Nat.le_of_ble_eq_true rfl, Nat.le_of_ble_eq_true rfl⟩) hS (fun q _ h => hFc q h) hFc (fun r_13 u t9 H1 locs ht hvm hw hB hz1 hk1 hS => ?_)
          obtain ⟨hP1, hK1, hD1⟩ := hB
          rw [ht] at hP1
          have h_14 := hw
          have hK1 := va_K.moved hvm.symm hK1
          obtain ⟨hP, hD⟩ := va_join (wr := []) (w1 := [(m0, .inr (2, [.int 0, .ref a, .ref b])), (a, .inl (cI, 256, .inl kf)), (b, .inl (cJ, 256, .inr (.inl vf)))]) hP hD [2, 0, 1] [] rfl rfl (by decide) (by decide) hk1 hFc hP1 hD1
          have hK := (hK.sub (tys' := []) [] rfl).app hK1
          generalize H1 = H at hP hS ⊢
          have hP : va_P (dC, dI) vwCl [(m0, .inr (2, [.int 0, .ref a, .ref b])), (a, .inl (cI, 256, .inl kf)), (b, .inl (cJ, 256, .inr (.inl vf)))] H := hP
          have hD : va_D A [(m0, .inr (2, [.int 0, .ref a, .ref b])), (a, .inl (cI, 256, .inl kf)), (b, .inl (cJ, 256, .inr (.inl vf)))] := hD
          have hK : va_K (dC, dI) vwCl [(cI, .int), (cJ, .long)] s := hK
          refine W.widen (k := 0) (n := 0) (Nat.le_of_ble_eq_true rfl) (Nat.le_of_ble_eq_true rfl) ?_
          refine lv_lstore (lv' := [(4, .long r_13), (0, .ref m0), (1, .int f), (2, .int t), (3, .int w)]) hx hb dX2_about_62 hl (by decide) rfl (fun ls hl => ?_)
          refine lv_aload_n hx hb dX2_about_64 rfl (lv_at hl 1 rfl) ?_
          refine lv_iload_n hx hb dX2_about_65 rfl (lv_at hl 2 rfl) ?_
          refine lv_iload_n hx hb dX2_about_66 rfl (lv_at hl 3 rfl) ?_
          refine lv_ldc2 hx hb hown (hts (.constantLong RX2 67 (1000000000000000)) kX2_about_4) dX2_about_67 ?_
          have hPc := hP.sub (ws' := [(m0, .inr (2, [.int 0, .ref a, .ref b])), (a, .inl (cI, 256, .inl kf)), (b, .inl (cJ, 256, .inr (.inl vf)))]) [0, 1, 2] rfl
          have hDc := hD.sub (ws' := [(m0, .inr (2, [.int 0, .ref a, .ref b])), (a, .inl (cI, 256, .inl kf)), (b, .inl (cJ, 256, .inr (.inl vf)))]) [0, 1, 2] (by decide) rfl
          have hKc := hK.sub (tys' := [(cI, .int), (cJ, .long)]) [0, 1] rfl
          have hFc := va_free (wc := [(m0, .inr (2, [.int 0, .ref a, .ref b])), (a, .inl (cI, 256, .inl kf)), (b, .inl (cJ, 256, .inr (.inl vf)))]) hD hS hA [0, 1, 2] rfl
          refine va_calll (va_runV (As := [.int f, .int t, .long 1000000000000000]) (rest := []) ⟨hx, hb, hml, hown, hts⟩ (qX2_made l dC dI H.size m0 a b cI cJ (0) kf vf f t (1000000000000000) c_9) (cwV 3 hts gX2_about_X2_made rfl rfl rfl (by decide +kernel) ⟨Nat.le_of_ble_eq_true rfl, Nat.le_of_ble_eq_true rfl⟩) ⟨fun a U g mk q => by obtain ⟨q0, q1, qP, qK, qD⟩ := q; exact ⟨q0, q1, qP, va_K.moved (u := U) (U := U.calling g mk a) (Vm.Alike.refl U.vm) qK, qD⟩, va_recv hKc hPc (ci := 2) (q0 := 0) rfl rfl, fun U hU hW => ⟨rfl, by rw [hU], by rw [hU]; exact hPc, va_K.moved hW.alike hKc, hDc.weaken (fun _ _ _ _ => trivial)⟩⟩ rfl rfl hl.1 rfl (lv_room (Nat.le_of_ble_eq_true rfl)) dX2_about_70 ⟨Nat.le_of_ble_eq_true rfl, Nat.le_of_ble_eq_true rfl⟩) hS (fun q _ h => hFc q h) hFc (fun r_15 u t9 H1 locs ht hvm hw hB hz1 hk1 hS => ?_)
          obtain ⟨hP1, hK1, hD1⟩ := hB
          rw [ht] at hP1
          have h_16 := hw
          have hK1 := va_K.moved hvm.symm hK1
          obtain ⟨hP, hD⟩ := va_join (wr := []) (w1 := [(m0, .inr (2, [.int 0, .ref a, .ref b])), (a, .inl (cI, 256, .inl kf)), (b, .inl (cJ, 256, .inr (.inl vf)))]) hP hD [0, 1, 2] [] rfl rfl (by decide) (by decide) hk1 hFc hP1 hD1
          have hK := (hK.sub (tys' := []) [] rfl).app hK1
          generalize H1 = H at hP hS ⊢
          have hP : va_P (dC, dI) vwCl [(m0, .inr (2, [.int 0, .ref a, .ref b])), (a, .inl (cI, 256, .inl kf)), (b, .inl (cJ, 256, .inr (.inl vf)))] H := hP
          have hD : va_D A [(m0, .inr (2, [.int 0, .ref a, .ref b])), (a, .inl (cI, 256, .inl kf)), (b, .inl (cJ, 256, .inr (.inl vf)))] := hD
          have hK : va_K (dC, dI) vwCl [(cI, .int), (cJ, .long)] s := hK
          refine W.widen (k := 0) (n := 0) (Nat.le_of_ble_eq_true rfl) (Nat.le_of_ble_eq_true rfl) ?_
          refine lv_lstore (lv' := [(6, .long r_15), (4, .long r_13), (0, .ref m0), (1, .int f), (2, .int t), (3, .int w)]) hx hb dX2_about_73 hl (by decide) rfl (fun ls hl => ?_)
          refine lv_iload_n hx hb dX2_about_75 rfl (lv_at hl 5 rfl) ?_
          refine lv_if_ne (tgt := 93) hx hb dX2_about_76 (by decide) (fun c_17 => ?_) (fun c_17 => ?_)
          · refine lv_iload_n hx hb dX2_about_93 rfl (lv_at hl 5 rfl) ?_
            refine lv_iconst (v := 2) hx hb dX2_about_94 (by decide) ?_
            refine lv_icmp_ne (tgt := 122) hx hb dX2_about_95 (by decide) (fun c_18 => ?_) (fun c_18 => ?_)
            · refine lv_iconst (v := 0) hx hb dX2_about_122 (by decide) ?_
              refine lv_istore (lv' := [(8, .int 0), (6, .long r_15), (4, .long r_13), (0, .ref m0), (1, .int f), (2, .int t), (3, .int w)]) hx hb dX2_about_123 hl (by decide) rfl (fun ls hl => ?_)
              refine lv_iload_n hx hb dX2_about_125 rfl (lv_at hl 4 rfl) ?_
              refine lv_istore (lv' := [(9, .int f), (8, .int 0), (6, .long r_15), (4, .long r_13), (0, .ref m0), (1, .int f), (2, .int t), (3, .int w)]) hx hb dX2_about_126 hl (by decide) rfl (fun ls hl => ?_)
              obtain ⟨a9, n9, han, hfe, hte, hfa, hln⟩ := okW_nat c_9
              refine lp_up (N := n9) (α := Int32 × Int32) (fun j z9 H locs ls => (z9.2 = nI (a9 + j)) ∧ (z9.1 = c_of kf a9 j) ∧ va_P (dC, dI) vwCl [(m0, .inr (2, [.int 0, .ref a, .ref b])), (a, .inl (cI, 256, .inl kf)), (b, .inl (cJ, 256, .inr (.inl vf)))] H ∧ va_D A [(m0, .inr (2, [.int 0, .ref a, .ref b])), (a, .inl (cI, 256, .inl kf)), (b, .inl (cJ, 256, .inr (.inl vf)))] ∧ va_K (dC, dI) vwCl [(cI, .int), (cJ, .long)] s ∧ va_S A s.heap H locs ∧ lv_has ls 10 [(0, .ref m0), (1, .int f), (2, .int t), (3, .int w), (8, .int z9.1), (9, .int z9.2)]) ?_ (0, f) H _ ls ⟨hfe, rfl, hP.sub [0, 1, 2] rfl, hD.sub [0, 1, 2] (by decide) rfl, hK.sub [0, 1] rfl, hS, lv_sub hl [4, 5, 6, 7, 1, 0] rfl⟩
              intro j z9 H locs ls hj hI hn
              obtain ⟨q, k⟩ := z9
              try dsimp only at hI
              obtain ⟨hi0, hi1, hP, hD, hK, hS, hl⟩ := hI
              have hkc : k.toNatClampNeg = a9 + j := by rw [hi0]; exact nI_clamp (by omega)
              refine lv_iload hx hb dX2_about_128 (lv_at hl 5 rfl) ?_
              refine lv_iload_n hx hb dX2_about_130 rfl (lv_at hl 2 rfl) ?_
              refine lv_icmp_ge (tgt := 153) hx hb dX2_about_131 (by decide) (fun c_19 => ?_) (fun c_19 => ?_)
              · rw [hte, hi0] at c_19
                have hjn := lp_ge han hj c_19
                subst hjn
                refine lv_iload hx hb dX2_about_153 (lv_at hl 4 rfl) ?_
                have hP9 := hP.sub (ws' := [(m0, .inr (2, [.int 0, .ref a, .ref b])), (a, .inl (cI, 256, .inl kf)), (b, .inl (cJ, 256, .inr (.inl vf)))]) [0, 1, 2] rfl
                have hD9 := hD.sub (ws' := [(m0, .inr (2, [.int 0, .ref a, .ref b])), (a, .inl (cI, 256, .inl kf)), (b, .inl (cJ, 256, .inr (.inl vf)))]) [0, 1, 2] (by decide) rfl
                have hK9 := hK.sub (tys' := [(cI, .int), (cJ, .long)]) [0, 1] rfl
                refine W.widen (k := 0) (n := 0) (Nat.le_of_ble_eq_true rfl) (Nat.le_of_ble_eq_true rfl) ?_
                exact W.iret (v := q) hx hb hr (fun t9 ht hW => ⟨⟨q, 0, rfl, ⟨by first | (simp [b_c, b_v, w64_0, w64_4, w64_255, w64_1000, w64_2, hfa, hln, hi1, c_3, c_9, c_17, c_18]; done) | (simp [b_c, b_v, w64_0, w64_4, w64_255, w64_1000, w64_2, hfa, hln, hi1, c_3, c_9, c_17, c_18]; done) | grind [b_c, b_v, w64_0, w64_4, w64_255, w64_1000, w64_2], by first | (simp [b_c, w64_0, w64_4, w64_255, w64_1000, w64_2, c_3, c_9, c_17, c_18]; done) | (simp [b_c, w64_0, w64_4, w64_255, w64_1000, w64_2, c_3, c_9, c_17, c_18]; done) | grind [b_c, w64_0, w64_4, w64_255, w64_1000, w64_2]⟩, by rw [ht]; exact hP9, va_K.moved hW.alike hK9, hD9⟩, hS.F ht⟩) hS.2.2 dX2_about_155
              · rw [hte, hi0] at c_19
                have hjn := lp_lt han hj c_19
                refine lv_aload_n hx hb dX2_about_134 rfl (lv_at hl 0 rfl) ?_
                refine va_get (D := (dC, dI)) (ci := 2) (v := .ref a) (C := RX2) (T := TX2) (N := 3) hx hb hts kX2_about_0 hown hK hP 0 rfl rfl 1 (by decide) (hts (.fieldLink RX2 9 "FoldRowModel" "kinds" "[I") kX2_about_5) (fun _ h9 => h9) rfl dX2_about_135 ?_
                refine lv_iload hx hb dX2_about_138 (lv_at hl 5 rfl) ?_
                refine va_iald hx hb hK hP 1 0 rfl rfl (by rw [hi0]; exact vp_in_nI (by omega) (by omega)) dX2_about_140 ?_
                refine lv_topi (fun v_20 ev_20 => ?_)
                refine lv_if_eq (tgt := 147) hx hb dX2_about_141 (by decide) (fun c_21 => ?_) (fun c_21 => ?_)
                · obtain ⟨i_22, ei_22⟩ : ∃ y : Int32, y = k + 1 := ⟨_, rfl⟩
                  refine lv_iinc (v := i_22) (lv' := [(9, .int i_22), (0, .ref m0), (1, .int f), (2, .int t), (3, .int w), (8, .int q)]) hx hb dX2_about_147 hl (k := 5) rfl (by rw [ei_22]; rfl) (by decide) rfl (fun ls hl => ?_)
                  refine lv_goto (tgt := 128) hx hb dX2_about_150 (by decide) ?_
                  exact hn (by omega) (q, i_22) _ _ ls ⟨by rw [ei_22, hi0]; exact nI_1 _, by rw [show c_of kf a9 (j + 1) = if kf (a9 + j) = 0 then c_of kf a9 j else c_of kf a9 j + 1 from rfl, ← hkc, ← ev_20, if_pos c_21]; exact hi1, hP.sub [0, 1, 2] rfl, hD.sub [0, 1, 2] (by decide) rfl, hK.sub [0, 1] rfl, hS, lv_sub hl [1, 2, 3, 4, 5, 0] rfl⟩
                · obtain ⟨i_23, ei_23⟩ : ∃ y : Int32, y = q + 1 := ⟨_, rfl⟩
                  refine lv_iinc (v := i_23) (lv' := [(8, .int i_23), (0, .ref m0), (1, .int f), (2, .int t), (3, .int w), (9, .int k)]) hx hb dX2_about_144 hl (k := 4) rfl (by rw [ei_23]; rfl) (by decide) rfl (fun ls hl => ?_)
                  obtain ⟨i_24, ei_24⟩ : ∃ y : Int32, y = k + 1 := ⟨_, rfl⟩
                  refine lv_iinc (v := i_24) (lv' := [(9, .int i_24), (8, .int i_23), (0, .ref m0), (1, .int f), (2, .int t), (3, .int w)]) hx hb dX2_about_147 hl (k := 5) rfl (by rw [ei_24]; rfl) (by decide) rfl (fun ls hl => ?_)
                  refine lv_goto (tgt := 128) hx hb dX2_about_150 (by decide) ?_
                  exact hn (by omega) (i_23, i_24) _ _ ls ⟨by rw [ei_24, hi0]; exact nI_1 _, by rw [show c_of kf a9 (j + 1) = if kf (a9 + j) = 0 then c_of kf a9 j else c_of kf a9 j + 1 from rfl, ← hkc, ← ev_20, if_neg c_21, ei_23, hi1], hP.sub [0, 1, 2] rfl, hD.sub [0, 1, 2] (by decide) rfl, hK.sub [0, 1] rfl, hS, lv_sub hl [2, 3, 4, 5, 1, 0] rfl⟩
            · refine lv_lload hx hb dX2_about_98 (lv_at hl 1 rfl) ?_
              refine lv_ldc2 hx hb hown (hts (.constantLong RX2 61 (-1000000000000000)) kX2_about_3) dX2_about_100 ?_
              refine W.lcmp hx hb dX2_about_103 ?_
              refine lv_if_ne (tgt := 120) hx hb dX2_about_104 (by decide) (fun c_25 => ?_) (fun c_25 => ?_)
              · simp only [lq_ne] at c_25
                refine lv_iconst (v := 0) hx hb dX2_about_120 (by decide) ?_
                have hP9 := hP.sub (ws' := [(m0, .inr (2, [.int 0, .ref a, .ref b])), (a, .inl (cI, 256, .inl kf)), (b, .inl (cJ, 256, .inr (.inl vf)))]) [0, 1, 2] rfl
                have hD9 := hD.sub (ws' := [(m0, .inr (2, [.int 0, .ref a, .ref b])), (a, .inl (cI, 256, .inl kf)), (b, .inl (cJ, 256, .inr (.inl vf)))]) [0, 1, 2] (by decide) rfl
                have hK9 := hK.sub (tys' := [(cI, .int), (cJ, .long)]) [0, 1] rfl
                refine W.widen (k := 0) (n := 0) (Nat.le_of_ble_eq_true rfl) (Nat.le_of_ble_eq_true rfl) ?_
                exact W.iret (v := 0) hx hb hr (fun t9 ht hW => ⟨⟨0, 0, rfl, ⟨by first | (simp [b_c, b_v, w64_0, w64_4, w64_255, w64_1000, w64_2, c_3, c_9, h_14, h_16, c_17, c_18, c_25]; done) | (simp [b_c, b_v, w64_0, w64_4, w64_255, w64_1000, w64_2, c_3, c_9, h_14, h_16, c_17, c_18, c_25]; done) | grind [b_c, b_v, w64_0, w64_4, w64_255, w64_1000, w64_2], by first | (simp [b_c, w64_0, w64_4, w64_255, w64_1000, w64_2, c_3, c_9, h_14, h_16, c_17, c_18, c_25]; done) | (simp [b_c, w64_0, w64_4, w64_255, w64_1000, w64_2, c_3, c_9, h_14, h_16, c_17, c_18, c_25]; done) | grind [b_c, w64_0, w64_4, w64_255, w64_1000, w64_2]⟩, by rw [ht]; exact hP9, va_K.moved hW.alike hK9, hD9⟩, hS.F ht⟩) hS.2.2 dX2_about_121
              · simp only [lq_ne] at c_25
                refine lv_lload hx hb dX2_about_107 (lv_at hl 0 rfl) ?_
                refine lv_ldc2 hx hb hown (hts (.constantLong RX2 67 (1000000000000000)) kX2_about_4) dX2_about_109 ?_
                refine W.lcmp hx hb dX2_about_112 ?_
                refine lv_if_ne (tgt := 120) hx hb dX2_about_113 (by decide) (fun c_26 => ?_) (fun c_26 => ?_)
                · simp only [lq_ne] at c_26
                  refine lv_iconst (v := 0) hx hb dX2_about_120 (by decide) ?_
                  have hP9 := hP.sub (ws' := [(m0, .inr (2, [.int 0, .ref a, .ref b])), (a, .inl (cI, 256, .inl kf)), (b, .inl (cJ, 256, .inr (.inl vf)))]) [0, 1, 2] rfl
                  have hD9 := hD.sub (ws' := [(m0, .inr (2, [.int 0, .ref a, .ref b])), (a, .inl (cI, 256, .inl kf)), (b, .inl (cJ, 256, .inr (.inl vf)))]) [0, 1, 2] (by decide) rfl
                  have hK9 := hK.sub (tys' := [(cI, .int), (cJ, .long)]) [0, 1] rfl
                  refine W.widen (k := 0) (n := 0) (Nat.le_of_ble_eq_true rfl) (Nat.le_of_ble_eq_true rfl) ?_
                  exact W.iret (v := 0) hx hb hr (fun t9 ht hW => ⟨⟨0, 0, rfl, ⟨by first | (simp [b_c, b_v, w64_0, w64_4, w64_255, w64_1000, w64_2, c_3, c_9, h_14, h_16, c_17, c_18, c_25, c_26]; done) | (simp [b_c, b_v, w64_0, w64_4, w64_255, w64_1000, w64_2, c_3, c_9, h_14, h_16, c_17, c_18, c_25, c_26]; done) | grind [b_c, b_v, w64_0, w64_4, w64_255, w64_1000, w64_2], by first | (simp [b_c, w64_0, w64_4, w64_255, w64_1000, w64_2, c_3, c_9, h_14, h_16, c_17, c_18, c_25, c_26]; done) | (simp [b_c, w64_0, w64_4, w64_255, w64_1000, w64_2, c_3, c_9, h_14, h_16, c_17, c_18, c_25, c_26]; done) | grind [b_c, w64_0, w64_4, w64_255, w64_1000, w64_2]⟩, by rw [ht]; exact hP9, va_K.moved hW.alike hK9, hD9⟩, hS.F ht⟩) hS.2.2 dX2_about_121
                · simp only [lq_ne] at c_26
                  refine lv_iconst (v := 1) hx hb dX2_about_116 (by decide) ?_
                  refine lv_goto (tgt := 121) hx hb dX2_about_117 (by decide) ?_
                  have hP9 := hP.sub (ws' := [(m0, .inr (2, [.int 0, .ref a, .ref b])), (a, .inl (cI, 256, .inl kf)), (b, .inl (cJ, 256, .inr (.inl vf)))]) [0, 1, 2] rfl
                  have hD9 := hD.sub (ws' := [(m0, .inr (2, [.int 0, .ref a, .ref b])), (a, .inl (cI, 256, .inl kf)), (b, .inl (cJ, 256, .inr (.inl vf)))]) [0, 1, 2] (by decide) rfl
                  have hK9 := hK.sub (tys' := [(cI, .int), (cJ, .long)]) [0, 1] rfl
                  refine W.widen (k := 0) (n := 0) (Nat.le_of_ble_eq_true rfl) (Nat.le_of_ble_eq_true rfl) ?_
                  exact W.iret (v := 1) hx hb hr (fun t9 ht hW => ⟨⟨1, 0, rfl, ⟨by first | (simp [b_c, b_v, w64_0, w64_4, w64_255, w64_1000, w64_2, c_3, c_9, h_14, h_16, c_17, c_18, c_25, c_26]; done) | (simp [b_c, b_v, w64_0, w64_4, w64_255, w64_1000, w64_2, c_3, c_9, h_14, h_16, c_17, c_18, c_25, c_26]; done) | grind [b_c, b_v, w64_0, w64_4, w64_255, w64_1000, w64_2], by first | (simp [b_c, w64_0, w64_4, w64_255, w64_1000, w64_2, c_3, c_9, h_14, h_16, c_17, c_18, c_25, c_26]; done) | (simp [b_c, w64_0, w64_4, w64_255, w64_1000, w64_2, c_3, c_9, h_14, h_16, c_17, c_18, c_25, c_26]; done) | grind [b_c, w64_0, w64_4, w64_255, w64_1000, w64_2]⟩, by rw [ht]; exact hP9, va_K.moved hW.alike hK9, hD9⟩, hS.F ht⟩) hS.2.2 dX2_about_121
          · refine lv_lload hx hb dX2_about_79 (lv_at hl 1 rfl) ?_
            refine lv_lload hx hb dX2_about_81 (lv_at hl 0 rfl) ?_
            refine W.lcmp hx hb dX2_about_83 ?_
            refine lv_if_ne (tgt := 91) hx hb dX2_about_84 (by decide) (fun c_27 => ?_) (fun c_27 => ?_)
            · simp only [lq_ne] at c_27
              refine lv_iconst (v := 0) hx hb dX2_about_91 (by decide) ?_
              have hP9 := hP.sub (ws' := [(m0, .inr (2, [.int 0, .ref a, .ref b])), (a, .inl (cI, 256, .inl kf)), (b, .inl (cJ, 256, .inr (.inl vf)))]) [0, 1, 2] rfl
              have hD9 := hD.sub (ws' := [(m0, .inr (2, [.int 0, .ref a, .ref b])), (a, .inl (cI, 256, .inl kf)), (b, .inl (cJ, 256, .inr (.inl vf)))]) [0, 1, 2] (by decide) rfl
              have hK9 := hK.sub (tys' := [(cI, .int), (cJ, .long)]) [0, 1] rfl
              refine W.widen (k := 0) (n := 0) (Nat.le_of_ble_eq_true rfl) (Nat.le_of_ble_eq_true rfl) ?_
              exact W.iret (v := 0) hx hb hr (fun t9 ht hW => ⟨⟨0, 0, rfl, ⟨by first | (simp [b_c, b_v, w64_0, w64_4, w64_255, w64_1000, w64_2, c_3, c_9, h_14, h_16, c_17, c_27]; done) | (simp [b_c, b_v, w64_0, w64_4, w64_255, w64_1000, w64_2, c_3, c_9, h_14, h_16, c_17, c_27]; done) | grind [b_c, b_v, w64_0, w64_4, w64_255, w64_1000, w64_2], by first | (simp [b_c, w64_0, w64_4, w64_255, w64_1000, w64_2, c_3, c_9, h_14, h_16, c_17, c_27]; done) | (simp [b_c, w64_0, w64_4, w64_255, w64_1000, w64_2, c_3, c_9, h_14, h_16, c_17, c_27]; done) | grind [b_c, w64_0, w64_4, w64_255, w64_1000, w64_2]⟩, by rw [ht]; exact hP9, va_K.moved hW.alike hK9, hD9⟩, hS.F ht⟩) hS.2.2 dX2_about_92
            · simp only [lq_ne] at c_27
              refine lv_iconst (v := 1) hx hb dX2_about_87 (by decide) ?_
              refine lv_goto (tgt := 92) hx hb dX2_about_88 (by decide) ?_
              have hP9 := hP.sub (ws' := [(m0, .inr (2, [.int 0, .ref a, .ref b])), (a, .inl (cI, 256, .inl kf)), (b, .inl (cJ, 256, .inr (.inl vf)))]) [0, 1, 2] rfl
              have hD9 := hD.sub (ws' := [(m0, .inr (2, [.int 0, .ref a, .ref b])), (a, .inl (cI, 256, .inl kf)), (b, .inl (cJ, 256, .inr (.inl vf)))]) [0, 1, 2] (by decide) rfl
              have hK9 := hK.sub (tys' := [(cI, .int), (cJ, .long)]) [0, 1] rfl
              refine W.widen (k := 0) (n := 0) (Nat.le_of_ble_eq_true rfl) (Nat.le_of_ble_eq_true rfl) ?_
              exact W.iret (v := 1) hx hb hr (fun t9 ht hW => ⟨⟨1, 0, rfl, ⟨by first | (simp [b_c, b_v, w64_0, w64_4, w64_255, w64_1000, w64_2, c_3, c_9, h_14, h_16, c_17, c_27]; done) | (simp [b_c, b_v, w64_0, w64_4, w64_255, w64_1000, w64_2, c_3, c_9, h_14, h_16, c_17, c_27]; done) | grind [b_c, b_v, w64_0, w64_4, w64_255, w64_1000, w64_2], by first | (simp [b_c, w64_0, w64_4, w64_255, w64_1000, w64_2, c_3, c_9, h_14, h_16, c_17, c_27]; done) | (simp [b_c, w64_0, w64_4, w64_255, w64_1000, w64_2, c_3, c_9, h_14, h_16, c_17, c_27]; done) | grind [b_c, w64_0, w64_4, w64_255, w64_1000, w64_2]⟩, by rw [ht]; exact hP9, va_K.moved hW.alike hK9, hD9⟩, hS.F ht⟩) hS.2.2 dX2_about_92
        · exact absurd c_12 (by decide)
      · rw [h_8, b01] at c_9
        refine lv_iconst (v := 1) hx hb dX2_about_39 (by decide) ?_
        refine lv_goto (tgt := 44) hx hb dX2_about_40 (by decide) ?_
        refine lv_iconst (v := 2) hx hb dX2_about_44 (by decide) ?_
        have hPc := hP.sub (ws' := [(m0, .inr (2, [.int 0, .ref a, .ref b]))]) [2] rfl
        have hDc := hD.sub (ws' := [(m0, .inr (2, [.int 0, .ref a, .ref b]))]) [2] (by decide) rfl
        have hKc := hK.sub (tys' := []) [] rfl
        have hFc := va_free (wc := [(m0, .inr (2, [.int 0, .ref a, .ref b]))]) hD hS hA [2] rfl
        refine va_calli (va_runV (As := [.int 1, .int 2]) (rest := []) ⟨hx, hb, hml, hown, hts⟩ (qX2_fails l dC dI H.size m0 a b (0) (1) (2)) (cwV 2 hts gX2_about_X2_fails rfl rfl rfl (by decide +kernel) ⟨Nat.le_of_ble_eq_true rfl, Nat.le_of_ble_eq_true rfl⟩) ⟨fun a U g mk q => by obtain ⟨q0, q1, qP, qK, qD⟩ := q; exact ⟨q0, q1, qP, va_K.moved (u := U) (U := U.calling g mk a) (Vm.Alike.refl U.vm) qK, qD⟩, va_recv hKc hPc (ci := 2) (q0 := 0) rfl rfl, fun U hU hW => ⟨rfl, by rw [hU], by rw [hU]; exact hPc, va_K.moved hW.alike hKc, hDc.weaken (fun _ _ _ _ => trivial)⟩⟩ rfl rfl hl.1 rfl (lv_room (Nat.le_of_ble_eq_true rfl)) dX2_about_45 ⟨Nat.le_of_ble_eq_true rfl, Nat.le_of_ble_eq_true rfl⟩) hS (fun q _ h => hFc q h) hFc (fun r_28 u t9 H1 locs ht hvm hw hB hz1 hk1 hS => ?_)
        obtain ⟨hP1, hK1, hD1⟩ := hB
        rw [ht] at hP1
        obtain ⟨h_29, rfl⟩ := hw
        have hK1 := va_K.moved hvm.symm hK1
        obtain ⟨hP, hD⟩ := va_join (wr := [(a, .inl (cI, 256, .inl kf)), (b, .inl (cJ, 256, .inr (.inl vf)))]) (w1 := [(m0, .inr (2, [.int (m_f 1 0 2), .ref a, .ref b]))]) hP hD [2] [0, 1] rfl rfl (by decide) (by decide) hk1 hFc hP1 hD1
        have hK := (hK.sub (tys' := [(cI, .int), (cJ, .long)]) [0, 1] rfl).app hK1
        generalize H1 = H at hP hS ⊢
        have hP : va_P (dC, dI) vwCl [(a, .inl (cI, 256, .inl kf)), (b, .inl (cJ, 256, .inr (.inl vf))), (m0, .inr (2, [.int (m_f 1 0 2), .ref a, .ref b]))] H := hP
        have hD : va_D A [(a, .inl (cI, 256, .inl kf)), (b, .inl (cJ, 256, .inr (.inl vf))), (m0, .inr (2, [.int (m_f 1 0 2), .ref a, .ref b]))] := hD
        have hK : va_K (dC, dI) vwCl [(cI, .int), (cJ, .long)] s := hK
        refine W.widen (k := 0) (n := 0) (Nat.le_of_ble_eq_true rfl) (Nat.le_of_ble_eq_true rfl) ?_
        obtain rfl : r_28 = 1 := h_29.trans (by decide)
        have hP : va_P (dC, dI) vwCl [(a, .inl (cI, 256, .inl kf)), (b, .inl (cJ, 256, .inr (.inl vf))), (m0, .inr (2, [.int 2, .ref a, .ref b]))] H := hP
        have hD : va_D A [(a, .inl (cI, 256, .inl kf)), (b, .inl (cJ, 256, .inr (.inl vf))), (m0, .inr (2, [.int 2, .ref a, .ref b]))] := hD
        refine lv_if_eq (tgt := 53) hx hb dX2_about_48 (by decide) (fun c_30 => ?_) (fun c_30 => ?_)
        · exact absurd c_30 (by decide)
        · refine lv_iconst (v := 0) hx hb dX2_about_51 (by decide) ?_
          have hP9 := hP.sub (ws' := [(m0, .inr (2, [.int 2, .ref a, .ref b])), (a, .inl (cI, 256, .inl kf)), (b, .inl (cJ, 256, .inr (.inl vf)))]) [2, 0, 1] rfl
          have hD9 := hD.sub (ws' := [(m0, .inr (2, [.int 2, .ref a, .ref b])), (a, .inl (cI, 256, .inl kf)), (b, .inl (cJ, 256, .inr (.inl vf)))]) [2, 0, 1] (by decide) rfl
          have hK9 := hK.sub (tys' := [(cI, .int), (cJ, .long)]) [0, 1] rfl
          refine W.widen (k := 0) (n := 0) (Nat.le_of_ble_eq_true rfl) (Nat.le_of_ble_eq_true rfl) ?_
          exact W.iret (v := 0) hx hb hr (fun t9 ht hW => ⟨⟨0, 2, rfl, ⟨by first | (simp [b_c, b_v, w64_0, w64_4, w64_255, w64_1000, w64_2, c_3, c_9]; done) | (simp [b_c, b_v, w64_0, w64_4, w64_255, w64_1000, w64_2, c_3, c_9]; done) | grind [b_c, b_v, w64_0, w64_4, w64_255, w64_1000, w64_2], by first | (simp [b_c, w64_0, w64_4, w64_255, w64_1000, w64_2, c_3, c_9]; done) | (simp [b_c, w64_0, w64_4, w64_255, w64_1000, w64_2, c_3, c_9]; done) | grind [b_c, w64_0, w64_4, w64_255, w64_1000, w64_2]⟩, by rw [ht]; exact hP9, va_K.moved hW.alike hK9, hD9⟩, hS.F ht⟩) hS.2.2 dX2_about_52
  · rw [h_2, b01] at c_3
    refine lv_iconst (v := 1) hx hb dX2_about_18 (by decide) ?_
    refine lv_goto (tgt := 23) hx hb dX2_about_19 (by decide) ?_
    refine lv_iconst (v := 1) hx hb dX2_about_23 (by decide) ?_
    have hPc := hP.sub (ws' := [(m0, .inr (2, [.int 0, .ref a, .ref b]))]) [0] rfl
    have hDc := hD.sub (ws' := [(m0, .inr (2, [.int 0, .ref a, .ref b]))]) [0] (by decide) rfl
    have hKc := hK.sub (tys' := []) [] rfl
    have hFc := va_free (wc := [(m0, .inr (2, [.int 0, .ref a, .ref b]))]) hD hS hA [0] rfl
    refine va_calli (va_runV (As := [.int 1, .int 1]) (rest := []) ⟨hx, hb, hml, hown, hts⟩ (qX2_fails l dC dI H.size m0 a b (0) (1) (1)) (cwV 2 hts gX2_about_X2_fails rfl rfl rfl (by decide +kernel) ⟨Nat.le_of_ble_eq_true rfl, Nat.le_of_ble_eq_true rfl⟩) ⟨fun a U g mk q => by obtain ⟨q0, q1, qP, qK, qD⟩ := q; exact ⟨q0, q1, qP, va_K.moved (u := U) (U := U.calling g mk a) (Vm.Alike.refl U.vm) qK, qD⟩, va_recv hKc hPc (ci := 2) (q0 := 0) rfl rfl, fun U hU hW => ⟨rfl, by rw [hU], by rw [hU]; exact hPc, va_K.moved hW.alike hKc, hDc.weaken (fun _ _ _ _ => trivial)⟩⟩ rfl rfl hl.1 rfl (lv_room (Nat.le_of_ble_eq_true rfl)) dX2_about_24 ⟨Nat.le_of_ble_eq_true rfl, Nat.le_of_ble_eq_true rfl⟩) hS (fun q _ h => hFc q h) hFc (fun r_31 u t9 H1 locs ht hvm hw hB hz1 hk1 hS => ?_)
    obtain ⟨hP1, hK1, hD1⟩ := hB
    rw [ht] at hP1
    obtain ⟨h_32, rfl⟩ := hw
    have hK1 := va_K.moved hvm.symm hK1
    obtain ⟨hP, hD⟩ := va_join (wr := [(a, .inl (cI, 256, .inl kf)), (b, .inl (cJ, 256, .inr (.inl vf)))]) (w1 := [(m0, .inr (2, [.int (m_f 1 0 1), .ref a, .ref b]))]) hP hD [0] [1, 2] rfl rfl (by decide) (by decide) hk1 hFc hP1 hD1
    have hK := (hK.sub (tys' := [(cI, .int), (cJ, .long)]) [0, 1] rfl).app hK1
    generalize H1 = H at hP hS ⊢
    have hP : va_P (dC, dI) vwCl [(a, .inl (cI, 256, .inl kf)), (b, .inl (cJ, 256, .inr (.inl vf))), (m0, .inr (2, [.int (m_f 1 0 1), .ref a, .ref b]))] H := hP
    have hD : va_D A [(a, .inl (cI, 256, .inl kf)), (b, .inl (cJ, 256, .inr (.inl vf))), (m0, .inr (2, [.int (m_f 1 0 1), .ref a, .ref b]))] := hD
    have hK : va_K (dC, dI) vwCl [(cI, .int), (cJ, .long)] s := hK
    refine W.widen (k := 0) (n := 0) (Nat.le_of_ble_eq_true rfl) (Nat.le_of_ble_eq_true rfl) ?_
    obtain rfl : r_31 = 1 := h_32.trans (by decide)
    have hP : va_P (dC, dI) vwCl [(a, .inl (cI, 256, .inl kf)), (b, .inl (cJ, 256, .inr (.inl vf))), (m0, .inr (2, [.int 1, .ref a, .ref b]))] H := hP
    have hD : va_D A [(a, .inl (cI, 256, .inl kf)), (b, .inl (cJ, 256, .inr (.inl vf))), (m0, .inr (2, [.int 1, .ref a, .ref b]))] := hD
    refine lv_if_ne (tgt := 51) hx hb dX2_about_27 (by decide) (fun c_33 => ?_) (fun c_33 => ?_)
    · refine lv_iconst (v := 0) hx hb dX2_about_51 (by decide) ?_
      have hP9 := hP.sub (ws' := [(m0, .inr (2, [.int 1, .ref a, .ref b])), (a, .inl (cI, 256, .inl kf)), (b, .inl (cJ, 256, .inr (.inl vf)))]) [2, 0, 1] rfl
      have hD9 := hD.sub (ws' := [(m0, .inr (2, [.int 1, .ref a, .ref b])), (a, .inl (cI, 256, .inl kf)), (b, .inl (cJ, 256, .inr (.inl vf)))]) [2, 0, 1] (by decide) rfl
      have hK9 := hK.sub (tys' := [(cI, .int), (cJ, .long)]) [0, 1] rfl
      refine W.widen (k := 0) (n := 0) (Nat.le_of_ble_eq_true rfl) (Nat.le_of_ble_eq_true rfl) ?_
      exact W.iret (v := 0) hx hb hr (fun t9 ht hW => ⟨⟨0, 1, rfl, ⟨by first | (simp [b_c, b_v, w64_0, w64_4, w64_255, w64_1000, w64_2, c_3]; done) | (simp [b_c, b_v, w64_0, w64_4, w64_255, w64_1000, w64_2, c_3]; done) | grind [b_c, b_v, w64_0, w64_4, w64_255, w64_1000, w64_2], by first | (simp [b_c, w64_0, w64_4, w64_255, w64_1000, w64_2, c_3]; done) | (simp [b_c, w64_0, w64_4, w64_255, w64_1000, w64_2, c_3]; done) | grind [b_c, w64_0, w64_4, w64_255, w64_1000, w64_2]⟩, by rw [ht]; exact hP9, va_K.moved hW.alike hK9, hD9⟩, hS.F ht⟩) hS.2.2 dX2_about_52
    · exact absurd c_33 (by decide)
