set_option maxRecDepth 20000 in
theorem kX1_fixed_0 : ∀ w ∈ wsX00, w ∈ wsX1_fixed := by decide +kernel
set_option maxRecDepth 20000 in
theorem kX1_fixed_1 : (.classLink RX1 50 "java/lang/UnsupportedOperationException" : Cond) ∈ wsX1_fixed := by decide +kernel
set_option maxRecDepth 20000 in
theorem kX1_fixed_2 : (.initialized "java/lang/UnsupportedOperationException" : Cond) ∈ wsX1_fixed := by decide +kernel
set_option maxRecDepth 20000 in
theorem kX1_fixed_3 : ∀ w ∈ (vx_atS RX1 54 UOE ups).filter goodWord, w ∈ wsX1_fixed := by decide +kernel
set_option maxHeartbeats 4000000 in
set_option maxRecDepth 100000 in
theorem qX1_fixed (l : Launch) (hlt : l.stackTraces = false) (dC : Nat → ClassId) (dI : Nat → Nat → Nat) (sz : Nat) (h0 a b : Nat) (cI cJ : ClassId) (kf : Nat → Int32) (vf : Nat → Int64) (f t w : Int32) (hwb : w = 0 ∨ w = 1) : vx_Met l yX1_fixed wsX1_fixed ({ frames := 7, cells := 3, slots := 17, locals := 120 }) (va_Pc [.ref h0, .int f, .int t, .int w] (fun U => U.heap.size = sz ∧ va_P (dC, dI) vwCl [(h0, .inr (1, [.ref a, .ref b])), (a, .inl (cI, 256, .inl kf)), (b, .inl (cJ, 256, .inr (.inl vf)))] U.heap ∧ va_K (dC, dI) vwCl [(cI, .int), (cJ, .long)] U ∧ va_D (fun _ => True) [(h0, .inr (1, [.ref a, .ref b])), (a, .inl (cI, 256, .inl kf)), (b, .inl (cJ, 256, .inr (.inl vf)))] ∧ ev U ∧ ez (va_A [(h0, .inr (1, [.ref a, .ref b])), (a, .inl (cI, 256, .inl kf)), (b, .inl (cJ, 256, .inr (.inl vf)))] sz) U U.heap)) (va_Ql (fun (r : Int64) (u : Unit) => (okW f t ∧ ¬ e_fo (eW kf vf f t) w = 0 ∧ r = e_fv (eW kf vf f t) w)) (fun (u : Unit) (t9 : State) => va_P (dC, dI) vwCl [(h0, .inr (1, [.ref a, .ref b])), (a, .inl (cI, 256, .inl kf)), (b, .inl (cJ, 256, .inr (.inl vf)))] t9.heap ∧ va_K (dC, dI) vwCl [(cI, .int), (cJ, .long)] t9 ∧ va_D (va_A [(h0, .inr (1, [.ref a, .ref b])), (a, .inl (cI, 256, .inl kf)), (b, .inl (cJ, 256, .inr (.inl vf)))] sz) [(h0, .inr (1, [.ref a, .ref b])), (a, .inl (cI, 256, .inl kf)), (b, .inl (cJ, 256, .inr (.inl vf)))]) (va_A [(h0, .inr (1, [.ref a, .ref b])), (a, .inl (cI, 256, .inl kf)), (b, .inl (cJ, 256, .inr (.inl vf)))] sz)) (vx_X (fun _ : Unit => True) (fun (E : String) (_ : Unit) (t9 : State) => ((E = IOB ∧ ¬ okW f t) ∨ (E = UOE ∧ okW f t ∧ e_fo (eW kf vf f t) w = 0)) ∧ va_P (dC, dI) vwCl [(h0, .inr (1, [.ref a, .ref b])), (a, .inl (cI, 256, .inl kf)), (b, .inl (cJ, 256, .inr (.inl vf)))] t9.heap ∧ va_K (dC, dI) vwCl [(cI, .int), (cJ, .long)] t9 ∧ va_D (va_A [(h0, .inr (1, [.ref a, .ref b])), (a, .inl (cI, 256, .inl kf)), (b, .inl (cJ, 256, .inr (.inl vf)))] sz) [(h0, .inr (1, [.ref a, .ref b])), (a, .inl (cI, 256, .inl kf)), (b, .inl (cJ, 256, .inr (.inl vf)))]) (va_A [(h0, .inr (1, [.ref a, .ref b])), (a, .inl (cI, 256, .inl kf)), (b, .inl (cJ, 256, .inr (.inl vf)))] sz)) 3 17 (va_A [(h0, .inr (1, [.ref a, .ref b])), (a, .inl (cI, 256, .inl kf)), (b, .inl (cJ, 256, .inr (.inl vf)))] sz) := by
  refine vx_ofW (cc := cX1_fixed) (maxL := 6) (ret := (some .long)) (by decide) rfl ?_
  intro p e s m args below meth c s₁ B hml htb hv
  obtain ⟨rfl, hsz, hP, hK, hD0, hE, hZ⟩ := hv
  have hx := B.exec
  have hb := B.bytes
  have hr := B.returns
  have hts := atoms_spec (ws := wsX1_fixed) B.pre
  have hown : s.vm.findClass RX1 = some m.cls := findClass_of_methodNamed B.named
  have hlocks := B.notSynchronized
  subst hsz
  have hD := hD0.self (sz := s.heap.size)
  generalize hAe : va_A [(h0, .inr (1, [.ref a, .ref b])), (a, .inl (cI, 256, .inl kf)), (b, .inl (cJ, 256, .inr (.inl vf)))] s.heap.size = A at hD hZ ⊢
  have hA : ∀ q : Nat, s.heap.size ≤ q → A q := fun q h => by rw [← hAe]; exact Or.inr h
  have hS : va_S A s.heap s.heap [] := va_S.rf
  have hP : va_P (dC, dI) vwCl [(h0, .inr (1, [.ref a, .ref b])), (a, .inl (cI, 256, .inl kf)), (b, .inl (cJ, 256, .inr (.inl vf)))] s.heap := hP
  have hl := lv_entry ([.ref h0, .int f, .int t, .int w]) (n := 6) (Nat.le_of_ble_eq_true rfl)
  rw [lg_entry_eq]
  generalize (lg_sl ([.ref h0, .int f, .int t, .int w]) ++ List.replicate (6 - (lg_sl ([.ref h0, .int f, .int t, .int w])).length) Slot.unset).toArray = ls at hl ⊢
  have hl : lv_has ls 6 [(0, .ref h0), (1, .int f), (2, .int t), (3, .int w)] := hl
  refine lv_iload_n hx hb dX1_fixed_0 rfl (lv_at hl 1 rfl) ?_
  refine lv_iload_n hx hb dX1_fixed_1 rfl (lv_at hl 2 rfl) ?_
  have hPc := hP.sub (ws' := []) [] rfl
  have hDc := hD.sub (ws' := []) [] (by decide) rfl
  have hKc := hK.sub (tys' := []) [] rfl
  have hFc := va_free (wc := []) hD hS hA [] rfl
  refine vx_callv (vx_runS (As := [.int f, .int t]) (rest := []) ⟨hx, hb, hml, hown, hts⟩ (qX1_checkPart l hlt dC dI s.heap.size f t) (va_cwS 2 hts gX1_fixed_X1_checkPart rfl rfl rfl (by decide +kernel) ⟨Nat.le_of_ble_eq_true rfl, Nat.le_of_ble_eq_true rfl⟩) ⟨fun a U g mk q => by obtain ⟨q0, q1, qP, qK, qD, qE, qZ⟩ := q; exact ⟨q0, q1, qP, va_K.moved (u := U) (U := U.calling g mk a) (Vm.Alike.refl U.vm) qK, qD, ev.same (u := U) rfl qE, ez.moved (U := U.calling g mk a) qZ (Vm.Alike.refl U.vm)⟩, fun U hU hW => ⟨rfl, by rw [hU], by rw [hU]; exact hPc, va_K.moved hW.alike hKc, hDc.weaken (fun _ _ _ _ => trivial), hE.warm hW, by rw [hU]; exact ((hZ.kept hS.2.1).narrow hFc).moved hW.alike⟩⟩ rfl rfl hl.1 rfl (lv_room (Nat.le_of_ble_eq_true rfl)) dX1_fixed_2 ⟨Nat.le_of_ble_eq_true rfl, Nat.le_of_ble_eq_true rfl⟩) hS (fun q _ h => hFc q h) hFc (fun q _ h => hFc q h) (fun E ce q9 u t9 H1 locs ht hvm hw hB hz1 hk1 hS hce hcv hcl => ?_) (fun u t9 H1 locs ht hvm hw hB hz1 hk1 hS => ?_)
  · obtain ⟨hex, hP1, hK1, hD1⟩ := hB
    rw [ht] at hP1
    have hK1 := va_K.moved hvm.symm hK1
    obtain ⟨hP, hD⟩ := va_join (wr := [(h0, .inr (1, [.ref a, .ref b])), (a, .inl (cI, 256, .inl kf)), (b, .inl (cJ, 256, .inr (.inl vf)))]) (w1 := []) hP hD [] [0, 1, 2] rfl rfl (by decide) (by decide) hk1 hFc hP1 hD1
    have hK := (hK.sub (tys' := [(cI, .int), (cJ, .long)]) [0, 1] rfl).app hK1
    generalize H1 = H at hP hS hce ⊢
    have hP : va_P (dC, dI) vwCl [(h0, .inr (1, [.ref a, .ref b])), (a, .inl (cI, 256, .inl kf)), (b, .inl (cJ, 256, .inr (.inl vf)))] H := hP
    have hD : va_D A [(h0, .inr (1, [.ref a, .ref b])), (a, .inl (cI, 256, .inl kf)), (b, .inl (cJ, 256, .inr (.inl vf)))] := hD
    have hK : va_K (dC, dI) vwCl [(cI, .int), (cJ, .long)] s := hK
    refine vx_widen (k := 1) (n := 6) (Nat.le_of_ble_eq_true rfl) (Nat.le_of_ble_eq_true rfl) ?_
    have hP9 := hP.sub (ws' := [(h0, .inr (1, [.ref a, .ref b])), (a, .inl (cI, 256, .inl kf)), (b, .inl (cJ, 256, .inr (.inl vf)))]) [0, 1, 2] rfl
    have hD9 := hD.sub (ws' := [(h0, .inr (1, [.ref a, .ref b])), (a, .inl (cI, 256, .inl kf)), (b, .inl (cJ, 256, .inr (.inl vf)))]) [0, 1, 2] (by decide) rfl
    have hK9 := hK.sub (tys' := [(cI, .int), (cJ, .long)]) [0, 1] rfl
    exact vx_out (fun x hx => (htb x hx).elim) hlocks hce hcv hcl (fun t9 ht hvm => ⟨(), trivial, ⟨Or.inl hex, by rw [ht]; exact hP9, va_K.moved hvm hK9, hD9⟩, hS.F ht⟩) hS.2.2 (Nat.le_of_ble_eq_true rfl) (Nat.le_of_ble_eq_true rfl)
  · obtain ⟨hP1, hK1, hD1⟩ := hB
    rw [ht] at hP1
    have h_2 := hw
    have hK1 := va_K.moved hvm.symm hK1
    obtain ⟨hP, hD⟩ := va_join (wr := [(h0, .inr (1, [.ref a, .ref b])), (a, .inl (cI, 256, .inl kf)), (b, .inl (cJ, 256, .inr (.inl vf)))]) (w1 := []) hP hD [] [0, 1, 2] rfl rfl (by decide) (by decide) hk1 hFc hP1 hD1
    have hK := (hK.sub (tys' := [(cI, .int), (cJ, .long)]) [0, 1] rfl).app hK1
    generalize H1 = H at hP hS ⊢
    have hP : va_P (dC, dI) vwCl [(h0, .inr (1, [.ref a, .ref b])), (a, .inl (cI, 256, .inl kf)), (b, .inl (cJ, 256, .inr (.inl vf)))] H := hP
    have hD : va_D A [(h0, .inr (1, [.ref a, .ref b])), (a, .inl (cI, 256, .inl kf)), (b, .inl (cJ, 256, .inr (.inl vf)))] := hD
    have hK : va_K (dC, dI) vwCl [(cI, .int), (cJ, .long)] s := hK
    refine W.widen (k := 1) (n := 6) (Nat.le_of_ble_eq_true rfl) (Nat.le_of_ble_eq_true rfl) ?_
    refine lv_aload_n hx hb dX1_fixed_5 rfl (lv_at hl 0 rfl) ?_
    refine lv_iload_n hx hb dX1_fixed_6 rfl (lv_at hl 1 rfl) ?_
    refine lv_iload_n hx hb dX1_fixed_7 rfl (lv_at hl 2 rfl) ?_
    have hPc := hP.sub (ws' := [(h0, .inr (1, [.ref a, .ref b])), (a, .inl (cI, 256, .inl kf)), (b, .inl (cJ, 256, .inr (.inl vf)))]) [0, 1, 2] rfl
    have hDc := hD.sub (ws' := [(h0, .inr (1, [.ref a, .ref b])), (a, .inl (cI, 256, .inl kf)), (b, .inl (cJ, 256, .inr (.inl vf)))]) [0, 1, 2] (by decide) rfl
    have hKc := hK.sub (tys' := [(cI, .int), (cJ, .long)]) [0, 1] rfl
    have hFc := va_free (wc := [(h0, .inr (1, [.ref a, .ref b])), (a, .inl (cI, 256, .inl kf)), (b, .inl (cJ, 256, .inr (.inl vf)))]) hD hS hA [0, 1, 2] rfl
    refine va_callr (va_runV (As := [.int f, .int t]) (rest := []) ⟨hx, hb, hml, hown, hts⟩ (qX1_effectOf l hlt dC dI H.size h0 a b cI cJ kf vf f t h_2) (cwV 2 hts gX1_fixed_X1_effectOf rfl rfl rfl (by decide +kernel) ⟨Nat.le_of_ble_eq_true rfl, Nat.le_of_ble_eq_true rfl⟩) ⟨fun a U g mk q => by obtain ⟨q0, q1, qP, qK, qD, qE, qZ⟩ := q; exact ⟨q0, q1, qP, va_K.moved (u := U) (U := U.calling g mk a) (Vm.Alike.refl U.vm) qK, qD, ev.same (u := U) rfl qE, ez.moved (U := U.calling g mk a) qZ (Vm.Alike.refl U.vm)⟩, va_recv hKc hPc (ci := 1) (q0 := 0) rfl rfl, fun U hU hW => ⟨rfl, by rw [hU], by rw [hU]; exact hPc, va_K.moved hW.alike hKc, hDc.weaken (fun _ _ _ _ => trivial), hE.warm hW, by rw [hU]; exact ((hZ.kept hS.2.1).narrow hFc).moved hW.alike⟩⟩ rfl rfl hl.1 rfl (lv_room (Nat.le_of_ble_eq_true rfl)) dX1_fixed_8 ⟨Nat.le_of_ble_eq_true rfl, Nat.le_of_ble_eq_true rfl⟩) hS (fun q _ h => hFc q h) hFc (fun u r_3 t9 H1 locs ht hvm hw hB hz1 hk1 hS => ?_)
    obtain ⟨hP1, hK1, hD1⟩ := hB
    rw [ht] at hP1
    obtain rfl := hw
    have hK1 := va_K.moved hvm.symm hK1
    obtain ⟨hP, hD⟩ := va_join (wr := []) (w1 := [(h0, .inr (1, [.ref a, .ref b])), (a, .inl (cI, 256, .inl kf)), (b, .inl (cJ, 256, .inr (.inl vf))), (r_3, .inr (0, [.long ((eW kf vf f t).1), .int ((eW kf vf f t).2.1), .long ((eW kf vf f t).2.2.1), .int ((eW kf vf f t).2.2.2.1), .long ((eW kf vf f t).2.2.2.2)]))]) hP hD [0, 1, 2] [] rfl rfl (by decide) (by decide) hk1 hFc hP1 hD1
    have hK := (hK.sub (tys' := []) [] rfl).app hK1
    generalize H1 = H at hP hS ⊢
    have hP : va_P (dC, dI) vwCl [(h0, .inr (1, [.ref a, .ref b])), (a, .inl (cI, 256, .inl kf)), (b, .inl (cJ, 256, .inr (.inl vf))), (r_3, .inr (0, [.long ((eW kf vf f t).1), .int ((eW kf vf f t).2.1), .long ((eW kf vf f t).2.2.1), .int ((eW kf vf f t).2.2.2.1), .long ((eW kf vf f t).2.2.2.2)]))] H := hP
    have hD : va_D A [(h0, .inr (1, [.ref a, .ref b])), (a, .inl (cI, 256, .inl kf)), (b, .inl (cJ, 256, .inr (.inl vf))), (r_3, .inr (0, [.long ((eW kf vf f t).1), .int ((eW kf vf f t).2.1), .long ((eW kf vf f t).2.2.1), .int ((eW kf vf f t).2.2.2.1), .long ((eW kf vf f t).2.2.2.2)]))] := hD
    have hK : va_K (dC, dI) vwCl [(cI, .int), (cJ, .long)] s := hK
    refine W.widen (k := 2) (n := 11) (Nat.le_of_ble_eq_true rfl) (Nat.le_of_ble_eq_true rfl) ?_
    refine lv_astore (lv' := [(4, .ref r_3), (0, .ref h0), (1, .int f), (2, .int t), (3, .int w)]) hx hb dX1_fixed_11 hl (by decide) rfl (fun ls hl => ?_)
    refine lv_aload hx hb dX1_fixed_13 (lv_at hl 0 rfl) ?_
    refine lv_iload_n hx hb dX1_fixed_15 rfl (lv_at hl 4 rfl) ?_
    have hPc := hP.sub (ws' := [(r_3, .inr (0, [.long ((eW kf vf f t).1), .int ((eW kf vf f t).2.1), .long ((eW kf vf f t).2.2.1), .int ((eW kf vf f t).2.2.2.1), .long ((eW kf vf f t).2.2.2.2)]))]) [3] rfl
    have hDc := hD.sub (ws' := [(r_3, .inr (0, [.long ((eW kf vf f t).1), .int ((eW kf vf f t).2.1), .long ((eW kf vf f t).2.2.1), .int ((eW kf vf f t).2.2.2.1), .long ((eW kf vf f t).2.2.2.2)]))]) [3] (by decide) rfl
    have hKc := hK.sub (tys' := []) [] rfl
    have hFc := va_free (wc := [(r_3, .inr (0, [.long ((eW kf vf f t).1), .int ((eW kf vf f t).2.1), .long ((eW kf vf f t).2.2.1), .int ((eW kf vf f t).2.2.2.1), .long ((eW kf vf f t).2.2.2.2)]))]) hD hS hA [3] rfl
    refine va_calli (va_runV (As := [.int w]) (rest := []) ⟨hx, hb, hml, hown, hts⟩ (qX0_staysAtHigh l dC dI H.size r_3 (eW kf vf f t) w hwb) (cwV 1 hts gX1_fixed_X0_staysAtHigh rfl rfl rfl (by decide +kernel) ⟨Nat.le_of_ble_eq_true rfl, Nat.le_of_ble_eq_true rfl⟩) ⟨fun a U g mk q => by obtain ⟨q0, q1, qP, qK, qD⟩ := q; exact ⟨q0, q1, qP, va_K.moved (u := U) (U := U.calling g mk a) (Vm.Alike.refl U.vm) qK, qD⟩, va_recv hKc hPc (ci := 0) (q0 := 0) rfl rfl, fun U hU hW => ⟨rfl, by rw [hU], by rw [hU]; exact hPc, va_K.moved hW.alike hKc, hDc.weaken (fun _ _ _ _ => trivial)⟩⟩ rfl rfl hl.1 rfl (lv_room (Nat.le_of_ble_eq_true rfl)) dX1_fixed_16 ⟨Nat.le_of_ble_eq_true rfl, Nat.le_of_ble_eq_true rfl⟩) hS (fun q _ h => hFc q h) hFc (fun r_5 u t9 H1 locs ht hvm hw hB hz1 hk1 hS => ?_)
    obtain ⟨hP1, hK1, hD1⟩ := hB
    rw [ht] at hP1
    have h_6 := hw
    have hK1 := va_K.moved hvm.symm hK1
    obtain ⟨hP, hD⟩ := va_join (wr := [(h0, .inr (1, [.ref a, .ref b])), (a, .inl (cI, 256, .inl kf)), (b, .inl (cJ, 256, .inr (.inl vf)))]) (w1 := [(r_3, .inr (0, [.long ((eW kf vf f t).1), .int ((eW kf vf f t).2.1), .long ((eW kf vf f t).2.2.1), .int ((eW kf vf f t).2.2.2.1), .long ((eW kf vf f t).2.2.2.2)]))]) hP hD [3] [0, 1, 2] rfl rfl (by decide) (by decide) hk1 hFc hP1 hD1
    have hK := (hK.sub (tys' := [(cI, .int), (cJ, .long)]) [0, 1] rfl).app hK1
    generalize H1 = H at hP hS ⊢
    have hP : va_P (dC, dI) vwCl [(h0, .inr (1, [.ref a, .ref b])), (a, .inl (cI, 256, .inl kf)), (b, .inl (cJ, 256, .inr (.inl vf))), (r_3, .inr (0, [.long ((eW kf vf f t).1), .int ((eW kf vf f t).2.1), .long ((eW kf vf f t).2.2.1), .int ((eW kf vf f t).2.2.2.1), .long ((eW kf vf f t).2.2.2.2)]))] H := hP
    have hD : va_D A [(h0, .inr (1, [.ref a, .ref b])), (a, .inl (cI, 256, .inl kf)), (b, .inl (cJ, 256, .inr (.inl vf))), (r_3, .inr (0, [.long ((eW kf vf f t).1), .int ((eW kf vf f t).2.1), .long ((eW kf vf f t).2.2.1), .int ((eW kf vf f t).2.2.2.1), .long ((eW kf vf f t).2.2.2.2)]))] := hD
    have hK : va_K (dC, dI) vwCl [(cI, .int), (cJ, .long)] s := hK
    refine W.widen (k := 2) (n := 11) (Nat.le_of_ble_eq_true rfl) (Nat.le_of_ble_eq_true rfl) ?_
    refine lv_istore (lv' := [(5, .int r_5), (4, .ref r_3), (0, .ref h0), (1, .int f), (2, .int t), (3, .int w)]) hx hb dX1_fixed_19 hl (by decide) rfl (fun ls hl => ?_)
    refine lv_iload hx hb dX1_fixed_21 (lv_at hl 0 rfl) ?_
    refine lv_if_eq (tgt := 37) hx hb dX1_fixed_23 (by decide) (fun c_7 => ?_) (fun c_7 => ?_)
    · refine lv_aload hx hb dX1_fixed_37 (lv_at hl 1 rfl) ?_
      refine va_getN (D := (dC, dI)) (ci := 0) (v := .int ((eW kf vf f t).2.1)) (C := RX0) (T := TX0) (N := 5) hx hb hts kX1_fixed_0 hown hK hP 3 rfl rfl 1 (by decide) (va_Nw.use rfl (ev_n46 hE)) (fun _ h9 => h9) rfl dX1_fixed_39 ?_
      refine lv_if_ne (tgt := 55) hx hb dX1_fixed_42 (by decide) (fun c_8 => ?_) (fun c_8 => ?_)
      · refine lv_iload hx hb dX1_fixed_55 (lv_at hl 0 rfl) ?_
        refine lv_if_eq (tgt := 68) hx hb dX1_fixed_57 (by decide) (fun c_9 => ?_) (fun c_9 => ?_)
        · refine lv_aload hx hb dX1_fixed_68 (lv_at hl 1 rfl) ?_
          refine va_getN (D := (dC, dI)) (ci := 0) (v := .long ((eW kf vf f t).2.2.1)) (C := RX0) (T := TX0) (N := 5) hx hb hts kX1_fixed_0 hown hK hP 3 rfl rfl 2 (by decide) (va_Nw.use rfl (ev_n57 hE)) (fun _ h9 => h9) rfl dX1_fixed_70 ?_
          have hP9 := hP.sub (ws' := [(h0, .inr (1, [.ref a, .ref b])), (a, .inl (cI, 256, .inl kf)), (b, .inl (cJ, 256, .inr (.inl vf)))]) [0, 1, 2] rfl
          have hD9 := hD.sub (ws' := [(h0, .inr (1, [.ref a, .ref b])), (a, .inl (cI, 256, .inl kf)), (b, .inl (cJ, 256, .inr (.inl vf)))]) [0, 1, 2] (by decide) rfl
          have hK9 := hK.sub (tys' := [(cI, .int), (cJ, .long)]) [0, 1] rfl
          refine vx_ret ?_
          refine W.widen (k := 3) (n := 17) (Nat.le_of_ble_eq_true rfl) (Nat.le_of_ble_eq_true rfl) ?_
          exact W.lret (v := (eW kf vf f t).2.2.1) hx hb hr (fun t9 ht hW => ⟨⟨(eW kf vf f t).2.2.1, (), rfl, ⟨h_2, by first | (simp [e_fo, h_2, h_6, c_7, c_8, c_9]; done) | (simp [e_fo, h_2, h_6, c_7, c_8, c_9]; done) | grind [e_fo], by first | (simp [e_fv, h_2, h_6, c_7, c_8, c_9]; done) | (simp [e_fv, h_2, h_6, c_7, c_8, c_9]; done) | grind [e_fv]⟩, by rw [ht]; exact hP9, va_K.moved hW.alike hK9, hD9⟩, hS.F ht⟩) hS.2.2 dX1_fixed_73
        · refine lv_aload hx hb dX1_fixed_60 (lv_at hl 1 rfl) ?_
          refine va_getN (D := (dC, dI)) (ci := 0) (v := .long ((eW kf vf f t).2.2.2.2)) (C := RX0) (T := TX0) (N := 5) hx hb hts kX1_fixed_0 hown hK hP 3 rfl rfl 4 (by decide) (va_Nw.use rfl (ev_n66 hE)) (fun _ h9 => h9) rfl dX1_fixed_62 ?_
          refine lv_goto (tgt := 73) hx hb dX1_fixed_65 (by decide) ?_
          have hP9 := hP.sub (ws' := [(h0, .inr (1, [.ref a, .ref b])), (a, .inl (cI, 256, .inl kf)), (b, .inl (cJ, 256, .inr (.inl vf)))]) [0, 1, 2] rfl
          have hD9 := hD.sub (ws' := [(h0, .inr (1, [.ref a, .ref b])), (a, .inl (cI, 256, .inl kf)), (b, .inl (cJ, 256, .inr (.inl vf)))]) [0, 1, 2] (by decide) rfl
          have hK9 := hK.sub (tys' := [(cI, .int), (cJ, .long)]) [0, 1] rfl
          refine vx_ret ?_
          refine W.widen (k := 3) (n := 17) (Nat.le_of_ble_eq_true rfl) (Nat.le_of_ble_eq_true rfl) ?_
          exact W.lret (v := (eW kf vf f t).2.2.2.2) hx hb hr (fun t9 ht hW => ⟨⟨(eW kf vf f t).2.2.2.2, (), rfl, ⟨h_2, by first | (simp [e_fo, h_2, h_6, c_7, c_8, c_9]; done) | (simp [e_fo, h_2, h_6, c_7, c_8, c_9]; done) | grind [e_fo], by first | (simp [e_fv, h_2, h_6, c_7, c_8, c_9]; done) | (simp [e_fv, h_2, h_6, c_7, c_8, c_9]; done) | grind [e_fv]⟩, by rw [ht]; exact hP9, va_K.moved hW.alike hK9, hD9⟩, hS.F ht⟩) hS.2.2 dX1_fixed_73
      · have hP9 := hP.sub (ws' := [(h0, .inr (1, [.ref a, .ref b])), (a, .inl (cI, 256, .inl kf)), (b, .inl (cJ, 256, .inr (.inl vf)))]) [0, 1, 2] rfl
        have hD9 := hD.sub (ws' := [(h0, .inr (1, [.ref a, .ref b])), (a, .inl (cI, 256, .inl kf)), (b, .inl (cJ, 256, .inr (.inl vf)))]) [0, 1, 2] (by decide) rfl
        have hK9 := hK.sub (tys' := [(cI, .int), (cJ, .long)]) [0, 1] rfl
        obtain ⟨sa, hsa⟩ := ev_s73 hE
        refine vx_throwS (A := A) (sa := sa) (text := "no number stays, or there is no last one") (names := ups) hx hb hlt hown (by decide +kernel) (by decide +kernel) (hts (.classLink RX1 50 "java/lang/UnsupportedOperationException") kX1_fixed_1) (hts (.initialized "java/lang/UnsupportedOperationException") kX1_fixed_2) hsa (ev_at_uoe (fun w hw => hts w (kX1_fixed_3 w hw)) hE) ev_ot_uoe hZ.1 hZ.2 hS (by rw [hml]; exact hl.1) dX1_fixed_45 dX1_fixed_48 dX1_fixed_49 dX1_fixed_51 dX1_fixed_54 (fun x hx => (htb x hx).elim) (Nat.le_of_ble_eq_true rfl) (Nat.le_of_ble_eq_true rfl) (Nat.le_of_ble_eq_true rfl) (Nat.le_of_ble_eq_true rfl) hlocks (fun t9 ht h1 h2 => ⟨(), trivial, ⟨Or.inr ⟨rfl, h_2, by first | (simp [e_fo, h_2, h_6, c_7, c_8]; done) | (simp [e_fo, h_2, h_6, c_7, c_8]; done) | grind [e_fo]⟩, hP9.kept (fun k q hk => h2 q.1 (hP9 k q hk).lt), va_K.moved ht hK9, hD9⟩, ⟨Nat.le_trans hS.1 h1, fun q hq hn => (h2 q (Nat.lt_of_lt_of_le hq hS.1)).trans (hS.2.1 q hq hn)⟩⟩) hS.2.2 (Nat.le_of_ble_eq_true rfl) (Nat.le_of_ble_eq_true rfl)
    · refine lv_aload hx hb dX1_fixed_26 (lv_at hl 1 rfl) ?_
      refine va_getN (D := (dC, dI)) (ci := 0) (v := .int ((eW kf vf f t).2.2.2.1)) (C := RX0) (T := TX0) (N := 5) hx hb hts kX1_fixed_0 hown hK hP 3 rfl rfl 3 (by decide) (va_Nw.use rfl (ev_n61 hE)) (fun _ h9 => h9) rfl dX1_fixed_28 ?_
      refine lv_if_ne (tgt := 55) hx hb dX1_fixed_31 (by decide) (fun c_10 => ?_) (fun c_10 => ?_)
      · refine lv_iload hx hb dX1_fixed_55 (lv_at hl 0 rfl) ?_
        refine lv_if_eq (tgt := 68) hx hb dX1_fixed_57 (by decide) (fun c_11 => ?_) (fun c_11 => ?_)
        · refine lv_aload hx hb dX1_fixed_68 (lv_at hl 1 rfl) ?_
          refine va_getN (D := (dC, dI)) (ci := 0) (v := .long ((eW kf vf f t).2.2.1)) (C := RX0) (T := TX0) (N := 5) hx hb hts kX1_fixed_0 hown hK hP 3 rfl rfl 2 (by decide) (va_Nw.use rfl (ev_n57 hE)) (fun _ h9 => h9) rfl dX1_fixed_70 ?_
          have hP9 := hP.sub (ws' := [(h0, .inr (1, [.ref a, .ref b])), (a, .inl (cI, 256, .inl kf)), (b, .inl (cJ, 256, .inr (.inl vf)))]) [0, 1, 2] rfl
          have hD9 := hD.sub (ws' := [(h0, .inr (1, [.ref a, .ref b])), (a, .inl (cI, 256, .inl kf)), (b, .inl (cJ, 256, .inr (.inl vf)))]) [0, 1, 2] (by decide) rfl
          have hK9 := hK.sub (tys' := [(cI, .int), (cJ, .long)]) [0, 1] rfl
          refine vx_ret ?_
          refine W.widen (k := 3) (n := 17) (Nat.le_of_ble_eq_true rfl) (Nat.le_of_ble_eq_true rfl) ?_
          exact W.lret (v := (eW kf vf f t).2.2.1) hx hb hr (fun t9 ht hW => ⟨⟨(eW kf vf f t).2.2.1, (), rfl, ⟨h_2, by first | (simp [e_fo, h_2, h_6, c_7, c_10, c_11]; done) | (simp [e_fo, h_2, h_6, c_7, c_10, c_11]; done) | grind [e_fo], by first | (simp [e_fv, h_2, h_6, c_7, c_10, c_11]; done) | (simp [e_fv, h_2, h_6, c_7, c_10, c_11]; done) | grind [e_fv]⟩, by rw [ht]; exact hP9, va_K.moved hW.alike hK9, hD9⟩, hS.F ht⟩) hS.2.2 dX1_fixed_73
        · refine lv_aload hx hb dX1_fixed_60 (lv_at hl 1 rfl) ?_
          refine va_getN (D := (dC, dI)) (ci := 0) (v := .long ((eW kf vf f t).2.2.2.2)) (C := RX0) (T := TX0) (N := 5) hx hb hts kX1_fixed_0 hown hK hP 3 rfl rfl 4 (by decide) (va_Nw.use rfl (ev_n66 hE)) (fun _ h9 => h9) rfl dX1_fixed_62 ?_
          refine lv_goto (tgt := 73) hx hb dX1_fixed_65 (by decide) ?_
          have hP9 := hP.sub (ws' := [(h0, .inr (1, [.ref a, .ref b])), (a, .inl (cI, 256, .inl kf)), (b, .inl (cJ, 256, .inr (.inl vf)))]) [0, 1, 2] rfl
          have hD9 := hD.sub (ws' := [(h0, .inr (1, [.ref a, .ref b])), (a, .inl (cI, 256, .inl kf)), (b, .inl (cJ, 256, .inr (.inl vf)))]) [0, 1, 2] (by decide) rfl
          have hK9 := hK.sub (tys' := [(cI, .int), (cJ, .long)]) [0, 1] rfl
          refine vx_ret ?_
          refine W.widen (k := 3) (n := 17) (Nat.le_of_ble_eq_true rfl) (Nat.le_of_ble_eq_true rfl) ?_
          exact W.lret (v := (eW kf vf f t).2.2.2.2) hx hb hr (fun t9 ht hW => ⟨⟨(eW kf vf f t).2.2.2.2, (), rfl, ⟨h_2, by first | (simp [e_fo, h_2, h_6, c_7, c_10, c_11]; done) | (simp [e_fo, h_2, h_6, c_7, c_10, c_11]; done) | grind [e_fo], by first | (simp [e_fv, h_2, h_6, c_7, c_10, c_11]; done) | (simp [e_fv, h_2, h_6, c_7, c_10, c_11]; done) | grind [e_fv]⟩, by rw [ht]; exact hP9, va_K.moved hW.alike hK9, hD9⟩, hS.F ht⟩) hS.2.2 dX1_fixed_73
      · refine lv_goto (tgt := 45) hx hb dX1_fixed_34 (by decide) ?_
        have hP9 := hP.sub (ws' := [(h0, .inr (1, [.ref a, .ref b])), (a, .inl (cI, 256, .inl kf)), (b, .inl (cJ, 256, .inr (.inl vf)))]) [0, 1, 2] rfl
        have hD9 := hD.sub (ws' := [(h0, .inr (1, [.ref a, .ref b])), (a, .inl (cI, 256, .inl kf)), (b, .inl (cJ, 256, .inr (.inl vf)))]) [0, 1, 2] (by decide) rfl
        have hK9 := hK.sub (tys' := [(cI, .int), (cJ, .long)]) [0, 1] rfl
        obtain ⟨sa, hsa⟩ := ev_s73 hE
        refine vx_throwS (A := A) (sa := sa) (text := "no number stays, or there is no last one") (names := ups) hx hb hlt hown (by decide +kernel) (by decide +kernel) (hts (.classLink RX1 50 "java/lang/UnsupportedOperationException") kX1_fixed_1) (hts (.initialized "java/lang/UnsupportedOperationException") kX1_fixed_2) hsa (ev_at_uoe (fun w hw => hts w (kX1_fixed_3 w hw)) hE) ev_ot_uoe hZ.1 hZ.2 hS (by rw [hml]; exact hl.1) dX1_fixed_45 dX1_fixed_48 dX1_fixed_49 dX1_fixed_51 dX1_fixed_54 (fun x hx => (htb x hx).elim) (Nat.le_of_ble_eq_true rfl) (Nat.le_of_ble_eq_true rfl) (Nat.le_of_ble_eq_true rfl) (Nat.le_of_ble_eq_true rfl) hlocks (fun t9 ht h1 h2 => ⟨(), trivial, ⟨Or.inr ⟨rfl, h_2, by first | (simp [e_fo, h_2, h_6, c_7, c_10]; done) | (simp [e_fo, h_2, h_6, c_7, c_10]; done) | grind [e_fo]⟩, hP9.kept (fun k q hk => h2 q.1 (hP9 k q hk).lt), va_K.moved ht hK9, hD9⟩, ⟨Nat.le_trans hS.1 h1, fun q hq hn => (h2 q (Nat.lt_of_lt_of_le hq hS.1)).trans (hS.2.1 q hq hn)⟩⟩) hS.2.2 (Nat.le_of_ble_eq_true rfl) (Nat.le_of_ble_eq_true rfl)

set_option maxHeartbeats 4000000 in
set_option maxRecDepth 100000 in
theorem qX1_about (l : Launch) (hlt : l.stackTraces = false) (dC : Nat → ClassId) (dI : Nat → Nat → Nat) (sz : Nat) (h0 a b : Nat) (cI cJ : ClassId) (kf : Nat → Int32) (vf : Nat → Int64) (f t w : Int32)  : vx_Met l yX1_about wsX1_about ({ frames := 7, cells := 3, slots := 17, locals := 120 }) (va_Pc [.ref h0, .int f, .int t, .int w] (fun U => U.heap.size = sz ∧ va_P (dC, dI) vwCl [(h0, .inr (1, [.ref a, .ref b])), (a, .inl (cI, 256, .inl kf)), (b, .inl (cJ, 256, .inr (.inl vf)))] U.heap ∧ va_K (dC, dI) vwCl [(cI, .int), (cJ, .long)] U ∧ va_D (fun _ => True) [(h0, .inr (1, [.ref a, .ref b])), (a, .inl (cI, 256, .inl kf)), (b, .inl (cJ, 256, .inr (.inl vf)))] ∧ ev U ∧ ez (va_A [(h0, .inr (1, [.ref a, .ref b])), (a, .inl (cI, 256, .inl kf)), (b, .inl (cJ, 256, .inr (.inl vf)))] sz) U U.heap)) (va_Qi (fun (r : Int32) (u : Unit) => (okQ w ∧ okW f t ∧ r = e_ab kf vf f t w)) (fun (u : Unit) (t9 : State) => va_P (dC, dI) vwCl [(h0, .inr (1, [.ref a, .ref b])), (a, .inl (cI, 256, .inl kf)), (b, .inl (cJ, 256, .inr (.inl vf)))] t9.heap ∧ va_K (dC, dI) vwCl [(cI, .int), (cJ, .long)] t9 ∧ va_D (va_A [(h0, .inr (1, [.ref a, .ref b])), (a, .inl (cI, 256, .inl kf)), (b, .inl (cJ, 256, .inr (.inl vf)))] sz) [(h0, .inr (1, [.ref a, .ref b])), (a, .inl (cI, 256, .inl kf)), (b, .inl (cJ, 256, .inr (.inl vf)))]) (va_A [(h0, .inr (1, [.ref a, .ref b])), (a, .inl (cI, 256, .inl kf)), (b, .inl (cJ, 256, .inr (.inl vf)))] sz)) (vx_X (fun _ : Unit => True) (fun (E : String) (_ : Unit) (t9 : State) => ((E = IAE ∧ ¬ okQ w) ∨ (E = IOB ∧ okQ w ∧ ¬ okW f t)) ∧ va_P (dC, dI) vwCl [(h0, .inr (1, [.ref a, .ref b])), (a, .inl (cI, 256, .inl kf)), (b, .inl (cJ, 256, .inr (.inl vf)))] t9.heap ∧ va_K (dC, dI) vwCl [(cI, .int), (cJ, .long)] t9 ∧ va_D (va_A [(h0, .inr (1, [.ref a, .ref b])), (a, .inl (cI, 256, .inl kf)), (b, .inl (cJ, 256, .inr (.inl vf)))] sz) [(h0, .inr (1, [.ref a, .ref b])), (a, .inl (cI, 256, .inl kf)), (b, .inl (cJ, 256, .inr (.inl vf)))]) (va_A [(h0, .inr (1, [.ref a, .ref b])), (a, .inl (cI, 256, .inl kf)), (b, .inl (cJ, 256, .inr (.inl vf)))] sz)) 3 17 (va_A [(h0, .inr (1, [.ref a, .ref b])), (a, .inl (cI, 256, .inl kf)), (b, .inl (cJ, 256, .inr (.inl vf)))] sz) := by
  refine vx_ofW (cc := cX1_about) (maxL := 6) (ret := (some .int)) (by decide) rfl ?_
  intro p e s m args below meth c s₁ B hml htb hv
  obtain ⟨rfl, hsz, hP, hK, hD0, hE, hZ⟩ := hv
  have hx := B.exec
  have hb := B.bytes
  have hr := B.returns
  have hts := atoms_spec (ws := wsX1_about) B.pre
  have hown : s.vm.findClass RX1 = some m.cls := findClass_of_methodNamed B.named
  have hlocks := B.notSynchronized
  subst hsz
  have hD := hD0.self (sz := s.heap.size)
  generalize hAe : va_A [(h0, .inr (1, [.ref a, .ref b])), (a, .inl (cI, 256, .inl kf)), (b, .inl (cJ, 256, .inr (.inl vf)))] s.heap.size = A at hD hZ ⊢
  have hA : ∀ q : Nat, s.heap.size ≤ q → A q := fun q h => by rw [← hAe]; exact Or.inr h
  have hS : va_S A s.heap s.heap [] := va_S.rf
  have hP : va_P (dC, dI) vwCl [(h0, .inr (1, [.ref a, .ref b])), (a, .inl (cI, 256, .inl kf)), (b, .inl (cJ, 256, .inr (.inl vf)))] s.heap := hP
  have hl := lv_entry ([.ref h0, .int f, .int t, .int w]) (n := 6) (Nat.le_of_ble_eq_true rfl)
  rw [lg_entry_eq]
  generalize (lg_sl ([.ref h0, .int f, .int t, .int w]) ++ List.replicate (6 - (lg_sl ([.ref h0, .int f, .int t, .int w])).length) Slot.unset).toArray = ls at hl ⊢
  have hl : lv_has ls 6 [(0, .ref h0), (1, .int f), (2, .int t), (3, .int w)] := hl
  refine lv_iload_n hx hb dX1_about_0 rfl (lv_at hl 3 rfl) ?_
  have hPc := hP.sub (ws' := []) [] rfl
  have hDc := hD.sub (ws' := []) [] (by decide) rfl
  have hKc := hK.sub (tys' := []) [] rfl
  have hFc := va_free (wc := []) hD hS hA [] rfl
  refine vx_callv (vx_runS (As := [.int w]) (rest := []) ⟨hx, hb, hml, hown, hts⟩ (qX1_checkQuestion l hlt dC dI s.heap.size w) (va_cwS 1 hts gX1_about_X1_checkQuestion rfl rfl rfl (by decide +kernel) ⟨Nat.le_of_ble_eq_true rfl, Nat.le_of_ble_eq_true rfl⟩) ⟨fun a U g mk q => by obtain ⟨q0, q1, qP, qK, qD, qE, qZ⟩ := q; exact ⟨q0, q1, qP, va_K.moved (u := U) (U := U.calling g mk a) (Vm.Alike.refl U.vm) qK, qD, ev.same (u := U) rfl qE, ez.moved (U := U.calling g mk a) qZ (Vm.Alike.refl U.vm)⟩, fun U hU hW => ⟨rfl, by rw [hU], by rw [hU]; exact hPc, va_K.moved hW.alike hKc, hDc.weaken (fun _ _ _ _ => trivial), hE.warm hW, by rw [hU]; exact ((hZ.kept hS.2.1).narrow hFc).moved hW.alike⟩⟩ rfl rfl hl.1 rfl (lv_room (Nat.le_of_ble_eq_true rfl)) dX1_about_1 ⟨Nat.le_of_ble_eq_true rfl, Nat.le_of_ble_eq_true rfl⟩) hS (fun q _ h => hFc q h) hFc (fun q _ h => hFc q h) (fun E ce q9 u t9 H1 locs ht hvm hw hB hz1 hk1 hS hce hcv hcl => ?_) (fun u t9 H1 locs ht hvm hw hB hz1 hk1 hS => ?_)
  · obtain ⟨hex, hP1, hK1, hD1⟩ := hB
    rw [ht] at hP1
    have hK1 := va_K.moved hvm.symm hK1
    obtain ⟨hP, hD⟩ := va_join (wr := [(h0, .inr (1, [.ref a, .ref b])), (a, .inl (cI, 256, .inl kf)), (b, .inl (cJ, 256, .inr (.inl vf)))]) (w1 := []) hP hD [] [0, 1, 2] rfl rfl (by decide) (by decide) hk1 hFc hP1 hD1
    have hK := (hK.sub (tys' := [(cI, .int), (cJ, .long)]) [0, 1] rfl).app hK1
    generalize H1 = H at hP hS hce ⊢
    have hP : va_P (dC, dI) vwCl [(h0, .inr (1, [.ref a, .ref b])), (a, .inl (cI, 256, .inl kf)), (b, .inl (cJ, 256, .inr (.inl vf)))] H := hP
    have hD : va_D A [(h0, .inr (1, [.ref a, .ref b])), (a, .inl (cI, 256, .inl kf)), (b, .inl (cJ, 256, .inr (.inl vf)))] := hD
    have hK : va_K (dC, dI) vwCl [(cI, .int), (cJ, .long)] s := hK
    refine vx_widen (k := 1) (n := 6) (Nat.le_of_ble_eq_true rfl) (Nat.le_of_ble_eq_true rfl) ?_
    have hP9 := hP.sub (ws' := [(h0, .inr (1, [.ref a, .ref b])), (a, .inl (cI, 256, .inl kf)), (b, .inl (cJ, 256, .inr (.inl vf)))]) [0, 1, 2] rfl
    have hD9 := hD.sub (ws' := [(h0, .inr (1, [.ref a, .ref b])), (a, .inl (cI, 256, .inl kf)), (b, .inl (cJ, 256, .inr (.inl vf)))]) [0, 1, 2] (by decide) rfl
    have hK9 := hK.sub (tys' := [(cI, .int), (cJ, .long)]) [0, 1] rfl
    exact vx_out (fun x hx => (htb x hx).elim) hlocks hce hcv hcl (fun t9 ht hvm => ⟨(), trivial, ⟨Or.inl hex, by rw [ht]; exact hP9, va_K.moved hvm hK9, hD9⟩, hS.F ht⟩) hS.2.2 (Nat.le_of_ble_eq_true rfl) (Nat.le_of_ble_eq_true rfl)
  · obtain ⟨hP1, hK1, hD1⟩ := hB
    rw [ht] at hP1
    have h_2 := hw
    have hK1 := va_K.moved hvm.symm hK1
    obtain ⟨hP, hD⟩ := va_join (wr := [(h0, .inr (1, [.ref a, .ref b])), (a, .inl (cI, 256, .inl kf)), (b, .inl (cJ, 256, .inr (.inl vf)))]) (w1 := []) hP hD [] [0, 1, 2] rfl rfl (by decide) (by decide) hk1 hFc hP1 hD1
    have hK := (hK.sub (tys' := [(cI, .int), (cJ, .long)]) [0, 1] rfl).app hK1
    generalize H1 = H at hP hS ⊢
    have hP : va_P (dC, dI) vwCl [(h0, .inr (1, [.ref a, .ref b])), (a, .inl (cI, 256, .inl kf)), (b, .inl (cJ, 256, .inr (.inl vf)))] H := hP
    have hD : va_D A [(h0, .inr (1, [.ref a, .ref b])), (a, .inl (cI, 256, .inl kf)), (b, .inl (cJ, 256, .inr (.inl vf)))] := hD
    have hK : va_K (dC, dI) vwCl [(cI, .int), (cJ, .long)] s := hK
    refine W.widen (k := 1) (n := 6) (Nat.le_of_ble_eq_true rfl) (Nat.le_of_ble_eq_true rfl) ?_
    refine lv_iload_n hx hb dX1_about_4 rfl (lv_at hl 1 rfl) ?_
    refine lv_iload_n hx hb dX1_about_5 rfl (lv_at hl 2 rfl) ?_
    have hPc := hP.sub (ws' := []) [] rfl
    have hDc := hD.sub (ws' := []) [] (by decide) rfl
    have hKc := hK.sub (tys' := []) [] rfl
    have hFc := va_free (wc := []) hD hS hA [] rfl
    refine vx_callv (vx_runS (As := [.int f, .int t]) (rest := []) ⟨hx, hb, hml, hown, hts⟩ (qX1_checkPart l hlt dC dI H.size f t) (va_cwS 2 hts gX1_about_X1_checkPart rfl rfl rfl (by decide +kernel) ⟨Nat.le_of_ble_eq_true rfl, Nat.le_of_ble_eq_true rfl⟩) ⟨fun a U g mk q => by obtain ⟨q0, q1, qP, qK, qD, qE, qZ⟩ := q; exact ⟨q0, q1, qP, va_K.moved (u := U) (U := U.calling g mk a) (Vm.Alike.refl U.vm) qK, qD, ev.same (u := U) rfl qE, ez.moved (U := U.calling g mk a) qZ (Vm.Alike.refl U.vm)⟩, fun U hU hW => ⟨rfl, by rw [hU], by rw [hU]; exact hPc, va_K.moved hW.alike hKc, hDc.weaken (fun _ _ _ _ => trivial), hE.warm hW, by rw [hU]; exact ((hZ.kept hS.2.1).narrow hFc).moved hW.alike⟩⟩ rfl rfl hl.1 rfl (lv_room (Nat.le_of_ble_eq_true rfl)) dX1_about_6 ⟨Nat.le_of_ble_eq_true rfl, Nat.le_of_ble_eq_true rfl⟩) hS (fun q _ h => hFc q h) hFc (fun q _ h => hFc q h) (fun E ce q9 u t9 H1 locs ht hvm hw hB hz1 hk1 hS hce hcv hcl => ?_) (fun u t9 H1 locs ht hvm hw hB hz1 hk1 hS => ?_)
    · obtain ⟨hex, hP1, hK1, hD1⟩ := hB
      rw [ht] at hP1
      have hK1 := va_K.moved hvm.symm hK1
      obtain ⟨hP, hD⟩ := va_join (wr := [(h0, .inr (1, [.ref a, .ref b])), (a, .inl (cI, 256, .inl kf)), (b, .inl (cJ, 256, .inr (.inl vf)))]) (w1 := []) hP hD [] [0, 1, 2] rfl rfl (by decide) (by decide) hk1 hFc hP1 hD1
      have hK := (hK.sub (tys' := [(cI, .int), (cJ, .long)]) [0, 1] rfl).app hK1
      generalize H1 = H at hP hS hce ⊢
      have hP : va_P (dC, dI) vwCl [(h0, .inr (1, [.ref a, .ref b])), (a, .inl (cI, 256, .inl kf)), (b, .inl (cJ, 256, .inr (.inl vf)))] H := hP
      have hD : va_D A [(h0, .inr (1, [.ref a, .ref b])), (a, .inl (cI, 256, .inl kf)), (b, .inl (cJ, 256, .inr (.inl vf)))] := hD
      have hK : va_K (dC, dI) vwCl [(cI, .int), (cJ, .long)] s := hK
      refine vx_widen (k := 2) (n := 12) (Nat.le_of_ble_eq_true rfl) (Nat.le_of_ble_eq_true rfl) ?_
      have hP9 := hP.sub (ws' := [(h0, .inr (1, [.ref a, .ref b])), (a, .inl (cI, 256, .inl kf)), (b, .inl (cJ, 256, .inr (.inl vf)))]) [0, 1, 2] rfl
      have hD9 := hD.sub (ws' := [(h0, .inr (1, [.ref a, .ref b])), (a, .inl (cI, 256, .inl kf)), (b, .inl (cJ, 256, .inr (.inl vf)))]) [0, 1, 2] (by decide) rfl
      have hK9 := hK.sub (tys' := [(cI, .int), (cJ, .long)]) [0, 1] rfl
      exact vx_out (fun x hx => (htb x hx).elim) hlocks hce hcv hcl (fun t9 ht hvm => ⟨(), trivial, ⟨Or.inr ⟨hex.1, h_2, hex.2⟩, by rw [ht]; exact hP9, va_K.moved hvm hK9, hD9⟩, hS.F ht⟩) hS.2.2 (Nat.le_of_ble_eq_true rfl) (Nat.le_of_ble_eq_true rfl)
    · obtain ⟨hP1, hK1, hD1⟩ := hB
      rw [ht] at hP1
      have h_4 := hw
      have hK1 := va_K.moved hvm.symm hK1
      obtain ⟨hP, hD⟩ := va_join (wr := [(h0, .inr (1, [.ref a, .ref b])), (a, .inl (cI, 256, .inl kf)), (b, .inl (cJ, 256, .inr (.inl vf)))]) (w1 := []) hP hD [] [0, 1, 2] rfl rfl (by decide) (by decide) hk1 hFc hP1 hD1
      have hK := (hK.sub (tys' := [(cI, .int), (cJ, .long)]) [0, 1] rfl).app hK1
      generalize H1 = H at hP hS ⊢
      have hP : va_P (dC, dI) vwCl [(h0, .inr (1, [.ref a, .ref b])), (a, .inl (cI, 256, .inl kf)), (b, .inl (cJ, 256, .inr (.inl vf)))] H := hP
      have hD : va_D A [(h0, .inr (1, [.ref a, .ref b])), (a, .inl (cI, 256, .inl kf)), (b, .inl (cJ, 256, .inr (.inl vf)))] := hD
      have hK : va_K (dC, dI) vwCl [(cI, .int), (cJ, .long)] s := hK
      refine W.widen (k := 2) (n := 12) (Nat.le_of_ble_eq_true rfl) (Nat.le_of_ble_eq_true rfl) ?_
      refine lv_iload_n hx hb dX1_about_9 rfl (lv_at hl 3 rfl) ?_
      refine lv_iconst (v := 1) hx hb dX1_about_10 (by decide) ?_
      refine lv_icmp_ne (tgt := 21) hx hb dX1_about_11 (by decide) (fun c_5 => ?_) (fun c_5 => ?_)
      · refine lv_aload_n hx hb dX1_about_21 rfl (lv_at hl 0 rfl) ?_
        refine lv_iload_n hx hb dX1_about_22 rfl (lv_at hl 1 rfl) ?_
        refine lv_iload_n hx hb dX1_about_23 rfl (lv_at hl 2 rfl) ?_
        have hPc := hP.sub (ws' := [(h0, .inr (1, [.ref a, .ref b])), (a, .inl (cI, 256, .inl kf)), (b, .inl (cJ, 256, .inr (.inl vf)))]) [0, 1, 2] rfl
        have hDc := hD.sub (ws' := [(h0, .inr (1, [.ref a, .ref b])), (a, .inl (cI, 256, .inl kf)), (b, .inl (cJ, 256, .inr (.inl vf)))]) [0, 1, 2] (by decide) rfl
        have hKc := hK.sub (tys' := [(cI, .int), (cJ, .long)]) [0, 1] rfl
        have hFc := va_free (wc := [(h0, .inr (1, [.ref a, .ref b])), (a, .inl (cI, 256, .inl kf)), (b, .inl (cJ, 256, .inr (.inl vf)))]) hD hS hA [0, 1, 2] rfl
        refine va_callr (va_runV (As := [.int f, .int t]) (rest := []) ⟨hx, hb, hml, hown, hts⟩ (qX1_effectOf l hlt dC dI H.size h0 a b cI cJ kf vf f t h_4) (cwV 2 hts gX1_about_X1_effectOf rfl rfl rfl (by decide +kernel) ⟨Nat.le_of_ble_eq_true rfl, Nat.le_of_ble_eq_true rfl⟩) ⟨fun a U g mk q => by obtain ⟨q0, q1, qP, qK, qD, qE, qZ⟩ := q; exact ⟨q0, q1, qP, va_K.moved (u := U) (U := U.calling g mk a) (Vm.Alike.refl U.vm) qK, qD, ev.same (u := U) rfl qE, ez.moved (U := U.calling g mk a) qZ (Vm.Alike.refl U.vm)⟩, va_recv hKc hPc (ci := 1) (q0 := 0) rfl rfl, fun U hU hW => ⟨rfl, by rw [hU], by rw [hU]; exact hPc, va_K.moved hW.alike hKc, hDc.weaken (fun _ _ _ _ => trivial), hE.warm hW, by rw [hU]; exact ((hZ.kept hS.2.1).narrow hFc).moved hW.alike⟩⟩ rfl rfl hl.1 rfl (lv_room (Nat.le_of_ble_eq_true rfl)) dX1_about_24 ⟨Nat.le_of_ble_eq_true rfl, Nat.le_of_ble_eq_true rfl⟩) hS (fun q _ h => hFc q h) hFc (fun u r_6 t9 H1 locs ht hvm hw hB hz1 hk1 hS => ?_)
        obtain ⟨hP1, hK1, hD1⟩ := hB
        rw [ht] at hP1
        obtain rfl := hw
        have hK1 := va_K.moved hvm.symm hK1
        obtain ⟨hP, hD⟩ := va_join (wr := []) (w1 := [(h0, .inr (1, [.ref a, .ref b])), (a, .inl (cI, 256, .inl kf)), (b, .inl (cJ, 256, .inr (.inl vf))), (r_6, .inr (0, [.long ((eW kf vf f t).1), .int ((eW kf vf f t).2.1), .long ((eW kf vf f t).2.2.1), .int ((eW kf vf f t).2.2.2.1), .long ((eW kf vf f t).2.2.2.2)]))]) hP hD [0, 1, 2] [] rfl rfl (by decide) (by decide) hk1 hFc hP1 hD1
        have hK := (hK.sub (tys' := []) [] rfl).app hK1
        generalize H1 = H at hP hS ⊢
        have hP : va_P (dC, dI) vwCl [(h0, .inr (1, [.ref a, .ref b])), (a, .inl (cI, 256, .inl kf)), (b, .inl (cJ, 256, .inr (.inl vf))), (r_6, .inr (0, [.long ((eW kf vf f t).1), .int ((eW kf vf f t).2.1), .long ((eW kf vf f t).2.2.1), .int ((eW kf vf f t).2.2.2.1), .long ((eW kf vf f t).2.2.2.2)]))] H := hP
        have hD : va_D A [(h0, .inr (1, [.ref a, .ref b])), (a, .inl (cI, 256, .inl kf)), (b, .inl (cJ, 256, .inr (.inl vf))), (r_6, .inr (0, [.long ((eW kf vf f t).1), .int ((eW kf vf f t).2.1), .long ((eW kf vf f t).2.2.1), .int ((eW kf vf f t).2.2.2.1), .long ((eW kf vf f t).2.2.2.2)]))] := hD
        have hK : va_K (dC, dI) vwCl [(cI, .int), (cJ, .long)] s := hK
        refine W.widen (k := 3) (n := 17) (Nat.le_of_ble_eq_true rfl) (Nat.le_of_ble_eq_true rfl) ?_
        refine lv_astore (lv' := [(4, .ref r_6), (0, .ref h0), (1, .int f), (2, .int t), (3, .int w)]) hx hb dX1_about_27 hl (by decide) rfl (fun ls hl => ?_)
        refine lv_iload_n hx hb dX1_about_29 rfl (lv_at hl 4 rfl) ?_
        refine lv_if_ne (tgt := 41) hx hb dX1_about_30 (by decide) (fun c_8 => ?_) (fun c_8 => ?_)
        · refine lv_aload hx hb dX1_about_41 (lv_at hl 0 rfl) ?_
          have hPc := hP.sub (ws' := [(r_6, .inr (0, [.long ((eW kf vf f t).1), .int ((eW kf vf f t).2.1), .long ((eW kf vf f t).2.2.1), .int ((eW kf vf f t).2.2.2.1), .long ((eW kf vf f t).2.2.2.2)]))]) [3] rfl
          have hDc := hD.sub (ws' := [(r_6, .inr (0, [.long ((eW kf vf f t).1), .int ((eW kf vf f t).2.1), .long ((eW kf vf f t).2.2.1), .int ((eW kf vf f t).2.2.2.1), .long ((eW kf vf f t).2.2.2.2)]))]) [3] (by decide) rfl
          have hKc := hK.sub (tys' := []) [] rfl
          have hFc := va_free (wc := [(r_6, .inr (0, [.long ((eW kf vf f t).1), .int ((eW kf vf f t).2.1), .long ((eW kf vf f t).2.2.1), .int ((eW kf vf f t).2.2.2.1), .long ((eW kf vf f t).2.2.2.2)]))]) hD hS hA [3] rfl
          refine va_calli (va_runV (As := []) (rest := []) ⟨hx, hb, hml, hown, hts⟩ (qX0_leavesEachItself l dC dI H.size r_6 (eW kf vf f t)) (cwV 0 hts gX1_about_X0_leavesEachItself rfl rfl rfl (by decide +kernel) ⟨Nat.le_of_ble_eq_true rfl, Nat.le_of_ble_eq_true rfl⟩) ⟨fun a U g mk q => by obtain ⟨q0, q1, qP, qK, qD⟩ := q; exact ⟨q0, q1, qP, va_K.moved (u := U) (U := U.calling g mk a) (Vm.Alike.refl U.vm) qK, qD⟩, va_recv hKc hPc (ci := 0) (q0 := 0) rfl rfl, fun U hU hW => ⟨rfl, by rw [hU], by rw [hU]; exact hPc, va_K.moved hW.alike hKc, hDc.weaken (fun _ _ _ _ => trivial)⟩⟩ rfl rfl hl.1 rfl (lv_room (Nat.le_of_ble_eq_true rfl)) dX1_about_43 ⟨Nat.le_of_ble_eq_true rfl, Nat.le_of_ble_eq_true rfl⟩) hS (fun q _ h => hFc q h) hFc (fun r_9 u t9 H1 locs ht hvm hw hB hz1 hk1 hS => ?_)
          obtain ⟨hP1, hK1, hD1⟩ := hB
          rw [ht] at hP1
          have h_10 := hw
          have hK1 := va_K.moved hvm.symm hK1
          obtain ⟨hP, hD⟩ := va_join (wr := [(h0, .inr (1, [.ref a, .ref b])), (a, .inl (cI, 256, .inl kf)), (b, .inl (cJ, 256, .inr (.inl vf)))]) (w1 := [(r_6, .inr (0, [.long ((eW kf vf f t).1), .int ((eW kf vf f t).2.1), .long ((eW kf vf f t).2.2.1), .int ((eW kf vf f t).2.2.2.1), .long ((eW kf vf f t).2.2.2.2)]))]) hP hD [3] [0, 1, 2] rfl rfl (by decide) (by decide) hk1 hFc hP1 hD1
          have hK := (hK.sub (tys' := [(cI, .int), (cJ, .long)]) [0, 1] rfl).app hK1
          generalize H1 = H at hP hS ⊢
          have hP : va_P (dC, dI) vwCl [(h0, .inr (1, [.ref a, .ref b])), (a, .inl (cI, 256, .inl kf)), (b, .inl (cJ, 256, .inr (.inl vf))), (r_6, .inr (0, [.long ((eW kf vf f t).1), .int ((eW kf vf f t).2.1), .long ((eW kf vf f t).2.2.1), .int ((eW kf vf f t).2.2.2.1), .long ((eW kf vf f t).2.2.2.2)]))] H := hP
          have hD : va_D A [(h0, .inr (1, [.ref a, .ref b])), (a, .inl (cI, 256, .inl kf)), (b, .inl (cJ, 256, .inr (.inl vf))), (r_6, .inr (0, [.long ((eW kf vf f t).1), .int ((eW kf vf f t).2.1), .long ((eW kf vf f t).2.2.1), .int ((eW kf vf f t).2.2.2.1), .long ((eW kf vf f t).2.2.2.2)]))] := hD
          have hK : va_K (dC, dI) vwCl [(cI, .int), (cJ, .long)] s := hK
          refine W.widen (k := 3) (n := 17) (Nat.le_of_ble_eq_true rfl) (Nat.le_of_ble_eq_true rfl) ?_
          refine lv_istore (lv' := [(5, .int r_9), (4, .ref r_6), (0, .ref h0), (1, .int f), (2, .int t), (3, .int w)]) hx hb dX1_about_46 hl (by decide) rfl (fun ls hl => ?_)
          refine lv_iload hx hb dX1_about_48 (lv_at hl 0 rfl) ?_
          refine lv_if_eq (tgt := 57) hx hb dX1_about_50 (by decide) (fun c_11 => ?_) (fun c_11 => ?_)
          · refine lv_iconst (v := 0) hx hb dX1_about_57 (by decide) ?_
            have hP9 := hP.sub (ws' := [(h0, .inr (1, [.ref a, .ref b])), (a, .inl (cI, 256, .inl kf)), (b, .inl (cJ, 256, .inr (.inl vf)))]) [0, 1, 2] rfl
            have hD9 := hD.sub (ws' := [(h0, .inr (1, [.ref a, .ref b])), (a, .inl (cI, 256, .inl kf)), (b, .inl (cJ, 256, .inr (.inl vf)))]) [0, 1, 2] (by decide) rfl
            have hK9 := hK.sub (tys' := [(cI, .int), (cJ, .long)]) [0, 1] rfl
            refine vx_ret ?_
            refine W.widen (k := 3) (n := 17) (Nat.le_of_ble_eq_true rfl) (Nat.le_of_ble_eq_true rfl) ?_
            exact W.iret (v := 0) hx hb hr (fun t9 ht hW => ⟨⟨0, (), rfl, ⟨h_2, h_4, by first | (simp [e_ab, e_sa, e_id, h_2, h_4, c_5, c_8, h_10, c_11]; done) | (simp [e_ab, e_sa, e_id, h_2, h_4, c_5, c_8, h_10, c_11]; done) | grind [e_ab, e_sa, e_id]⟩, by rw [ht]; exact hP9, va_K.moved hW.alike hK9, hD9⟩, hS.F ht⟩) hS.2.2 dX1_about_58
          · refine lv_iconst (v := 1) hx hb dX1_about_53 (by decide) ?_
            refine lv_goto (tgt := 58) hx hb dX1_about_54 (by decide) ?_
            have hP9 := hP.sub (ws' := [(h0, .inr (1, [.ref a, .ref b])), (a, .inl (cI, 256, .inl kf)), (b, .inl (cJ, 256, .inr (.inl vf)))]) [0, 1, 2] rfl
            have hD9 := hD.sub (ws' := [(h0, .inr (1, [.ref a, .ref b])), (a, .inl (cI, 256, .inl kf)), (b, .inl (cJ, 256, .inr (.inl vf)))]) [0, 1, 2] (by decide) rfl
            have hK9 := hK.sub (tys' := [(cI, .int), (cJ, .long)]) [0, 1] rfl
            refine vx_ret ?_
            refine W.widen (k := 3) (n := 17) (Nat.le_of_ble_eq_true rfl) (Nat.le_of_ble_eq_true rfl) ?_
            exact W.iret (v := 1) hx hb hr (fun t9 ht hW => ⟨⟨1, (), rfl, ⟨h_2, h_4, by first | (simp [e_ab, e_sa, e_id, h_2, h_4, c_5, c_8, h_10, c_11]; done) | (simp [e_ab, e_sa, e_id, h_2, h_4, c_5, c_8, h_10, c_11]; done) | grind [e_ab, e_sa, e_id]⟩, by rw [ht]; exact hP9, va_K.moved hW.alike hK9, hD9⟩, hS.F ht⟩) hS.2.2 dX1_about_58
        · refine lv_aload hx hb dX1_about_33 (lv_at hl 0 rfl) ?_
          have hPc := hP.sub (ws' := [(r_6, .inr (0, [.long ((eW kf vf f t).1), .int ((eW kf vf f t).2.1), .long ((eW kf vf f t).2.2.1), .int ((eW kf vf f t).2.2.2.1), .long ((eW kf vf f t).2.2.2.2)]))]) [3] rfl
          have hDc := hD.sub (ws' := [(r_6, .inr (0, [.long ((eW kf vf f t).1), .int ((eW kf vf f t).2.1), .long ((eW kf vf f t).2.2.1), .int ((eW kf vf f t).2.2.2.1), .long ((eW kf vf f t).2.2.2.2)]))]) [3] (by decide) rfl
          have hKc := hK.sub (tys' := []) [] rfl
          have hFc := va_free (wc := [(r_6, .inr (0, [.long ((eW kf vf f t).1), .int ((eW kf vf f t).2.1), .long ((eW kf vf f t).2.2.1), .int ((eW kf vf f t).2.2.2.1), .long ((eW kf vf f t).2.2.2.2)]))]) hD hS hA [3] rfl
          refine va_calli (va_runV (As := []) (rest := []) ⟨hx, hb, hml, hown, hts⟩ (qX0_isSameOfAll l dC dI H.size r_6 (eW kf vf f t)) (cwV 0 hts gX1_about_X0_isSameOfAll rfl rfl rfl (by decide +kernel) ⟨Nat.le_of_ble_eq_true rfl, Nat.le_of_ble_eq_true rfl⟩) ⟨fun a U g mk q => by obtain ⟨q0, q1, qP, qK, qD⟩ := q; exact ⟨q0, q1, qP, va_K.moved (u := U) (U := U.calling g mk a) (Vm.Alike.refl U.vm) qK, qD⟩, va_recv hKc hPc (ci := 0) (q0 := 0) rfl rfl, fun U hU hW => ⟨rfl, by rw [hU], by rw [hU]; exact hPc, va_K.moved hW.alike hKc, hDc.weaken (fun _ _ _ _ => trivial)⟩⟩ rfl rfl hl.1 rfl (lv_room (Nat.le_of_ble_eq_true rfl)) dX1_about_35 ⟨Nat.le_of_ble_eq_true rfl, Nat.le_of_ble_eq_true rfl⟩) hS (fun q _ h => hFc q h) hFc (fun r_12 u t9 H1 locs ht hvm hw hB hz1 hk1 hS => ?_)
          obtain ⟨hP1, hK1, hD1⟩ := hB
          rw [ht] at hP1
          have h_13 := hw
          have hK1 := va_K.moved hvm.symm hK1
          obtain ⟨hP, hD⟩ := va_join (wr := [(h0, .inr (1, [.ref a, .ref b])), (a, .inl (cI, 256, .inl kf)), (b, .inl (cJ, 256, .inr (.inl vf)))]) (w1 := [(r_6, .inr (0, [.long ((eW kf vf f t).1), .int ((eW kf vf f t).2.1), .long ((eW kf vf f t).2.2.1), .int ((eW kf vf f t).2.2.2.1), .long ((eW kf vf f t).2.2.2.2)]))]) hP hD [3] [0, 1, 2] rfl rfl (by decide) (by decide) hk1 hFc hP1 hD1
          have hK := (hK.sub (tys' := [(cI, .int), (cJ, .long)]) [0, 1] rfl).app hK1
          generalize H1 = H at hP hS ⊢
          have hP : va_P (dC, dI) vwCl [(h0, .inr (1, [.ref a, .ref b])), (a, .inl (cI, 256, .inl kf)), (b, .inl (cJ, 256, .inr (.inl vf))), (r_6, .inr (0, [.long ((eW kf vf f t).1), .int ((eW kf vf f t).2.1), .long ((eW kf vf f t).2.2.1), .int ((eW kf vf f t).2.2.2.1), .long ((eW kf vf f t).2.2.2.2)]))] H := hP
          have hD : va_D A [(h0, .inr (1, [.ref a, .ref b])), (a, .inl (cI, 256, .inl kf)), (b, .inl (cJ, 256, .inr (.inl vf))), (r_6, .inr (0, [.long ((eW kf vf f t).1), .int ((eW kf vf f t).2.1), .long ((eW kf vf f t).2.2.1), .int ((eW kf vf f t).2.2.2.1), .long ((eW kf vf f t).2.2.2.2)]))] := hD
          have hK : va_K (dC, dI) vwCl [(cI, .int), (cJ, .long)] s := hK
          refine W.widen (k := 3) (n := 17) (Nat.le_of_ble_eq_true rfl) (Nat.le_of_ble_eq_true rfl) ?_
          refine lv_goto (tgt := 46) hx hb dX1_about_38 (by decide) ?_
          refine lv_istore (lv' := [(5, .int r_12), (4, .ref r_6), (0, .ref h0), (1, .int f), (2, .int t), (3, .int w)]) hx hb dX1_about_46 hl (by decide) rfl (fun ls hl => ?_)
          refine lv_iload hx hb dX1_about_48 (lv_at hl 0 rfl) ?_
          refine lv_if_eq (tgt := 57) hx hb dX1_about_50 (by decide) (fun c_14 => ?_) (fun c_14 => ?_)
          · refine lv_iconst (v := 0) hx hb dX1_about_57 (by decide) ?_
            have hP9 := hP.sub (ws' := [(h0, .inr (1, [.ref a, .ref b])), (a, .inl (cI, 256, .inl kf)), (b, .inl (cJ, 256, .inr (.inl vf)))]) [0, 1, 2] rfl
            have hD9 := hD.sub (ws' := [(h0, .inr (1, [.ref a, .ref b])), (a, .inl (cI, 256, .inl kf)), (b, .inl (cJ, 256, .inr (.inl vf)))]) [0, 1, 2] (by decide) rfl
            have hK9 := hK.sub (tys' := [(cI, .int), (cJ, .long)]) [0, 1] rfl
            refine vx_ret ?_
            refine W.widen (k := 3) (n := 17) (Nat.le_of_ble_eq_true rfl) (Nat.le_of_ble_eq_true rfl) ?_
            exact W.iret (v := 0) hx hb hr (fun t9 ht hW => ⟨⟨0, (), rfl, ⟨h_2, h_4, by first | (simp [e_ab, e_sa, e_id, h_2, h_4, c_5, c_8, h_13, c_14]; done) | (simp [e_ab, e_sa, e_id, h_2, h_4, c_5, c_8, h_13, c_14]; done) | grind [e_ab, e_sa, e_id]⟩, by rw [ht]; exact hP9, va_K.moved hW.alike hK9, hD9⟩, hS.F ht⟩) hS.2.2 dX1_about_58
          · refine lv_iconst (v := 1) hx hb dX1_about_53 (by decide) ?_
            refine lv_goto (tgt := 58) hx hb dX1_about_54 (by decide) ?_
            have hP9 := hP.sub (ws' := [(h0, .inr (1, [.ref a, .ref b])), (a, .inl (cI, 256, .inl kf)), (b, .inl (cJ, 256, .inr (.inl vf)))]) [0, 1, 2] rfl
            have hD9 := hD.sub (ws' := [(h0, .inr (1, [.ref a, .ref b])), (a, .inl (cI, 256, .inl kf)), (b, .inl (cJ, 256, .inr (.inl vf)))]) [0, 1, 2] (by decide) rfl
            have hK9 := hK.sub (tys' := [(cI, .int), (cJ, .long)]) [0, 1] rfl
            refine vx_ret ?_
            refine W.widen (k := 3) (n := 17) (Nat.le_of_ble_eq_true rfl) (Nat.le_of_ble_eq_true rfl) ?_
            exact W.iret (v := 1) hx hb hr (fun t9 ht hW => ⟨⟨1, (), rfl, ⟨h_2, h_4, by first | (simp [e_ab, e_sa, e_id, h_2, h_4, c_5, c_8, h_13, c_14]; done) | (simp [e_ab, e_sa, e_id, h_2, h_4, c_5, c_8, h_13, c_14]; done) | grind [e_ab, e_sa, e_id]⟩, by rw [ht]; exact hP9, va_K.moved hW.alike hK9, hD9⟩, hS.F ht⟩) hS.2.2 dX1_about_58
      · refine lv_aload_n hx hb dX1_about_14 rfl (lv_at hl 0 rfl) ?_
        refine lv_iload_n hx hb dX1_about_15 rfl (lv_at hl 1 rfl) ?_
        refine lv_iload_n hx hb dX1_about_16 rfl (lv_at hl 2 rfl) ?_
        have hPc := hP.sub (ws' := [(h0, .inr (1, [.ref a, .ref b])), (a, .inl (cI, 256, .inl kf)), (b, .inl (cJ, 256, .inr (.inl vf)))]) [0, 1, 2] rfl
        have hDc := hD.sub (ws' := [(h0, .inr (1, [.ref a, .ref b])), (a, .inl (cI, 256, .inl kf)), (b, .inl (cJ, 256, .inr (.inl vf)))]) [0, 1, 2] (by decide) rfl
        have hKc := hK.sub (tys' := [(cI, .int), (cJ, .long)]) [0, 1] rfl
        have hFc := va_free (wc := [(h0, .inr (1, [.ref a, .ref b])), (a, .inl (cI, 256, .inl kf)), (b, .inl (cJ, 256, .inr (.inl vf)))]) hD hS hA [0, 1, 2] rfl
        refine va_calli (va_runV (As := [.int f, .int t]) (rest := []) ⟨hx, hb, hml, hown, hts⟩ (qX1_countBusy l dC dI H.size h0 a b cI cJ kf vf f t h_4) (cwV 2 hts gX1_about_X1_countBusy rfl rfl rfl (by decide +kernel) ⟨Nat.le_of_ble_eq_true rfl, Nat.le_of_ble_eq_true rfl⟩) ⟨fun a U g mk q => by obtain ⟨q0, q1, qP, qK, qD⟩ := q; exact ⟨q0, q1, qP, va_K.moved (u := U) (U := U.calling g mk a) (Vm.Alike.refl U.vm) qK, qD⟩, va_recv hKc hPc (ci := 1) (q0 := 0) rfl rfl, fun U hU hW => ⟨rfl, by rw [hU], by rw [hU]; exact hPc, va_K.moved hW.alike hKc, hDc.weaken (fun _ _ _ _ => trivial)⟩⟩ rfl rfl hl.1 rfl (lv_room (Nat.le_of_ble_eq_true rfl)) dX1_about_17 ⟨Nat.le_of_ble_eq_true rfl, Nat.le_of_ble_eq_true rfl⟩) hS (fun q _ h => hFc q h) hFc (fun r_15 u t9 H1 locs ht hvm hw hB hz1 hk1 hS => ?_)
        obtain ⟨hP1, hK1, hD1⟩ := hB
        rw [ht] at hP1
        have h_16 := hw
        have hK1 := va_K.moved hvm.symm hK1
        obtain ⟨hP, hD⟩ := va_join (wr := []) (w1 := [(h0, .inr (1, [.ref a, .ref b])), (a, .inl (cI, 256, .inl kf)), (b, .inl (cJ, 256, .inr (.inl vf)))]) hP hD [0, 1, 2] [] rfl rfl (by decide) (by decide) hk1 hFc hP1 hD1
        have hK := (hK.sub (tys' := []) [] rfl).app hK1
        generalize H1 = H at hP hS ⊢
        have hP : va_P (dC, dI) vwCl [(h0, .inr (1, [.ref a, .ref b])), (a, .inl (cI, 256, .inl kf)), (b, .inl (cJ, 256, .inr (.inl vf)))] H := hP
        have hD : va_D A [(h0, .inr (1, [.ref a, .ref b])), (a, .inl (cI, 256, .inl kf)), (b, .inl (cJ, 256, .inr (.inl vf)))] := hD
        have hK : va_K (dC, dI) vwCl [(cI, .int), (cJ, .long)] s := hK
        refine W.widen (k := 2) (n := 12) (Nat.le_of_ble_eq_true rfl) (Nat.le_of_ble_eq_true rfl) ?_
        have hP9 := hP.sub (ws' := [(h0, .inr (1, [.ref a, .ref b])), (a, .inl (cI, 256, .inl kf)), (b, .inl (cJ, 256, .inr (.inl vf)))]) [0, 1, 2] rfl
        have hD9 := hD.sub (ws' := [(h0, .inr (1, [.ref a, .ref b])), (a, .inl (cI, 256, .inl kf)), (b, .inl (cJ, 256, .inr (.inl vf)))]) [0, 1, 2] (by decide) rfl
        have hK9 := hK.sub (tys' := [(cI, .int), (cJ, .long)]) [0, 1] rfl
        refine vx_ret ?_
        refine W.widen (k := 3) (n := 17) (Nat.le_of_ble_eq_true rfl) (Nat.le_of_ble_eq_true rfl) ?_
        exact W.iret (v := r_15) hx hb hr (fun t9 ht hW => ⟨⟨r_15, (), rfl, ⟨h_2, h_4, by first | (simp [e_ab, e_sa, e_id, h_2, h_4, c_5, h_16]; done) | (simp [e_ab, e_sa, e_id, h_2, h_4, c_5, h_16]; done) | grind [e_ab, e_sa, e_id]⟩, by rw [ht]; exact hP9, va_K.moved hW.alike hK9, hD9⟩, hS.F ht⟩) hS.2.2 dX1_about_20
