set_option maxHeartbeats 4000000 in
set_option maxRecDepth 100000 in
theorem qX1_fold (l : Launch) (hlt : l.stackTraces = false) (dC : Nat → ClassId) (dI : Nat → Nat → Nat) (sz : Nat) (h0 a b : Nat) (cI cJ : ClassId) (kf : Nat → Int32) (vf : Nat → Int64) (f t : Int32) (x : Int64)  : vx_Met l yX1_fold wsX1_fold ({ frames := 7, cells := 3, slots := 17, locals := 120 }) (va_Pc [.ref h0, .int f, .int t, .long x] (fun U => U.heap.size = sz ∧ va_P (dC, dI) vwCl [(h0, .inr (1, [.ref a, .ref b])), (a, .inl (cI, 256, .inl kf)), (b, .inl (cJ, 256, .inr (.inl vf)))] U.heap ∧ va_K (dC, dI) vwCl [(cI, .int), (cJ, .long)] U ∧ va_D (fun _ => True) [(h0, .inr (1, [.ref a, .ref b])), (a, .inl (cI, 256, .inl kf)), (b, .inl (cJ, 256, .inr (.inl vf)))] ∧ ev U ∧ ez (va_A [(h0, .inr (1, [.ref a, .ref b])), (a, .inl (cI, 256, .inl kf)), (b, .inl (cJ, 256, .inr (.inl vf)))] sz) U U.heap)) (va_Ql (fun (r : Int64) (u : Unit) => (okX x ∧ okW f t ∧ r = e_on (eW kf vf f t) x)) (fun (u : Unit) (t9 : State) => va_P (dC, dI) vwCl [(h0, .inr (1, [.ref a, .ref b])), (a, .inl (cI, 256, .inl kf)), (b, .inl (cJ, 256, .inr (.inl vf)))] t9.heap ∧ va_K (dC, dI) vwCl [(cI, .int), (cJ, .long)] t9 ∧ va_D (va_A [(h0, .inr (1, [.ref a, .ref b])), (a, .inl (cI, 256, .inl kf)), (b, .inl (cJ, 256, .inr (.inl vf)))] sz) [(h0, .inr (1, [.ref a, .ref b])), (a, .inl (cI, 256, .inl kf)), (b, .inl (cJ, 256, .inr (.inl vf)))]) (va_A [(h0, .inr (1, [.ref a, .ref b])), (a, .inl (cI, 256, .inl kf)), (b, .inl (cJ, 256, .inr (.inl vf)))] sz)) (vx_X (fun _ : Unit => True) (fun (E : String) (_ : Unit) (t9 : State) => ((E = IAE ∧ ¬ okX x) ∨ (E = IOB ∧ okX x ∧ ¬ okW f t)) ∧ va_P (dC, dI) vwCl [(h0, .inr (1, [.ref a, .ref b])), (a, .inl (cI, 256, .inl kf)), (b, .inl (cJ, 256, .inr (.inl vf)))] t9.heap ∧ va_K (dC, dI) vwCl [(cI, .int), (cJ, .long)] t9 ∧ va_D (va_A [(h0, .inr (1, [.ref a, .ref b])), (a, .inl (cI, 256, .inl kf)), (b, .inl (cJ, 256, .inr (.inl vf)))] sz) [(h0, .inr (1, [.ref a, .ref b])), (a, .inl (cI, 256, .inl kf)), (b, .inl (cJ, 256, .inr (.inl vf)))]) (va_A [(h0, .inr (1, [.ref a, .ref b])), (a, .inl (cI, 256, .inl kf)), (b, .inl (cJ, 256, .inr (.inl vf)))] sz)) 3 17 (va_A [(h0, .inr (1, [.ref a, .ref b])), (a, .inl (cI, 256, .inl kf)), (b, .inl (cJ, 256, .inr (.inl vf)))] sz) := by
  refine vx_ofW (cc := cX1_fold) (maxL := 5) (ret := (some .long)) (by decide) rfl ?_
  intro p e s m args below meth c s₁ B hml htb hv
  obtain ⟨rfl, hsz, hP, hK, hD0, hE, hZ⟩ := hv
  have hx := B.exec
  have hb := B.bytes
  have hr := B.returns
  have hts := atoms_spec (ws := wsX1_fold) B.pre
  have hown : s.vm.findClass RX1 = some m.cls := findClass_of_methodNamed B.named
  have hlocks := B.notSynchronized
  subst hsz
  have hD := hD0.self (sz := s.heap.size)
  generalize hAe : va_A [(h0, .inr (1, [.ref a, .ref b])), (a, .inl (cI, 256, .inl kf)), (b, .inl (cJ, 256, .inr (.inl vf)))] s.heap.size = A at hD hZ ⊢
  have hA : ∀ q : Nat, s.heap.size ≤ q → A q := fun q h => by rw [← hAe]; exact Or.inr h
  have hS : va_S A s.heap s.heap [] := va_S.rf
  have hP : va_P (dC, dI) vwCl [(h0, .inr (1, [.ref a, .ref b])), (a, .inl (cI, 256, .inl kf)), (b, .inl (cJ, 256, .inr (.inl vf)))] s.heap := hP
  have hl := lv_entry ([.ref h0, .int f, .int t, .long x]) (n := 5) (Nat.le_of_ble_eq_true rfl)
  rw [lg_entry_eq]
  generalize (lg_sl ([.ref h0, .int f, .int t, .long x]) ++ List.replicate (5 - (lg_sl ([.ref h0, .int f, .int t, .long x])).length) Slot.unset).toArray = ls at hl ⊢
  have hl : lv_has ls 5 [(0, .ref h0), (1, .int f), (2, .int t), (3, .long x)] := hl
  refine lv_lload_n hx hb dX1_fold_0 rfl (lv_at hl 3 rfl) ?_
  have hPc := hP.sub (ws' := []) [] rfl
  have hDc := hD.sub (ws' := []) [] (by decide) rfl
  have hKc := hK.sub (tys' := []) [] rfl
  have hFc := va_free (wc := []) hD hS hA [] rfl
  refine vx_callv (vx_runS (As := [.long x]) (rest := []) ⟨hx, hb, hml, hown, hts⟩ (qX1_checkNumber l hlt dC dI s.heap.size x) (va_cwS 1 hts gX1_fold_X1_checkNumber rfl rfl rfl (by decide +kernel) ⟨Nat.le_of_ble_eq_true rfl, Nat.le_of_ble_eq_true rfl⟩) ⟨fun a U g mk q => by obtain ⟨q0, q1, qP, qK, qD, qE, qZ⟩ := q; exact ⟨q0, q1, qP, va_K.moved (u := U) (U := U.calling g mk a) (Vm.Alike.refl U.vm) qK, qD, ev.same (u := U) rfl qE, ez.moved (U := U.calling g mk a) qZ (Vm.Alike.refl U.vm)⟩, fun U hU hW => ⟨rfl, by rw [hU], by rw [hU]; exact hPc, va_K.moved hW.alike hKc, hDc.weaken (fun _ _ _ _ => trivial), hE.warm hW, by rw [hU]; exact ((hZ.kept hS.2.1).narrow hFc).moved hW.alike⟩⟩ rfl rfl hl.1 rfl (lv_room (Nat.le_of_ble_eq_true rfl)) dX1_fold_1 ⟨Nat.le_of_ble_eq_true rfl, Nat.le_of_ble_eq_true rfl⟩) hS (fun q _ h => hFc q h) hFc (fun q _ h => hFc q h) (fun E ce q9 u t9 H1 locs ht hvm hw hB hz1 hk1 hS hce hcv hcl => ?_) (fun u t9 H1 locs ht hvm hw hB hz1 hk1 hS => ?_)
  · obtain ⟨hex, hP1, hK1, hD1⟩ := hB
    rw [ht] at hP1
    have hK1 := va_K.moved hvm.symm hK1
    obtain ⟨hP, hD⟩ := va_join (wr := [(h0, .inr (1, [.ref a, .ref b])), (a, .inl (cI, 256, .inl kf)), (b, .inl (cJ, 256, .inr (.inl vf)))]) (w1 := []) hP hD [] [0, 1, 2] rfl rfl (by decide) (by decide) hk1 hFc hP1 hD1
    have hK := (hK.sub (tys' := [(cI, .int), (cJ, .long)]) [0, 1] rfl).app hK1
    generalize H1 = H at hP hS hce ⊢
    have hP : va_P (dC, dI) vwCl [(h0, .inr (1, [.ref a, .ref b])), (a, .inl (cI, 256, .inl kf)), (b, .inl (cJ, 256, .inr (.inl vf)))] H := hP
    have hD : va_D A [(h0, .inr (1, [.ref a, .ref b])), (a, .inl (cI, 256, .inl kf)), (b, .inl (cJ, 256, .inr (.inl vf)))] := hD
    have hK : va_K (dC, dI) vwCl [(cI, .int), (cJ, .long)] s := hK
    refine vx_widen (k := 1) (n := 6) (Nat.le_of_ble_eq_true rfl) (Nat.le_of_ble_eq_true rfl) ?_
    have hP9 := hP.sub (ws' := [(h0, .inr (1, [.ref a, .ref b])), (a, .inl (cI, 256, .inl kf)), (b, .inl (cJ, 256, .inr (.inl vf)))]) [0, 1, 2] rfl
    have hD9 := hD.sub (ws' := [(h0, .inr (1, [.ref a, .ref b])), (a, .inl (cI, 256, .inl kf)), (b, .inl (cJ, 256, .inr (.inl vf)))]) [0, 1, 2] (by decide) rfl
    have hK9 := hK.sub (tys' := [(cI, .int), (cJ, .long)]) [0, 1] rfl
    exact vx_out (fun x hx => (htb x hx).elim) hlocks hce hcv hcl (fun t9 ht hvm => ⟨(), trivial, ⟨Or.inl hex, by rw [ht]; exact hP9, va_K.moved hvm hK9, hD9⟩, hS.F ht⟩) hS.2.2 (Nat.le_of_ble_eq_true rfl) (Nat.le_of_ble_eq_true rfl)
  · obtain ⟨hP1, hK1, hD1⟩ := hB
    rw [ht] at hP1
    have h_2 := hw
    have hK1 := va_K.moved hvm.symm hK1
    obtain ⟨hP, hD⟩ := va_join (wr := [(h0, .inr (1, [.ref a, .ref b])), (a, .inl (cI, 256, .inl kf)), (b, .inl (cJ, 256, .inr (.inl vf)))]) (w1 := []) hP hD [] [0, 1, 2] rfl rfl (by decide) (by decide) hk1 hFc hP1 hD1
    have hK := (hK.sub (tys' := [(cI, .int), (cJ, .long)]) [0, 1] rfl).app hK1
    generalize H1 = H at hP hS ⊢
    have hP : va_P (dC, dI) vwCl [(h0, .inr (1, [.ref a, .ref b])), (a, .inl (cI, 256, .inl kf)), (b, .inl (cJ, 256, .inr (.inl vf)))] H := hP
    have hD : va_D A [(h0, .inr (1, [.ref a, .ref b])), (a, .inl (cI, 256, .inl kf)), (b, .inl (cJ, 256, .inr (.inl vf)))] := hD
    have hK : va_K (dC, dI) vwCl [(cI, .int), (cJ, .long)] s := hK
    refine W.widen (k := 1) (n := 6) (Nat.le_of_ble_eq_true rfl) (Nat.le_of_ble_eq_true rfl) ?_
    refine lv_iload_n hx hb dX1_fold_4 rfl (lv_at hl 1 rfl) ?_
    refine lv_iload_n hx hb dX1_fold_5 rfl (lv_at hl 2 rfl) ?_
    have hPc := hP.sub (ws' := []) [] rfl
    have hDc := hD.sub (ws' := []) [] (by decide) rfl
    have hKc := hK.sub (tys' := []) [] rfl
    have hFc := va_free (wc := []) hD hS hA [] rfl
    refine vx_callv (vx_runS (As := [.int f, .int t]) (rest := []) ⟨hx, hb, hml, hown, hts⟩ (qX1_checkPart l hlt dC dI H.size f t) (va_cwS 2 hts gX1_fold_X1_checkPart rfl rfl rfl (by decide +kernel) ⟨Nat.le_of_ble_eq_true rfl, Nat.le_of_ble_eq_true rfl⟩) ⟨fun a U g mk q => by obtain ⟨q0, q1, qP, qK, qD, qE, qZ⟩ := q; exact ⟨q0, q1, qP, va_K.moved (u := U) (U := U.calling g mk a) (Vm.Alike.refl U.vm) qK, qD, ev.same (u := U) rfl qE, ez.moved (U := U.calling g mk a) qZ (Vm.Alike.refl U.vm)⟩, fun U hU hW => ⟨rfl, by rw [hU], by rw [hU]; exact hPc, va_K.moved hW.alike hKc, hDc.weaken (fun _ _ _ _ => trivial), hE.warm hW, by rw [hU]; exact ((hZ.kept hS.2.1).narrow hFc).moved hW.alike⟩⟩ rfl rfl hl.1 rfl (lv_room (Nat.le_of_ble_eq_true rfl)) dX1_fold_6 ⟨Nat.le_of_ble_eq_true rfl, Nat.le_of_ble_eq_true rfl⟩) hS (fun q _ h => hFc q h) hFc (fun q _ h => hFc q h) (fun E ce q9 u t9 H1 locs ht hvm hw hB hz1 hk1 hS hce hcv hcl => ?_) (fun u t9 H1 locs ht hvm hw hB hz1 hk1 hS => ?_)
    · obtain ⟨hex, hP1, hK1, hD1⟩ := hB
      rw [ht] at hP1
      have hK1 := va_K.moved hvm.symm hK1
      obtain ⟨hP, hD⟩ := va_join (wr := [(h0, .inr (1, [.ref a, .ref b])), (a, .inl (cI, 256, .inl kf)), (b, .inl (cJ, 256, .inr (.inl vf)))]) (w1 := []) hP hD [] [0, 1, 2] rfl rfl (by decide) (by decide) hk1 hFc hP1 hD1
      have hK := (hK.sub (tys' := [(cI, .int), (cJ, .long)]) [0, 1] rfl).app hK1
      generalize H1 = H at hP hS hce ⊢
      have hP : va_P (dC, dI) vwCl [(h0, .inr (1, [.ref a, .ref b])), (a, .inl (cI, 256, .inl kf)), (b, .inl (cJ, 256, .inr (.inl vf)))] H := hP
      have hD : va_D A [(h0, .inr (1, [.ref a, .ref b])), (a, .inl (cI, 256, .inl kf)), (b, .inl (cJ, 256, .inr (.inl vf)))] := hD
      have hK : va_K (dC, dI) vwCl [(cI, .int), (cJ, .long)] s := hK
      refine vx_widen (k := 2) (n := 12) (Nat.le_of_ble_eq_true rfl) (Nat.le_of_ble_eq_true rfl) ?_
      have hP9 := hP.sub (ws' := [(h0, .inr (1, [.ref a, .ref b])), (a, .inl (cI, 256, .inl kf)), (b, .inl (cJ, 256, .inr (.inl vf)))]) [0, 1, 2] rfl
      have hD9 := hD.sub (ws' := [(h0, .inr (1, [.ref a, .ref b])), (a, .inl (cI, 256, .inl kf)), (b, .inl (cJ, 256, .inr (.inl vf)))]) [0, 1, 2] (by decide) rfl
      have hK9 := hK.sub (tys' := [(cI, .int), (cJ, .long)]) [0, 1] rfl
      exact vx_out (fun x hx => (htb x hx).elim) hlocks hce hcv hcl (fun t9 ht hvm => ⟨(), trivial, ⟨Or.inr ⟨hex.1, h_2, hex.2⟩, by rw [ht]; exact hP9, va_K.moved hvm hK9, hD9⟩, hS.F ht⟩) hS.2.2 (Nat.le_of_ble_eq_true rfl) (Nat.le_of_ble_eq_true rfl)
    · obtain ⟨hP1, hK1, hD1⟩ := hB
      rw [ht] at hP1
      have h_4 := hw
      have hK1 := va_K.moved hvm.symm hK1
      obtain ⟨hP, hD⟩ := va_join (wr := [(h0, .inr (1, [.ref a, .ref b])), (a, .inl (cI, 256, .inl kf)), (b, .inl (cJ, 256, .inr (.inl vf)))]) (w1 := []) hP hD [] [0, 1, 2] rfl rfl (by decide) (by decide) hk1 hFc hP1 hD1
      have hK := (hK.sub (tys' := [(cI, .int), (cJ, .long)]) [0, 1] rfl).app hK1
      generalize H1 = H at hP hS ⊢
      have hP : va_P (dC, dI) vwCl [(h0, .inr (1, [.ref a, .ref b])), (a, .inl (cI, 256, .inl kf)), (b, .inl (cJ, 256, .inr (.inl vf)))] H := hP
      have hD : va_D A [(h0, .inr (1, [.ref a, .ref b])), (a, .inl (cI, 256, .inl kf)), (b, .inl (cJ, 256, .inr (.inl vf)))] := hD
      have hK : va_K (dC, dI) vwCl [(cI, .int), (cJ, .long)] s := hK
      refine W.widen (k := 2) (n := 12) (Nat.le_of_ble_eq_true rfl) (Nat.le_of_ble_eq_true rfl) ?_
      refine lv_aload_n hx hb dX1_fold_9 rfl (lv_at hl 0 rfl) ?_
      refine lv_iload_n hx hb dX1_fold_10 rfl (lv_at hl 1 rfl) ?_
      refine lv_iload_n hx hb dX1_fold_11 rfl (lv_at hl 2 rfl) ?_
      have hPc := hP.sub (ws' := [(h0, .inr (1, [.ref a, .ref b])), (a, .inl (cI, 256, .inl kf)), (b, .inl (cJ, 256, .inr (.inl vf)))]) [0, 1, 2] rfl
      have hDc := hD.sub (ws' := [(h0, .inr (1, [.ref a, .ref b])), (a, .inl (cI, 256, .inl kf)), (b, .inl (cJ, 256, .inr (.inl vf)))]) [0, 1, 2] (by decide) rfl
      have hKc := hK.sub (tys' := [(cI, .int), (cJ, .long)]) [0, 1] rfl
      have hFc := va_free (wc := [(h0, .inr (1, [.ref a, .ref b])), (a, .inl (cI, 256, .inl kf)), (b, .inl (cJ, 256, .inr (.inl vf)))]) hD hS hA [0, 1, 2] rfl
      refine va_callr (va_runV (As := [.int f, .int t]) (rest := []) ⟨hx, hb, hml, hown, hts⟩ (qX1_effectOf l hlt dC dI H.size h0 a b cI cJ kf vf f t h_4) (cwV 2 hts gX1_fold_X1_effectOf rfl rfl rfl (by decide +kernel) ⟨Nat.le_of_ble_eq_true rfl, Nat.le_of_ble_eq_true rfl⟩) ⟨fun a U g mk q => by obtain ⟨q0, q1, qP, qK, qD, qE, qZ⟩ := q; exact ⟨q0, q1, qP, va_K.moved (u := U) (U := U.calling g mk a) (Vm.Alike.refl U.vm) qK, qD, ev.same (u := U) rfl qE, ez.moved (U := U.calling g mk a) qZ (Vm.Alike.refl U.vm)⟩, va_recv hKc hPc (ci := 1) (q0 := 0) rfl rfl, fun U hU hW => ⟨rfl, by rw [hU], by rw [hU]; exact hPc, va_K.moved hW.alike hKc, hDc.weaken (fun _ _ _ _ => trivial), hE.warm hW, by rw [hU]; exact ((hZ.kept hS.2.1).narrow hFc).moved hW.alike⟩⟩ rfl rfl hl.1 rfl (lv_room (Nat.le_of_ble_eq_true rfl)) dX1_fold_12 ⟨Nat.le_of_ble_eq_true rfl, Nat.le_of_ble_eq_true rfl⟩) hS (fun q _ h => hFc q h) hFc (fun u r_5 t9 H1 locs ht hvm hw hB hz1 hk1 hS => ?_)
      obtain ⟨hP1, hK1, hD1⟩ := hB
      rw [ht] at hP1
      obtain rfl := hw
      have hK1 := va_K.moved hvm.symm hK1
      obtain ⟨hP, hD⟩ := va_join (wr := []) (w1 := [(h0, .inr (1, [.ref a, .ref b])), (a, .inl (cI, 256, .inl kf)), (b, .inl (cJ, 256, .inr (.inl vf))), (r_5, .inr (0, [.long ((eW kf vf f t).1), .int ((eW kf vf f t).2.1), .long ((eW kf vf f t).2.2.1), .int ((eW kf vf f t).2.2.2.1), .long ((eW kf vf f t).2.2.2.2)]))]) hP hD [0, 1, 2] [] rfl rfl (by decide) (by decide) hk1 hFc hP1 hD1
      have hK := (hK.sub (tys' := []) [] rfl).app hK1
      generalize H1 = H at hP hS ⊢
      have hP : va_P (dC, dI) vwCl [(h0, .inr (1, [.ref a, .ref b])), (a, .inl (cI, 256, .inl kf)), (b, .inl (cJ, 256, .inr (.inl vf))), (r_5, .inr (0, [.long ((eW kf vf f t).1), .int ((eW kf vf f t).2.1), .long ((eW kf vf f t).2.2.1), .int ((eW kf vf f t).2.2.2.1), .long ((eW kf vf f t).2.2.2.2)]))] H := hP
      have hD : va_D A [(h0, .inr (1, [.ref a, .ref b])), (a, .inl (cI, 256, .inl kf)), (b, .inl (cJ, 256, .inr (.inl vf))), (r_5, .inr (0, [.long ((eW kf vf f t).1), .int ((eW kf vf f t).2.1), .long ((eW kf vf f t).2.2.1), .int ((eW kf vf f t).2.2.2.1), .long ((eW kf vf f t).2.2.2.2)]))] := hD
      have hK : va_K (dC, dI) vwCl [(cI, .int), (cJ, .long)] s := hK
      refine W.widen (k := 3) (n := 17) (Nat.le_of_ble_eq_true rfl) (Nat.le_of_ble_eq_true rfl) ?_
      refine lv_lload_n hx hb dX1_fold_15 rfl (lv_at hl 3 rfl) ?_
      have hPc := hP.sub (ws' := [(r_5, .inr (0, [.long ((eW kf vf f t).1), .int ((eW kf vf f t).2.1), .long ((eW kf vf f t).2.2.1), .int ((eW kf vf f t).2.2.2.1), .long ((eW kf vf f t).2.2.2.2)]))]) [3] rfl
      have hDc := hD.sub (ws' := [(r_5, .inr (0, [.long ((eW kf vf f t).1), .int ((eW kf vf f t).2.1), .long ((eW kf vf f t).2.2.1), .int ((eW kf vf f t).2.2.2.1), .long ((eW kf vf f t).2.2.2.2)]))]) [3] (by decide) rfl
      have hKc := hK.sub (tys' := []) [] rfl
      have hFc := va_free (wc := [(r_5, .inr (0, [.long ((eW kf vf f t).1), .int ((eW kf vf f t).2.1), .long ((eW kf vf f t).2.2.1), .int ((eW kf vf f t).2.2.2.1), .long ((eW kf vf f t).2.2.2.2)]))]) hD hS hA [3] rfl
      refine va_calll (va_runV (As := [.long x]) (rest := []) ⟨hx, hb, hml, hown, hts⟩ (qX0_on l dC dI H.size r_5 (eW kf vf f t) x) (cwV 1 hts gX1_fold_X0_on rfl rfl rfl (by decide +kernel) ⟨Nat.le_of_ble_eq_true rfl, Nat.le_of_ble_eq_true rfl⟩) ⟨fun a U g mk q => by obtain ⟨q0, q1, qP, qK, qD⟩ := q; exact ⟨q0, q1, qP, va_K.moved (u := U) (U := U.calling g mk a) (Vm.Alike.refl U.vm) qK, qD⟩, va_recv hKc hPc (ci := 0) (q0 := 0) rfl rfl, fun U hU hW => ⟨rfl, by rw [hU], by rw [hU]; exact hPc, va_K.moved hW.alike hKc, hDc.weaken (fun _ _ _ _ => trivial)⟩⟩ rfl rfl hl.1 rfl (lv_room (Nat.le_of_ble_eq_true rfl)) dX1_fold_16 ⟨Nat.le_of_ble_eq_true rfl, Nat.le_of_ble_eq_true rfl⟩) hS (fun q _ h => hFc q h) hFc (fun r_7 u t9 H1 locs ht hvm hw hB hz1 hk1 hS => ?_)
      obtain ⟨hP1, hK1, hD1⟩ := hB
      rw [ht] at hP1
      have h_8 := hw
      have hK1 := va_K.moved hvm.symm hK1
      obtain ⟨hP, hD⟩ := va_join (wr := [(h0, .inr (1, [.ref a, .ref b])), (a, .inl (cI, 256, .inl kf)), (b, .inl (cJ, 256, .inr (.inl vf)))]) (w1 := [(r_5, .inr (0, [.long ((eW kf vf f t).1), .int ((eW kf vf f t).2.1), .long ((eW kf vf f t).2.2.1), .int ((eW kf vf f t).2.2.2.1), .long ((eW kf vf f t).2.2.2.2)]))]) hP hD [3] [0, 1, 2] rfl rfl (by decide) (by decide) hk1 hFc hP1 hD1
      have hK := (hK.sub (tys' := [(cI, .int), (cJ, .long)]) [0, 1] rfl).app hK1
      generalize H1 = H at hP hS ⊢
      have hP : va_P (dC, dI) vwCl [(h0, .inr (1, [.ref a, .ref b])), (a, .inl (cI, 256, .inl kf)), (b, .inl (cJ, 256, .inr (.inl vf))), (r_5, .inr (0, [.long ((eW kf vf f t).1), .int ((eW kf vf f t).2.1), .long ((eW kf vf f t).2.2.1), .int ((eW kf vf f t).2.2.2.1), .long ((eW kf vf f t).2.2.2.2)]))] H := hP
      have hD : va_D A [(h0, .inr (1, [.ref a, .ref b])), (a, .inl (cI, 256, .inl kf)), (b, .inl (cJ, 256, .inr (.inl vf))), (r_5, .inr (0, [.long ((eW kf vf f t).1), .int ((eW kf vf f t).2.1), .long ((eW kf vf f t).2.2.1), .int ((eW kf vf f t).2.2.2.1), .long ((eW kf vf f t).2.2.2.2)]))] := hD
      have hK : va_K (dC, dI) vwCl [(cI, .int), (cJ, .long)] s := hK
      refine W.widen (k := 3) (n := 17) (Nat.le_of_ble_eq_true rfl) (Nat.le_of_ble_eq_true rfl) ?_
      have hP9 := hP.sub (ws' := [(h0, .inr (1, [.ref a, .ref b])), (a, .inl (cI, 256, .inl kf)), (b, .inl (cJ, 256, .inr (.inl vf)))]) [0, 1, 2] rfl
      have hD9 := hD.sub (ws' := [(h0, .inr (1, [.ref a, .ref b])), (a, .inl (cI, 256, .inl kf)), (b, .inl (cJ, 256, .inr (.inl vf)))]) [0, 1, 2] (by decide) rfl
      have hK9 := hK.sub (tys' := [(cI, .int), (cJ, .long)]) [0, 1] rfl
      refine vx_ret ?_
      refine W.widen (k := 3) (n := 17) (Nat.le_of_ble_eq_true rfl) (Nat.le_of_ble_eq_true rfl) ?_
      exact W.lret (v := r_7) hx hb hr (fun t9 ht hW => ⟨⟨r_7, (), rfl, ⟨h_2, h_4, h_8⟩, by rw [ht]; exact hP9, va_K.moved hW.alike hK9, hD9⟩, hS.F ht⟩) hS.2.2 dX1_fold_19

set_option maxHeartbeats 4000000 in
set_option maxRecDepth 100000 in
theorem qX1_again (l : Launch) (hlt : l.stackTraces = false) (dC : Nat → ClassId) (dI : Nat → Nat → Nat) (sz : Nat) (h0 a b : Nat) (cI cJ : ClassId) (kf : Nat → Int32) (vf : Nat → Int64) (f t : Int32) (x : Int64) (n : Int32)  : vx_Met l yX1_again wsX1_again ({ frames := 7, cells := 4, slots := 23, locals := 120 }) (va_Pc [.ref h0, .int f, .int t, .long x, .int n] (fun U => U.heap.size = sz ∧ va_P (dC, dI) vwCl [(h0, .inr (1, [.ref a, .ref b])), (a, .inl (cI, 256, .inl kf)), (b, .inl (cJ, 256, .inr (.inl vf)))] U.heap ∧ va_K (dC, dI) vwCl [(cI, .int), (cJ, .long)] U ∧ va_D (fun _ => True) [(h0, .inr (1, [.ref a, .ref b])), (a, .inl (cI, 256, .inl kf)), (b, .inl (cJ, 256, .inr (.inl vf)))] ∧ ev U ∧ ez (va_A [(h0, .inr (1, [.ref a, .ref b])), (a, .inl (cI, 256, .inl kf)), (b, .inl (cJ, 256, .inr (.inl vf)))] sz) U U.heap)) (va_Ql (fun (r : Int64) (u : Unit) => (okX x ∧ okN n ∧ okW f t ∧ r = e_it (eW kf vf f t) x n.toNatClampNeg)) (fun (u : Unit) (t9 : State) => va_P (dC, dI) vwCl [(h0, .inr (1, [.ref a, .ref b])), (a, .inl (cI, 256, .inl kf)), (b, .inl (cJ, 256, .inr (.inl vf)))] t9.heap ∧ va_K (dC, dI) vwCl [(cI, .int), (cJ, .long)] t9 ∧ va_D (va_A [(h0, .inr (1, [.ref a, .ref b])), (a, .inl (cI, 256, .inl kf)), (b, .inl (cJ, 256, .inr (.inl vf)))] sz) [(h0, .inr (1, [.ref a, .ref b])), (a, .inl (cI, 256, .inl kf)), (b, .inl (cJ, 256, .inr (.inl vf)))]) (va_A [(h0, .inr (1, [.ref a, .ref b])), (a, .inl (cI, 256, .inl kf)), (b, .inl (cJ, 256, .inr (.inl vf)))] sz)) (vx_X (fun _ : Unit => True) (fun (E : String) (_ : Unit) (t9 : State) => ((E = IAE ∧ ¬ (okX x ∧ okN n)) ∨ (E = IOB ∧ (okX x ∧ okN n) ∧ ¬ okW f t)) ∧ va_P (dC, dI) vwCl [(h0, .inr (1, [.ref a, .ref b])), (a, .inl (cI, 256, .inl kf)), (b, .inl (cJ, 256, .inr (.inl vf)))] t9.heap ∧ va_K (dC, dI) vwCl [(cI, .int), (cJ, .long)] t9 ∧ va_D (va_A [(h0, .inr (1, [.ref a, .ref b])), (a, .inl (cI, 256, .inl kf)), (b, .inl (cJ, 256, .inr (.inl vf)))] sz) [(h0, .inr (1, [.ref a, .ref b])), (a, .inl (cI, 256, .inl kf)), (b, .inl (cJ, 256, .inr (.inl vf)))]) (va_A [(h0, .inr (1, [.ref a, .ref b])), (a, .inl (cI, 256, .inl kf)), (b, .inl (cJ, 256, .inr (.inl vf)))] sz)) 4 23 (va_A [(h0, .inr (1, [.ref a, .ref b])), (a, .inl (cI, 256, .inl kf)), (b, .inl (cJ, 256, .inr (.inl vf)))] sz) := by
  refine vx_ofW (cc := cX1_again) (maxL := 10) (ret := (some .long)) (by decide) rfl ?_
  intro p e s m args below meth c s₁ B hml htb hv
  obtain ⟨rfl, hsz, hP, hK, hD0, hE, hZ⟩ := hv
  have hx := B.exec
  have hb := B.bytes
  have hr := B.returns
  have hts := atoms_spec (ws := wsX1_again) B.pre
  have hown : s.vm.findClass RX1 = some m.cls := findClass_of_methodNamed B.named
  have hlocks := B.notSynchronized
  subst hsz
  have hD := hD0.self (sz := s.heap.size)
  generalize hAe : va_A [(h0, .inr (1, [.ref a, .ref b])), (a, .inl (cI, 256, .inl kf)), (b, .inl (cJ, 256, .inr (.inl vf)))] s.heap.size = A at hD hZ ⊢
  have hA : ∀ q : Nat, s.heap.size ≤ q → A q := fun q h => by rw [← hAe]; exact Or.inr h
  have hS : va_S A s.heap s.heap [] := va_S.rf
  have hP : va_P (dC, dI) vwCl [(h0, .inr (1, [.ref a, .ref b])), (a, .inl (cI, 256, .inl kf)), (b, .inl (cJ, 256, .inr (.inl vf)))] s.heap := hP
  have hl := lv_entry ([.ref h0, .int f, .int t, .long x, .int n]) (n := 10) (Nat.le_of_ble_eq_true rfl)
  rw [lg_entry_eq]
  generalize (lg_sl ([.ref h0, .int f, .int t, .long x, .int n]) ++ List.replicate (10 - (lg_sl ([.ref h0, .int f, .int t, .long x, .int n])).length) Slot.unset).toArray = ls at hl ⊢
  have hl : lv_has ls 10 [(0, .ref h0), (1, .int f), (2, .int t), (3, .long x), (5, .int n)] := hl
  refine lv_lload_n hx hb dX1_again_0 rfl (lv_at hl 3 rfl) ?_
  have hPc := hP.sub (ws' := []) [] rfl
  have hDc := hD.sub (ws' := []) [] (by decide) rfl
  have hKc := hK.sub (tys' := []) [] rfl
  have hFc := va_free (wc := []) hD hS hA [] rfl
  refine vx_callv (vx_runS (As := [.long x]) (rest := []) ⟨hx, hb, hml, hown, hts⟩ (qX1_checkNumber l hlt dC dI s.heap.size x) (va_cwS 1 hts gX1_again_X1_checkNumber rfl rfl rfl (by decide +kernel) ⟨Nat.le_of_ble_eq_true rfl, Nat.le_of_ble_eq_true rfl⟩) ⟨fun a U g mk q => by obtain ⟨q0, q1, qP, qK, qD, qE, qZ⟩ := q; exact ⟨q0, q1, qP, va_K.moved (u := U) (U := U.calling g mk a) (Vm.Alike.refl U.vm) qK, qD, ev.same (u := U) rfl qE, ez.moved (U := U.calling g mk a) qZ (Vm.Alike.refl U.vm)⟩, fun U hU hW => ⟨rfl, by rw [hU], by rw [hU]; exact hPc, va_K.moved hW.alike hKc, hDc.weaken (fun _ _ _ _ => trivial), hE.warm hW, by rw [hU]; exact ((hZ.kept hS.2.1).narrow hFc).moved hW.alike⟩⟩ rfl rfl hl.1 rfl (lv_room (Nat.le_of_ble_eq_true rfl)) dX1_again_1 ⟨Nat.le_of_ble_eq_true rfl, Nat.le_of_ble_eq_true rfl⟩) hS (fun q _ h => hFc q h) hFc (fun q _ h => hFc q h) (fun E ce q9 u t9 H1 locs ht hvm hw hB hz1 hk1 hS hce hcv hcl => ?_) (fun u t9 H1 locs ht hvm hw hB hz1 hk1 hS => ?_)
  · obtain ⟨hex, hP1, hK1, hD1⟩ := hB
    rw [ht] at hP1
    have hK1 := va_K.moved hvm.symm hK1
    obtain ⟨hP, hD⟩ := va_join (wr := [(h0, .inr (1, [.ref a, .ref b])), (a, .inl (cI, 256, .inl kf)), (b, .inl (cJ, 256, .inr (.inl vf)))]) (w1 := []) hP hD [] [0, 1, 2] rfl rfl (by decide) (by decide) hk1 hFc hP1 hD1
    have hK := (hK.sub (tys' := [(cI, .int), (cJ, .long)]) [0, 1] rfl).app hK1
    generalize H1 = H at hP hS hce ⊢
    have hP : va_P (dC, dI) vwCl [(h0, .inr (1, [.ref a, .ref b])), (a, .inl (cI, 256, .inl kf)), (b, .inl (cJ, 256, .inr (.inl vf)))] H := hP
    have hD : va_D A [(h0, .inr (1, [.ref a, .ref b])), (a, .inl (cI, 256, .inl kf)), (b, .inl (cJ, 256, .inr (.inl vf)))] := hD
    have hK : va_K (dC, dI) vwCl [(cI, .int), (cJ, .long)] s := hK
    refine vx_widen (k := 1) (n := 6) (Nat.le_of_ble_eq_true rfl) (Nat.le_of_ble_eq_true rfl) ?_
    have hP9 := hP.sub (ws' := [(h0, .inr (1, [.ref a, .ref b])), (a, .inl (cI, 256, .inl kf)), (b, .inl (cJ, 256, .inr (.inl vf)))]) [0, 1, 2] rfl
    have hD9 := hD.sub (ws' := [(h0, .inr (1, [.ref a, .ref b])), (a, .inl (cI, 256, .inl kf)), (b, .inl (cJ, 256, .inr (.inl vf)))]) [0, 1, 2] (by decide) rfl
    have hK9 := hK.sub (tys' := [(cI, .int), (cJ, .long)]) [0, 1] rfl
    exact vx_out (fun x hx => (htb x hx).elim) hlocks hce hcv hcl (fun t9 ht hvm => ⟨(), trivial, ⟨Or.inl ⟨hex.1, fun h => hex.2 h.1⟩, by rw [ht]; exact hP9, va_K.moved hvm hK9, hD9⟩, hS.F ht⟩) hS.2.2 (Nat.le_of_ble_eq_true rfl) (Nat.le_of_ble_eq_true rfl)
  · obtain ⟨hP1, hK1, hD1⟩ := hB
    rw [ht] at hP1
    have h_2 := hw
    have hK1 := va_K.moved hvm.symm hK1
    obtain ⟨hP, hD⟩ := va_join (wr := [(h0, .inr (1, [.ref a, .ref b])), (a, .inl (cI, 256, .inl kf)), (b, .inl (cJ, 256, .inr (.inl vf)))]) (w1 := []) hP hD [] [0, 1, 2] rfl rfl (by decide) (by decide) hk1 hFc hP1 hD1
    have hK := (hK.sub (tys' := [(cI, .int), (cJ, .long)]) [0, 1] rfl).app hK1
    generalize H1 = H at hP hS ⊢
    have hP : va_P (dC, dI) vwCl [(h0, .inr (1, [.ref a, .ref b])), (a, .inl (cI, 256, .inl kf)), (b, .inl (cJ, 256, .inr (.inl vf)))] H := hP
    have hD : va_D A [(h0, .inr (1, [.ref a, .ref b])), (a, .inl (cI, 256, .inl kf)), (b, .inl (cJ, 256, .inr (.inl vf)))] := hD
    have hK : va_K (dC, dI) vwCl [(cI, .int), (cJ, .long)] s := hK
    refine W.widen (k := 1) (n := 6) (Nat.le_of_ble_eq_true rfl) (Nat.le_of_ble_eq_true rfl) ?_
    refine lv_iload hx hb dX1_again_4 (lv_at hl 4 rfl) ?_
    have hPc := hP.sub (ws' := []) [] rfl
    have hDc := hD.sub (ws' := []) [] (by decide) rfl
    have hKc := hK.sub (tys' := []) [] rfl
    have hFc := va_free (wc := []) hD hS hA [] rfl
    refine vx_callv (vx_runS (As := [.int n]) (rest := []) ⟨hx, hb, hml, hown, hts⟩ (qX1_checkTimes l hlt dC dI H.size n) (va_cwS 1 hts gX1_again_X1_checkTimes rfl rfl rfl (by decide +kernel) ⟨Nat.le_of_ble_eq_true rfl, Nat.le_of_ble_eq_true rfl⟩) ⟨fun a U g mk q => by obtain ⟨q0, q1, qP, qK, qD, qE, qZ⟩ := q; exact ⟨q0, q1, qP, va_K.moved (u := U) (U := U.calling g mk a) (Vm.Alike.refl U.vm) qK, qD, ev.same (u := U) rfl qE, ez.moved (U := U.calling g mk a) qZ (Vm.Alike.refl U.vm)⟩, fun U hU hW => ⟨rfl, by rw [hU], by rw [hU]; exact hPc, va_K.moved hW.alike hKc, hDc.weaken (fun _ _ _ _ => trivial), hE.warm hW, by rw [hU]; exact ((hZ.kept hS.2.1).narrow hFc).moved hW.alike⟩⟩ rfl rfl hl.1 rfl (lv_room (Nat.le_of_ble_eq_true rfl)) dX1_again_6 ⟨Nat.le_of_ble_eq_true rfl, Nat.le_of_ble_eq_true rfl⟩) hS (fun q _ h => hFc q h) hFc (fun q _ h => hFc q h) (fun E ce q9 u t9 H1 locs ht hvm hw hB hz1 hk1 hS hce hcv hcl => ?_) (fun u t9 H1 locs ht hvm hw hB hz1 hk1 hS => ?_)
    · obtain ⟨hex, hP1, hK1, hD1⟩ := hB
      rw [ht] at hP1
      have hK1 := va_K.moved hvm.symm hK1
      obtain ⟨hP, hD⟩ := va_join (wr := [(h0, .inr (1, [.ref a, .ref b])), (a, .inl (cI, 256, .inl kf)), (b, .inl (cJ, 256, .inr (.inl vf)))]) (w1 := []) hP hD [] [0, 1, 2] rfl rfl (by decide) (by decide) hk1 hFc hP1 hD1
      have hK := (hK.sub (tys' := [(cI, .int), (cJ, .long)]) [0, 1] rfl).app hK1
      generalize H1 = H at hP hS hce ⊢
      have hP : va_P (dC, dI) vwCl [(h0, .inr (1, [.ref a, .ref b])), (a, .inl (cI, 256, .inl kf)), (b, .inl (cJ, 256, .inr (.inl vf)))] H := hP
      have hD : va_D A [(h0, .inr (1, [.ref a, .ref b])), (a, .inl (cI, 256, .inl kf)), (b, .inl (cJ, 256, .inr (.inl vf)))] := hD
      have hK : va_K (dC, dI) vwCl [(cI, .int), (cJ, .long)] s := hK
      refine vx_widen (k := 2) (n := 12) (Nat.le_of_ble_eq_true rfl) (Nat.le_of_ble_eq_true rfl) ?_
      have hP9 := hP.sub (ws' := [(h0, .inr (1, [.ref a, .ref b])), (a, .inl (cI, 256, .inl kf)), (b, .inl (cJ, 256, .inr (.inl vf)))]) [0, 1, 2] rfl
      have hD9 := hD.sub (ws' := [(h0, .inr (1, [.ref a, .ref b])), (a, .inl (cI, 256, .inl kf)), (b, .inl (cJ, 256, .inr (.inl vf)))]) [0, 1, 2] (by decide) rfl
      have hK9 := hK.sub (tys' := [(cI, .int), (cJ, .long)]) [0, 1] rfl
      exact vx_out (fun x hx => (htb x hx).elim) hlocks hce hcv hcl (fun t9 ht hvm => ⟨(), trivial, ⟨Or.inl ⟨hex.1, fun h => hex.2 h.2⟩, by rw [ht]; exact hP9, va_K.moved hvm hK9, hD9⟩, hS.F ht⟩) hS.2.2 (Nat.le_of_ble_eq_true rfl) (Nat.le_of_ble_eq_true rfl)
    · obtain ⟨hP1, hK1, hD1⟩ := hB
      rw [ht] at hP1
      have h_4 := hw
      have hK1 := va_K.moved hvm.symm hK1
      obtain ⟨hP, hD⟩ := va_join (wr := [(h0, .inr (1, [.ref a, .ref b])), (a, .inl (cI, 256, .inl kf)), (b, .inl (cJ, 256, .inr (.inl vf)))]) (w1 := []) hP hD [] [0, 1, 2] rfl rfl (by decide) (by decide) hk1 hFc hP1 hD1
      have hK := (hK.sub (tys' := [(cI, .int), (cJ, .long)]) [0, 1] rfl).app hK1
      generalize H1 = H at hP hS ⊢
      have hP : va_P (dC, dI) vwCl [(h0, .inr (1, [.ref a, .ref b])), (a, .inl (cI, 256, .inl kf)), (b, .inl (cJ, 256, .inr (.inl vf)))] H := hP
      have hD : va_D A [(h0, .inr (1, [.ref a, .ref b])), (a, .inl (cI, 256, .inl kf)), (b, .inl (cJ, 256, .inr (.inl vf)))] := hD
      have hK : va_K (dC, dI) vwCl [(cI, .int), (cJ, .long)] s := hK
      refine W.widen (k := 2) (n := 12) (Nat.le_of_ble_eq_true rfl) (Nat.le_of_ble_eq_true rfl) ?_
      refine lv_iload_n hx hb dX1_again_9 rfl (lv_at hl 1 rfl) ?_
      refine lv_iload_n hx hb dX1_again_10 rfl (lv_at hl 2 rfl) ?_
      have hPc := hP.sub (ws' := []) [] rfl
      have hDc := hD.sub (ws' := []) [] (by decide) rfl
      have hKc := hK.sub (tys' := []) [] rfl
      have hFc := va_free (wc := []) hD hS hA [] rfl
      refine vx_callv (vx_runS (As := [.int f, .int t]) (rest := []) ⟨hx, hb, hml, hown, hts⟩ (qX1_checkPart l hlt dC dI H.size f t) (va_cwS 2 hts gX1_again_X1_checkPart rfl rfl rfl (by decide +kernel) ⟨Nat.le_of_ble_eq_true rfl, Nat.le_of_ble_eq_true rfl⟩) ⟨fun a U g mk q => by obtain ⟨q0, q1, qP, qK, qD, qE, qZ⟩ := q; exact ⟨q0, q1, qP, va_K.moved (u := U) (U := U.calling g mk a) (Vm.Alike.refl U.vm) qK, qD, ev.same (u := U) rfl qE, ez.moved (U := U.calling g mk a) qZ (Vm.Alike.refl U.vm)⟩, fun U hU hW => ⟨rfl, by rw [hU], by rw [hU]; exact hPc, va_K.moved hW.alike hKc, hDc.weaken (fun _ _ _ _ => trivial), hE.warm hW, by rw [hU]; exact ((hZ.kept hS.2.1).narrow hFc).moved hW.alike⟩⟩ rfl rfl hl.1 rfl (lv_room (Nat.le_of_ble_eq_true rfl)) dX1_again_11 ⟨Nat.le_of_ble_eq_true rfl, Nat.le_of_ble_eq_true rfl⟩) hS (fun q _ h => hFc q h) hFc (fun q _ h => hFc q h) (fun E ce q9 u t9 H1 locs ht hvm hw hB hz1 hk1 hS hce hcv hcl => ?_) (fun u t9 H1 locs ht hvm hw hB hz1 hk1 hS => ?_)
      · obtain ⟨hex, hP1, hK1, hD1⟩ := hB
        rw [ht] at hP1
        have hK1 := va_K.moved hvm.symm hK1
        obtain ⟨hP, hD⟩ := va_join (wr := [(h0, .inr (1, [.ref a, .ref b])), (a, .inl (cI, 256, .inl kf)), (b, .inl (cJ, 256, .inr (.inl vf)))]) (w1 := []) hP hD [] [0, 1, 2] rfl rfl (by decide) (by decide) hk1 hFc hP1 hD1
        have hK := (hK.sub (tys' := [(cI, .int), (cJ, .long)]) [0, 1] rfl).app hK1
        generalize H1 = H at hP hS hce ⊢
        have hP : va_P (dC, dI) vwCl [(h0, .inr (1, [.ref a, .ref b])), (a, .inl (cI, 256, .inl kf)), (b, .inl (cJ, 256, .inr (.inl vf)))] H := hP
        have hD : va_D A [(h0, .inr (1, [.ref a, .ref b])), (a, .inl (cI, 256, .inl kf)), (b, .inl (cJ, 256, .inr (.inl vf)))] := hD
        have hK : va_K (dC, dI) vwCl [(cI, .int), (cJ, .long)] s := hK
        refine vx_widen (k := 3) (n := 18) (Nat.le_of_ble_eq_true rfl) (Nat.le_of_ble_eq_true rfl) ?_
        have hP9 := hP.sub (ws' := [(h0, .inr (1, [.ref a, .ref b])), (a, .inl (cI, 256, .inl kf)), (b, .inl (cJ, 256, .inr (.inl vf)))]) [0, 1, 2] rfl
        have hD9 := hD.sub (ws' := [(h0, .inr (1, [.ref a, .ref b])), (a, .inl (cI, 256, .inl kf)), (b, .inl (cJ, 256, .inr (.inl vf)))]) [0, 1, 2] (by decide) rfl
        have hK9 := hK.sub (tys' := [(cI, .int), (cJ, .long)]) [0, 1] rfl
        exact vx_out (fun x hx => (htb x hx).elim) hlocks hce hcv hcl (fun t9 ht hvm => ⟨(), trivial, ⟨Or.inr ⟨hex.1, ⟨h_2, h_4⟩, hex.2⟩, by rw [ht]; exact hP9, va_K.moved hvm hK9, hD9⟩, hS.F ht⟩) hS.2.2 (Nat.le_of_ble_eq_true rfl) (Nat.le_of_ble_eq_true rfl)
      · obtain ⟨hP1, hK1, hD1⟩ := hB
        rw [ht] at hP1
        have h_6 := hw
        have hK1 := va_K.moved hvm.symm hK1
        obtain ⟨hP, hD⟩ := va_join (wr := [(h0, .inr (1, [.ref a, .ref b])), (a, .inl (cI, 256, .inl kf)), (b, .inl (cJ, 256, .inr (.inl vf)))]) (w1 := []) hP hD [] [0, 1, 2] rfl rfl (by decide) (by decide) hk1 hFc hP1 hD1
        have hK := (hK.sub (tys' := [(cI, .int), (cJ, .long)]) [0, 1] rfl).app hK1
        generalize H1 = H at hP hS ⊢
        have hP : va_P (dC, dI) vwCl [(h0, .inr (1, [.ref a, .ref b])), (a, .inl (cI, 256, .inl kf)), (b, .inl (cJ, 256, .inr (.inl vf)))] H := hP
        have hD : va_D A [(h0, .inr (1, [.ref a, .ref b])), (a, .inl (cI, 256, .inl kf)), (b, .inl (cJ, 256, .inr (.inl vf)))] := hD
        have hK : va_K (dC, dI) vwCl [(cI, .int), (cJ, .long)] s := hK
        refine W.widen (k := 3) (n := 18) (Nat.le_of_ble_eq_true rfl) (Nat.le_of_ble_eq_true rfl) ?_
        refine lv_aload_n hx hb dX1_again_14 rfl (lv_at hl 0 rfl) ?_
        refine lv_iload_n hx hb dX1_again_15 rfl (lv_at hl 1 rfl) ?_
        refine lv_iload_n hx hb dX1_again_16 rfl (lv_at hl 2 rfl) ?_
        have hPc := hP.sub (ws' := [(h0, .inr (1, [.ref a, .ref b])), (a, .inl (cI, 256, .inl kf)), (b, .inl (cJ, 256, .inr (.inl vf)))]) [0, 1, 2] rfl
        have hDc := hD.sub (ws' := [(h0, .inr (1, [.ref a, .ref b])), (a, .inl (cI, 256, .inl kf)), (b, .inl (cJ, 256, .inr (.inl vf)))]) [0, 1, 2] (by decide) rfl
        have hKc := hK.sub (tys' := [(cI, .int), (cJ, .long)]) [0, 1] rfl
        have hFc := va_free (wc := [(h0, .inr (1, [.ref a, .ref b])), (a, .inl (cI, 256, .inl kf)), (b, .inl (cJ, 256, .inr (.inl vf)))]) hD hS hA [0, 1, 2] rfl
        refine va_callr (va_runV (As := [.int f, .int t]) (rest := []) ⟨hx, hb, hml, hown, hts⟩ (qX1_effectOf l hlt dC dI H.size h0 a b cI cJ kf vf f t h_6) (cwV 2 hts gX1_again_X1_effectOf rfl rfl rfl (by decide +kernel) ⟨Nat.le_of_ble_eq_true rfl, Nat.le_of_ble_eq_true rfl⟩) ⟨fun a U g mk q => by obtain ⟨q0, q1, qP, qK, qD, qE, qZ⟩ := q; exact ⟨q0, q1, qP, va_K.moved (u := U) (U := U.calling g mk a) (Vm.Alike.refl U.vm) qK, qD, ev.same (u := U) rfl qE, ez.moved (U := U.calling g mk a) qZ (Vm.Alike.refl U.vm)⟩, va_recv hKc hPc (ci := 1) (q0 := 0) rfl rfl, fun U hU hW => ⟨rfl, by rw [hU], by rw [hU]; exact hPc, va_K.moved hW.alike hKc, hDc.weaken (fun _ _ _ _ => trivial), hE.warm hW, by rw [hU]; exact ((hZ.kept hS.2.1).narrow hFc).moved hW.alike⟩⟩ rfl rfl hl.1 rfl (lv_room (Nat.le_of_ble_eq_true rfl)) dX1_again_17 ⟨Nat.le_of_ble_eq_true rfl, Nat.le_of_ble_eq_true rfl⟩) hS (fun q _ h => hFc q h) hFc (fun u r_7 t9 H1 locs ht hvm hw hB hz1 hk1 hS => ?_)
        obtain ⟨hP1, hK1, hD1⟩ := hB
        rw [ht] at hP1
        obtain rfl := hw
        have hK1 := va_K.moved hvm.symm hK1
        obtain ⟨hP, hD⟩ := va_join (wr := []) (w1 := [(h0, .inr (1, [.ref a, .ref b])), (a, .inl (cI, 256, .inl kf)), (b, .inl (cJ, 256, .inr (.inl vf))), (r_7, .inr (0, [.long ((eW kf vf f t).1), .int ((eW kf vf f t).2.1), .long ((eW kf vf f t).2.2.1), .int ((eW kf vf f t).2.2.2.1), .long ((eW kf vf f t).2.2.2.2)]))]) hP hD [0, 1, 2] [] rfl rfl (by decide) (by decide) hk1 hFc hP1 hD1
        have hK := (hK.sub (tys' := []) [] rfl).app hK1
        generalize H1 = H at hP hS ⊢
        have hP : va_P (dC, dI) vwCl [(h0, .inr (1, [.ref a, .ref b])), (a, .inl (cI, 256, .inl kf)), (b, .inl (cJ, 256, .inr (.inl vf))), (r_7, .inr (0, [.long ((eW kf vf f t).1), .int ((eW kf vf f t).2.1), .long ((eW kf vf f t).2.2.1), .int ((eW kf vf f t).2.2.2.1), .long ((eW kf vf f t).2.2.2.2)]))] H := hP
        have hD : va_D A [(h0, .inr (1, [.ref a, .ref b])), (a, .inl (cI, 256, .inl kf)), (b, .inl (cJ, 256, .inr (.inl vf))), (r_7, .inr (0, [.long ((eW kf vf f t).1), .int ((eW kf vf f t).2.1), .long ((eW kf vf f t).2.2.1), .int ((eW kf vf f t).2.2.2.1), .long ((eW kf vf f t).2.2.2.2)]))] := hD
        have hK : va_K (dC, dI) vwCl [(cI, .int), (cJ, .long)] s := hK
        refine W.widen (k := 4) (n := 23) (Nat.le_of_ble_eq_true rfl) (Nat.le_of_ble_eq_true rfl) ?_
        refine lv_astore (lv' := [(6, .ref r_7), (0, .ref h0), (1, .int f), (2, .int t), (3, .long x), (5, .int n)]) hx hb dX1_again_20 hl (by decide) rfl (fun ls hl => ?_)
        refine lv_lload_n hx hb dX1_again_22 rfl (lv_at hl 4 rfl) ?_
        refine lv_lstore (lv' := [(7, .long x), (6, .ref r_7), (0, .ref h0), (1, .int f), (2, .int t), (3, .long x), (5, .int n)]) hx hb dX1_again_23 hl (by decide) rfl (fun ls hl => ?_)
        refine lv_iconst (v := 0) hx hb dX1_again_25 (by decide) ?_
        refine lv_istore (lv' := [(9, .int 0), (7, .long x), (6, .ref r_7), (0, .ref h0), (1, .int f), (2, .int t), (3, .long x), (5, .int n)]) hx hb dX1_again_26 hl (by decide) rfl (fun ls hl => ?_)
        obtain ⟨n8, hn8, hne, hnc⟩ := okN_nat h_4
        refine lp_up (N := n8) (α := Int64 × Int32) (fun j z9 H locs ls => (z9.2 = nI j) ∧ (z9.1 = e_it (eW kf vf f t) x j) ∧ va_P (dC, dI) vwCl [(h0, .inr (1, [.ref a, .ref b])), (a, .inl (cI, 256, .inl kf)), (b, .inl (cJ, 256, .inr (.inl vf))), (r_7, .inr (0, [.long ((eW kf vf f t).1), .int ((eW kf vf f t).2.1), .long ((eW kf vf f t).2.2.1), .int ((eW kf vf f t).2.2.2.1), .long ((eW kf vf f t).2.2.2.2)]))] H ∧ va_D A [(h0, .inr (1, [.ref a, .ref b])), (a, .inl (cI, 256, .inl kf)), (b, .inl (cJ, 256, .inr (.inl vf))), (r_7, .inr (0, [.long ((eW kf vf f t).1), .int ((eW kf vf f t).2.1), .long ((eW kf vf f t).2.2.1), .int ((eW kf vf f t).2.2.2.1), .long ((eW kf vf f t).2.2.2.2)]))] ∧ va_K (dC, dI) vwCl [(cI, .int), (cJ, .long)] s ∧ va_S A s.heap H locs ∧ lv_has ls 10 [(0, .ref h0), (1, .int f), (2, .int t), (3, .long x), (5, .int n), (6, .ref r_7), (7, .long z9.1), (9, .int z9.2)]) ?_ (x, 0) H _ ls ⟨nI_0.symm, rfl, hP.sub [0, 1, 2, 3] rfl, hD.sub [0, 1, 2, 3] (by decide) rfl, hK.sub [0, 1] rfl, hS, lv_sub hl [3, 4, 5, 6, 7, 2, 1, 0] rfl⟩
        intro j z9 H locs ls hj hI hn
        obtain ⟨y, k⟩ := z9
        try dsimp only at hI
        obtain ⟨hi0, hi1, hP, hD, hK, hS, hl⟩ := hI
        refine lv_iload hx hb dX1_again_28 (lv_at hl 7 rfl) ?_
        refine lv_iload hx hb dX1_again_30 (lv_at hl 4 rfl) ?_
        refine lv_icmp_ge (tgt := 50) hx hb dX1_again_32 (by decide) (fun c_9 => ?_) (fun c_9 => ?_)
        · rw [hne, hi0] at c_9
          have hjn := lp_ge0 hn8 hj c_9
          subst hjn
          refine lv_lload hx hb dX1_again_50 (lv_at hl 6 rfl) ?_
          have hP9 := hP.sub (ws' := [(h0, .inr (1, [.ref a, .ref b])), (a, .inl (cI, 256, .inl kf)), (b, .inl (cJ, 256, .inr (.inl vf)))]) [0, 1, 2] rfl
          have hD9 := hD.sub (ws' := [(h0, .inr (1, [.ref a, .ref b])), (a, .inl (cI, 256, .inl kf)), (b, .inl (cJ, 256, .inr (.inl vf)))]) [0, 1, 2] (by decide) rfl
          have hK9 := hK.sub (tys' := [(cI, .int), (cJ, .long)]) [0, 1] rfl
          refine vx_ret ?_
          refine W.widen (k := 4) (n := 23) (Nat.le_of_ble_eq_true rfl) (Nat.le_of_ble_eq_true rfl) ?_
          exact W.lret (v := y) hx hb hr (fun t9 ht hW => ⟨⟨y, (), rfl, ⟨h_2, h_4, h_6, by rw [hnc]; exact hi1⟩, by rw [ht]; exact hP9, va_K.moved hW.alike hK9, hD9⟩, hS.F ht⟩) hS.2.2 dX1_again_52
        · rw [hne, hi0] at c_9
          have hjn := lp_lt0 hn8 hj c_9
          refine lv_aload hx hb dX1_again_35 (lv_at hl 5 rfl) ?_
          refine lv_lload hx hb dX1_again_37 (lv_at hl 6 rfl) ?_
          have hPc := hP.sub (ws' := [(r_7, .inr (0, [.long ((eW kf vf f t).1), .int ((eW kf vf f t).2.1), .long ((eW kf vf f t).2.2.1), .int ((eW kf vf f t).2.2.2.1), .long ((eW kf vf f t).2.2.2.2)]))]) [3] rfl
          have hDc := hD.sub (ws' := [(r_7, .inr (0, [.long ((eW kf vf f t).1), .int ((eW kf vf f t).2.1), .long ((eW kf vf f t).2.2.1), .int ((eW kf vf f t).2.2.2.1), .long ((eW kf vf f t).2.2.2.2)]))]) [3] (by decide) rfl
          have hKc := hK.sub (tys' := []) [] rfl
          have hFc := va_free (wc := [(r_7, .inr (0, [.long ((eW kf vf f t).1), .int ((eW kf vf f t).2.1), .long ((eW kf vf f t).2.2.1), .int ((eW kf vf f t).2.2.2.1), .long ((eW kf vf f t).2.2.2.2)]))]) hD hS hA [3] rfl
          refine va_calll (va_runV (As := [.long y]) (rest := []) ⟨hx, hb, hml, hown, hts⟩ (qX0_on l dC dI H.size r_7 (eW kf vf f t) y) (cwV 1 hts gX1_again_X0_on rfl rfl rfl (by decide +kernel) ⟨Nat.le_of_ble_eq_true rfl, Nat.le_of_ble_eq_true rfl⟩) ⟨fun a U g mk q => by obtain ⟨q0, q1, qP, qK, qD⟩ := q; exact ⟨q0, q1, qP, va_K.moved (u := U) (U := U.calling g mk a) (Vm.Alike.refl U.vm) qK, qD⟩, va_recv hKc hPc (ci := 0) (q0 := 0) rfl rfl, fun U hU hW => ⟨rfl, by rw [hU], by rw [hU]; exact hPc, va_K.moved hW.alike hKc, hDc.weaken (fun _ _ _ _ => trivial)⟩⟩ rfl rfl hl.1 rfl (lv_room (Nat.le_of_ble_eq_true rfl)) dX1_again_39 ⟨Nat.le_of_ble_eq_true rfl, Nat.le_of_ble_eq_true rfl⟩) hS (fun q _ h => hFc q h) hFc (fun r_10 u t9 H1 locs ht hvm hw hB hz1 hk1 hS => ?_)
          obtain ⟨hP1, hK1, hD1⟩ := hB
          rw [ht] at hP1
          have h_11 := hw
          have hK1 := va_K.moved hvm.symm hK1
          obtain ⟨hP, hD⟩ := va_join (wr := [(h0, .inr (1, [.ref a, .ref b])), (a, .inl (cI, 256, .inl kf)), (b, .inl (cJ, 256, .inr (.inl vf)))]) (w1 := [(r_7, .inr (0, [.long ((eW kf vf f t).1), .int ((eW kf vf f t).2.1), .long ((eW kf vf f t).2.2.1), .int ((eW kf vf f t).2.2.2.1), .long ((eW kf vf f t).2.2.2.2)]))]) hP hD [3] [0, 1, 2] rfl rfl (by decide) (by decide) hk1 hFc hP1 hD1
          have hK := (hK.sub (tys' := [(cI, .int), (cJ, .long)]) [0, 1] rfl).app hK1
          generalize H1 = H at hP hS ⊢
          have hP : va_P (dC, dI) vwCl [(h0, .inr (1, [.ref a, .ref b])), (a, .inl (cI, 256, .inl kf)), (b, .inl (cJ, 256, .inr (.inl vf))), (r_7, .inr (0, [.long ((eW kf vf f t).1), .int ((eW kf vf f t).2.1), .long ((eW kf vf f t).2.2.1), .int ((eW kf vf f t).2.2.2.1), .long ((eW kf vf f t).2.2.2.2)]))] H := hP
          have hD : va_D A [(h0, .inr (1, [.ref a, .ref b])), (a, .inl (cI, 256, .inl kf)), (b, .inl (cJ, 256, .inr (.inl vf))), (r_7, .inr (0, [.long ((eW kf vf f t).1), .int ((eW kf vf f t).2.1), .long ((eW kf vf f t).2.2.1), .int ((eW kf vf f t).2.2.2.1), .long ((eW kf vf f t).2.2.2.2)]))] := hD
          have hK : va_K (dC, dI) vwCl [(cI, .int), (cJ, .long)] s := hK
          refine W.widen (k := 4) (n := 23) (Nat.le_of_ble_eq_true rfl) (Nat.le_of_ble_eq_true rfl) ?_
          refine lv_lstore (lv' := [(7, .long r_10), (0, .ref h0), (1, .int f), (2, .int t), (3, .long x), (5, .int n), (6, .ref r_7), (9, .int k)]) hx hb dX1_again_42 hl (by decide) rfl (fun ls hl => ?_)
          obtain ⟨i_12, ei_12⟩ : ∃ y : Int32, y = k + 1 := ⟨_, rfl⟩
          refine lv_iinc (v := i_12) (lv' := [(9, .int i_12), (7, .long r_10), (0, .ref h0), (1, .int f), (2, .int t), (3, .long x), (5, .int n), (6, .ref r_7)]) hx hb dX1_again_44 hl (k := 7) rfl (by rw [ei_12]; rfl) (by decide) rfl (fun ls hl => ?_)
          refine lv_goto (tgt := 28) hx hb dX1_again_47 (by decide) ?_
          exact hn (by omega) (r_10, i_12) _ _ ls ⟨by rw [ei_12, hi0]; exact nI_1 _, by rw [h_11, hi1]; rfl, hP.sub [0, 1, 2, 3] rfl, hD.sub [0, 1, 2, 3] (by decide) rfl, hK.sub [0, 1] rfl, hS, lv_sub hl [2, 3, 4, 5, 6, 7, 1, 0] rfl⟩

set_option maxRecDepth 20000 in
theorem kX1_least_0 : ∀ w ∈ wsX00, w ∈ wsX1_least := by decide +kernel
set_option maxRecDepth 20000 in
theorem kX1_least_1 : (.classLink RX1 50 "java/lang/UnsupportedOperationException" : Cond) ∈ wsX1_least := by decide +kernel
set_option maxRecDepth 20000 in
theorem kX1_least_2 : (.initialized "java/lang/UnsupportedOperationException" : Cond) ∈ wsX1_least := by decide +kernel
set_option maxRecDepth 20000 in
theorem kX1_least_3 : ∀ w ∈ (vx_atS RX1 54 UOE ups).filter goodWord, w ∈ wsX1_least := by decide +kernel
set_option maxHeartbeats 4000000 in
set_option maxRecDepth 100000 in
theorem qX1_least (l : Launch) (hlt : l.stackTraces = false) (dC : Nat → ClassId) (dI : Nat → Nat → Nat) (sz : Nat) (h0 a b : Nat) (cI cJ : ClassId) (kf : Nat → Int32) (vf : Nat → Int64) (f t : Int32)  : vx_Met l yX1_least wsX1_least ({ frames := 7, cells := 3, slots := 17, locals := 120 }) (va_Pc [.ref h0, .int f, .int t] (fun U => U.heap.size = sz ∧ va_P (dC, dI) vwCl [(h0, .inr (1, [.ref a, .ref b])), (a, .inl (cI, 256, .inl kf)), (b, .inl (cJ, 256, .inr (.inl vf)))] U.heap ∧ va_K (dC, dI) vwCl [(cI, .int), (cJ, .long)] U ∧ va_D (fun _ => True) [(h0, .inr (1, [.ref a, .ref b])), (a, .inl (cI, 256, .inl kf)), (b, .inl (cJ, 256, .inr (.inl vf)))] ∧ ev U ∧ ez (va_A [(h0, .inr (1, [.ref a, .ref b])), (a, .inl (cI, 256, .inl kf)), (b, .inl (cJ, 256, .inr (.inl vf)))] sz) U U.heap)) (va_Ql (fun (r : Int64) (u : Unit) => (okW f t ∧ ¬ (eW kf vf f t).2.1 = 0 ∧ r = (eW kf vf f t).2.2.1)) (fun (u : Unit) (t9 : State) => va_P (dC, dI) vwCl [(h0, .inr (1, [.ref a, .ref b])), (a, .inl (cI, 256, .inl kf)), (b, .inl (cJ, 256, .inr (.inl vf)))] t9.heap ∧ va_K (dC, dI) vwCl [(cI, .int), (cJ, .long)] t9 ∧ va_D (va_A [(h0, .inr (1, [.ref a, .ref b])), (a, .inl (cI, 256, .inl kf)), (b, .inl (cJ, 256, .inr (.inl vf)))] sz) [(h0, .inr (1, [.ref a, .ref b])), (a, .inl (cI, 256, .inl kf)), (b, .inl (cJ, 256, .inr (.inl vf)))]) (va_A [(h0, .inr (1, [.ref a, .ref b])), (a, .inl (cI, 256, .inl kf)), (b, .inl (cJ, 256, .inr (.inl vf)))] sz)) (vx_X (fun _ : Unit => True) (fun (E : String) (_ : Unit) (t9 : State) => ((E = IOB ∧ ¬ okW f t) ∨ (E = UOE ∧ okW f t ∧ (eW kf vf f t).2.1 = 0)) ∧ va_P (dC, dI) vwCl [(h0, .inr (1, [.ref a, .ref b])), (a, .inl (cI, 256, .inl kf)), (b, .inl (cJ, 256, .inr (.inl vf)))] t9.heap ∧ va_K (dC, dI) vwCl [(cI, .int), (cJ, .long)] t9 ∧ va_D (va_A [(h0, .inr (1, [.ref a, .ref b])), (a, .inl (cI, 256, .inl kf)), (b, .inl (cJ, 256, .inr (.inl vf)))] sz) [(h0, .inr (1, [.ref a, .ref b])), (a, .inl (cI, 256, .inl kf)), (b, .inl (cJ, 256, .inr (.inl vf)))]) (va_A [(h0, .inr (1, [.ref a, .ref b])), (a, .inl (cI, 256, .inl kf)), (b, .inl (cJ, 256, .inr (.inl vf)))] sz)) 3 17 (va_A [(h0, .inr (1, [.ref a, .ref b])), (a, .inl (cI, 256, .inl kf)), (b, .inl (cJ, 256, .inr (.inl vf)))] sz) := by
  refine vx_ofW (cc := cX1_least) (maxL := 4) (ret := (some .long)) (by decide) rfl ?_
  intro p e s m args below meth c s₁ B hml htb hv
  obtain ⟨rfl, hsz, hP, hK, hD0, hE, hZ⟩ := hv
  have hx := B.exec
  have hb := B.bytes
  have hr := B.returns
  have hts := atoms_spec (ws := wsX1_least) B.pre
  have hown : s.vm.findClass RX1 = some m.cls := findClass_of_methodNamed B.named
  have hlocks := B.notSynchronized
  subst hsz
  have hD := hD0.self (sz := s.heap.size)
  generalize hAe : va_A [(h0, .inr (1, [.ref a, .ref b])), (a, .inl (cI, 256, .inl kf)), (b, .inl (cJ, 256, .inr (.inl vf)))] s.heap.size = A at hD hZ ⊢
  have hA : ∀ q : Nat, s.heap.size ≤ q → A q := fun q h => by rw [← hAe]; exact Or.inr h
  have hS : va_S A s.heap s.heap [] := va_S.rf
  have hP : va_P (dC, dI) vwCl [(h0, .inr (1, [.ref a, .ref b])), (a, .inl (cI, 256, .inl kf)), (b, .inl (cJ, 256, .inr (.inl vf)))] s.heap := hP
  have hl := lv_entry ([.ref h0, .int f, .int t]) (n := 4) (Nat.le_of_ble_eq_true rfl)
  rw [lg_entry_eq]
  generalize (lg_sl ([.ref h0, .int f, .int t]) ++ List.replicate (4 - (lg_sl ([.ref h0, .int f, .int t])).length) Slot.unset).toArray = ls at hl ⊢
  have hl : lv_has ls 4 [(0, .ref h0), (1, .int f), (2, .int t)] := hl
  refine lv_iload_n hx hb dX1_least_0 rfl (lv_at hl 1 rfl) ?_
  refine lv_iload_n hx hb dX1_least_1 rfl (lv_at hl 2 rfl) ?_
  have hPc := hP.sub (ws' := []) [] rfl
  have hDc := hD.sub (ws' := []) [] (by decide) rfl
  have hKc := hK.sub (tys' := []) [] rfl
  have hFc := va_free (wc := []) hD hS hA [] rfl
  refine vx_callv (vx_runS (As := [.int f, .int t]) (rest := []) ⟨hx, hb, hml, hown, hts⟩ (qX1_checkPart l hlt dC dI s.heap.size f t) (va_cwS 2 hts gX1_least_X1_checkPart rfl rfl rfl (by decide +kernel) ⟨Nat.le_of_ble_eq_true rfl, Nat.le_of_ble_eq_true rfl⟩) ⟨fun a U g mk q => by obtain ⟨q0, q1, qP, qK, qD, qE, qZ⟩ := q; exact ⟨q0, q1, qP, va_K.moved (u := U) (U := U.calling g mk a) (Vm.Alike.refl U.vm) qK, qD, ev.same (u := U) rfl qE, ez.moved (U := U.calling g mk a) qZ (Vm.Alike.refl U.vm)⟩, fun U hU hW => ⟨rfl, by rw [hU], by rw [hU]; exact hPc, va_K.moved hW.alike hKc, hDc.weaken (fun _ _ _ _ => trivial), hE.warm hW, by rw [hU]; exact ((hZ.kept hS.2.1).narrow hFc).moved hW.alike⟩⟩ rfl rfl hl.1 rfl (lv_room (Nat.le_of_ble_eq_true rfl)) dX1_least_2 ⟨Nat.le_of_ble_eq_true rfl, Nat.le_of_ble_eq_true rfl⟩) hS (fun q _ h => hFc q h) hFc (fun q _ h => hFc q h) (fun E ce q9 u t9 H1 locs ht hvm hw hB hz1 hk1 hS hce hcv hcl => ?_) (fun u t9 H1 locs ht hvm hw hB hz1 hk1 hS => ?_)
  · obtain ⟨hex, hP1, hK1, hD1⟩ := hB
    rw [ht] at hP1
    have hK1 := va_K.moved hvm.symm hK1
    obtain ⟨hP, hD⟩ := va_join (wr := [(h0, .inr (1, [.ref a, .ref b])), (a, .inl (cI, 256, .inl kf)), (b, .inl (cJ, 256, .inr (.inl vf)))]) (w1 := []) hP hD [] [0, 1, 2] rfl rfl (by decide) (by decide) hk1 hFc hP1 hD1
    have hK := (hK.sub (tys' := [(cI, .int), (cJ, .long)]) [0, 1] rfl).app hK1
    generalize H1 = H at hP hS hce ⊢
    have hP : va_P (dC, dI) vwCl [(h0, .inr (1, [.ref a, .ref b])), (a, .inl (cI, 256, .inl kf)), (b, .inl (cJ, 256, .inr (.inl vf)))] H := hP
    have hD : va_D A [(h0, .inr (1, [.ref a, .ref b])), (a, .inl (cI, 256, .inl kf)), (b, .inl (cJ, 256, .inr (.inl vf)))] := hD
    have hK : va_K (dC, dI) vwCl [(cI, .int), (cJ, .long)] s := hK
    refine vx_widen (k := 1) (n := 6) (Nat.le_of_ble_eq_true rfl) (Nat.le_of_ble_eq_true rfl) ?_
    have hP9 := hP.sub (ws' := [(h0, .inr (1, [.ref a, .ref b])), (a, .inl (cI, 256, .inl kf)), (b, .inl (cJ, 256, .inr (.inl vf)))]) [0, 1, 2] rfl
    have hD9 := hD.sub (ws' := [(h0, .inr (1, [.ref a, .ref b])), (a, .inl (cI, 256, .inl kf)), (b, .inl (cJ, 256, .inr (.inl vf)))]) [0, 1, 2] (by decide) rfl
    have hK9 := hK.sub (tys' := [(cI, .int), (cJ, .long)]) [0, 1] rfl
    exact vx_out (fun x hx => (htb x hx).elim) hlocks hce hcv hcl (fun t9 ht hvm => ⟨(), trivial, ⟨Or.inl hex, by rw [ht]; exact hP9, va_K.moved hvm hK9, hD9⟩, hS.F ht⟩) hS.2.2 (Nat.le_of_ble_eq_true rfl) (Nat.le_of_ble_eq_true rfl)
  · obtain ⟨hP1, hK1, hD1⟩ := hB
    rw [ht] at hP1
    have h_2 := hw
    have hK1 := va_K.moved hvm.symm hK1
    obtain ⟨hP, hD⟩ := va_join (wr := [(h0, .inr (1, [.ref a, .ref b])), (a, .inl (cI, 256, .inl kf)), (b, .inl (cJ, 256, .inr (.inl vf)))]) (w1 := []) hP hD [] [0, 1, 2] rfl rfl (by decide) (by decide) hk1 hFc hP1 hD1
    have hK := (hK.sub (tys' := [(cI, .int), (cJ, .long)]) [0, 1] rfl).app hK1
    generalize H1 = H at hP hS ⊢
    have hP : va_P (dC, dI) vwCl [(h0, .inr (1, [.ref a, .ref b])), (a, .inl (cI, 256, .inl kf)), (b, .inl (cJ, 256, .inr (.inl vf)))] H := hP
    have hD : va_D A [(h0, .inr (1, [.ref a, .ref b])), (a, .inl (cI, 256, .inl kf)), (b, .inl (cJ, 256, .inr (.inl vf)))] := hD
    have hK : va_K (dC, dI) vwCl [(cI, .int), (cJ, .long)] s := hK
    refine W.widen (k := 1) (n := 6) (Nat.le_of_ble_eq_true rfl) (Nat.le_of_ble_eq_true rfl) ?_
    refine lv_aload_n hx hb dX1_least_5 rfl (lv_at hl 0 rfl) ?_
    refine lv_iload_n hx hb dX1_least_6 rfl (lv_at hl 1 rfl) ?_
    refine lv_iload_n hx hb dX1_least_7 rfl (lv_at hl 2 rfl) ?_
    have hPc := hP.sub (ws' := [(h0, .inr (1, [.ref a, .ref b])), (a, .inl (cI, 256, .inl kf)), (b, .inl (cJ, 256, .inr (.inl vf)))]) [0, 1, 2] rfl
    have hDc := hD.sub (ws' := [(h0, .inr (1, [.ref a, .ref b])), (a, .inl (cI, 256, .inl kf)), (b, .inl (cJ, 256, .inr (.inl vf)))]) [0, 1, 2] (by decide) rfl
    have hKc := hK.sub (tys' := [(cI, .int), (cJ, .long)]) [0, 1] rfl
    have hFc := va_free (wc := [(h0, .inr (1, [.ref a, .ref b])), (a, .inl (cI, 256, .inl kf)), (b, .inl (cJ, 256, .inr (.inl vf)))]) hD hS hA [0, 1, 2] rfl
    refine va_callr (va_runV (As := [.int f, .int t]) (rest := []) ⟨hx, hb, hml, hown, hts⟩ (qX1_effectOf l hlt dC dI H.size h0 a b cI cJ kf vf f t h_2) (cwV 2 hts gX1_least_X1_effectOf rfl rfl rfl (by decide +kernel) ⟨Nat.le_of_ble_eq_true rfl, Nat.le_of_ble_eq_true rfl⟩) ⟨fun a U g mk q => by obtain ⟨q0, q1, qP, qK, qD, qE, qZ⟩ := q; exact ⟨q0, q1, qP, va_K.moved (u := U) (U := U.calling g mk a) (Vm.Alike.refl U.vm) qK, qD, ev.same (u := U) rfl qE, ez.moved (U := U.calling g mk a) qZ (Vm.Alike.refl U.vm)⟩, va_recv hKc hPc (ci := 1) (q0 := 0) rfl rfl, fun U hU hW => ⟨rfl, by rw [hU], by rw [hU]; exact hPc, va_K.moved hW.alike hKc, hDc.weaken (fun _ _ _ _ => trivial), hE.warm hW, by rw [hU]; exact ((hZ.kept hS.2.1).narrow hFc).moved hW.alike⟩⟩ rfl rfl hl.1 rfl (lv_room (Nat.le_of_ble_eq_true rfl)) dX1_least_8 ⟨Nat.le_of_ble_eq_true rfl, Nat.le_of_ble_eq_true rfl⟩) hS (fun q _ h => hFc q h) hFc (fun u r_3 t9 H1 locs ht hvm hw hB hz1 hk1 hS => ?_)
    obtain ⟨hP1, hK1, hD1⟩ := hB
    rw [ht] at hP1
    obtain rfl := hw
    have hK1 := va_K.moved hvm.symm hK1
    obtain ⟨hP, hD⟩ := va_join (wr := []) (w1 := [(h0, .inr (1, [.ref a, .ref b])), (a, .inl (cI, 256, .inl kf)), (b, .inl (cJ, 256, .inr (.inl vf))), (r_3, .inr (0, [.long ((eW kf vf f t).1), .int ((eW kf vf f t).2.1), .long ((eW kf vf f t).2.2.1), .int ((eW kf vf f t).2.2.2.1), .long ((eW kf vf f t).2.2.2.2)]))]) hP hD [0, 1, 2] [] rfl rfl (by decide) (by decide) hk1 hFc hP1 hD1
    have hK := (hK.sub (tys' := []) [] rfl).app hK1
    generalize H1 = H at hP hS ⊢
    have hP : va_P (dC, dI) vwCl [(h0, .inr (1, [.ref a, .ref b])), (a, .inl (cI, 256, .inl kf)), (b, .inl (cJ, 256, .inr (.inl vf))), (r_3, .inr (0, [.long ((eW kf vf f t).1), .int ((eW kf vf f t).2.1), .long ((eW kf vf f t).2.2.1), .int ((eW kf vf f t).2.2.2.1), .long ((eW kf vf f t).2.2.2.2)]))] H := hP
    have hD : va_D A [(h0, .inr (1, [.ref a, .ref b])), (a, .inl (cI, 256, .inl kf)), (b, .inl (cJ, 256, .inr (.inl vf))), (r_3, .inr (0, [.long ((eW kf vf f t).1), .int ((eW kf vf f t).2.1), .long ((eW kf vf f t).2.2.1), .int ((eW kf vf f t).2.2.2.1), .long ((eW kf vf f t).2.2.2.2)]))] := hD
    have hK : va_K (dC, dI) vwCl [(cI, .int), (cJ, .long)] s := hK
    refine W.widen (k := 2) (n := 11) (Nat.le_of_ble_eq_true rfl) (Nat.le_of_ble_eq_true rfl) ?_
    refine lv_astore_n (lv' := [(3, .ref r_3), (0, .ref h0), (1, .int f), (2, .int t)]) hx hb dX1_least_11 rfl hl (by decide) rfl (fun ls hl => ?_)
    refine lv_aload_n hx hb dX1_least_12 rfl (lv_at hl 0 rfl) ?_
    refine va_getN (D := (dC, dI)) (ci := 0) (v := .int ((eW kf vf f t).2.1)) (C := RX0) (T := TX0) (N := 5) hx hb hts kX1_least_0 hown hK hP 3 rfl rfl 1 (by decide) (va_Nw.use rfl (ev_n46 hE)) (fun _ h9 => h9) rfl dX1_least_13 ?_
    refine lv_if_ne (tgt := 29) hx hb dX1_least_16 (by decide) (fun c_5 => ?_) (fun c_5 => ?_)
    · refine lv_aload_n hx hb dX1_least_29 rfl (lv_at hl 0 rfl) ?_
      refine va_getN (D := (dC, dI)) (ci := 0) (v := .long ((eW kf vf f t).2.2.1)) (C := RX0) (T := TX0) (N := 5) hx hb hts kX1_least_0 hown hK hP 3 rfl rfl 2 (by decide) (va_Nw.use rfl (ev_n57 hE)) (fun _ h9 => h9) rfl dX1_least_30 ?_
      have hP9 := hP.sub (ws' := [(h0, .inr (1, [.ref a, .ref b])), (a, .inl (cI, 256, .inl kf)), (b, .inl (cJ, 256, .inr (.inl vf)))]) [0, 1, 2] rfl
      have hD9 := hD.sub (ws' := [(h0, .inr (1, [.ref a, .ref b])), (a, .inl (cI, 256, .inl kf)), (b, .inl (cJ, 256, .inr (.inl vf)))]) [0, 1, 2] (by decide) rfl
      have hK9 := hK.sub (tys' := [(cI, .int), (cJ, .long)]) [0, 1] rfl
      refine vx_ret ?_
      refine W.widen (k := 3) (n := 17) (Nat.le_of_ble_eq_true rfl) (Nat.le_of_ble_eq_true rfl) ?_
      exact W.lret (v := (eW kf vf f t).2.2.1) hx hb hr (fun t9 ht hW => ⟨⟨(eW kf vf f t).2.2.1, (), rfl, ⟨h_2, c_5, rfl⟩, by rw [ht]; exact hP9, va_K.moved hW.alike hK9, hD9⟩, hS.F ht⟩) hS.2.2 dX1_least_33
    · have hP9 := hP.sub (ws' := [(h0, .inr (1, [.ref a, .ref b])), (a, .inl (cI, 256, .inl kf)), (b, .inl (cJ, 256, .inr (.inl vf)))]) [0, 1, 2] rfl
      have hD9 := hD.sub (ws' := [(h0, .inr (1, [.ref a, .ref b])), (a, .inl (cI, 256, .inl kf)), (b, .inl (cJ, 256, .inr (.inl vf)))]) [0, 1, 2] (by decide) rfl
      have hK9 := hK.sub (tys' := [(cI, .int), (cJ, .long)]) [0, 1] rfl
      obtain ⟨sa, hsa⟩ := ev_s52 hE
      refine vx_throwS (A := A) (sa := sa) (text := "there are ever lesser numbers") (names := ups) hx hb hlt hown (by decide +kernel) (by decide +kernel) (hts (.classLink RX1 50 "java/lang/UnsupportedOperationException") kX1_least_1) (hts (.initialized "java/lang/UnsupportedOperationException") kX1_least_2) hsa (ev_at_uoe (fun w hw => hts w (kX1_least_3 w hw)) hE) ev_ot_uoe hZ.1 hZ.2 hS (by rw [hml]; exact hl.1) dX1_least_19 dX1_least_22 dX1_least_23 dX1_least_25 dX1_least_28 (fun x hx => (htb x hx).elim) (Nat.le_of_ble_eq_true rfl) (Nat.le_of_ble_eq_true rfl) (Nat.le_of_ble_eq_true rfl) (Nat.le_of_ble_eq_true rfl) hlocks (fun t9 ht h1 h2 => ⟨(), trivial, ⟨Or.inr ⟨rfl, h_2, c_5⟩, hP9.kept (fun k q hk => h2 q.1 (hP9 k q hk).lt), va_K.moved ht hK9, hD9⟩, ⟨Nat.le_trans hS.1 h1, fun q hq hn => (h2 q (Nat.lt_of_lt_of_le hq hS.1)).trans (hS.2.1 q hq hn)⟩⟩) hS.2.2 (Nat.le_of_ble_eq_true rfl) (Nat.le_of_ble_eq_true rfl)

set_option maxRecDepth 20000 in
theorem kX1_greatest_0 : ∀ w ∈ wsX00, w ∈ wsX1_greatest := by decide +kernel
set_option maxRecDepth 20000 in
theorem kX1_greatest_1 : (.classLink RX1 50 "java/lang/UnsupportedOperationException" : Cond) ∈ wsX1_greatest := by decide +kernel
set_option maxRecDepth 20000 in
theorem kX1_greatest_2 : (.initialized "java/lang/UnsupportedOperationException" : Cond) ∈ wsX1_greatest := by decide +kernel
set_option maxRecDepth 20000 in
theorem kX1_greatest_3 : ∀ w ∈ (vx_atS RX1 54 UOE ups).filter goodWord, w ∈ wsX1_greatest := by decide +kernel
set_option maxHeartbeats 4000000 in
set_option maxRecDepth 100000 in
theorem qX1_greatest (l : Launch) (hlt : l.stackTraces = false) (dC : Nat → ClassId) (dI : Nat → Nat → Nat) (sz : Nat) (h0 a b : Nat) (cI cJ : ClassId) (kf : Nat → Int32) (vf : Nat → Int64) (f t : Int32)  : vx_Met l yX1_greatest wsX1_greatest ({ frames := 7, cells := 3, slots := 17, locals := 120 }) (va_Pc [.ref h0, .int f, .int t] (fun U => U.heap.size = sz ∧ va_P (dC, dI) vwCl [(h0, .inr (1, [.ref a, .ref b])), (a, .inl (cI, 256, .inl kf)), (b, .inl (cJ, 256, .inr (.inl vf)))] U.heap ∧ va_K (dC, dI) vwCl [(cI, .int), (cJ, .long)] U ∧ va_D (fun _ => True) [(h0, .inr (1, [.ref a, .ref b])), (a, .inl (cI, 256, .inl kf)), (b, .inl (cJ, 256, .inr (.inl vf)))] ∧ ev U ∧ ez (va_A [(h0, .inr (1, [.ref a, .ref b])), (a, .inl (cI, 256, .inl kf)), (b, .inl (cJ, 256, .inr (.inl vf)))] sz) U U.heap)) (va_Ql (fun (r : Int64) (u : Unit) => (okW f t ∧ ¬ (eW kf vf f t).2.2.2.1 = 0 ∧ r = (eW kf vf f t).2.2.2.2)) (fun (u : Unit) (t9 : State) => va_P (dC, dI) vwCl [(h0, .inr (1, [.ref a, .ref b])), (a, .inl (cI, 256, .inl kf)), (b, .inl (cJ, 256, .inr (.inl vf)))] t9.heap ∧ va_K (dC, dI) vwCl [(cI, .int), (cJ, .long)] t9 ∧ va_D (va_A [(h0, .inr (1, [.ref a, .ref b])), (a, .inl (cI, 256, .inl kf)), (b, .inl (cJ, 256, .inr (.inl vf)))] sz) [(h0, .inr (1, [.ref a, .ref b])), (a, .inl (cI, 256, .inl kf)), (b, .inl (cJ, 256, .inr (.inl vf)))]) (va_A [(h0, .inr (1, [.ref a, .ref b])), (a, .inl (cI, 256, .inl kf)), (b, .inl (cJ, 256, .inr (.inl vf)))] sz)) (vx_X (fun _ : Unit => True) (fun (E : String) (_ : Unit) (t9 : State) => ((E = IOB ∧ ¬ okW f t) ∨ (E = UOE ∧ okW f t ∧ (eW kf vf f t).2.2.2.1 = 0)) ∧ va_P (dC, dI) vwCl [(h0, .inr (1, [.ref a, .ref b])), (a, .inl (cI, 256, .inl kf)), (b, .inl (cJ, 256, .inr (.inl vf)))] t9.heap ∧ va_K (dC, dI) vwCl [(cI, .int), (cJ, .long)] t9 ∧ va_D (va_A [(h0, .inr (1, [.ref a, .ref b])), (a, .inl (cI, 256, .inl kf)), (b, .inl (cJ, 256, .inr (.inl vf)))] sz) [(h0, .inr (1, [.ref a, .ref b])), (a, .inl (cI, 256, .inl kf)), (b, .inl (cJ, 256, .inr (.inl vf)))]) (va_A [(h0, .inr (1, [.ref a, .ref b])), (a, .inl (cI, 256, .inl kf)), (b, .inl (cJ, 256, .inr (.inl vf)))] sz)) 3 17 (va_A [(h0, .inr (1, [.ref a, .ref b])), (a, .inl (cI, 256, .inl kf)), (b, .inl (cJ, 256, .inr (.inl vf)))] sz) := by
  refine vx_ofW (cc := cX1_greatest) (maxL := 4) (ret := (some .long)) (by decide) rfl ?_
  intro p e s m args below meth c s₁ B hml htb hv
  obtain ⟨rfl, hsz, hP, hK, hD0, hE, hZ⟩ := hv
  have hx := B.exec
  have hb := B.bytes
  have hr := B.returns
  have hts := atoms_spec (ws := wsX1_greatest) B.pre
  have hown : s.vm.findClass RX1 = some m.cls := findClass_of_methodNamed B.named
  have hlocks := B.notSynchronized
  subst hsz
  have hD := hD0.self (sz := s.heap.size)
  generalize hAe : va_A [(h0, .inr (1, [.ref a, .ref b])), (a, .inl (cI, 256, .inl kf)), (b, .inl (cJ, 256, .inr (.inl vf)))] s.heap.size = A at hD hZ ⊢
  have hA : ∀ q : Nat, s.heap.size ≤ q → A q := fun q h => by rw [← hAe]; exact Or.inr h
  have hS : va_S A s.heap s.heap [] := va_S.rf
  have hP : va_P (dC, dI) vwCl [(h0, .inr (1, [.ref a, .ref b])), (a, .inl (cI, 256, .inl kf)), (b, .inl (cJ, 256, .inr (.inl vf)))] s.heap := hP
  have hl := lv_entry ([.ref h0, .int f, .int t]) (n := 4) (Nat.le_of_ble_eq_true rfl)
  rw [lg_entry_eq]
  generalize (lg_sl ([.ref h0, .int f, .int t]) ++ List.replicate (4 - (lg_sl ([.ref h0, .int f, .int t])).length) Slot.unset).toArray = ls at hl ⊢
  have hl : lv_has ls 4 [(0, .ref h0), (1, .int f), (2, .int t)] := hl
  refine lv_iload_n hx hb dX1_greatest_0 rfl (lv_at hl 1 rfl) ?_
  refine lv_iload_n hx hb dX1_greatest_1 rfl (lv_at hl 2 rfl) ?_
  have hPc := hP.sub (ws' := []) [] rfl
  have hDc := hD.sub (ws' := []) [] (by decide) rfl
  have hKc := hK.sub (tys' := []) [] rfl
  have hFc := va_free (wc := []) hD hS hA [] rfl
  refine vx_callv (vx_runS (As := [.int f, .int t]) (rest := []) ⟨hx, hb, hml, hown, hts⟩ (qX1_checkPart l hlt dC dI s.heap.size f t) (va_cwS 2 hts gX1_greatest_X1_checkPart rfl rfl rfl (by decide +kernel) ⟨Nat.le_of_ble_eq_true rfl, Nat.le_of_ble_eq_true rfl⟩) ⟨fun a U g mk q => by obtain ⟨q0, q1, qP, qK, qD, qE, qZ⟩ := q; exact ⟨q0, q1, qP, va_K.moved (u := U) (U := U.calling g mk a) (Vm.Alike.refl U.vm) qK, qD, ev.same (u := U) rfl qE, ez.moved (U := U.calling g mk a) qZ (Vm.Alike.refl U.vm)⟩, fun U hU hW => ⟨rfl, by rw [hU], by rw [hU]; exact hPc, va_K.moved hW.alike hKc, hDc.weaken (fun _ _ _ _ => trivial), hE.warm hW, by rw [hU]; exact ((hZ.kept hS.2.1).narrow hFc).moved hW.alike⟩⟩ rfl rfl hl.1 rfl (lv_room (Nat.le_of_ble_eq_true rfl)) dX1_greatest_2 ⟨Nat.le_of_ble_eq_true rfl, Nat.le_of_ble_eq_true rfl⟩) hS (fun q _ h => hFc q h) hFc (fun q _ h => hFc q h) (fun E ce q9 u t9 H1 locs ht hvm hw hB hz1 hk1 hS hce hcv hcl => ?_) (fun u t9 H1 locs ht hvm hw hB hz1 hk1 hS => ?_)
  · obtain ⟨hex, hP1, hK1, hD1⟩ := hB
    rw [ht] at hP1
    have hK1 := va_K.moved hvm.symm hK1
    obtain ⟨hP, hD⟩ := va_join (wr := [(h0, .inr (1, [.ref a, .ref b])), (a, .inl (cI, 256, .inl kf)), (b, .inl (cJ, 256, .inr (.inl vf)))]) (w1 := []) hP hD [] [0, 1, 2] rfl rfl (by decide) (by decide) hk1 hFc hP1 hD1
    have hK := (hK.sub (tys' := [(cI, .int), (cJ, .long)]) [0, 1] rfl).app hK1
    generalize H1 = H at hP hS hce ⊢
    have hP : va_P (dC, dI) vwCl [(h0, .inr (1, [.ref a, .ref b])), (a, .inl (cI, 256, .inl kf)), (b, .inl (cJ, 256, .inr (.inl vf)))] H := hP
    have hD : va_D A [(h0, .inr (1, [.ref a, .ref b])), (a, .inl (cI, 256, .inl kf)), (b, .inl (cJ, 256, .inr (.inl vf)))] := hD
    have hK : va_K (dC, dI) vwCl [(cI, .int), (cJ, .long)] s := hK
    refine vx_widen (k := 1) (n := 6) (Nat.le_of_ble_eq_true rfl) (Nat.le_of_ble_eq_true rfl) ?_
    have hP9 := hP.sub (ws' := [(h0, .inr (1, [.ref a, .ref b])), (a, .inl (cI, 256, .inl kf)), (b, .inl (cJ, 256, .inr (.inl vf)))]) [0, 1, 2] rfl
    have hD9 := hD.sub (ws' := [(h0, .inr (1, [.ref a, .ref b])), (a, .inl (cI, 256, .inl kf)), (b, .inl (cJ, 256, .inr (.inl vf)))]) [0, 1, 2] (by decide) rfl
    have hK9 := hK.sub (tys' := [(cI, .int), (cJ, .long)]) [0, 1] rfl
    exact vx_out (fun x hx => (htb x hx).elim) hlocks hce hcv hcl (fun t9 ht hvm => ⟨(), trivial, ⟨Or.inl hex, by rw [ht]; exact hP9, va_K.moved hvm hK9, hD9⟩, hS.F ht⟩) hS.2.2 (Nat.le_of_ble_eq_true rfl) (Nat.le_of_ble_eq_true rfl)
  · obtain ⟨hP1, hK1, hD1⟩ := hB
    rw [ht] at hP1
    have h_2 := hw
    have hK1 := va_K.moved hvm.symm hK1
    obtain ⟨hP, hD⟩ := va_join (wr := [(h0, .inr (1, [.ref a, .ref b])), (a, .inl (cI, 256, .inl kf)), (b, .inl (cJ, 256, .inr (.inl vf)))]) (w1 := []) hP hD [] [0, 1, 2] rfl rfl (by decide) (by decide) hk1 hFc hP1 hD1
    have hK := (hK.sub (tys' := [(cI, .int), (cJ, .long)]) [0, 1] rfl).app hK1
    generalize H1 = H at hP hS ⊢
    have hP : va_P (dC, dI) vwCl [(h0, .inr (1, [.ref a, .ref b])), (a, .inl (cI, 256, .inl kf)), (b, .inl (cJ, 256, .inr (.inl vf)))] H := hP
    have hD : va_D A [(h0, .inr (1, [.ref a, .ref b])), (a, .inl (cI, 256, .inl kf)), (b, .inl (cJ, 256, .inr (.inl vf)))] := hD
    have hK : va_K (dC, dI) vwCl [(cI, .int), (cJ, .long)] s := hK
    refine W.widen (k := 1) (n := 6) (Nat.le_of_ble_eq_true rfl) (Nat.le_of_ble_eq_true rfl) ?_
    refine lv_aload_n hx hb dX1_greatest_5 rfl (lv_at hl 0 rfl) ?_
    refine lv_iload_n hx hb dX1_greatest_6 rfl (lv_at hl 1 rfl) ?_
    refine lv_iload_n hx hb dX1_greatest_7 rfl (lv_at hl 2 rfl) ?_
    have hPc := hP.sub (ws' := [(h0, .inr (1, [.ref a, .ref b])), (a, .inl (cI, 256, .inl kf)), (b, .inl (cJ, 256, .inr (.inl vf)))]) [0, 1, 2] rfl
    have hDc := hD.sub (ws' := [(h0, .inr (1, [.ref a, .ref b])), (a, .inl (cI, 256, .inl kf)), (b, .inl (cJ, 256, .inr (.inl vf)))]) [0, 1, 2] (by decide) rfl
    have hKc := hK.sub (tys' := [(cI, .int), (cJ, .long)]) [0, 1] rfl
    have hFc := va_free (wc := [(h0, .inr (1, [.ref a, .ref b])), (a, .inl (cI, 256, .inl kf)), (b, .inl (cJ, 256, .inr (.inl vf)))]) hD hS hA [0, 1, 2] rfl
    refine va_callr (va_runV (As := [.int f, .int t]) (rest := []) ⟨hx, hb, hml, hown, hts⟩ (qX1_effectOf l hlt dC dI H.size h0 a b cI cJ kf vf f t h_2) (cwV 2 hts gX1_greatest_X1_effectOf rfl rfl rfl (by decide +kernel) ⟨Nat.le_of_ble_eq_true rfl, Nat.le_of_ble_eq_true rfl⟩) ⟨fun a U g mk q => by obtain ⟨q0, q1, qP, qK, qD, qE, qZ⟩ := q; exact ⟨q0, q1, qP, va_K.moved (u := U) (U := U.calling g mk a) (Vm.Alike.refl U.vm) qK, qD, ev.same (u := U) rfl qE, ez.moved (U := U.calling g mk a) qZ (Vm.Alike.refl U.vm)⟩, va_recv hKc hPc (ci := 1) (q0 := 0) rfl rfl, fun U hU hW => ⟨rfl, by rw [hU], by rw [hU]; exact hPc, va_K.moved hW.alike hKc, hDc.weaken (fun _ _ _ _ => trivial), hE.warm hW, by rw [hU]; exact ((hZ.kept hS.2.1).narrow hFc).moved hW.alike⟩⟩ rfl rfl hl.1 rfl (lv_room (Nat.le_of_ble_eq_true rfl)) dX1_greatest_8 ⟨Nat.le_of_ble_eq_true rfl, Nat.le_of_ble_eq_true rfl⟩) hS (fun q _ h => hFc q h) hFc (fun u r_3 t9 H1 locs ht hvm hw hB hz1 hk1 hS => ?_)
    obtain ⟨hP1, hK1, hD1⟩ := hB
    rw [ht] at hP1
    obtain rfl := hw
    have hK1 := va_K.moved hvm.symm hK1
    obtain ⟨hP, hD⟩ := va_join (wr := []) (w1 := [(h0, .inr (1, [.ref a, .ref b])), (a, .inl (cI, 256, .inl kf)), (b, .inl (cJ, 256, .inr (.inl vf))), (r_3, .inr (0, [.long ((eW kf vf f t).1), .int ((eW kf vf f t).2.1), .long ((eW kf vf f t).2.2.1), .int ((eW kf vf f t).2.2.2.1), .long ((eW kf vf f t).2.2.2.2)]))]) hP hD [0, 1, 2] [] rfl rfl (by decide) (by decide) hk1 hFc hP1 hD1
    have hK := (hK.sub (tys' := []) [] rfl).app hK1
    generalize H1 = H at hP hS ⊢
    have hP : va_P (dC, dI) vwCl [(h0, .inr (1, [.ref a, .ref b])), (a, .inl (cI, 256, .inl kf)), (b, .inl (cJ, 256, .inr (.inl vf))), (r_3, .inr (0, [.long ((eW kf vf f t).1), .int ((eW kf vf f t).2.1), .long ((eW kf vf f t).2.2.1), .int ((eW kf vf f t).2.2.2.1), .long ((eW kf vf f t).2.2.2.2)]))] H := hP
    have hD : va_D A [(h0, .inr (1, [.ref a, .ref b])), (a, .inl (cI, 256, .inl kf)), (b, .inl (cJ, 256, .inr (.inl vf))), (r_3, .inr (0, [.long ((eW kf vf f t).1), .int ((eW kf vf f t).2.1), .long ((eW kf vf f t).2.2.1), .int ((eW kf vf f t).2.2.2.1), .long ((eW kf vf f t).2.2.2.2)]))] := hD
    have hK : va_K (dC, dI) vwCl [(cI, .int), (cJ, .long)] s := hK
    refine W.widen (k := 2) (n := 11) (Nat.le_of_ble_eq_true rfl) (Nat.le_of_ble_eq_true rfl) ?_
    refine lv_astore_n (lv' := [(3, .ref r_3), (0, .ref h0), (1, .int f), (2, .int t)]) hx hb dX1_greatest_11 rfl hl (by decide) rfl (fun ls hl => ?_)
    refine lv_aload_n hx hb dX1_greatest_12 rfl (lv_at hl 0 rfl) ?_
    refine va_getN (D := (dC, dI)) (ci := 0) (v := .int ((eW kf vf f t).2.2.2.1)) (C := RX0) (T := TX0) (N := 5) hx hb hts kX1_greatest_0 hown hK hP 3 rfl rfl 3 (by decide) (va_Nw.use rfl (ev_n61 hE)) (fun _ h9 => h9) rfl dX1_greatest_13 ?_
    refine lv_if_ne (tgt := 29) hx hb dX1_greatest_16 (by decide) (fun c_5 => ?_) (fun c_5 => ?_)
    · refine lv_aload_n hx hb dX1_greatest_29 rfl (lv_at hl 0 rfl) ?_
      refine va_getN (D := (dC, dI)) (ci := 0) (v := .long ((eW kf vf f t).2.2.2.2)) (C := RX0) (T := TX0) (N := 5) hx hb hts kX1_greatest_0 hown hK hP 3 rfl rfl 4 (by decide) (va_Nw.use rfl (ev_n66 hE)) (fun _ h9 => h9) rfl dX1_greatest_30 ?_
      have hP9 := hP.sub (ws' := [(h0, .inr (1, [.ref a, .ref b])), (a, .inl (cI, 256, .inl kf)), (b, .inl (cJ, 256, .inr (.inl vf)))]) [0, 1, 2] rfl
      have hD9 := hD.sub (ws' := [(h0, .inr (1, [.ref a, .ref b])), (a, .inl (cI, 256, .inl kf)), (b, .inl (cJ, 256, .inr (.inl vf)))]) [0, 1, 2] (by decide) rfl
      have hK9 := hK.sub (tys' := [(cI, .int), (cJ, .long)]) [0, 1] rfl
      refine vx_ret ?_
      refine W.widen (k := 3) (n := 17) (Nat.le_of_ble_eq_true rfl) (Nat.le_of_ble_eq_true rfl) ?_
      exact W.lret (v := (eW kf vf f t).2.2.2.2) hx hb hr (fun t9 ht hW => ⟨⟨(eW kf vf f t).2.2.2.2, (), rfl, ⟨h_2, c_5, rfl⟩, by rw [ht]; exact hP9, va_K.moved hW.alike hK9, hD9⟩, hS.F ht⟩) hS.2.2 dX1_greatest_33
    · have hP9 := hP.sub (ws' := [(h0, .inr (1, [.ref a, .ref b])), (a, .inl (cI, 256, .inl kf)), (b, .inl (cJ, 256, .inr (.inl vf)))]) [0, 1, 2] rfl
      have hD9 := hD.sub (ws' := [(h0, .inr (1, [.ref a, .ref b])), (a, .inl (cI, 256, .inl kf)), (b, .inl (cJ, 256, .inr (.inl vf)))]) [0, 1, 2] (by decide) rfl
      have hK9 := hK.sub (tys' := [(cI, .int), (cJ, .long)]) [0, 1] rfl
      obtain ⟨sa, hsa⟩ := ev_s64 hE
      refine vx_throwS (A := A) (sa := sa) (text := "there are ever greater numbers") (names := ups) hx hb hlt hown (by decide +kernel) (by decide +kernel) (hts (.classLink RX1 50 "java/lang/UnsupportedOperationException") kX1_greatest_1) (hts (.initialized "java/lang/UnsupportedOperationException") kX1_greatest_2) hsa (ev_at_uoe (fun w hw => hts w (kX1_greatest_3 w hw)) hE) ev_ot_uoe hZ.1 hZ.2 hS (by rw [hml]; exact hl.1) dX1_greatest_19 dX1_greatest_22 dX1_greatest_23 dX1_greatest_25 dX1_greatest_28 (fun x hx => (htb x hx).elim) (Nat.le_of_ble_eq_true rfl) (Nat.le_of_ble_eq_true rfl) (Nat.le_of_ble_eq_true rfl) (Nat.le_of_ble_eq_true rfl) hlocks (fun t9 ht h1 h2 => ⟨(), trivial, ⟨Or.inr ⟨rfl, h_2, c_5⟩, hP9.kept (fun k q hk => h2 q.1 (hP9 k q hk).lt), va_K.moved ht hK9, hD9⟩, ⟨Nat.le_trans hS.1 h1, fun q hq hn => (h2 q (Nat.lt_of_lt_of_le hq hS.1)).trans (hS.2.1 q hq hn)⟩⟩) hS.2.2 (Nat.le_of_ble_eq_true rfl) (Nat.le_of_ble_eq_true rfl)
