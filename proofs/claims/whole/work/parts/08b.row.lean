set_option maxRecDepth 20000 in
theorem kX1_effectOf_0 : ∀ w ∈ wsX00, w ∈ wsX1_effectOf := by decide +kernel
set_option maxRecDepth 20000 in
theorem kX1_effectOf_1 : (.classLink RX1 38 RX0 : Cond) ∈ wsX1_effectOf := by decide +kernel
set_option maxRecDepth 20000 in
theorem kX1_effectOf_2 : (.instantiable RX0 5 : Cond) ∈ wsX1_effectOf := by decide +kernel
set_option maxRecDepth 20000 in
theorem kX1_effectOf_3 : (.initialized RX0 : Cond) ∈ wsX1_effectOf := by decide +kernel
set_option maxRecDepth 20000 in
theorem kX1_effectOf_4 : (.instanceMethod yX0_init : Cond) ∈ wsX1_effectOf := by decide +kernel
set_option maxRecDepth 20000 in
theorem kX1_effectOf_5 : ∀ w ∈ wsX10, w ∈ wsX1_effectOf := by decide +kernel
set_option maxRecDepth 20000 in
theorem kX1_effectOf_6 : (.fieldLink RX1 9 "FoldRow" "kinds" "[I" : Cond) ∈ wsX1_effectOf := by decide +kernel
set_option maxRecDepth 20000 in
theorem kX1_effectOf_7 : (.fieldLink RX1 13 "FoldRow" "values" "[J" : Cond) ∈ wsX1_effectOf := by decide +kernel
set_option maxHeartbeats 4000000 in
set_option maxRecDepth 100000 in
theorem qX1_effectOf (l : Launch) (hlt : l.stackTraces = false) (dC : Nat → ClassId) (dI : Nat → Nat → Nat) (sz : Nat) (h0 a b : Nat) (cI cJ : ClassId) (kf : Nat → Int32) (vf : Nat → Int64) (f t : Int32) (hok : okW f t) : Met l yX1_effectOf wsX1_effectOf ({ frames := 3, cells := 1, slots := 5, locals := 90 }) (va_Pc [.ref h0, .int f, .int t] (fun U => U.heap.size = sz ∧ va_P (dC, dI) vwCl [(h0, .inr (1, [.ref a, .ref b])), (a, .inl (cI, 256, .inl kf)), (b, .inl (cJ, 256, .inr (.inl vf)))] U.heap ∧ va_K (dC, dI) vwCl [(cI, .int), (cJ, .long)] U ∧ va_D (fun _ => True) [(h0, .inr (1, [.ref a, .ref b])), (a, .inl (cI, 256, .inl kf)), (b, .inl (cJ, 256, .inr (.inl vf)))] ∧ ev U ∧ ez (va_A [(h0, .inr (1, [.ref a, .ref b])), (a, .inl (cI, 256, .inl kf)), (b, .inl (cJ, 256, .inr (.inl vf)))] sz) U U.heap)) (va_Qr (fun (u : Ef) => u = eW kf vf f t) (fun (u : Ef) (ra : Nat) (t9 : State) => va_P (dC, dI) vwCl [(h0, .inr (1, [.ref a, .ref b])), (a, .inl (cI, 256, .inl kf)), (b, .inl (cJ, 256, .inr (.inl vf))), (ra, .inr (0, [.long u.1, .int u.2.1, .long u.2.2.1, .int u.2.2.2.1, .long u.2.2.2.2]))] t9.heap ∧ va_K (dC, dI) vwCl [(cI, .int), (cJ, .long)] t9 ∧ va_D (va_A [(h0, .inr (1, [.ref a, .ref b])), (a, .inl (cI, 256, .inl kf)), (b, .inl (cJ, 256, .inr (.inl vf)))] sz) [(h0, .inr (1, [.ref a, .ref b])), (a, .inl (cI, 256, .inl kf)), (b, .inl (cJ, 256, .inr (.inl vf))), (ra, .inr (0, [.long u.1, .int u.2.1, .long u.2.2.1, .int u.2.2.2.1, .long u.2.2.2.2]))]) (va_A [(h0, .inr (1, [.ref a, .ref b])), (a, .inl (cI, 256, .inl kf)), (b, .inl (cJ, 256, .inr (.inl vf)))] sz)) 1 5 (va_A [(h0, .inr (1, [.ref a, .ref b])), (a, .inl (cI, 256, .inl kf)), (b, .inl (cJ, 256, .inr (.inl vf)))] sz) := by
  refine Met.ofW (cc := cX1_effectOf) (maxL := 5) (ret := (some (.object "FoldRow$Effect"))) (by decide) rfl ?_
  intro p e s m args below meth c s₁ B hml hv
  obtain ⟨rfl, hsz, hP, hK, hD0, hE, hZ⟩ := hv
  have hx := B.exec
  have hb := B.bytes
  have hr := B.returns
  have hts := atoms_spec (ws := wsX1_effectOf) B.pre
  have hown : s.vm.findClass RX1 = some m.cls := findClass_of_methodNamed B.named
  have hlocks := B.notSynchronized
  subst hsz
  have hD := hD0.self (sz := s.heap.size)
  generalize hAe : va_A [(h0, .inr (1, [.ref a, .ref b])), (a, .inl (cI, 256, .inl kf)), (b, .inl (cJ, 256, .inr (.inl vf)))] s.heap.size = A at hD hZ ⊢
  have hA : ∀ q : Nat, s.heap.size ≤ q → A q := fun q h => by rw [← hAe]; exact Or.inr h
  have hS : va_S A s.heap s.heap [] := va_S.rf
  have hP : va_P (dC, dI) vwCl [(h0, .inr (1, [.ref a, .ref b])), (a, .inl (cI, 256, .inl kf)), (b, .inl (cJ, 256, .inr (.inl vf)))] s.heap := hP
  have hl := lv_entry ([.ref h0, .int f, .int t]) (n := 5) (Nat.le_of_ble_eq_true rfl)
  rw [lg_entry_eq]
  generalize (lg_sl ([.ref h0, .int f, .int t]) ++ List.replicate (5 - (lg_sl ([.ref h0, .int f, .int t])).length) Slot.unset).toArray = ls at hl ⊢
  have hl : lv_has ls 5 [(0, .ref h0), (1, .int f), (2, .int t)] := hl
  obtain ⟨a9, n9, han, hfe, hte, hfa, hln⟩ := okW_nat hok
  refine va_new (ci := 0) (fs := [.long 0, .int 0, .long 0, .int 0, .long 0]) (C := RX0) (T := TX0) (N := 5) hx hb hts kX1_effectOf_0 tyX0 tyX0_ok hown (hts (.classLink RX1 38 RX0) kX1_effectOf_1) (hts (.instantiable RX0 5) kX1_effectOf_2) (hts (.initialized RX0) kX1_effectOf_3) hK hP hD hS hA rfl (fun j hj => by rcases (show j = 0 ∨ j = 1 ∨ j = 2 ∨ j = 3 ∨ j = 4 by omega) with rfl | rfl | rfl | rfl | rfl <;> rfl) (Nat.le_of_ble_eq_true rfl) (Nat.le_of_ble_eq_true rfl) dX1_effectOf_0 (fun q_1 H hP hD hS => ?_)
  have hP : va_P (dC, dI) vwCl [(h0, .inr (1, [.ref a, .ref b])), (a, .inl (cI, 256, .inl kf)), (b, .inl (cJ, 256, .inr (.inl vf))), (q_1, .inr (0, [.long 0, .int 0, .long 0, .int 0, .long 0]))] H := hP
  have hD : va_D A [(h0, .inr (1, [.ref a, .ref b])), (a, .inl (cI, 256, .inl kf)), (b, .inl (cJ, 256, .inr (.inl vf))), (q_1, .inr (0, [.long 0, .int 0, .long 0, .int 0, .long 0]))] := hD
  refine W.widen (k := 1) (n := 5) (Nat.le_of_ble_eq_true rfl) (Nat.le_of_ble_eq_true rfl) ?_
  refine lv_dup hx hb dX1_effectOf_3 rfl ?_
  have hPc := hP.sub (ws' := [(q_1, .inr (0, [.long 0, .int 0, .long 0, .int 0, .long 0]))]) [3] rfl
  have hDc := hD.sub (ws' := [(q_1, .inr (0, [.long 0, .int 0, .long 0, .int 0, .long 0]))]) [3] (by decide) rfl
  have hKc := hK.sub (tys' := []) [] rfl
  have hFc := va_free (wc := [(q_1, .inr (0, [.long 0, .int 0, .long 0, .int 0, .long 0]))]) hD hS hA [3] rfl
  refine va_callv (va_runIN (As := []) (rest := [.ref q_1]) ⟨hx, hb, hml, hown, hts⟩ (qX0_init l dC dI H.size q_1) ⟨va_cnB 0 hts gX1_effectOf_X0_init_n89 rfl rfl rfl (ev_m89 hE) (hts (.initialized RX0) kX1_effectOf_3) (by decide +kernel) ⟨Nat.le_of_ble_eq_true rfl, Nat.le_of_ble_eq_true rfl⟩, rfl, (hts (.instanceMethod yX0_init) kX1_effectOf_4)⟩ ⟨fun a U g mk q => by obtain ⟨q0, q1, qP, qK, qD⟩ := q; exact ⟨q0, q1, qP, va_K.moved (u := U) (U := U.calling g mk a) (Vm.Alike.refl U.vm) qK, qD⟩, fun U hU hW => ⟨rfl, by rw [hU], by rw [hU]; exact hPc, va_K.moved hW.alike hKc, hDc.weaken (fun _ _ _ _ => trivial)⟩⟩ rfl rfl hl.1 rfl (lv_room (Nat.le_of_ble_eq_true rfl)) dX1_effectOf_4 ⟨Nat.le_of_ble_eq_true rfl, Nat.le_of_ble_eq_true rfl⟩) hS (fun q _ h => hFc q h) hFc (fun u t9 H1 locs ht hvm hw hB hz1 hk1 hS => ?_)
  obtain ⟨hP1, hK1, hD1⟩ := hB
  rw [ht] at hP1
  obtain rfl := hw
  have hK1 := va_K.moved hvm.symm hK1
  obtain ⟨hP, hD⟩ := va_join (wr := [(h0, .inr (1, [.ref a, .ref b])), (a, .inl (cI, 256, .inl kf)), (b, .inl (cJ, 256, .inr (.inl vf)))]) (w1 := [(q_1, .inr (0, [.long e_0.1, .int e_0.2.1, .long e_0.2.2.1, .int e_0.2.2.2.1, .long e_0.2.2.2.2]))]) hP hD [3] [0, 1, 2] rfl rfl (by decide) (by decide) hk1 hFc hP1 hD1
  have hK := (hK.sub (tys' := [(cI, .int), (cJ, .long)]) [0, 1] rfl).app hK1
  generalize H1 = H at hP hS ⊢
  have hP : va_P (dC, dI) vwCl [(h0, .inr (1, [.ref a, .ref b])), (a, .inl (cI, 256, .inl kf)), (b, .inl (cJ, 256, .inr (.inl vf))), (q_1, .inr (0, [.long e_0.1, .int e_0.2.1, .long e_0.2.2.1, .int e_0.2.2.2.1, .long e_0.2.2.2.2]))] H := hP
  have hD : va_D A [(h0, .inr (1, [.ref a, .ref b])), (a, .inl (cI, 256, .inl kf)), (b, .inl (cJ, 256, .inr (.inl vf))), (q_1, .inr (0, [.long e_0.1, .int e_0.2.1, .long e_0.2.2.1, .int e_0.2.2.2.1, .long e_0.2.2.2.2]))] := hD
  have hK : va_K (dC, dI) vwCl [(cI, .int), (cJ, .long)] s := hK
  refine W.widen (k := 1) (n := 5) (Nat.le_of_ble_eq_true rfl) (Nat.le_of_ble_eq_true rfl) ?_
  refine lv_astore_n (lv' := [(3, .ref q_1), (0, .ref h0), (1, .int f), (2, .int t)]) hx hb dX1_effectOf_7 rfl hl (by decide) rfl (fun ls hl => ?_)
  refine lv_iload_n hx hb dX1_effectOf_8 rfl (lv_at hl 2 rfl) ?_
  refine lv_istore (lv' := [(4, .int f), (3, .ref q_1), (0, .ref h0), (1, .int f), (2, .int t)]) hx hb dX1_effectOf_9 hl (by decide) rfl (fun ls hl => ?_)
  refine lp_up (N := n9) (α := Int32) (fun j z9 H locs ls => (z9 = nI (a9 + j)) ∧ va_P (dC, dI) vwCl [(h0, .inr (1, [.ref a, .ref b])), (a, .inl (cI, 256, .inl kf)), (b, .inl (cJ, 256, .inr (.inl vf))), (q_1, .inr (0, [.long ((e_of kf vf a9 j).1), .int ((e_of kf vf a9 j).2.1), .long ((e_of kf vf a9 j).2.2.1), .int ((e_of kf vf a9 j).2.2.2.1), .long ((e_of kf vf a9 j).2.2.2.2)]))] H ∧ va_D A [(h0, .inr (1, [.ref a, .ref b])), (a, .inl (cI, 256, .inl kf)), (b, .inl (cJ, 256, .inr (.inl vf))), (q_1, .inr (0, [.long ((e_of kf vf a9 j).1), .int ((e_of kf vf a9 j).2.1), .long ((e_of kf vf a9 j).2.2.1), .int ((e_of kf vf a9 j).2.2.2.1), .long ((e_of kf vf a9 j).2.2.2.2)]))] ∧ va_K (dC, dI) vwCl [(cI, .int), (cJ, .long)] s ∧ va_S A s.heap H locs ∧ lv_has ls 5 [(0, .ref h0), (1, .int f), (2, .int t), (3, .ref q_1), (4, .int z9)]) ?_ (f) H _ ls ⟨hfe, hP.sub [0, 1, 2, 3] rfl, hD.sub [0, 1, 2, 3] (by decide) rfl, hK.sub [0, 1] rfl, hS, lv_sub hl [2, 3, 4, 1, 0] rfl⟩
  intro j z9 H locs ls hj hI hn
  obtain ⟨k, rfl⟩ : ∃ z, z = z9 := ⟨_, rfl⟩
  try dsimp only at hI
  obtain ⟨hi0, hP, hD, hK, hS, hl⟩ := hI
  have hkc : k.toNatClampNeg = a9 + j := by rw [hi0]; exact nI_clamp (by omega)
  refine lv_iload hx hb dX1_effectOf_11 (lv_at hl 4 rfl) ?_
  refine lv_iload_n hx hb dX1_effectOf_13 rfl (lv_at hl 2 rfl) ?_
  refine lv_icmp_ge (tgt := 41) hx hb dX1_effectOf_14 (by decide) (fun c_4 => ?_) (fun c_4 => ?_)
  · rw [hte, hi0] at c_4
    have hjn := lp_ge han hj c_4
    subst hjn
    refine lv_aload_n hx hb dX1_effectOf_41 rfl (lv_at hl 3 rfl) ?_
    have hP9 := hP.sub (ws' := [(h0, .inr (1, [.ref a, .ref b])), (a, .inl (cI, 256, .inl kf)), (b, .inl (cJ, 256, .inr (.inl vf))), (q_1, .inr (0, [.long ((e_of kf vf a9 j).1), .int ((e_of kf vf a9 j).2.1), .long ((e_of kf vf a9 j).2.2.1), .int ((e_of kf vf a9 j).2.2.2.1), .long ((e_of kf vf a9 j).2.2.2.2)]))]) [0, 1, 2, 3] rfl
    have hD9 := hD.sub (ws' := [(h0, .inr (1, [.ref a, .ref b])), (a, .inl (cI, 256, .inl kf)), (b, .inl (cJ, 256, .inr (.inl vf))), (q_1, .inr (0, [.long ((e_of kf vf a9 j).1), .int ((e_of kf vf a9 j).2.1), .long ((e_of kf vf a9 j).2.2.1), .int ((e_of kf vf a9 j).2.2.2.1), .long ((e_of kf vf a9 j).2.2.2.2)]))]) [0, 1, 2, 3] (by decide) rfl
    have hK9 := hK.sub (tys' := [(cI, .int), (cJ, .long)]) [0, 1] rfl
    refine W.widen (k := 1) (n := 5) (Nat.le_of_ble_eq_true rfl) (Nat.le_of_ble_eq_true rfl) ?_
    exact W.aret (v := .ref q_1) hx hb hr (Or.inl ⟨_, rfl⟩) (Or.inr ⟨_, rfl⟩) (fun t9 ht hW => ⟨⟨(e_of kf vf a9 j), q_1, rfl, by show _ = e_of kf vf _ _; rw [hfa, hln], by rw [ht]; exact hP9, va_K.moved hW.alike hK9, hD9⟩, hS.F ht⟩) hS.2.2 dX1_effectOf_42
  · rw [hte, hi0] at c_4
    have hjn := lp_lt han hj c_4
    refine lv_aload_n hx hb dX1_effectOf_17 rfl (lv_at hl 3 rfl) ?_
    refine lv_aload_n hx hb dX1_effectOf_18 rfl (lv_at hl 0 rfl) ?_
    refine va_get (D := (dC, dI)) (ci := 1) (v := .ref a) (C := RX1) (T := TX1) (N := 2) hx hb hts kX1_effectOf_5 hown hK hP 0 rfl rfl 0 (by decide) (hts (.fieldLink RX1 9 "FoldRow" "kinds" "[I") kX1_effectOf_6) (fun _ h9 => h9) rfl dX1_effectOf_19 ?_
    refine lv_iload hx hb dX1_effectOf_22 (lv_at hl 4 rfl) ?_
    refine va_iald hx hb hK hP 1 0 rfl rfl (by rw [hi0]; exact vp_in_nI (by omega) (by omega)) dX1_effectOf_24 ?_
    refine lv_topi (fun v_5 ev_5 => ?_)
    refine lv_aload_n hx hb dX1_effectOf_25 rfl (lv_at hl 0 rfl) ?_
    refine va_get (D := (dC, dI)) (ci := 1) (v := .ref b) (C := RX1) (T := TX1) (N := 2) hx hb hts kX1_effectOf_5 hown hK hP 0 rfl rfl 1 (by decide) (hts (.fieldLink RX1 13 "FoldRow" "values" "[J") kX1_effectOf_7) (fun _ h9 => h9) rfl dX1_effectOf_26 ?_
    refine lv_iload hx hb dX1_effectOf_29 (lv_at hl 4 rfl) ?_
    refine va_lald hx hb hK hP 2 1 rfl rfl (by rw [hi0]; exact vp_in_nI (by omega) (by omega)) dX1_effectOf_31 ?_
    refine lv_topl (fun v_6 ev_6 => ?_)
    have hPc := hP.sub (ws' := [(q_1, .inr (0, [.long ((e_of kf vf a9 j).1), .int ((e_of kf vf a9 j).2.1), .long ((e_of kf vf a9 j).2.2.1), .int ((e_of kf vf a9 j).2.2.2.1), .long ((e_of kf vf a9 j).2.2.2.2)]))]) [3] rfl
    have hDc := hD.sub (ws' := [(q_1, .inr (0, [.long ((e_of kf vf a9 j).1), .int ((e_of kf vf a9 j).2.1), .long ((e_of kf vf a9 j).2.2.1), .int ((e_of kf vf a9 j).2.2.2.1), .long ((e_of kf vf a9 j).2.2.2.2)]))]) [3] (by decide) rfl
    have hKc := hK.sub (tys' := []) [] rfl
    have hFc := va_free (wc := [(q_1, .inr (0, [.long ((e_of kf vf a9 j).1), .int ((e_of kf vf a9 j).2.1), .long ((e_of kf vf a9 j).2.2.1), .int ((e_of kf vf a9 j).2.2.2.1), .long ((e_of kf vf a9 j).2.2.2.2)]))]) hD hS hA [3] rfl
    refine va_callv (va_runV (As := [.int v_5, .long v_6]) (rest := []) ⟨hx, hb, hml, hown, hts⟩ (qX0_then l dC dI H.size q_1 (e_of kf vf a9 j) v_5 v_6) (cwV 2 hts gX1_effectOf_X0_then rfl rfl rfl (by decide +kernel) ⟨Nat.le_of_ble_eq_true rfl, Nat.le_of_ble_eq_true rfl⟩) ⟨fun a U g mk q => by obtain ⟨q0, q1, qP, qK, qD⟩ := q; exact ⟨q0, q1, qP, va_K.moved (u := U) (U := U.calling g mk a) (Vm.Alike.refl U.vm) qK, qD⟩, va_recv hKc hPc (ci := 0) (q0 := 0) rfl rfl, fun U hU hW => ⟨rfl, by rw [hU], by rw [hU]; exact hPc, va_K.moved hW.alike hKc, hDc.weaken (fun _ _ _ _ => trivial)⟩⟩ rfl rfl hl.1 rfl (lv_room (Nat.le_of_ble_eq_true rfl)) dX1_effectOf_32 ⟨Nat.le_of_ble_eq_true rfl, Nat.le_of_ble_eq_true rfl⟩) hS (fun q _ h => hFc q h) hFc (fun u t9 H1 locs ht hvm hw hB hz1 hk1 hS => ?_)
    obtain ⟨hP1, hK1, hD1⟩ := hB
    rw [ht] at hP1
    obtain rfl := hw
    have hK1 := va_K.moved hvm.symm hK1
    obtain ⟨hP, hD⟩ := va_join (wr := [(h0, .inr (1, [.ref a, .ref b])), (a, .inl (cI, 256, .inl kf)), (b, .inl (cJ, 256, .inr (.inl vf)))]) (w1 := [(q_1, .inr (0, [.long ((e_th v_5 v_6 (e_of kf vf a9 j)).1), .int ((e_th v_5 v_6 (e_of kf vf a9 j)).2.1), .long ((e_th v_5 v_6 (e_of kf vf a9 j)).2.2.1), .int ((e_th v_5 v_6 (e_of kf vf a9 j)).2.2.2.1), .long ((e_th v_5 v_6 (e_of kf vf a9 j)).2.2.2.2)]))]) hP hD [3] [0, 1, 2] rfl rfl (by decide) (by decide) hk1 hFc hP1 hD1
    have hK := (hK.sub (tys' := [(cI, .int), (cJ, .long)]) [0, 1] rfl).app hK1
    generalize H1 = H at hP hS ⊢
    have hP : va_P (dC, dI) vwCl [(h0, .inr (1, [.ref a, .ref b])), (a, .inl (cI, 256, .inl kf)), (b, .inl (cJ, 256, .inr (.inl vf))), (q_1, .inr (0, [.long ((e_th v_5 v_6 (e_of kf vf a9 j)).1), .int ((e_th v_5 v_6 (e_of kf vf a9 j)).2.1), .long ((e_th v_5 v_6 (e_of kf vf a9 j)).2.2.1), .int ((e_th v_5 v_6 (e_of kf vf a9 j)).2.2.2.1), .long ((e_th v_5 v_6 (e_of kf vf a9 j)).2.2.2.2)]))] H := hP
    have hD : va_D A [(h0, .inr (1, [.ref a, .ref b])), (a, .inl (cI, 256, .inl kf)), (b, .inl (cJ, 256, .inr (.inl vf))), (q_1, .inr (0, [.long ((e_th v_5 v_6 (e_of kf vf a9 j)).1), .int ((e_th v_5 v_6 (e_of kf vf a9 j)).2.1), .long ((e_th v_5 v_6 (e_of kf vf a9 j)).2.2.1), .int ((e_th v_5 v_6 (e_of kf vf a9 j)).2.2.2.1), .long ((e_th v_5 v_6 (e_of kf vf a9 j)).2.2.2.2)]))] := hD
    have hK : va_K (dC, dI) vwCl [(cI, .int), (cJ, .long)] s := hK
    refine W.widen (k := 1) (n := 5) (Nat.le_of_ble_eq_true rfl) (Nat.le_of_ble_eq_true rfl) ?_
    obtain ⟨i_9, ei_9⟩ : ∃ y : Int32, y = k + 1 := ⟨_, rfl⟩
    refine lv_iinc (v := i_9) (lv' := [(4, .int i_9), (0, .ref h0), (1, .int f), (2, .int t), (3, .ref q_1)]) hx hb dX1_effectOf_35 hl (k := 4) rfl (by rw [ei_9]; rfl) (by decide) rfl (fun ls hl => ?_)
    refine lv_goto (tgt := 11) hx hb dX1_effectOf_38 (by decide) ?_
    have hst : (e_th v_5 v_6 (e_of kf vf a9 j)) = e_of kf vf a9 (j + 1) := by rw [ev_5, ev_6, hkc]; rfl
    rw [hst] at hP hD
    exact hn (by omega) (i_9) _ _ ls ⟨by rw [ei_9, hi0]; exact nI_1 _, hP.sub [0, 1, 2, 3] rfl, hD.sub [0, 1, 2, 3] (by decide) rfl, hK.sub [0, 1] rfl, hS, lv_sub hl [1, 2, 3, 4, 0] rfl⟩

set_option maxRecDepth 20000 in
theorem kX1_countBusy_0 : ∀ w ∈ wsX10, w ∈ wsX1_countBusy := by decide +kernel
set_option maxRecDepth 20000 in
theorem kX1_countBusy_1 : (.fieldLink RX1 9 "FoldRow" "kinds" "[I" : Cond) ∈ wsX1_countBusy := by decide +kernel
set_option maxHeartbeats 4000000 in
set_option maxRecDepth 100000 in
theorem qX1_countBusy (l : Launch) (dC : Nat → ClassId) (dI : Nat → Nat → Nat) (sz : Nat) (h0 a b : Nat) (cI cJ : ClassId) (kf : Nat → Int32) (vf : Nat → Int64) (f t : Int32) (hok : okW f t) : Met l yX1_countBusy wsX1_countBusy ({ frames := 0, cells := 0, slots := 0, locals := 0 }) (va_Pc [.ref h0, .int f, .int t] (fun U => U.heap.size = sz ∧ va_P (dC, dI) vwCl [(h0, .inr (1, [.ref a, .ref b])), (a, .inl (cI, 256, .inl kf)), (b, .inl (cJ, 256, .inr (.inl vf)))] U.heap ∧ va_K (dC, dI) vwCl [(cI, .int), (cJ, .long)] U ∧ va_D (fun _ => True) [(h0, .inr (1, [.ref a, .ref b])), (a, .inl (cI, 256, .inl kf)), (b, .inl (cJ, 256, .inr (.inl vf)))])) (va_Qi (fun (r : Int32) (u : Unit) => (r = c_of kf f.toNatClampNeg (ln f t))) (fun (u : Unit) (t9 : State) => va_P (dC, dI) vwCl [(h0, .inr (1, [.ref a, .ref b])), (a, .inl (cI, 256, .inl kf)), (b, .inl (cJ, 256, .inr (.inl vf)))] t9.heap ∧ va_K (dC, dI) vwCl [(cI, .int), (cJ, .long)] t9 ∧ va_D (va_A [(h0, .inr (1, [.ref a, .ref b])), (a, .inl (cI, 256, .inl kf)), (b, .inl (cJ, 256, .inr (.inl vf)))] sz) [(h0, .inr (1, [.ref a, .ref b])), (a, .inl (cI, 256, .inl kf)), (b, .inl (cJ, 256, .inr (.inl vf)))]) (va_A [(h0, .inr (1, [.ref a, .ref b])), (a, .inl (cI, 256, .inl kf)), (b, .inl (cJ, 256, .inr (.inl vf)))] sz)) 0 0 (va_A [(h0, .inr (1, [.ref a, .ref b])), (a, .inl (cI, 256, .inl kf)), (b, .inl (cJ, 256, .inr (.inl vf)))] sz) := by
  refine Met.ofW (cc := cX1_countBusy) (maxL := 5) (ret := (some .int)) (by decide) rfl ?_
  intro p e s m args below meth c s₁ B hml hv
  obtain ⟨rfl, hsz, hP, hK, hD0⟩ := hv
  have hx := B.exec
  have hb := B.bytes
  have hr := B.returns
  have hts := atoms_spec (ws := wsX1_countBusy) B.pre
  have hown : s.vm.findClass RX1 = some m.cls := findClass_of_methodNamed B.named
  have hlocks := B.notSynchronized
  subst hsz
  have hD := hD0.self (sz := s.heap.size)
  generalize hAe : va_A [(h0, .inr (1, [.ref a, .ref b])), (a, .inl (cI, 256, .inl kf)), (b, .inl (cJ, 256, .inr (.inl vf)))] s.heap.size = A at hD ⊢
  have hA : ∀ q : Nat, s.heap.size ≤ q → A q := fun q h => by rw [← hAe]; exact Or.inr h
  have hS : va_S A s.heap s.heap [] := va_S.rf
  have hP : va_P (dC, dI) vwCl [(h0, .inr (1, [.ref a, .ref b])), (a, .inl (cI, 256, .inl kf)), (b, .inl (cJ, 256, .inr (.inl vf)))] s.heap := hP
  have hl := lv_entry ([.ref h0, .int f, .int t]) (n := 5) (Nat.le_of_ble_eq_true rfl)
  rw [lg_entry_eq]
  generalize (lg_sl ([.ref h0, .int f, .int t]) ++ List.replicate (5 - (lg_sl ([.ref h0, .int f, .int t])).length) Slot.unset).toArray = ls at hl ⊢
  have hl : lv_has ls 5 [(0, .ref h0), (1, .int f), (2, .int t)] := hl
  obtain ⟨a9, n9, han, hfe, hte, hfa, hln⟩ := okW_nat hok
  refine lv_iconst (v := 0) hx hb dX1_countBusy_0 (by decide) ?_
  refine lv_istore_n (lv' := [(3, .int 0), (0, .ref h0), (1, .int f), (2, .int t)]) hx hb dX1_countBusy_1 rfl hl (by decide) rfl (fun ls hl => ?_)
  refine lv_iload_n hx hb dX1_countBusy_2 rfl (lv_at hl 2 rfl) ?_
  refine lv_istore (lv' := [(4, .int f), (3, .int 0), (0, .ref h0), (1, .int f), (2, .int t)]) hx hb dX1_countBusy_3 hl (by decide) rfl (fun ls hl => ?_)
  refine lp_up (N := n9) (α := Int32 × Int32) (fun j z9 H locs ls => (z9.2 = nI (a9 + j)) ∧ (z9.1 = c_of kf a9 j) ∧ va_P (dC, dI) vwCl [(h0, .inr (1, [.ref a, .ref b])), (a, .inl (cI, 256, .inl kf)), (b, .inl (cJ, 256, .inr (.inl vf)))] H ∧ va_D A [(h0, .inr (1, [.ref a, .ref b])), (a, .inl (cI, 256, .inl kf)), (b, .inl (cJ, 256, .inr (.inl vf)))] ∧ va_K (dC, dI) vwCl [(cI, .int), (cJ, .long)] s ∧ va_S A s.heap H locs ∧ lv_has ls 5 [(0, .ref h0), (1, .int f), (2, .int t), (3, .int z9.1), (4, .int z9.2)]) ?_ (0, f) s.heap _ ls ⟨hfe, rfl, hP.sub [0, 1, 2] rfl, hD.sub [0, 1, 2] (by decide) rfl, hK.sub [0, 1] rfl, hS, lv_sub hl [2, 3, 4, 1, 0] rfl⟩
  intro j z9 H locs ls hj hI hn
  obtain ⟨q, k⟩ := z9
  try dsimp only at hI
  obtain ⟨hi0, hi1, hP, hD, hK, hS, hl⟩ := hI
  have hkc : k.toNatClampNeg = a9 + j := by rw [hi0]; exact nI_clamp (by omega)
  refine lv_iload hx hb dX1_countBusy_5 (lv_at hl 4 rfl) ?_
  refine lv_iload_n hx hb dX1_countBusy_7 rfl (lv_at hl 2 rfl) ?_
  refine lv_icmp_ge (tgt := 30) hx hb dX1_countBusy_8 (by decide) (fun c_1 => ?_) (fun c_1 => ?_)
  · rw [hte, hi0] at c_1
    have hjn := lp_ge han hj c_1
    subst hjn
    refine lv_iload_n hx hb dX1_countBusy_30 rfl (lv_at hl 3 rfl) ?_
    have hP9 := hP.sub (ws' := [(h0, .inr (1, [.ref a, .ref b])), (a, .inl (cI, 256, .inl kf)), (b, .inl (cJ, 256, .inr (.inl vf)))]) [0, 1, 2] rfl
    have hD9 := hD.sub (ws' := [(h0, .inr (1, [.ref a, .ref b])), (a, .inl (cI, 256, .inl kf)), (b, .inl (cJ, 256, .inr (.inl vf)))]) [0, 1, 2] (by decide) rfl
    have hK9 := hK.sub (tys' := [(cI, .int), (cJ, .long)]) [0, 1] rfl
    refine W.widen (k := 0) (n := 0) (Nat.le_of_ble_eq_true rfl) (Nat.le_of_ble_eq_true rfl) ?_
    exact W.iret (v := q) hx hb hr (fun t9 ht hW => ⟨⟨q, (), rfl, by rw [hfa, hln]; exact hi1, by rw [ht]; exact hP9, va_K.moved hW.alike hK9, hD9⟩, hS.F ht⟩) hS.2.2 dX1_countBusy_31
  · rw [hte, hi0] at c_1
    have hjn := lp_lt han hj c_1
    refine lv_aload_n hx hb dX1_countBusy_11 rfl (lv_at hl 0 rfl) ?_
    refine va_get (D := (dC, dI)) (ci := 1) (v := .ref a) (C := RX1) (T := TX1) (N := 2) hx hb hts kX1_countBusy_0 hown hK hP 0 rfl rfl 0 (by decide) (hts (.fieldLink RX1 9 "FoldRow" "kinds" "[I") kX1_countBusy_1) (fun _ h9 => h9) rfl dX1_countBusy_12 ?_
    refine lv_iload hx hb dX1_countBusy_15 (lv_at hl 4 rfl) ?_
    refine va_iald hx hb hK hP 1 0 rfl rfl (by rw [hi0]; exact vp_in_nI (by omega) (by omega)) dX1_countBusy_17 ?_
    refine lv_topi (fun v_2 ev_2 => ?_)
    refine lv_if_eq (tgt := 24) hx hb dX1_countBusy_18 (by decide) (fun c_3 => ?_) (fun c_3 => ?_)
    · obtain ⟨i_4, ei_4⟩ : ∃ y : Int32, y = k + 1 := ⟨_, rfl⟩
      refine lv_iinc (v := i_4) (lv' := [(4, .int i_4), (0, .ref h0), (1, .int f), (2, .int t), (3, .int q)]) hx hb dX1_countBusy_24 hl (k := 4) rfl (by rw [ei_4]; rfl) (by decide) rfl (fun ls hl => ?_)
      refine lv_goto (tgt := 5) hx hb dX1_countBusy_27 (by decide) ?_
      exact hn (by omega) (q, i_4) _ _ ls ⟨by rw [ei_4, hi0]; exact nI_1 _, by rw [show c_of kf a9 (j + 1) = if kf (a9 + j) = 0 then c_of kf a9 j else c_of kf a9 j + 1 from rfl, ← hkc, ← ev_2, if_pos c_3]; exact hi1, hP.sub [0, 1, 2] rfl, hD.sub [0, 1, 2] (by decide) rfl, hK.sub [0, 1] rfl, hS, lv_sub hl [1, 2, 3, 4, 0] rfl⟩
    · obtain ⟨i_5, ei_5⟩ : ∃ y : Int32, y = q + 1 := ⟨_, rfl⟩
      refine lv_iinc (v := i_5) (lv' := [(3, .int i_5), (0, .ref h0), (1, .int f), (2, .int t), (4, .int k)]) hx hb dX1_countBusy_21 hl (k := 3) rfl (by rw [ei_5]; rfl) (by decide) rfl (fun ls hl => ?_)
      obtain ⟨i_6, ei_6⟩ : ∃ y : Int32, y = k + 1 := ⟨_, rfl⟩
      refine lv_iinc (v := i_6) (lv' := [(4, .int i_6), (3, .int i_5), (0, .ref h0), (1, .int f), (2, .int t)]) hx hb dX1_countBusy_24 hl (k := 4) rfl (by rw [ei_6]; rfl) (by decide) rfl (fun ls hl => ?_)
      refine lv_goto (tgt := 5) hx hb dX1_countBusy_27 (by decide) ?_
      exact hn (by omega) (i_5, i_6) _ _ ls ⟨by rw [ei_6, hi0]; exact nI_1 _, by rw [show c_of kf a9 (j + 1) = if kf (a9 + j) = 0 then c_of kf a9 j else c_of kf a9 j + 1 from rfl, ← hkc, ← ev_2, if_neg c_3, ei_5, hi1], hP.sub [0, 1, 2] rfl, hD.sub [0, 1, 2] (by decide) rfl, hK.sub [0, 1] rfl, hS, lv_sub hl [2, 3, 4, 1, 0] rfl⟩

set_option maxRecDepth 20000 in
theorem kX1_set_0 : ∀ w ∈ wsX10, w ∈ wsX1_set := by decide +kernel
set_option maxRecDepth 20000 in
theorem kX1_set_1 : (.fieldLink RX1 9 "FoldRow" "kinds" "[I" : Cond) ∈ wsX1_set := by decide +kernel
set_option maxRecDepth 20000 in
theorem kX1_set_2 : (.fieldLink RX1 13 "FoldRow" "values" "[J" : Cond) ∈ wsX1_set := by decide +kernel
set_option maxHeartbeats 4000000 in
set_option maxRecDepth 100000 in
theorem qX1_set (l : Launch) (hlt : l.stackTraces = false) (dC : Nat → ClassId) (dI : Nat → Nat → Nat) (sz : Nat) (h0 a b : Nat) (cI cJ : ClassId) (kf : Nat → Int32) (vf : Nat → Int64) (k kd : Int32) (v : Int64)  : vx_Met l yX1_set wsX1_set ({ frames := 7, cells := 2, slots := 12, locals := 120 }) (va_Pc [.ref h0, .int k, .int kd, .long v] (fun U => U.heap.size = sz ∧ va_P (dC, dI) vwCl [(h0, .inr (1, [.ref a, .ref b])), (a, .inl (cI, 256, .inl kf)), (b, .inl (cJ, 256, .inr (.inl vf)))] U.heap ∧ va_K (dC, dI) vwCl [(cI, .int), (cJ, .long)] U ∧ va_D (fun _ => True) [(h0, .inr (1, [.ref a, .ref b])), (a, .inl (cI, 256, .inl kf)), (b, .inl (cJ, 256, .inr (.inl vf)))] ∧ ev U ∧ ez (va_A [(h0, .inr (1, [.ref a, .ref b])), (a, .inl (cI, 256, .inl kf)), (b, .inl (cJ, 256, .inr (.inl vf)))] sz) U U.heap)) (va_Qv (fun (u : (Nat → Int32) × (Nat → Int64)) => (okR kd v ∧ okP k) ∧ u = (upd kf k.toNatClampNeg kd, vp_updL vf k.toNatClampNeg v)) (fun (u : (Nat → Int32) × (Nat → Int64)) (t9 : State) => va_P (dC, dI) vwCl [(h0, .inr (1, [.ref a, .ref b])), (a, .inl (cI, 256, .inl u.1)), (b, .inl (cJ, 256, .inr (.inl u.2)))] t9.heap ∧ va_K (dC, dI) vwCl [(cI, .int), (cJ, .long)] t9 ∧ va_D (va_A [(h0, .inr (1, [.ref a, .ref b])), (a, .inl (cI, 256, .inl kf)), (b, .inl (cJ, 256, .inr (.inl vf)))] sz) [(h0, .inr (1, [.ref a, .ref b])), (a, .inl (cI, 256, .inl u.1)), (b, .inl (cJ, 256, .inr (.inl u.2)))]) (va_A [(h0, .inr (1, [.ref a, .ref b])), (a, .inl (cI, 256, .inl kf)), (b, .inl (cJ, 256, .inr (.inl vf)))] sz)) (vx_X (fun _ : Unit => True) (fun (E : String) (_ : Unit) (t9 : State) => ((E = IAE ∧ ¬ okR kd v) ∨ (E = IOB ∧ okR kd v ∧ ¬ okP k)) ∧ va_P (dC, dI) vwCl [(h0, .inr (1, [.ref a, .ref b])), (a, .inl (cI, 256, .inl kf)), (b, .inl (cJ, 256, .inr (.inl vf)))] t9.heap ∧ va_K (dC, dI) vwCl [(cI, .int), (cJ, .long)] t9 ∧ va_D (va_A [(h0, .inr (1, [.ref a, .ref b])), (a, .inl (cI, 256, .inl kf)), (b, .inl (cJ, 256, .inr (.inl vf)))] sz) [(h0, .inr (1, [.ref a, .ref b])), (a, .inl (cI, 256, .inl kf)), (b, .inl (cJ, 256, .inr (.inl vf)))]) (va_A [(h0, .inr (1, [.ref a, .ref b])), (a, .inl (cI, 256, .inl kf)), (b, .inl (cJ, 256, .inr (.inl vf)))] sz)) 2 12 (va_A [(h0, .inr (1, [.ref a, .ref b])), (a, .inl (cI, 256, .inl kf)), (b, .inl (cJ, 256, .inr (.inl vf)))] sz) := by
  refine vx_ofW (cc := cX1_set) (maxL := 5) (ret := none) (by decide) rfl ?_
  intro p e s m args below meth c s₁ B hml htb hv
  obtain ⟨rfl, hsz, hP, hK, hD0, hE, hZ⟩ := hv
  have hx := B.exec
  have hb := B.bytes
  have hr := B.returns
  have hts := atoms_spec (ws := wsX1_set) B.pre
  have hown : s.vm.findClass RX1 = some m.cls := findClass_of_methodNamed B.named
  have hlocks := B.notSynchronized
  subst hsz
  have hD := hD0.self (sz := s.heap.size)
  generalize hAe : va_A [(h0, .inr (1, [.ref a, .ref b])), (a, .inl (cI, 256, .inl kf)), (b, .inl (cJ, 256, .inr (.inl vf)))] s.heap.size = A at hD hZ ⊢
  have hA : ∀ q : Nat, s.heap.size ≤ q → A q := fun q h => by rw [← hAe]; exact Or.inr h
  have hS : va_S A s.heap s.heap [] := va_S.rf
  have hP : va_P (dC, dI) vwCl [(h0, .inr (1, [.ref a, .ref b])), (a, .inl (cI, 256, .inl kf)), (b, .inl (cJ, 256, .inr (.inl vf)))] s.heap := hP
  have hl := lv_entry ([.ref h0, .int k, .int kd, .long v]) (n := 5) (Nat.le_of_ble_eq_true rfl)
  rw [lg_entry_eq]
  generalize (lg_sl ([.ref h0, .int k, .int kd, .long v]) ++ List.replicate (5 - (lg_sl ([.ref h0, .int k, .int kd, .long v])).length) Slot.unset).toArray = ls at hl ⊢
  have hl : lv_has ls 5 [(0, .ref h0), (1, .int k), (2, .int kd), (3, .long v)] := hl
  refine lv_iload_n hx hb dX1_set_0 rfl (lv_at hl 2 rfl) ?_
  refine lv_lload_n hx hb dX1_set_1 rfl (lv_at hl 3 rfl) ?_
  have hPc := hP.sub (ws' := []) [] rfl
  have hDc := hD.sub (ws' := []) [] (by decide) rfl
  have hKc := hK.sub (tys' := []) [] rfl
  have hFc := va_free (wc := []) hD hS hA [] rfl
  refine vx_callv (vx_runS (As := [.int kd, .long v]) (rest := []) ⟨hx, hb, hml, hown, hts⟩ (qX1_checkRule l hlt dC dI s.heap.size kd v) (va_cwS 2 hts gX1_set_X1_checkRule rfl rfl rfl (by decide +kernel) ⟨Nat.le_of_ble_eq_true rfl, Nat.le_of_ble_eq_true rfl⟩) ⟨fun a U g mk q => by obtain ⟨q0, q1, qP, qK, qD, qE, qZ⟩ := q; exact ⟨q0, q1, qP, va_K.moved (u := U) (U := U.calling g mk a) (Vm.Alike.refl U.vm) qK, qD, ev.same (u := U) rfl qE, ez.moved (U := U.calling g mk a) qZ (Vm.Alike.refl U.vm)⟩, fun U hU hW => ⟨rfl, by rw [hU], by rw [hU]; exact hPc, va_K.moved hW.alike hKc, hDc.weaken (fun _ _ _ _ => trivial), hE.warm hW, by rw [hU]; exact ((hZ.kept hS.2.1).narrow hFc).moved hW.alike⟩⟩ rfl rfl hl.1 rfl (lv_room (Nat.le_of_ble_eq_true rfl)) dX1_set_2 ⟨Nat.le_of_ble_eq_true rfl, Nat.le_of_ble_eq_true rfl⟩) hS (fun q _ h => hFc q h) hFc (fun q _ h => hFc q h) (fun E ce q9 u t9 H1 locs ht hvm hw hB hz1 hk1 hS hce hcv hcl => ?_) (fun u t9 H1 locs ht hvm hw hB hz1 hk1 hS => ?_)
  · obtain ⟨hex, hP1, hK1, hD1⟩ := hB
    rw [ht] at hP1
    have hK1 := va_K.moved hvm.symm hK1
    obtain ⟨hP, hD⟩ := va_join (wr := [(h0, .inr (1, [.ref a, .ref b])), (a, .inl (cI, 256, .inl kf)), (b, .inl (cJ, 256, .inr (.inl vf)))]) (w1 := []) hP hD [] [0, 1, 2] rfl rfl (by decide) (by decide) hk1 hFc hP1 hD1
    have hK := (hK.sub (tys' := [(cI, .int), (cJ, .long)]) [0, 1] rfl).app hK1
    generalize H1 = H at hP hS hce ⊢
    have hP : va_P (dC, dI) vwCl [(h0, .inr (1, [.ref a, .ref b])), (a, .inl (cI, 256, .inl kf)), (b, .inl (cJ, 256, .inr (.inl vf)))] H := hP
    have hD : va_D A [(h0, .inr (1, [.ref a, .ref b])), (a, .inl (cI, 256, .inl kf)), (b, .inl (cJ, 256, .inr (.inl vf)))] := hD
    have hK : va_K (dC, dI) vwCl [(cI, .int), (cJ, .long)] s := hK
    refine vx_widen (k := 1) (n := 6) (Nat.le_of_ble_eq_true rfl) (Nat.le_of_ble_eq_true rfl) ?_
    have hP9 := hP.sub (ws' := [(h0, .inr (1, [.ref a, .ref b])), (a, .inl (cI, 256, .inl kf)), (b, .inl (cJ, 256, .inr (.inl vf)))]) [0, 1, 2] rfl
    have hD9 := hD.sub (ws' := [(h0, .inr (1, [.ref a, .ref b])), (a, .inl (cI, 256, .inl kf)), (b, .inl (cJ, 256, .inr (.inl vf)))]) [0, 1, 2] (by decide) rfl
    have hK9 := hK.sub (tys' := [(cI, .int), (cJ, .long)]) [0, 1] rfl
    exact vx_out (fun x hx => (htb x hx).elim) hlocks hce hcv hcl (fun t9 ht hvm => ⟨(), trivial, ⟨Or.inl hex, by rw [ht]; exact hP9, va_K.moved hvm hK9, hD9⟩, hS.F ht⟩) hS.2.2 (Nat.le_of_ble_eq_true rfl) (Nat.le_of_ble_eq_true rfl)
  · obtain ⟨hP1, hK1, hD1⟩ := hB
    rw [ht] at hP1
    have h_2 := hw
    have hK1 := va_K.moved hvm.symm hK1
    obtain ⟨hP, hD⟩ := va_join (wr := [(h0, .inr (1, [.ref a, .ref b])), (a, .inl (cI, 256, .inl kf)), (b, .inl (cJ, 256, .inr (.inl vf)))]) (w1 := []) hP hD [] [0, 1, 2] rfl rfl (by decide) (by decide) hk1 hFc hP1 hD1
    have hK := (hK.sub (tys' := [(cI, .int), (cJ, .long)]) [0, 1] rfl).app hK1
    generalize H1 = H at hP hS ⊢
    have hP : va_P (dC, dI) vwCl [(h0, .inr (1, [.ref a, .ref b])), (a, .inl (cI, 256, .inl kf)), (b, .inl (cJ, 256, .inr (.inl vf)))] H := hP
    have hD : va_D A [(h0, .inr (1, [.ref a, .ref b])), (a, .inl (cI, 256, .inl kf)), (b, .inl (cJ, 256, .inr (.inl vf)))] := hD
    have hK : va_K (dC, dI) vwCl [(cI, .int), (cJ, .long)] s := hK
    refine W.widen (k := 1) (n := 6) (Nat.le_of_ble_eq_true rfl) (Nat.le_of_ble_eq_true rfl) ?_
    refine lv_iload_n hx hb dX1_set_5 rfl (lv_at hl 1 rfl) ?_
    have hPc := hP.sub (ws' := []) [] rfl
    have hDc := hD.sub (ws' := []) [] (by decide) rfl
    have hKc := hK.sub (tys' := []) [] rfl
    have hFc := va_free (wc := []) hD hS hA [] rfl
    refine vx_callv (vx_runS (As := [.int k]) (rest := []) ⟨hx, hb, hml, hown, hts⟩ (qX1_checkPlace l hlt dC dI H.size k) (va_cwS 1 hts gX1_set_X1_checkPlace rfl rfl rfl (by decide +kernel) ⟨Nat.le_of_ble_eq_true rfl, Nat.le_of_ble_eq_true rfl⟩) ⟨fun a U g mk q => by obtain ⟨q0, q1, qP, qK, qD, qE, qZ⟩ := q; exact ⟨q0, q1, qP, va_K.moved (u := U) (U := U.calling g mk a) (Vm.Alike.refl U.vm) qK, qD, ev.same (u := U) rfl qE, ez.moved (U := U.calling g mk a) qZ (Vm.Alike.refl U.vm)⟩, fun U hU hW => ⟨rfl, by rw [hU], by rw [hU]; exact hPc, va_K.moved hW.alike hKc, hDc.weaken (fun _ _ _ _ => trivial), hE.warm hW, by rw [hU]; exact ((hZ.kept hS.2.1).narrow hFc).moved hW.alike⟩⟩ rfl rfl hl.1 rfl (lv_room (Nat.le_of_ble_eq_true rfl)) dX1_set_6 ⟨Nat.le_of_ble_eq_true rfl, Nat.le_of_ble_eq_true rfl⟩) hS (fun q _ h => hFc q h) hFc (fun q _ h => hFc q h) (fun E ce q9 u t9 H1 locs ht hvm hw hB hz1 hk1 hS hce hcv hcl => ?_) (fun u t9 H1 locs ht hvm hw hB hz1 hk1 hS => ?_)
    · obtain ⟨hex, hP1, hK1, hD1⟩ := hB
      rw [ht] at hP1
      have hK1 := va_K.moved hvm.symm hK1
      obtain ⟨hP, hD⟩ := va_join (wr := [(h0, .inr (1, [.ref a, .ref b])), (a, .inl (cI, 256, .inl kf)), (b, .inl (cJ, 256, .inr (.inl vf)))]) (w1 := []) hP hD [] [0, 1, 2] rfl rfl (by decide) (by decide) hk1 hFc hP1 hD1
      have hK := (hK.sub (tys' := [(cI, .int), (cJ, .long)]) [0, 1] rfl).app hK1
      generalize H1 = H at hP hS hce ⊢
      have hP : va_P (dC, dI) vwCl [(h0, .inr (1, [.ref a, .ref b])), (a, .inl (cI, 256, .inl kf)), (b, .inl (cJ, 256, .inr (.inl vf)))] H := hP
      have hD : va_D A [(h0, .inr (1, [.ref a, .ref b])), (a, .inl (cI, 256, .inl kf)), (b, .inl (cJ, 256, .inr (.inl vf)))] := hD
      have hK : va_K (dC, dI) vwCl [(cI, .int), (cJ, .long)] s := hK
      refine vx_widen (k := 2) (n := 12) (Nat.le_of_ble_eq_true rfl) (Nat.le_of_ble_eq_true rfl) ?_
      have hP9 := hP.sub (ws' := [(h0, .inr (1, [.ref a, .ref b])), (a, .inl (cI, 256, .inl kf)), (b, .inl (cJ, 256, .inr (.inl vf)))]) [0, 1, 2] rfl
      have hD9 := hD.sub (ws' := [(h0, .inr (1, [.ref a, .ref b])), (a, .inl (cI, 256, .inl kf)), (b, .inl (cJ, 256, .inr (.inl vf)))]) [0, 1, 2] (by decide) rfl
      have hK9 := hK.sub (tys' := [(cI, .int), (cJ, .long)]) [0, 1] rfl
      exact vx_out (fun x hx => (htb x hx).elim) hlocks hce hcv hcl (fun t9 ht hvm => ⟨(), trivial, ⟨Or.inr ⟨hex.1, h_2, hex.2⟩, by rw [ht]; exact hP9, va_K.moved hvm hK9, hD9⟩, hS.F ht⟩) hS.2.2 (Nat.le_of_ble_eq_true rfl) (Nat.le_of_ble_eq_true rfl)
    · obtain ⟨hP1, hK1, hD1⟩ := hB
      rw [ht] at hP1
      have h_4 := hw
      have hK1 := va_K.moved hvm.symm hK1
      obtain ⟨hP, hD⟩ := va_join (wr := [(h0, .inr (1, [.ref a, .ref b])), (a, .inl (cI, 256, .inl kf)), (b, .inl (cJ, 256, .inr (.inl vf)))]) (w1 := []) hP hD [] [0, 1, 2] rfl rfl (by decide) (by decide) hk1 hFc hP1 hD1
      have hK := (hK.sub (tys' := [(cI, .int), (cJ, .long)]) [0, 1] rfl).app hK1
      generalize H1 = H at hP hS ⊢
      have hP : va_P (dC, dI) vwCl [(h0, .inr (1, [.ref a, .ref b])), (a, .inl (cI, 256, .inl kf)), (b, .inl (cJ, 256, .inr (.inl vf)))] H := hP
      have hD : va_D A [(h0, .inr (1, [.ref a, .ref b])), (a, .inl (cI, 256, .inl kf)), (b, .inl (cJ, 256, .inr (.inl vf)))] := hD
      have hK : va_K (dC, dI) vwCl [(cI, .int), (cJ, .long)] s := hK
      refine W.widen (k := 2) (n := 12) (Nat.le_of_ble_eq_true rfl) (Nat.le_of_ble_eq_true rfl) ?_
      refine lv_aload_n hx hb dX1_set_9 rfl (lv_at hl 0 rfl) ?_
      refine va_get (D := (dC, dI)) (ci := 1) (v := .ref a) (C := RX1) (T := TX1) (N := 2) hx hb hts kX1_set_0 hown hK hP 0 rfl rfl 0 (by decide) (hts (.fieldLink RX1 9 "FoldRow" "kinds" "[I") kX1_set_1) (fun _ h9 => h9) rfl dX1_set_10 ?_
      refine lv_iload_n hx hb dX1_set_13 rfl (lv_at hl 1 rfl) ?_
      refine lv_iload_n hx hb dX1_set_14 rfl (lv_at hl 2 rfl) ?_
      refine va_iast hx hb hK hP hD hS 1 0 rfl rfl (in_P h_4) dX1_set_15 (fun H locs hP hD hS => ?_)
      have hP : va_P (dC, dI) vwCl [(h0, .inr (1, [.ref a, .ref b])), (a, .inl (cI, 256, .inl (upd kf k.toNatClampNeg kd))), (b, .inl (cJ, 256, .inr (.inl vf)))] H := hP
      have hD : va_D A [(h0, .inr (1, [.ref a, .ref b])), (a, .inl (cI, 256, .inl (upd kf k.toNatClampNeg kd))), (b, .inl (cJ, 256, .inr (.inl vf)))] := hD
      refine lv_aload_n hx hb dX1_set_16 rfl (lv_at hl 0 rfl) ?_
      refine va_get (D := (dC, dI)) (ci := 1) (v := .ref b) (C := RX1) (T := TX1) (N := 2) hx hb hts kX1_set_0 hown hK hP 0 rfl rfl 1 (by decide) (hts (.fieldLink RX1 13 "FoldRow" "values" "[J") kX1_set_2) (fun _ h9 => h9) rfl dX1_set_17 ?_
      refine lv_iload_n hx hb dX1_set_20 rfl (lv_at hl 1 rfl) ?_
      refine lv_lload_n hx hb dX1_set_21 rfl (lv_at hl 3 rfl) ?_
      refine va_last hx hb hK hP hD hS 2 1 rfl rfl (in_P h_4) dX1_set_22 (fun H locs hP hD hS => ?_)
      have hP : va_P (dC, dI) vwCl [(h0, .inr (1, [.ref a, .ref b])), (a, .inl (cI, 256, .inl (upd kf k.toNatClampNeg kd))), (b, .inl (cJ, 256, .inr (.inl (vp_updL vf k.toNatClampNeg v))))] H := hP
      have hD : va_D A [(h0, .inr (1, [.ref a, .ref b])), (a, .inl (cI, 256, .inl (upd kf k.toNatClampNeg kd))), (b, .inl (cJ, 256, .inr (.inl (vp_updL vf k.toNatClampNeg v))))] := hD
      have hP9 := hP.sub (ws' := [(h0, .inr (1, [.ref a, .ref b])), (a, .inl (cI, 256, .inl (upd kf k.toNatClampNeg kd))), (b, .inl (cJ, 256, .inr (.inl (vp_updL vf k.toNatClampNeg v))))]) [0, 1, 2] rfl
      have hD9 := hD.sub (ws' := [(h0, .inr (1, [.ref a, .ref b])), (a, .inl (cI, 256, .inl (upd kf k.toNatClampNeg kd))), (b, .inl (cJ, 256, .inr (.inl (vp_updL vf k.toNatClampNeg v))))]) [0, 1, 2] (by decide) rfl
      have hK9 := hK.sub (tys' := [(cI, .int), (cJ, .long)]) [0, 1] rfl
      refine vx_ret ?_
      refine W.widen (k := 2) (n := 12) (Nat.le_of_ble_eq_true rfl) (Nat.le_of_ble_eq_true rfl) ?_
      exact W.vret hx hb hr (fun t9 ht hW => ⟨⟨(upd kf k.toNatClampNeg kd, vp_updL vf k.toNatClampNeg v), rfl, ⟨⟨h_2, h_4⟩, rfl⟩, by rw [ht]; exact hP9, va_K.moved hW.alike hK9, hD9⟩, hS.F ht⟩) hS.2.2 dX1_set_23

set_option maxRecDepth 20000 in
theorem kX1_fill_0 : ∀ w ∈ wsX10, w ∈ wsX1_fill := by decide +kernel
set_option maxRecDepth 20000 in
theorem kX1_fill_1 : (.fieldLink RX1 9 "FoldRow" "kinds" "[I" : Cond) ∈ wsX1_fill := by decide +kernel
set_option maxRecDepth 20000 in
theorem kX1_fill_2 : (.fieldLink RX1 13 "FoldRow" "values" "[J" : Cond) ∈ wsX1_fill := by decide +kernel
set_option maxHeartbeats 4000000 in
set_option maxRecDepth 100000 in
theorem qX1_fill (l : Launch) (hlt : l.stackTraces = false) (dC : Nat → ClassId) (dI : Nat → Nat → Nat) (sz : Nat) (h0 a b : Nat) (cI cJ : ClassId) (kf : Nat → Int32) (vf : Nat → Int64) (f t kd : Int32) (v : Int64)  : vx_Met l yX1_fill wsX1_fill ({ frames := 7, cells := 2, slots := 12, locals := 120 }) (va_Pc [.ref h0, .int f, .int t, .int kd, .long v] (fun U => U.heap.size = sz ∧ va_P (dC, dI) vwCl [(h0, .inr (1, [.ref a, .ref b])), (a, .inl (cI, 256, .inl kf)), (b, .inl (cJ, 256, .inr (.inl vf)))] U.heap ∧ va_K (dC, dI) vwCl [(cI, .int), (cJ, .long)] U ∧ va_D (fun _ => True) [(h0, .inr (1, [.ref a, .ref b])), (a, .inl (cI, 256, .inl kf)), (b, .inl (cJ, 256, .inr (.inl vf)))] ∧ ev U ∧ ez (va_A [(h0, .inr (1, [.ref a, .ref b])), (a, .inl (cI, 256, .inl kf)), (b, .inl (cJ, 256, .inr (.inl vf)))] sz) U U.heap)) (va_Qv (fun (u : (Nat → Int32) × (Nat → Int64)) => (okR kd v ∧ okW f t) ∧ u = (f_fi kf f.toNatClampNeg (ln f t) kd, f_fi vf f.toNatClampNeg (ln f t) v)) (fun (u : (Nat → Int32) × (Nat → Int64)) (t9 : State) => va_P (dC, dI) vwCl [(h0, .inr (1, [.ref a, .ref b])), (a, .inl (cI, 256, .inl u.1)), (b, .inl (cJ, 256, .inr (.inl u.2)))] t9.heap ∧ va_K (dC, dI) vwCl [(cI, .int), (cJ, .long)] t9 ∧ va_D (va_A [(h0, .inr (1, [.ref a, .ref b])), (a, .inl (cI, 256, .inl kf)), (b, .inl (cJ, 256, .inr (.inl vf)))] sz) [(h0, .inr (1, [.ref a, .ref b])), (a, .inl (cI, 256, .inl u.1)), (b, .inl (cJ, 256, .inr (.inl u.2)))]) (va_A [(h0, .inr (1, [.ref a, .ref b])), (a, .inl (cI, 256, .inl kf)), (b, .inl (cJ, 256, .inr (.inl vf)))] sz)) (vx_X (fun _ : Unit => True) (fun (E : String) (_ : Unit) (t9 : State) => ((E = IAE ∧ ¬ okR kd v) ∨ (E = IOB ∧ okR kd v ∧ ¬ okW f t)) ∧ va_P (dC, dI) vwCl [(h0, .inr (1, [.ref a, .ref b])), (a, .inl (cI, 256, .inl kf)), (b, .inl (cJ, 256, .inr (.inl vf)))] t9.heap ∧ va_K (dC, dI) vwCl [(cI, .int), (cJ, .long)] t9 ∧ va_D (va_A [(h0, .inr (1, [.ref a, .ref b])), (a, .inl (cI, 256, .inl kf)), (b, .inl (cJ, 256, .inr (.inl vf)))] sz) [(h0, .inr (1, [.ref a, .ref b])), (a, .inl (cI, 256, .inl kf)), (b, .inl (cJ, 256, .inr (.inl vf)))]) (va_A [(h0, .inr (1, [.ref a, .ref b])), (a, .inl (cI, 256, .inl kf)), (b, .inl (cJ, 256, .inr (.inl vf)))] sz)) 2 12 (va_A [(h0, .inr (1, [.ref a, .ref b])), (a, .inl (cI, 256, .inl kf)), (b, .inl (cJ, 256, .inr (.inl vf)))] sz) := by
  refine vx_ofW (cc := cX1_fill) (maxL := 7) (ret := none) (by decide) rfl ?_
  intro p e s m args below meth c s₁ B hml htb hv
  obtain ⟨rfl, hsz, hP, hK, hD0, hE, hZ⟩ := hv
  have hx := B.exec
  have hb := B.bytes
  have hr := B.returns
  have hts := atoms_spec (ws := wsX1_fill) B.pre
  have hown : s.vm.findClass RX1 = some m.cls := findClass_of_methodNamed B.named
  have hlocks := B.notSynchronized
  subst hsz
  have hD := hD0.self (sz := s.heap.size)
  generalize hAe : va_A [(h0, .inr (1, [.ref a, .ref b])), (a, .inl (cI, 256, .inl kf)), (b, .inl (cJ, 256, .inr (.inl vf)))] s.heap.size = A at hD hZ ⊢
  have hA : ∀ q : Nat, s.heap.size ≤ q → A q := fun q h => by rw [← hAe]; exact Or.inr h
  have hS : va_S A s.heap s.heap [] := va_S.rf
  have hP : va_P (dC, dI) vwCl [(h0, .inr (1, [.ref a, .ref b])), (a, .inl (cI, 256, .inl kf)), (b, .inl (cJ, 256, .inr (.inl vf)))] s.heap := hP
  have hl := lv_entry ([.ref h0, .int f, .int t, .int kd, .long v]) (n := 7) (Nat.le_of_ble_eq_true rfl)
  rw [lg_entry_eq]
  generalize (lg_sl ([.ref h0, .int f, .int t, .int kd, .long v]) ++ List.replicate (7 - (lg_sl ([.ref h0, .int f, .int t, .int kd, .long v])).length) Slot.unset).toArray = ls at hl ⊢
  have hl : lv_has ls 7 [(0, .ref h0), (1, .int f), (2, .int t), (3, .int kd), (4, .long v)] := hl
  refine lv_iload_n hx hb dX1_fill_0 rfl (lv_at hl 3 rfl) ?_
  refine lv_lload hx hb dX1_fill_1 (lv_at hl 4 rfl) ?_
  have hPc := hP.sub (ws' := []) [] rfl
  have hDc := hD.sub (ws' := []) [] (by decide) rfl
  have hKc := hK.sub (tys' := []) [] rfl
  have hFc := va_free (wc := []) hD hS hA [] rfl
  refine vx_callv (vx_runS (As := [.int kd, .long v]) (rest := []) ⟨hx, hb, hml, hown, hts⟩ (qX1_checkRule l hlt dC dI s.heap.size kd v) (va_cwS 2 hts gX1_fill_X1_checkRule rfl rfl rfl (by decide +kernel) ⟨Nat.le_of_ble_eq_true rfl, Nat.le_of_ble_eq_true rfl⟩) ⟨fun a U g mk q => by obtain ⟨q0, q1, qP, qK, qD, qE, qZ⟩ := q; exact ⟨q0, q1, qP, va_K.moved (u := U) (U := U.calling g mk a) (Vm.Alike.refl U.vm) qK, qD, ev.same (u := U) rfl qE, ez.moved (U := U.calling g mk a) qZ (Vm.Alike.refl U.vm)⟩, fun U hU hW => ⟨rfl, by rw [hU], by rw [hU]; exact hPc, va_K.moved hW.alike hKc, hDc.weaken (fun _ _ _ _ => trivial), hE.warm hW, by rw [hU]; exact ((hZ.kept hS.2.1).narrow hFc).moved hW.alike⟩⟩ rfl rfl hl.1 rfl (lv_room (Nat.le_of_ble_eq_true rfl)) dX1_fill_3 ⟨Nat.le_of_ble_eq_true rfl, Nat.le_of_ble_eq_true rfl⟩) hS (fun q _ h => hFc q h) hFc (fun q _ h => hFc q h) (fun E ce q9 u t9 H1 locs ht hvm hw hB hz1 hk1 hS hce hcv hcl => ?_) (fun u t9 H1 locs ht hvm hw hB hz1 hk1 hS => ?_)
  · obtain ⟨hex, hP1, hK1, hD1⟩ := hB
    rw [ht] at hP1
    have hK1 := va_K.moved hvm.symm hK1
    obtain ⟨hP, hD⟩ := va_join (wr := [(h0, .inr (1, [.ref a, .ref b])), (a, .inl (cI, 256, .inl kf)), (b, .inl (cJ, 256, .inr (.inl vf)))]) (w1 := []) hP hD [] [0, 1, 2] rfl rfl (by decide) (by decide) hk1 hFc hP1 hD1
    have hK := (hK.sub (tys' := [(cI, .int), (cJ, .long)]) [0, 1] rfl).app hK1
    generalize H1 = H at hP hS hce ⊢
    have hP : va_P (dC, dI) vwCl [(h0, .inr (1, [.ref a, .ref b])), (a, .inl (cI, 256, .inl kf)), (b, .inl (cJ, 256, .inr (.inl vf)))] H := hP
    have hD : va_D A [(h0, .inr (1, [.ref a, .ref b])), (a, .inl (cI, 256, .inl kf)), (b, .inl (cJ, 256, .inr (.inl vf)))] := hD
    have hK : va_K (dC, dI) vwCl [(cI, .int), (cJ, .long)] s := hK
    refine vx_widen (k := 1) (n := 6) (Nat.le_of_ble_eq_true rfl) (Nat.le_of_ble_eq_true rfl) ?_
    have hP9 := hP.sub (ws' := [(h0, .inr (1, [.ref a, .ref b])), (a, .inl (cI, 256, .inl kf)), (b, .inl (cJ, 256, .inr (.inl vf)))]) [0, 1, 2] rfl
    have hD9 := hD.sub (ws' := [(h0, .inr (1, [.ref a, .ref b])), (a, .inl (cI, 256, .inl kf)), (b, .inl (cJ, 256, .inr (.inl vf)))]) [0, 1, 2] (by decide) rfl
    have hK9 := hK.sub (tys' := [(cI, .int), (cJ, .long)]) [0, 1] rfl
    exact vx_out (fun x hx => (htb x hx).elim) hlocks hce hcv hcl (fun t9 ht hvm => ⟨(), trivial, ⟨Or.inl hex, by rw [ht]; exact hP9, va_K.moved hvm hK9, hD9⟩, hS.F ht⟩) hS.2.2 (Nat.le_of_ble_eq_true rfl) (Nat.le_of_ble_eq_true rfl)
  · obtain ⟨hP1, hK1, hD1⟩ := hB
    rw [ht] at hP1
    have h_2 := hw
    have hK1 := va_K.moved hvm.symm hK1
    obtain ⟨hP, hD⟩ := va_join (wr := [(h0, .inr (1, [.ref a, .ref b])), (a, .inl (cI, 256, .inl kf)), (b, .inl (cJ, 256, .inr (.inl vf)))]) (w1 := []) hP hD [] [0, 1, 2] rfl rfl (by decide) (by decide) hk1 hFc hP1 hD1
    have hK := (hK.sub (tys' := [(cI, .int), (cJ, .long)]) [0, 1] rfl).app hK1
    generalize H1 = H at hP hS ⊢
    have hP : va_P (dC, dI) vwCl [(h0, .inr (1, [.ref a, .ref b])), (a, .inl (cI, 256, .inl kf)), (b, .inl (cJ, 256, .inr (.inl vf)))] H := hP
    have hD : va_D A [(h0, .inr (1, [.ref a, .ref b])), (a, .inl (cI, 256, .inl kf)), (b, .inl (cJ, 256, .inr (.inl vf)))] := hD
    have hK : va_K (dC, dI) vwCl [(cI, .int), (cJ, .long)] s := hK
    refine W.widen (k := 1) (n := 6) (Nat.le_of_ble_eq_true rfl) (Nat.le_of_ble_eq_true rfl) ?_
    refine lv_iload_n hx hb dX1_fill_6 rfl (lv_at hl 1 rfl) ?_
    refine lv_iload_n hx hb dX1_fill_7 rfl (lv_at hl 2 rfl) ?_
    have hPc := hP.sub (ws' := []) [] rfl
    have hDc := hD.sub (ws' := []) [] (by decide) rfl
    have hKc := hK.sub (tys' := []) [] rfl
    have hFc := va_free (wc := []) hD hS hA [] rfl
    refine vx_callv (vx_runS (As := [.int f, .int t]) (rest := []) ⟨hx, hb, hml, hown, hts⟩ (qX1_checkPart l hlt dC dI H.size f t) (va_cwS 2 hts gX1_fill_X1_checkPart rfl rfl rfl (by decide +kernel) ⟨Nat.le_of_ble_eq_true rfl, Nat.le_of_ble_eq_true rfl⟩) ⟨fun a U g mk q => by obtain ⟨q0, q1, qP, qK, qD, qE, qZ⟩ := q; exact ⟨q0, q1, qP, va_K.moved (u := U) (U := U.calling g mk a) (Vm.Alike.refl U.vm) qK, qD, ev.same (u := U) rfl qE, ez.moved (U := U.calling g mk a) qZ (Vm.Alike.refl U.vm)⟩, fun U hU hW => ⟨rfl, by rw [hU], by rw [hU]; exact hPc, va_K.moved hW.alike hKc, hDc.weaken (fun _ _ _ _ => trivial), hE.warm hW, by rw [hU]; exact ((hZ.kept hS.2.1).narrow hFc).moved hW.alike⟩⟩ rfl rfl hl.1 rfl (lv_room (Nat.le_of_ble_eq_true rfl)) dX1_fill_8 ⟨Nat.le_of_ble_eq_true rfl, Nat.le_of_ble_eq_true rfl⟩) hS (fun q _ h => hFc q h) hFc (fun q _ h => hFc q h) (fun E ce q9 u t9 H1 locs ht hvm hw hB hz1 hk1 hS hce hcv hcl => ?_) (fun u t9 H1 locs ht hvm hw hB hz1 hk1 hS => ?_)
    · obtain ⟨hex, hP1, hK1, hD1⟩ := hB
      rw [ht] at hP1
      have hK1 := va_K.moved hvm.symm hK1
      obtain ⟨hP, hD⟩ := va_join (wr := [(h0, .inr (1, [.ref a, .ref b])), (a, .inl (cI, 256, .inl kf)), (b, .inl (cJ, 256, .inr (.inl vf)))]) (w1 := []) hP hD [] [0, 1, 2] rfl rfl (by decide) (by decide) hk1 hFc hP1 hD1
      have hK := (hK.sub (tys' := [(cI, .int), (cJ, .long)]) [0, 1] rfl).app hK1
      generalize H1 = H at hP hS hce ⊢
      have hP : va_P (dC, dI) vwCl [(h0, .inr (1, [.ref a, .ref b])), (a, .inl (cI, 256, .inl kf)), (b, .inl (cJ, 256, .inr (.inl vf)))] H := hP
      have hD : va_D A [(h0, .inr (1, [.ref a, .ref b])), (a, .inl (cI, 256, .inl kf)), (b, .inl (cJ, 256, .inr (.inl vf)))] := hD
      have hK : va_K (dC, dI) vwCl [(cI, .int), (cJ, .long)] s := hK
      refine vx_widen (k := 2) (n := 12) (Nat.le_of_ble_eq_true rfl) (Nat.le_of_ble_eq_true rfl) ?_
      have hP9 := hP.sub (ws' := [(h0, .inr (1, [.ref a, .ref b])), (a, .inl (cI, 256, .inl kf)), (b, .inl (cJ, 256, .inr (.inl vf)))]) [0, 1, 2] rfl
      have hD9 := hD.sub (ws' := [(h0, .inr (1, [.ref a, .ref b])), (a, .inl (cI, 256, .inl kf)), (b, .inl (cJ, 256, .inr (.inl vf)))]) [0, 1, 2] (by decide) rfl
      have hK9 := hK.sub (tys' := [(cI, .int), (cJ, .long)]) [0, 1] rfl
      exact vx_out (fun x hx => (htb x hx).elim) hlocks hce hcv hcl (fun t9 ht hvm => ⟨(), trivial, ⟨Or.inr ⟨hex.1, h_2, hex.2⟩, by rw [ht]; exact hP9, va_K.moved hvm hK9, hD9⟩, hS.F ht⟩) hS.2.2 (Nat.le_of_ble_eq_true rfl) (Nat.le_of_ble_eq_true rfl)
    · obtain ⟨hP1, hK1, hD1⟩ := hB
      rw [ht] at hP1
      have h_4 := hw
      have hK1 := va_K.moved hvm.symm hK1
      obtain ⟨hP, hD⟩ := va_join (wr := [(h0, .inr (1, [.ref a, .ref b])), (a, .inl (cI, 256, .inl kf)), (b, .inl (cJ, 256, .inr (.inl vf)))]) (w1 := []) hP hD [] [0, 1, 2] rfl rfl (by decide) (by decide) hk1 hFc hP1 hD1
      have hK := (hK.sub (tys' := [(cI, .int), (cJ, .long)]) [0, 1] rfl).app hK1
      generalize H1 = H at hP hS ⊢
      have hP : va_P (dC, dI) vwCl [(h0, .inr (1, [.ref a, .ref b])), (a, .inl (cI, 256, .inl kf)), (b, .inl (cJ, 256, .inr (.inl vf)))] H := hP
      have hD : va_D A [(h0, .inr (1, [.ref a, .ref b])), (a, .inl (cI, 256, .inl kf)), (b, .inl (cJ, 256, .inr (.inl vf)))] := hD
      have hK : va_K (dC, dI) vwCl [(cI, .int), (cJ, .long)] s := hK
      refine W.widen (k := 2) (n := 12) (Nat.le_of_ble_eq_true rfl) (Nat.le_of_ble_eq_true rfl) ?_
      refine lv_iload_n hx hb dX1_fill_11 rfl (lv_at hl 1 rfl) ?_
      refine lv_istore (lv' := [(6, .int f), (0, .ref h0), (1, .int f), (2, .int t), (3, .int kd), (4, .long v)]) hx hb dX1_fill_12 hl (by decide) rfl (fun ls hl => ?_)
      obtain ⟨a9, n9, han, hfe, hte, hfa, hln⟩ := okW_nat h_4
      have hP : va_P (dC, dI) vwCl [(h0, .inr (1, [.ref a, .ref b])), (a, .inl (cI, 256, .inl (f_fi kf a9 0 kd))), (b, .inl (cJ, 256, .inr (.inl (f_fi vf a9 0 v))))] H := by rw [f_fi0, f_fi0]; exact hP
      have hD : va_D A [(h0, .inr (1, [.ref a, .ref b])), (a, .inl (cI, 256, .inl (f_fi kf a9 0 kd))), (b, .inl (cJ, 256, .inr (.inl (f_fi vf a9 0 v))))] := by rw [f_fi0, f_fi0]; exact hD
      refine lp_up (N := n9) (α := Int32) (fun j z9 H locs ls => (z9 = nI (a9 + j)) ∧ va_P (dC, dI) vwCl [(h0, .inr (1, [.ref a, .ref b])), (a, .inl (cI, 256, .inl (f_fi kf a9 j kd))), (b, .inl (cJ, 256, .inr (.inl (f_fi vf a9 j v))))] H ∧ va_D A [(h0, .inr (1, [.ref a, .ref b])), (a, .inl (cI, 256, .inl (f_fi kf a9 j kd))), (b, .inl (cJ, 256, .inr (.inl (f_fi vf a9 j v))))] ∧ va_K (dC, dI) vwCl [(cI, .int), (cJ, .long)] s ∧ va_S A s.heap H locs ∧ lv_has ls 7 [(0, .ref h0), (1, .int f), (2, .int t), (3, .int kd), (4, .long v), (6, .int z9)]) ?_ (f) H _ ls ⟨hfe, hP.sub [0, 1, 2] rfl, hD.sub [0, 1, 2] (by decide) rfl, hK.sub [0, 1] rfl, hS, lv_sub hl [1, 2, 3, 4, 5, 0] rfl⟩
      intro j z9 H locs ls hj hI hn
      obtain ⟨k, rfl⟩ : ∃ z, z = z9 := ⟨_, rfl⟩
      try dsimp only at hI
      obtain ⟨hi0, hP, hD, hK, hS, hl⟩ := hI
      have hkc : k.toNatClampNeg = a9 + j := by rw [hi0]; exact nI_clamp (by omega)
      refine lv_iload hx hb dX1_fill_14 (lv_at hl 5 rfl) ?_
      refine lv_iload_n hx hb dX1_fill_16 rfl (lv_at hl 2 rfl) ?_
      refine lv_icmp_ge (tgt := 43) hx hb dX1_fill_17 (by decide) (fun c_5 => ?_) (fun c_5 => ?_)
      · rw [hte, hi0] at c_5
        have hjn := lp_ge han hj c_5
        subst hjn
        have hP9 := hP.sub (ws' := [(h0, .inr (1, [.ref a, .ref b])), (a, .inl (cI, 256, .inl (f_fi kf a9 j kd))), (b, .inl (cJ, 256, .inr (.inl (f_fi vf a9 j v))))]) [0, 1, 2] rfl
        have hD9 := hD.sub (ws' := [(h0, .inr (1, [.ref a, .ref b])), (a, .inl (cI, 256, .inl (f_fi kf a9 j kd))), (b, .inl (cJ, 256, .inr (.inl (f_fi vf a9 j v))))]) [0, 1, 2] (by decide) rfl
        have hK9 := hK.sub (tys' := [(cI, .int), (cJ, .long)]) [0, 1] rfl
        refine vx_ret ?_
        refine W.widen (k := 2) (n := 12) (Nat.le_of_ble_eq_true rfl) (Nat.le_of_ble_eq_true rfl) ?_
        exact W.vret hx hb hr (fun t9 ht hW => ⟨⟨(f_fi kf a9 j kd, f_fi vf a9 j v), rfl, ⟨⟨h_2, h_4⟩, by rw [hfa, hln]⟩, by rw [ht]; exact hP9, va_K.moved hW.alike hK9, hD9⟩, hS.F ht⟩) hS.2.2 dX1_fill_43
      · rw [hte, hi0] at c_5
        have hjn := lp_lt han hj c_5
        refine lv_aload_n hx hb dX1_fill_20 rfl (lv_at hl 0 rfl) ?_
        refine va_get (D := (dC, dI)) (ci := 1) (v := .ref a) (C := RX1) (T := TX1) (N := 2) hx hb hts kX1_fill_0 hown hK hP 0 rfl rfl 0 (by decide) (hts (.fieldLink RX1 9 "FoldRow" "kinds" "[I") kX1_fill_1) (fun _ h9 => h9) rfl dX1_fill_21 ?_
        refine lv_iload hx hb dX1_fill_24 (lv_at hl 5 rfl) ?_
        refine lv_iload_n hx hb dX1_fill_26 rfl (lv_at hl 3 rfl) ?_
        refine va_iast hx hb hK hP hD hS 1 0 rfl rfl (by rw [hi0]; exact vp_in_nI (by omega) (by omega)) dX1_fill_27 (fun H locs hP hD hS => ?_)
        have hP : va_P (dC, dI) vwCl [(h0, .inr (1, [.ref a, .ref b])), (a, .inl (cI, 256, .inl (upd (f_fi kf a9 j kd) k.toNatClampNeg kd))), (b, .inl (cJ, 256, .inr (.inl (f_fi vf a9 j v))))] H := hP
        have hD : va_D A [(h0, .inr (1, [.ref a, .ref b])), (a, .inl (cI, 256, .inl (upd (f_fi kf a9 j kd) k.toNatClampNeg kd))), (b, .inl (cJ, 256, .inr (.inl (f_fi vf a9 j v))))] := hD
        refine lv_aload_n hx hb dX1_fill_28 rfl (lv_at hl 0 rfl) ?_
        refine va_get (D := (dC, dI)) (ci := 1) (v := .ref b) (C := RX1) (T := TX1) (N := 2) hx hb hts kX1_fill_0 hown hK hP 0 rfl rfl 1 (by decide) (hts (.fieldLink RX1 13 "FoldRow" "values" "[J") kX1_fill_2) (fun _ h9 => h9) rfl dX1_fill_29 ?_
        refine lv_iload hx hb dX1_fill_32 (lv_at hl 5 rfl) ?_
        refine lv_lload hx hb dX1_fill_34 (lv_at hl 4 rfl) ?_
        refine va_last hx hb hK hP hD hS 2 1 rfl rfl (by rw [hi0]; exact vp_in_nI (by omega) (by omega)) dX1_fill_36 (fun H locs hP hD hS => ?_)
        have hP : va_P (dC, dI) vwCl [(h0, .inr (1, [.ref a, .ref b])), (a, .inl (cI, 256, .inl (upd (f_fi kf a9 j kd) k.toNatClampNeg kd))), (b, .inl (cJ, 256, .inr (.inl (vp_updL (f_fi vf a9 j v) k.toNatClampNeg v))))] H := hP
        have hD : va_D A [(h0, .inr (1, [.ref a, .ref b])), (a, .inl (cI, 256, .inl (upd (f_fi kf a9 j kd) k.toNatClampNeg kd))), (b, .inl (cJ, 256, .inr (.inl (vp_updL (f_fi vf a9 j v) k.toNatClampNeg v))))] := hD
        obtain ⟨i_6, ei_6⟩ : ∃ y : Int32, y = k + 1 := ⟨_, rfl⟩
        refine lv_iinc (v := i_6) (lv' := [(6, .int i_6), (0, .ref h0), (1, .int f), (2, .int t), (3, .int kd), (4, .long v)]) hx hb dX1_fill_37 hl (k := 5) rfl (by rw [ei_6]; rfl) (by decide) rfl (fun ls hl => ?_)
        refine lv_goto (tgt := 14) hx hb dX1_fill_40 (by decide) ?_
        rw [hkc, f_fiI, f_fiL] at hP hD
        exact hn (by omega) (i_6) _ _ ls ⟨by rw [ei_6, hi0]; exact nI_1 _, hP.sub [0, 1, 2] rfl, hD.sub [0, 1, 2] (by decide) rfl, hK.sub [0, 1] rfl, hS, lv_sub hl [1, 2, 3, 4, 5, 0] rfl⟩

set_option maxRecDepth 20000 in
theorem kX1_swap_0 : ∀ w ∈ wsX10, w ∈ wsX1_swap := by decide +kernel
set_option maxRecDepth 20000 in
theorem kX1_swap_1 : (.fieldLink RX1 9 "FoldRow" "kinds" "[I" : Cond) ∈ wsX1_swap := by decide +kernel
set_option maxRecDepth 20000 in
theorem kX1_swap_2 : (.fieldLink RX1 13 "FoldRow" "values" "[J" : Cond) ∈ wsX1_swap := by decide +kernel
set_option maxHeartbeats 4000000 in
set_option maxRecDepth 100000 in
theorem qX1_swap (l : Launch) (hlt : l.stackTraces = false) (dC : Nat → ClassId) (dI : Nat → Nat → Nat) (sz : Nat) (h0 a b : Nat) (cI cJ : ClassId) (kf : Nat → Int32) (vf : Nat → Int64) (i k : Int32)  : vx_Met l yX1_swap wsX1_swap ({ frames := 7, cells := 2, slots := 12, locals := 120 }) (va_Pc [.ref h0, .int i, .int k] (fun U => U.heap.size = sz ∧ va_P (dC, dI) vwCl [(h0, .inr (1, [.ref a, .ref b])), (a, .inl (cI, 256, .inl kf)), (b, .inl (cJ, 256, .inr (.inl vf)))] U.heap ∧ va_K (dC, dI) vwCl [(cI, .int), (cJ, .long)] U ∧ va_D (fun _ => True) [(h0, .inr (1, [.ref a, .ref b])), (a, .inl (cI, 256, .inl kf)), (b, .inl (cJ, 256, .inr (.inl vf)))] ∧ ev U ∧ ez (va_A [(h0, .inr (1, [.ref a, .ref b])), (a, .inl (cI, 256, .inl kf)), (b, .inl (cJ, 256, .inr (.inl vf)))] sz) U U.heap)) (va_Qv (fun (u : (Nat → Int32) × (Nat → Int64)) => (okP i ∧ okP k) ∧ u = (upd (upd kf i.toNatClampNeg (kf k.toNatClampNeg)) k.toNatClampNeg (kf i.toNatClampNeg), vp_updL (vp_updL vf i.toNatClampNeg (vf k.toNatClampNeg)) k.toNatClampNeg (vf i.toNatClampNeg))) (fun (u : (Nat → Int32) × (Nat → Int64)) (t9 : State) => va_P (dC, dI) vwCl [(h0, .inr (1, [.ref a, .ref b])), (a, .inl (cI, 256, .inl u.1)), (b, .inl (cJ, 256, .inr (.inl u.2)))] t9.heap ∧ va_K (dC, dI) vwCl [(cI, .int), (cJ, .long)] t9 ∧ va_D (va_A [(h0, .inr (1, [.ref a, .ref b])), (a, .inl (cI, 256, .inl kf)), (b, .inl (cJ, 256, .inr (.inl vf)))] sz) [(h0, .inr (1, [.ref a, .ref b])), (a, .inl (cI, 256, .inl u.1)), (b, .inl (cJ, 256, .inr (.inl u.2)))]) (va_A [(h0, .inr (1, [.ref a, .ref b])), (a, .inl (cI, 256, .inl kf)), (b, .inl (cJ, 256, .inr (.inl vf)))] sz)) (vx_X (fun _ : Unit => True) (fun (E : String) (_ : Unit) (t9 : State) => (E = IOB ∧ ¬ (okP i ∧ okP k)) ∧ va_P (dC, dI) vwCl [(h0, .inr (1, [.ref a, .ref b])), (a, .inl (cI, 256, .inl kf)), (b, .inl (cJ, 256, .inr (.inl vf)))] t9.heap ∧ va_K (dC, dI) vwCl [(cI, .int), (cJ, .long)] t9 ∧ va_D (va_A [(h0, .inr (1, [.ref a, .ref b])), (a, .inl (cI, 256, .inl kf)), (b, .inl (cJ, 256, .inr (.inl vf)))] sz) [(h0, .inr (1, [.ref a, .ref b])), (a, .inl (cI, 256, .inl kf)), (b, .inl (cJ, 256, .inr (.inl vf)))]) (va_A [(h0, .inr (1, [.ref a, .ref b])), (a, .inl (cI, 256, .inl kf)), (b, .inl (cJ, 256, .inr (.inl vf)))] sz)) 2 12 (va_A [(h0, .inr (1, [.ref a, .ref b])), (a, .inl (cI, 256, .inl kf)), (b, .inl (cJ, 256, .inr (.inl vf)))] sz) := by
  refine vx_ofW (cc := cX1_swap) (maxL := 6) (ret := none) (by decide) rfl ?_
  intro p e s m args below meth c s₁ B hml htb hv
  obtain ⟨rfl, hsz, hP, hK, hD0, hE, hZ⟩ := hv
  have hx := B.exec
  have hb := B.bytes
  have hr := B.returns
  have hts := atoms_spec (ws := wsX1_swap) B.pre
  have hown : s.vm.findClass RX1 = some m.cls := findClass_of_methodNamed B.named
  have hlocks := B.notSynchronized
  subst hsz
  have hD := hD0.self (sz := s.heap.size)
  generalize hAe : va_A [(h0, .inr (1, [.ref a, .ref b])), (a, .inl (cI, 256, .inl kf)), (b, .inl (cJ, 256, .inr (.inl vf)))] s.heap.size = A at hD hZ ⊢
  have hA : ∀ q : Nat, s.heap.size ≤ q → A q := fun q h => by rw [← hAe]; exact Or.inr h
  have hS : va_S A s.heap s.heap [] := va_S.rf
  have hP : va_P (dC, dI) vwCl [(h0, .inr (1, [.ref a, .ref b])), (a, .inl (cI, 256, .inl kf)), (b, .inl (cJ, 256, .inr (.inl vf)))] s.heap := hP
  have hl := lv_entry ([.ref h0, .int i, .int k]) (n := 6) (Nat.le_of_ble_eq_true rfl)
  rw [lg_entry_eq]
  generalize (lg_sl ([.ref h0, .int i, .int k]) ++ List.replicate (6 - (lg_sl ([.ref h0, .int i, .int k])).length) Slot.unset).toArray = ls at hl ⊢
  have hl : lv_has ls 6 [(0, .ref h0), (1, .int i), (2, .int k)] := hl
  refine lv_iload_n hx hb dX1_swap_0 rfl (lv_at hl 1 rfl) ?_
  have hPc := hP.sub (ws' := []) [] rfl
  have hDc := hD.sub (ws' := []) [] (by decide) rfl
  have hKc := hK.sub (tys' := []) [] rfl
  have hFc := va_free (wc := []) hD hS hA [] rfl
  refine vx_callv (vx_runS (As := [.int i]) (rest := []) ⟨hx, hb, hml, hown, hts⟩ (qX1_checkPlace l hlt dC dI s.heap.size i) (va_cwS 1 hts gX1_swap_X1_checkPlace rfl rfl rfl (by decide +kernel) ⟨Nat.le_of_ble_eq_true rfl, Nat.le_of_ble_eq_true rfl⟩) ⟨fun a U g mk q => by obtain ⟨q0, q1, qP, qK, qD, qE, qZ⟩ := q; exact ⟨q0, q1, qP, va_K.moved (u := U) (U := U.calling g mk a) (Vm.Alike.refl U.vm) qK, qD, ev.same (u := U) rfl qE, ez.moved (U := U.calling g mk a) qZ (Vm.Alike.refl U.vm)⟩, fun U hU hW => ⟨rfl, by rw [hU], by rw [hU]; exact hPc, va_K.moved hW.alike hKc, hDc.weaken (fun _ _ _ _ => trivial), hE.warm hW, by rw [hU]; exact ((hZ.kept hS.2.1).narrow hFc).moved hW.alike⟩⟩ rfl rfl hl.1 rfl (lv_room (Nat.le_of_ble_eq_true rfl)) dX1_swap_1 ⟨Nat.le_of_ble_eq_true rfl, Nat.le_of_ble_eq_true rfl⟩) hS (fun q _ h => hFc q h) hFc (fun q _ h => hFc q h) (fun E ce q9 u t9 H1 locs ht hvm hw hB hz1 hk1 hS hce hcv hcl => ?_) (fun u t9 H1 locs ht hvm hw hB hz1 hk1 hS => ?_)
  · obtain ⟨hex, hP1, hK1, hD1⟩ := hB
    rw [ht] at hP1
    have hK1 := va_K.moved hvm.symm hK1
    obtain ⟨hP, hD⟩ := va_join (wr := [(h0, .inr (1, [.ref a, .ref b])), (a, .inl (cI, 256, .inl kf)), (b, .inl (cJ, 256, .inr (.inl vf)))]) (w1 := []) hP hD [] [0, 1, 2] rfl rfl (by decide) (by decide) hk1 hFc hP1 hD1
    have hK := (hK.sub (tys' := [(cI, .int), (cJ, .long)]) [0, 1] rfl).app hK1
    generalize H1 = H at hP hS hce ⊢
    have hP : va_P (dC, dI) vwCl [(h0, .inr (1, [.ref a, .ref b])), (a, .inl (cI, 256, .inl kf)), (b, .inl (cJ, 256, .inr (.inl vf)))] H := hP
    have hD : va_D A [(h0, .inr (1, [.ref a, .ref b])), (a, .inl (cI, 256, .inl kf)), (b, .inl (cJ, 256, .inr (.inl vf)))] := hD
    have hK : va_K (dC, dI) vwCl [(cI, .int), (cJ, .long)] s := hK
    refine vx_widen (k := 1) (n := 6) (Nat.le_of_ble_eq_true rfl) (Nat.le_of_ble_eq_true rfl) ?_
    have hP9 := hP.sub (ws' := [(h0, .inr (1, [.ref a, .ref b])), (a, .inl (cI, 256, .inl kf)), (b, .inl (cJ, 256, .inr (.inl vf)))]) [0, 1, 2] rfl
    have hD9 := hD.sub (ws' := [(h0, .inr (1, [.ref a, .ref b])), (a, .inl (cI, 256, .inl kf)), (b, .inl (cJ, 256, .inr (.inl vf)))]) [0, 1, 2] (by decide) rfl
    have hK9 := hK.sub (tys' := [(cI, .int), (cJ, .long)]) [0, 1] rfl
    exact vx_out (fun x hx => (htb x hx).elim) hlocks hce hcv hcl (fun t9 ht hvm => ⟨(), trivial, ⟨⟨hex.1, fun h => hex.2 h.1⟩, by rw [ht]; exact hP9, va_K.moved hvm hK9, hD9⟩, hS.F ht⟩) hS.2.2 (Nat.le_of_ble_eq_true rfl) (Nat.le_of_ble_eq_true rfl)
  · obtain ⟨hP1, hK1, hD1⟩ := hB
    rw [ht] at hP1
    have h_2 := hw
    have hK1 := va_K.moved hvm.symm hK1
    obtain ⟨hP, hD⟩ := va_join (wr := [(h0, .inr (1, [.ref a, .ref b])), (a, .inl (cI, 256, .inl kf)), (b, .inl (cJ, 256, .inr (.inl vf)))]) (w1 := []) hP hD [] [0, 1, 2] rfl rfl (by decide) (by decide) hk1 hFc hP1 hD1
    have hK := (hK.sub (tys' := [(cI, .int), (cJ, .long)]) [0, 1] rfl).app hK1
    generalize H1 = H at hP hS ⊢
    have hP : va_P (dC, dI) vwCl [(h0, .inr (1, [.ref a, .ref b])), (a, .inl (cI, 256, .inl kf)), (b, .inl (cJ, 256, .inr (.inl vf)))] H := hP
    have hD : va_D A [(h0, .inr (1, [.ref a, .ref b])), (a, .inl (cI, 256, .inl kf)), (b, .inl (cJ, 256, .inr (.inl vf)))] := hD
    have hK : va_K (dC, dI) vwCl [(cI, .int), (cJ, .long)] s := hK
    refine W.widen (k := 1) (n := 6) (Nat.le_of_ble_eq_true rfl) (Nat.le_of_ble_eq_true rfl) ?_
    refine lv_iload_n hx hb dX1_swap_4 rfl (lv_at hl 2 rfl) ?_
    have hPc := hP.sub (ws' := []) [] rfl
    have hDc := hD.sub (ws' := []) [] (by decide) rfl
    have hKc := hK.sub (tys' := []) [] rfl
    have hFc := va_free (wc := []) hD hS hA [] rfl
    refine vx_callv (vx_runS (As := [.int k]) (rest := []) ⟨hx, hb, hml, hown, hts⟩ (qX1_checkPlace l hlt dC dI H.size k) (va_cwS 1 hts gX1_swap_X1_checkPlace rfl rfl rfl (by decide +kernel) ⟨Nat.le_of_ble_eq_true rfl, Nat.le_of_ble_eq_true rfl⟩) ⟨fun a U g mk q => by obtain ⟨q0, q1, qP, qK, qD, qE, qZ⟩ := q; exact ⟨q0, q1, qP, va_K.moved (u := U) (U := U.calling g mk a) (Vm.Alike.refl U.vm) qK, qD, ev.same (u := U) rfl qE, ez.moved (U := U.calling g mk a) qZ (Vm.Alike.refl U.vm)⟩, fun U hU hW => ⟨rfl, by rw [hU], by rw [hU]; exact hPc, va_K.moved hW.alike hKc, hDc.weaken (fun _ _ _ _ => trivial), hE.warm hW, by rw [hU]; exact ((hZ.kept hS.2.1).narrow hFc).moved hW.alike⟩⟩ rfl rfl hl.1 rfl (lv_room (Nat.le_of_ble_eq_true rfl)) dX1_swap_5 ⟨Nat.le_of_ble_eq_true rfl, Nat.le_of_ble_eq_true rfl⟩) hS (fun q _ h => hFc q h) hFc (fun q _ h => hFc q h) (fun E ce q9 u t9 H1 locs ht hvm hw hB hz1 hk1 hS hce hcv hcl => ?_) (fun u t9 H1 locs ht hvm hw hB hz1 hk1 hS => ?_)
    · obtain ⟨hex, hP1, hK1, hD1⟩ := hB
      rw [ht] at hP1
      have hK1 := va_K.moved hvm.symm hK1
      obtain ⟨hP, hD⟩ := va_join (wr := [(h0, .inr (1, [.ref a, .ref b])), (a, .inl (cI, 256, .inl kf)), (b, .inl (cJ, 256, .inr (.inl vf)))]) (w1 := []) hP hD [] [0, 1, 2] rfl rfl (by decide) (by decide) hk1 hFc hP1 hD1
      have hK := (hK.sub (tys' := [(cI, .int), (cJ, .long)]) [0, 1] rfl).app hK1
      generalize H1 = H at hP hS hce ⊢
      have hP : va_P (dC, dI) vwCl [(h0, .inr (1, [.ref a, .ref b])), (a, .inl (cI, 256, .inl kf)), (b, .inl (cJ, 256, .inr (.inl vf)))] H := hP
      have hD : va_D A [(h0, .inr (1, [.ref a, .ref b])), (a, .inl (cI, 256, .inl kf)), (b, .inl (cJ, 256, .inr (.inl vf)))] := hD
      have hK : va_K (dC, dI) vwCl [(cI, .int), (cJ, .long)] s := hK
      refine vx_widen (k := 2) (n := 12) (Nat.le_of_ble_eq_true rfl) (Nat.le_of_ble_eq_true rfl) ?_
      have hP9 := hP.sub (ws' := [(h0, .inr (1, [.ref a, .ref b])), (a, .inl (cI, 256, .inl kf)), (b, .inl (cJ, 256, .inr (.inl vf)))]) [0, 1, 2] rfl
      have hD9 := hD.sub (ws' := [(h0, .inr (1, [.ref a, .ref b])), (a, .inl (cI, 256, .inl kf)), (b, .inl (cJ, 256, .inr (.inl vf)))]) [0, 1, 2] (by decide) rfl
      have hK9 := hK.sub (tys' := [(cI, .int), (cJ, .long)]) [0, 1] rfl
      exact vx_out (fun x hx => (htb x hx).elim) hlocks hce hcv hcl (fun t9 ht hvm => ⟨(), trivial, ⟨⟨hex.1, fun h => hex.2 h.2⟩, by rw [ht]; exact hP9, va_K.moved hvm hK9, hD9⟩, hS.F ht⟩) hS.2.2 (Nat.le_of_ble_eq_true rfl) (Nat.le_of_ble_eq_true rfl)
    · obtain ⟨hP1, hK1, hD1⟩ := hB
      rw [ht] at hP1
      have h_4 := hw
      have hK1 := va_K.moved hvm.symm hK1
      obtain ⟨hP, hD⟩ := va_join (wr := [(h0, .inr (1, [.ref a, .ref b])), (a, .inl (cI, 256, .inl kf)), (b, .inl (cJ, 256, .inr (.inl vf)))]) (w1 := []) hP hD [] [0, 1, 2] rfl rfl (by decide) (by decide) hk1 hFc hP1 hD1
      have hK := (hK.sub (tys' := [(cI, .int), (cJ, .long)]) [0, 1] rfl).app hK1
      generalize H1 = H at hP hS ⊢
      have hP : va_P (dC, dI) vwCl [(h0, .inr (1, [.ref a, .ref b])), (a, .inl (cI, 256, .inl kf)), (b, .inl (cJ, 256, .inr (.inl vf)))] H := hP
      have hD : va_D A [(h0, .inr (1, [.ref a, .ref b])), (a, .inl (cI, 256, .inl kf)), (b, .inl (cJ, 256, .inr (.inl vf)))] := hD
      have hK : va_K (dC, dI) vwCl [(cI, .int), (cJ, .long)] s := hK
      refine W.widen (k := 2) (n := 12) (Nat.le_of_ble_eq_true rfl) (Nat.le_of_ble_eq_true rfl) ?_
      refine lv_aload_n hx hb dX1_swap_8 rfl (lv_at hl 0 rfl) ?_
      refine va_get (D := (dC, dI)) (ci := 1) (v := .ref a) (C := RX1) (T := TX1) (N := 2) hx hb hts kX1_swap_0 hown hK hP 0 rfl rfl 0 (by decide) (hts (.fieldLink RX1 9 "FoldRow" "kinds" "[I") kX1_swap_1) (fun _ h9 => h9) rfl dX1_swap_9 ?_
      refine lv_iload_n hx hb dX1_swap_12 rfl (lv_at hl 1 rfl) ?_
      refine va_iald hx hb hK hP 1 0 rfl rfl (in_P h_2) dX1_swap_13 ?_
      refine lv_topi (fun v_5 ev_5 => ?_)
      refine lv_istore_n (lv' := [(3, .int v_5), (0, .ref h0), (1, .int i), (2, .int k)]) hx hb dX1_swap_14 rfl hl (by decide) rfl (fun ls hl => ?_)
      refine lv_aload_n hx hb dX1_swap_15 rfl (lv_at hl 1 rfl) ?_
      refine va_get (D := (dC, dI)) (ci := 1) (v := .ref b) (C := RX1) (T := TX1) (N := 2) hx hb hts kX1_swap_0 hown hK hP 0 rfl rfl 1 (by decide) (hts (.fieldLink RX1 13 "FoldRow" "values" "[J") kX1_swap_2) (fun _ h9 => h9) rfl dX1_swap_16 ?_
      refine lv_iload_n hx hb dX1_swap_19 rfl (lv_at hl 2 rfl) ?_
      refine va_lald hx hb hK hP 2 1 rfl rfl (in_P h_2) dX1_swap_20 ?_
      refine lv_topl (fun v_6 ev_6 => ?_)
      refine lv_lstore (lv' := [(4, .long v_6), (3, .int v_5), (0, .ref h0), (1, .int i), (2, .int k)]) hx hb dX1_swap_21 hl (by decide) rfl (fun ls hl => ?_)
      refine lv_aload_n hx hb dX1_swap_23 rfl (lv_at hl 2 rfl) ?_
      refine va_get (D := (dC, dI)) (ci := 1) (v := .ref a) (C := RX1) (T := TX1) (N := 2) hx hb hts kX1_swap_0 hown hK hP 0 rfl rfl 0 (by decide) (hts (.fieldLink RX1 9 "FoldRow" "kinds" "[I") kX1_swap_1) (fun _ h9 => h9) rfl dX1_swap_24 ?_
      refine lv_iload_n hx hb dX1_swap_27 rfl (lv_at hl 3 rfl) ?_
      refine lv_aload_n hx hb dX1_swap_28 rfl (lv_at hl 2 rfl) ?_
      refine va_get (D := (dC, dI)) (ci := 1) (v := .ref a) (C := RX1) (T := TX1) (N := 2) hx hb hts kX1_swap_0 hown hK hP 0 rfl rfl 0 (by decide) (hts (.fieldLink RX1 9 "FoldRow" "kinds" "[I") kX1_swap_1) (fun _ h9 => h9) rfl dX1_swap_29 ?_
      refine lv_iload_n hx hb dX1_swap_32 rfl (lv_at hl 4 rfl) ?_
      refine va_iald hx hb hK hP 1 0 rfl rfl (in_P h_4) dX1_swap_33 ?_
      refine lv_topi (fun v_7 ev_7 => ?_)
      refine va_iast hx hb hK hP hD hS 1 0 rfl rfl (in_P h_2) dX1_swap_34 (fun H locs hP hD hS => ?_)
      have hP : va_P (dC, dI) vwCl [(h0, .inr (1, [.ref a, .ref b])), (a, .inl (cI, 256, .inl (upd kf i.toNatClampNeg v_7))), (b, .inl (cJ, 256, .inr (.inl vf)))] H := hP
      have hD : va_D A [(h0, .inr (1, [.ref a, .ref b])), (a, .inl (cI, 256, .inl (upd kf i.toNatClampNeg v_7))), (b, .inl (cJ, 256, .inr (.inl vf)))] := hD
      refine lv_aload_n hx hb dX1_swap_35 rfl (lv_at hl 2 rfl) ?_
      refine va_get (D := (dC, dI)) (ci := 1) (v := .ref b) (C := RX1) (T := TX1) (N := 2) hx hb hts kX1_swap_0 hown hK hP 0 rfl rfl 1 (by decide) (hts (.fieldLink RX1 13 "FoldRow" "values" "[J") kX1_swap_2) (fun _ h9 => h9) rfl dX1_swap_36 ?_
      refine lv_iload_n hx hb dX1_swap_39 rfl (lv_at hl 3 rfl) ?_
      refine lv_aload_n hx hb dX1_swap_40 rfl (lv_at hl 2 rfl) ?_
      refine va_get (D := (dC, dI)) (ci := 1) (v := .ref b) (C := RX1) (T := TX1) (N := 2) hx hb hts kX1_swap_0 hown hK hP 0 rfl rfl 1 (by decide) (hts (.fieldLink RX1 13 "FoldRow" "values" "[J") kX1_swap_2) (fun _ h9 => h9) rfl dX1_swap_41 ?_
      refine lv_iload_n hx hb dX1_swap_44 rfl (lv_at hl 4 rfl) ?_
      refine va_lald hx hb hK hP 2 1 rfl rfl (in_P h_4) dX1_swap_45 ?_
      refine lv_topl (fun v_8 ev_8 => ?_)
      refine va_last hx hb hK hP hD hS 2 1 rfl rfl (in_P h_2) dX1_swap_46 (fun H locs hP hD hS => ?_)
      have hP : va_P (dC, dI) vwCl [(h0, .inr (1, [.ref a, .ref b])), (a, .inl (cI, 256, .inl (upd kf i.toNatClampNeg v_7))), (b, .inl (cJ, 256, .inr (.inl (vp_updL vf i.toNatClampNeg v_8))))] H := hP
      have hD : va_D A [(h0, .inr (1, [.ref a, .ref b])), (a, .inl (cI, 256, .inl (upd kf i.toNatClampNeg v_7))), (b, .inl (cJ, 256, .inr (.inl (vp_updL vf i.toNatClampNeg v_8))))] := hD
      refine lv_aload_n hx hb dX1_swap_47 rfl (lv_at hl 2 rfl) ?_
      refine va_get (D := (dC, dI)) (ci := 1) (v := .ref a) (C := RX1) (T := TX1) (N := 2) hx hb hts kX1_swap_0 hown hK hP 0 rfl rfl 0 (by decide) (hts (.fieldLink RX1 9 "FoldRow" "kinds" "[I") kX1_swap_1) (fun _ h9 => h9) rfl dX1_swap_48 ?_
      refine lv_iload_n hx hb dX1_swap_51 rfl (lv_at hl 4 rfl) ?_
      refine lv_iload_n hx hb dX1_swap_52 rfl (lv_at hl 1 rfl) ?_
      refine va_iast hx hb hK hP hD hS 1 0 rfl rfl (in_P h_4) dX1_swap_53 (fun H locs hP hD hS => ?_)
      have hP : va_P (dC, dI) vwCl [(h0, .inr (1, [.ref a, .ref b])), (a, .inl (cI, 256, .inl (upd (upd kf i.toNatClampNeg v_7) k.toNatClampNeg v_5))), (b, .inl (cJ, 256, .inr (.inl (vp_updL vf i.toNatClampNeg v_8))))] H := hP
      have hD : va_D A [(h0, .inr (1, [.ref a, .ref b])), (a, .inl (cI, 256, .inl (upd (upd kf i.toNatClampNeg v_7) k.toNatClampNeg v_5))), (b, .inl (cJ, 256, .inr (.inl (vp_updL vf i.toNatClampNeg v_8))))] := hD
      refine lv_aload_n hx hb dX1_swap_54 rfl (lv_at hl 2 rfl) ?_
      refine va_get (D := (dC, dI)) (ci := 1) (v := .ref b) (C := RX1) (T := TX1) (N := 2) hx hb hts kX1_swap_0 hown hK hP 0 rfl rfl 1 (by decide) (hts (.fieldLink RX1 13 "FoldRow" "values" "[J") kX1_swap_2) (fun _ h9 => h9) rfl dX1_swap_55 ?_
      refine lv_iload_n hx hb dX1_swap_58 rfl (lv_at hl 4 rfl) ?_
      refine lv_lload hx hb dX1_swap_59 (lv_at hl 0 rfl) ?_
      refine va_last hx hb hK hP hD hS 2 1 rfl rfl (in_P h_4) dX1_swap_61 (fun H locs hP hD hS => ?_)
      have hP : va_P (dC, dI) vwCl [(h0, .inr (1, [.ref a, .ref b])), (a, .inl (cI, 256, .inl (upd (upd kf i.toNatClampNeg v_7) k.toNatClampNeg v_5))), (b, .inl (cJ, 256, .inr (.inl (vp_updL (vp_updL vf i.toNatClampNeg v_8) k.toNatClampNeg v_6))))] H := hP
      have hD : va_D A [(h0, .inr (1, [.ref a, .ref b])), (a, .inl (cI, 256, .inl (upd (upd kf i.toNatClampNeg v_7) k.toNatClampNeg v_5))), (b, .inl (cJ, 256, .inr (.inl (vp_updL (vp_updL vf i.toNatClampNeg v_8) k.toNatClampNeg v_6))))] := hD
      have hP9 := hP.sub (ws' := [(h0, .inr (1, [.ref a, .ref b])), (a, .inl (cI, 256, .inl (upd (upd kf i.toNatClampNeg v_7) k.toNatClampNeg v_5))), (b, .inl (cJ, 256, .inr (.inl (vp_updL (vp_updL vf i.toNatClampNeg v_8) k.toNatClampNeg v_6))))]) [0, 1, 2] rfl
      have hD9 := hD.sub (ws' := [(h0, .inr (1, [.ref a, .ref b])), (a, .inl (cI, 256, .inl (upd (upd kf i.toNatClampNeg v_7) k.toNatClampNeg v_5))), (b, .inl (cJ, 256, .inr (.inl (vp_updL (vp_updL vf i.toNatClampNeg v_8) k.toNatClampNeg v_6))))]) [0, 1, 2] (by decide) rfl
      have hK9 := hK.sub (tys' := [(cI, .int), (cJ, .long)]) [0, 1] rfl
      refine vx_ret ?_
      refine W.widen (k := 2) (n := 12) (Nat.le_of_ble_eq_true rfl) (Nat.le_of_ble_eq_true rfl) ?_
      exact W.vret hx hb hr (fun t9 ht hW => ⟨⟨(upd (upd kf i.toNatClampNeg v_7) k.toNatClampNeg v_5, vp_updL (vp_updL vf i.toNatClampNeg v_8) k.toNatClampNeg v_6), rfl, ⟨⟨h_2, h_4⟩, by simp only [ev_5, ev_6, ev_7, ev_8]⟩, by rw [ht]; exact hP9, va_K.moved hW.alike hK9, hD9⟩, hS.F ht⟩) hS.2.2 dX1_swap_62
