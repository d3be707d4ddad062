set_option maxHeartbeats 4000000 in
set_option maxRecDepth 100000 in
theorem law_least {p : Program} {l : Launch} {e : Env} {s : State} {m : MethodId} {below : List Frame} {meth : Method} {c : Code} {b L : Nat} {xs : Nat → Int32} {A : Nat → Prop} {dC : Nat → ClassId} {dI : Nat → Nat → Nat} {h0 a b1 m0 a2 b2 o : Nat} {cI cJ cK cM cO : ClassId} (C0 : lw_C p l s m c b L xs A) (hK : va_K (dC, dI) vwCl [(cI, .int), (cJ, .long), (cK, .int), (cM, .long), (cO, .long)] s) {n0 : Nat} (hn : n0 + 5 < L) {cells slots : Nat} (hrc : cells + 5 ≤ room_1.cells) (hrs : slots + 30 ≤ room_1.slots) {kf : Nat → Int32} {vf ov : Nat → Int64} {er : Int32} (hR : okA kf vf) {H : Heap} {locs : List Loc} {ls : Array Slot} (hP : va_P (dC, dI) vwCl [(h0, .inr (1, [.ref a, .ref b1])), (a, .inl (cI, 256, .inl kf)), (b1, .inl (cJ, 256, .inr (.inl vf))), (m0, .inr (2, [.int er, .ref a2, .ref b2])), (a2, .inl (cK, 256, .inl kf)), (b2, .inl (cM, 256, .inr (.inl vf))), (o, .inl (cO, 1, .inr (.inl ov)))] H) (hD : va_D A [(h0, .inr (1, [.ref a, .ref b1])), (a, .inl (cI, 256, .inl kf)), (b1, .inl (cJ, 256, .inr (.inl vf))), (m0, .inr (2, [.int er, .ref a2, .ref b2])), (a2, .inl (cK, 256, .inl kf)), (b2, .inl (cM, 256, .inr (.inl vf))), (o, .inl (cO, 1, .inr (.inl ov)))]) (hS : va_S A s.heap H locs) (hl : lv_has ls 8 [(0, .ref b), (1, .ref h0), (2, .ref m0), (3, .ref o), (4, .int (nI n0))]) (K : ∀ (kf : Nat → Int32) (vf ov : Nat → Int64) (er : Int32) (H : Heap) (locs : List Loc) (ls : Array Slot), okA kf vf → va_P (dC, dI) vwCl [(h0, .inr (1, [.ref a, .ref b1])), (a, .inl (cI, 256, .inl kf)), (b1, .inl (cJ, 256, .inr (.inl vf))), (m0, .inr (2, [.int er, .ref a2, .ref b2])), (a2, .inl (cK, 256, .inl kf)), (b2, .inl (cM, 256, .inr (.inl vf))), (o, .inl (cO, 1, .inr (.inl ov)))] H → va_D A [(h0, .inr (1, [.ref a, .ref b1])), (a, .inl (cI, 256, .inl kf)), (b1, .inl (cJ, 256, .inr (.inl vf))), (m0, .inr (2, [.int er, .ref a2, .ref b2])), (a2, .inl (cK, 256, .inl kf)), (b2, .inl (cM, 256, .inr (.inl vf))), (o, .inl (cO, 1, .inr (.inl ov)))] → va_S A s.heap H locs → lv_has ls 8 [(0, .ref b), (1, .ref h0), (2, .ref m0), (3, .ref o), (4, .int (nI n0))] → W p l e room_1 s m #[Value.ref b] below meth c H locs (cells + 5) (slots + 30) (lw_Z below #[Value.ref b] s) (F0 m 879 ls [])) : W p l e room_1 s m #[Value.ref b] below meth c H locs cells slots (lw_Z below #[Value.ref b] s) (F0 m 570 ls []) := by
  obtain ⟨hx, hb, hml, hown, hts, hX, hbl, hbA, hA, hlt, hE, hZ, hL⟩ := C0
  refine lv_aload_n hx hb dL_law_570 rfl (lv_at hl 1 rfl) ?_
  refine lv_aload_n hx hb dL_law_571 rfl (lv_at hl 0 rfl) ?_
  refine lv_iload hx hb dL_law_572 (lv_at hl 4 rfl) ?_
  refine lv_iconst (v := 1) hx hb dL_law_574 (by decide) ?_
  refine lv_iadd hx hb dL_law_575 ?_
  refine lw_sld (c9 := 1) hx hb hX hbl hbA hS rfl (by omega) hL dL_law_576 ?_
  refine lv_aload_n hx hb dL_law_577 rfl (lv_at hl 0 rfl) ?_
  refine lv_iload hx hb dL_law_578 (lv_at hl 4 rfl) ?_
  refine lv_iconst (v := 2) hx hb dL_law_580 (by decide) ?_
  refine lv_iadd hx hb dL_law_581 ?_
  refine lw_sld (c9 := 2) hx hb hX hbl hbA hS rfl (by omega) hL dL_law_582 ?_
  refine lv_aload_n hx hb dL_law_583 rfl (lv_at hl 3 rfl) ?_
  have hPc := hP.sub (ws' := [(h0, .inr (1, [.ref a, .ref b1])), (a, .inl (cI, 256, .inl kf)), (b1, .inl (cJ, 256, .inr (.inl vf))), (o, .inl (cO, 1, .inr (.inl ov)))]) [0, 1, 2, 6] rfl
  have hDc := hD.sub (ws' := [(h0, .inr (1, [.ref a, .ref b1])), (a, .inl (cI, 256, .inl kf)), (b1, .inl (cJ, 256, .inr (.inl vf))), (o, .inl (cO, 1, .inr (.inl ov)))]) [0, 1, 2, 6] (by decide) rfl
  have hKc := hK.sub (tys' := [(cI, .int), (cJ, .long), (cO, .long)]) [0, 1, 4] rfl
  have hFc := va_free (wc := [(h0, .inr (1, [.ref a, .ref b1])), (a, .inl (cI, 256, .inl kf)), (b1, .inl (cJ, 256, .inr (.inl vf))), (o, .inl (cO, 1, .inr (.inl ov)))]) hD hS hA [0, 1, 2, 6] rfl
  refine vx_calli (vx_runSX (As := [.ref h0, .int (xs (n0 + 1)), .int (xs (n0 + 2)), .ref o]) (rest := []) ⟨hx, hb, hml, hown, hts⟩ (qL_least l hlt dC dI H.size h0 a b1 cI cJ kf vf o cO ov (xs (n0 + 1)) (xs (n0 + 2))) (vx_cwSW 4 hts gL_law_L_least rfl rfl rfl (by decide +kernel) ⟨Nat.le_of_ble_eq_true rfl, Nat.le_of_ble_eq_true rfl⟩) ⟨fun a U g mk q => by obtain ⟨q0, q1, qP, qK, qD, qE, qZ⟩ := q; exact ⟨q0, q1, qP, va_K.moved (u := U) (U := U.calling g mk a) (Vm.Alike.refl U.vm) qK, qD, ev.same (u := U) rfl qE, ez.moved (U := U.calling g mk a) qZ (Vm.Alike.refl U.vm)⟩, fun U hU hW => ⟨rfl, by rw [hU], by rw [hU]; exact hPc, va_K.moved hW.alike hKc, hDc.weaken (fun _ _ _ _ => trivial), hE.warm hW, by rw [hU]; exact ((hZ.kept hS.2.1).narrow hFc).moved hW.alike⟩⟩ rfl rfl hl.1 rfl (lv_room (Nat.le_of_ble_eq_true rfl)) dL_law_584 ⟨Nat.le_trans (by omega) hrc, Nat.le_trans (by omega) hrs⟩) hS (fun q _ h => hFc q h) hFc (fun q _ h => hFc q h) (fun E ce q9 u t9 H1 locs ht hvm hw hB hz1 hk1 hS hce hcv hcl => ?_) (fun r_1 u t9 H1 locs ht hvm hw hB hz1 hk1 hS => ?_)
  · exact hB.1.elim
  · obtain ⟨hP1, hK1, hD1⟩ := hB
    rw [ht] at hP1
    obtain ⟨h_2, rfl⟩ := hw
    have hK1 := va_K.moved hvm.symm hK1
    obtain ⟨hP, hD⟩ := va_join (wr := [(m0, .inr (2, [.int er, .ref a2, .ref b2])), (a2, .inl (cK, 256, .inl kf)), (b2, .inl (cM, 256, .inr (.inl vf)))]) (w1 := [(h0, .inr (1, [.ref a, .ref b1])), (a, .inl (cI, 256, .inl kf)), (b1, .inl (cJ, 256, .inr (.inl vf))), (o, .inl (cO, 1, .inr (.inl (if okW (xs (n0 + 1)) (xs (n0 + 2)) ∧ ¬ (eW kf vf (xs (n0 + 1)) (xs (n0 + 2))).2.1 = 0 then vp_updL ov (0 : Int32).toNatClampNeg (eW kf vf (xs (n0 + 1)) (xs (n0 + 2))).2.2.1 else ov))))]) hP hD [0, 1, 2, 6] [3, 4, 5] rfl rfl (by decide) (by decide) hk1 hFc hP1 hD1
    have hK := (hK.sub (tys' := [(cK, .int), (cM, .long)]) [2, 3] rfl).app hK1
    generalize H1 = H at hP hS ⊢
    have hP : va_P (dC, dI) vwCl [(m0, .inr (2, [.int er, .ref a2, .ref b2])), (a2, .inl (cK, 256, .inl kf)), (b2, .inl (cM, 256, .inr (.inl vf))), (h0, .inr (1, [.ref a, .ref b1])), (a, .inl (cI, 256, .inl kf)), (b1, .inl (cJ, 256, .inr (.inl vf))), (o, .inl (cO, 1, .inr (.inl (if okW (xs (n0 + 1)) (xs (n0 + 2)) ∧ ¬ (eW kf vf (xs (n0 + 1)) (xs (n0 + 2))).2.1 = 0 then vp_updL ov (0 : Int32).toNatClampNeg (eW kf vf (xs (n0 + 1)) (xs (n0 + 2))).2.2.1 else ov))))] H := hP
    have hD : va_D A [(m0, .inr (2, [.int er, .ref a2, .ref b2])), (a2, .inl (cK, 256, .inl kf)), (b2, .inl (cM, 256, .inr (.inl vf))), (h0, .inr (1, [.ref a, .ref b1])), (a, .inl (cI, 256, .inl kf)), (b1, .inl (cJ, 256, .inr (.inl vf))), (o, .inl (cO, 1, .inr (.inl (if okW (xs (n0 + 1)) (xs (n0 + 2)) ∧ ¬ (eW kf vf (xs (n0 + 1)) (xs (n0 + 2))).2.1 = 0 then vp_updL ov (0 : Int32).toNatClampNeg (eW kf vf (xs (n0 + 1)) (xs (n0 + 2))).2.2.1 else ov))))] := hD
    have hK : va_K (dC, dI) vwCl [(cK, .int), (cM, .long), (cI, .int), (cJ, .long), (cO, .long)] s := hK
    refine lv_istore (lv' := [(5, .int r_1), (0, .ref b), (1, .ref h0), (2, .ref m0), (3, .ref o), (4, .int (nI n0))]) hx hb dL_law_587 hl (by decide) rfl (fun ls hl => ?_)
    refine lv_aload_n hx hb dL_law_589 rfl (lv_at hl 3 rfl) ?_
    refine lv_aload_n hx hb dL_law_590 rfl (lv_at hl 1 rfl) ?_
    refine lv_iload hx hb dL_law_591 (lv_at hl 5 rfl) ?_
    refine lv_iconst (v := 1) hx hb dL_law_593 (by decide) ?_
    refine lv_iadd hx hb dL_law_594 ?_
    refine lw_sld (c9 := 1) hx hb hX hbl hbA hS rfl (by omega) hL dL_law_595 ?_
    refine lv_aload_n hx hb dL_law_596 rfl (lv_at hl 1 rfl) ?_
    refine lv_iload hx hb dL_law_597 (lv_at hl 5 rfl) ?_
    refine lv_iconst (v := 2) hx hb dL_law_599 (by decide) ?_
    refine lv_iadd hx hb dL_law_600 ?_
    refine lw_sld (c9 := 2) hx hb hX hbl hbA hS rfl (by omega) hL dL_law_601 ?_
    have hPc := hP.sub (ws' := [(m0, .inr (2, [.int er, .ref a2, .ref b2])), (a2, .inl (cK, 256, .inl kf)), (b2, .inl (cM, 256, .inr (.inl vf)))]) [0, 1, 2] rfl
    have hDc := hD.sub (ws' := [(m0, .inr (2, [.int er, .ref a2, .ref b2])), (a2, .inl (cK, 256, .inl kf)), (b2, .inl (cM, 256, .inr (.inl vf)))]) [0, 1, 2] (by decide) rfl
    have hKc := hK.sub (tys' := [(cK, .int), (cM, .long)]) [0, 1] rfl
    have hFc := va_free (wc := [(m0, .inr (2, [.int er, .ref a2, .ref b2])), (a2, .inl (cK, 256, .inl kf)), (b2, .inl (cM, 256, .inr (.inl vf)))]) hD hS hA [0, 1, 2] rfl
    refine va_calll (va_runV (As := [.int (xs (n0 + 1)), .int (xs (n0 + 2))]) (rest := []) ⟨hx, hb, hml, hown, hts⟩ (qX2_least l dC dI H.size m0 a2 b2 cK cM er kf vf (xs (n0 + 1)) (xs (n0 + 2))) (cwV 2 hts gL_law_X2_least rfl rfl rfl (by decide +kernel) ⟨Nat.le_of_ble_eq_true rfl, Nat.le_of_ble_eq_true rfl⟩) ⟨fun a U g mk q => by obtain ⟨q0, q1, qP, qK, qD⟩ := q; exact ⟨q0, q1, qP, va_K.moved (u := U) (U := U.calling g mk a) (Vm.Alike.refl U.vm) qK, qD⟩, va_recv hKc hPc (ci := 2) (q0 := 0) rfl rfl, fun U hU hW => ⟨rfl, by rw [hU], by rw [hU]; exact hPc, va_K.moved hW.alike hKc, hDc.weaken (fun _ _ _ _ => trivial)⟩⟩ rfl rfl hl.1 rfl (lv_room (Nat.le_of_ble_eq_true rfl)) dL_law_602 ⟨Nat.le_trans (by omega) hrc, Nat.le_trans (by omega) hrs⟩) hS (fun q _ h => hFc q h) hFc (fun r_3 u t9 H1 locs ht hvm hw hB hz1 hk1 hS => ?_)
    obtain ⟨hP1, hK1, hD1⟩ := hB
    rw [ht] at hP1
    obtain ⟨h_4, rfl⟩ := hw
    have hK1 := va_K.moved hvm.symm hK1
    obtain ⟨hP, hD⟩ := va_join (wr := [(h0, .inr (1, [.ref a, .ref b1])), (a, .inl (cI, 256, .inl kf)), (b1, .inl (cJ, 256, .inr (.inl vf))), (o, .inl (cO, 1, .inr (.inl (if okW (xs (n0 + 1)) (xs (n0 + 2)) ∧ ¬ (eW kf vf (xs (n0 + 1)) (xs (n0 + 2))).2.1 = 0 then vp_updL ov (0 : Int32).toNatClampNeg (eW kf vf (xs (n0 + 1)) (xs (n0 + 2))).2.2.1 else ov))))]) (w1 := [(m0, .inr (2, [.int (l_c kf vf (xs (n0 + 1)) (xs (n0 + 2)) (-1000000000000000)), .ref a2, .ref b2])), (a2, .inl (cK, 256, .inl kf)), (b2, .inl (cM, 256, .inr (.inl vf)))]) hP hD [0, 1, 2] [3, 4, 5, 6] rfl rfl (by decide) (by decide) hk1 hFc hP1 hD1
    have hK := (hK.sub (tys' := [(cI, .int), (cJ, .long), (cO, .long)]) [2, 3, 4] rfl).app hK1
    generalize H1 = H at hP hS ⊢
    have hP : va_P (dC, dI) vwCl [(h0, .inr (1, [.ref a, .ref b1])), (a, .inl (cI, 256, .inl kf)), (b1, .inl (cJ, 256, .inr (.inl vf))), (o, .inl (cO, 1, .inr (.inl (if okW (xs (n0 + 1)) (xs (n0 + 2)) ∧ ¬ (eW kf vf (xs (n0 + 1)) (xs (n0 + 2))).2.1 = 0 then vp_updL ov (0 : Int32).toNatClampNeg (eW kf vf (xs (n0 + 1)) (xs (n0 + 2))).2.2.1 else ov)))), (m0, .inr (2, [.int (l_c kf vf (xs (n0 + 1)) (xs (n0 + 2)) (-1000000000000000)), .ref a2, .ref b2])), (a2, .inl (cK, 256, .inl kf)), (b2, .inl (cM, 256, .inr (.inl vf)))] H := hP
    have hD : va_D A [(h0, .inr (1, [.ref a, .ref b1])), (a, .inl (cI, 256, .inl kf)), (b1, .inl (cJ, 256, .inr (.inl vf))), (o, .inl (cO, 1, .inr (.inl (if okW (xs (n0 + 1)) (xs (n0 + 2)) ∧ ¬ (eW kf vf (xs (n0 + 1)) (xs (n0 + 2))).2.1 = 0 then vp_updL ov (0 : Int32).toNatClampNeg (eW kf vf (xs (n0 + 1)) (xs (n0 + 2))).2.2.1 else ov)))), (m0, .inr (2, [.int (l_c kf vf (xs (n0 + 1)) (xs (n0 + 2)) (-1000000000000000)), .ref a2, .ref b2])), (a2, .inl (cK, 256, .inl kf)), (b2, .inl (cM, 256, .inr (.inl vf)))] := hD
    have hK : va_K (dC, dI) vwCl [(cI, .int), (cJ, .long), (cO, .long), (cK, .int), (cM, .long)] s := hK
    refine lv_lstore (lv' := [(6, .long r_3), (5, .int r_1), (0, .ref b), (1, .ref h0), (2, .ref m0), (3, .ref o), (4, .int (nI n0))]) hx hb dL_law_605 hl (by decide) rfl (fun ls hl => ?_)
    refine lv_aload_n hx hb dL_law_607 rfl (lv_at hl 4 rfl) ?_
    have hPc := hP.sub (ws' := [(m0, .inr (2, [.int (l_c kf vf (xs (n0 + 1)) (xs (n0 + 2)) (-1000000000000000)), .ref a2, .ref b2]))]) [4] rfl
    have hDc := hD.sub (ws' := [(m0, .inr (2, [.int (l_c kf vf (xs (n0 + 1)) (xs (n0 + 2)) (-1000000000000000)), .ref a2, .ref b2]))]) [4] (by decide) rfl
    have hKc := hK.sub (tys' := []) [] rfl
    have hFc := va_free (wc := [(m0, .inr (2, [.int (l_c kf vf (xs (n0 + 1)) (xs (n0 + 2)) (-1000000000000000)), .ref a2, .ref b2]))]) hD hS hA [4] rfl
    refine va_calli (va_runV (As := []) (rest := []) ⟨hx, hb, hml, hown, hts⟩ (qX2_thrown l dC dI H.size m0 a2 b2 (l_c kf vf (xs (n0 + 1)) (xs (n0 + 2)) (-1000000000000000))) (cwV 0 hts gL_law_X2_thrown rfl rfl rfl (by decide +kernel) ⟨Nat.le_of_ble_eq_true rfl, Nat.le_of_ble_eq_true rfl⟩) ⟨fun a U g mk q => by obtain ⟨q0, q1, qP, qK, qD⟩ := q; exact ⟨q0, q1, qP, va_K.moved (u := U) (U := U.calling g mk a) (Vm.Alike.refl U.vm) qK, qD⟩, va_recv hKc hPc (ci := 2) (q0 := 0) rfl rfl, fun U hU hW => ⟨rfl, by rw [hU], by rw [hU]; exact hPc, va_K.moved hW.alike hKc, hDc.weaken (fun _ _ _ _ => trivial)⟩⟩ rfl rfl hl.1 rfl (lv_room (Nat.le_of_ble_eq_true rfl)) dL_law_608 ⟨Nat.le_trans (by omega) hrc, Nat.le_trans (by omega) hrs⟩) hS (fun q _ h => hFc q h) hFc (fun r_5 u t9 H1 locs ht hvm hw hB hz1 hk1 hS => ?_)
    obtain ⟨hP1, hK1, hD1⟩ := hB
    rw [ht] at hP1
    have h_6 := hw
    have hK1 := va_K.moved hvm.symm hK1
    obtain ⟨hP, hD⟩ := va_join (wr := [(h0, .inr (1, [.ref a, .ref b1])), (a, .inl (cI, 256, .inl kf)), (b1, .inl (cJ, 256, .inr (.inl vf))), (o, .inl (cO, 1, .inr (.inl (if okW (xs (n0 + 1)) (xs (n0 + 2)) ∧ ¬ (eW kf vf (xs (n0 + 1)) (xs (n0 + 2))).2.1 = 0 then vp_updL ov (0 : Int32).toNatClampNeg (eW kf vf (xs (n0 + 1)) (xs (n0 + 2))).2.2.1 else ov)))), (a2, .inl (cK, 256, .inl kf)), (b2, .inl (cM, 256, .inr (.inl vf)))]) (w1 := [(m0, .inr (2, [.int (l_c kf vf (xs (n0 + 1)) (xs (n0 + 2)) (-1000000000000000)), .ref a2, .ref b2]))]) hP hD [4] [0, 1, 2, 3, 5, 6] rfl rfl (by decide) (by decide) hk1 hFc hP1 hD1
    have hK := (hK.sub (tys' := [(cI, .int), (cJ, .long), (cO, .long), (cK, .int), (cM, .long)]) [0, 1, 2, 3, 4] rfl).app hK1
    generalize H1 = H at hP hS ⊢
    have hP : va_P (dC, dI) vwCl [(h0, .inr (1, [.ref a, .ref b1])), (a, .inl (cI, 256, .inl kf)), (b1, .inl (cJ, 256, .inr (.inl vf))), (o, .inl (cO, 1, .inr (.inl (if okW (xs (n0 + 1)) (xs (n0 + 2)) ∧ ¬ (eW kf vf (xs (n0 + 1)) (xs (n0 + 2))).2.1 = 0 then vp_updL ov (0 : Int32).toNatClampNeg (eW kf vf (xs (n0 + 1)) (xs (n0 + 2))).2.2.1 else ov)))), (a2, .inl (cK, 256, .inl kf)), (b2, .inl (cM, 256, .inr (.inl vf))), (m0, .inr (2, [.int (l_c kf vf (xs (n0 + 1)) (xs (n0 + 2)) (-1000000000000000)), .ref a2, .ref b2]))] H := hP
    have hD : va_D A [(h0, .inr (1, [.ref a, .ref b1])), (a, .inl (cI, 256, .inl kf)), (b1, .inl (cJ, 256, .inr (.inl vf))), (o, .inl (cO, 1, .inr (.inl (if okW (xs (n0 + 1)) (xs (n0 + 2)) ∧ ¬ (eW kf vf (xs (n0 + 1)) (xs (n0 + 2))).2.1 = 0 then vp_updL ov (0 : Int32).toNatClampNeg (eW kf vf (xs (n0 + 1)) (xs (n0 + 2))).2.2.1 else ov)))), (a2, .inl (cK, 256, .inl kf)), (b2, .inl (cM, 256, .inr (.inl vf))), (m0, .inr (2, [.int (l_c kf vf (xs (n0 + 1)) (xs (n0 + 2)) (-1000000000000000)), .ref a2, .ref b2]))] := hD
    have hK : va_K (dC, dI) vwCl [(cI, .int), (cJ, .long), (cO, .long), (cK, .int), (cM, .long)] s := hK
    refine lv_iload hx hb dL_law_611 (lv_at hl 1 rfl) ?_
    refine lv_icmp_eq (tgt := 618) hx hb dL_law_613 (by decide) (fun c_7 => ?_) (fun c_7 => ?_)
    · refine lv_iload hx hb dL_law_618 (lv_at hl 1 rfl) ?_
      refine lv_if_ne (tgt := 634) hx hb dL_law_620 (by decide) (fun c_8 => ?_) (fun c_8 => ?_)
      · refine lv_goto (tgt := 879) hx hb dL_law_634 (by decide) ?_
        refine W.widen (k := cells + 5) (n := slots + 30) (by omega) (by omega) ?_
        exact K kf vf (if okW (xs (n0 + 1)) (xs (n0 + 2)) ∧ ¬ (eW kf vf (xs (n0 + 1)) (xs (n0 + 2))).2.1 = 0 then vp_updL ov (0 : Int32).toNatClampNeg (eW kf vf (xs (n0 + 1)) (xs (n0 + 2))).2.2.1 else ov) (l_c kf vf (xs (n0 + 1)) (xs (n0 + 2)) (-1000000000000000)) _ _ ls hR (hP.sub [0, 1, 2, 6, 4, 5, 3] rfl) (hD.sub [0, 1, 2, 6, 4, 5, 3] (by decide) rfl) hS (lv_sub hl [2, 3, 4, 5, 6] rfl)
      · refine lv_aload_n hx hb dL_law_623 rfl (lv_at hl 5 rfl) ?_
        refine lv_iconst (v := 0) hx hb dL_law_624 (by decide) ?_
        refine va_lald hx hb hK hP 3 2 rfl rfl in_01 dL_law_625 ?_
        refine lv_lload hx hb dL_law_626 (lv_at hl 0 rfl) ?_
        refine W.lcmp hx hb dL_law_628 ?_
        refine lv_if_eq (tgt := 634) hx hb dL_law_629 (by decide) (fun c_9 => ?_) (fun c_9 => ?_)
        · simp only [lq_eq] at c_9
          refine lv_goto (tgt := 879) hx hb dL_law_634 (by decide) ?_
          refine W.widen (k := cells + 5) (n := slots + 30) (by omega) (by omega) ?_
          exact K kf vf (if okW (xs (n0 + 1)) (xs (n0 + 2)) ∧ ¬ (eW kf vf (xs (n0 + 1)) (xs (n0 + 2))).2.1 = 0 then vp_updL ov (0 : Int32).toNatClampNeg (eW kf vf (xs (n0 + 1)) (xs (n0 + 2))).2.2.1 else ov) (l_c kf vf (xs (n0 + 1)) (xs (n0 + 2)) (-1000000000000000)) _ _ ls hR (hP.sub [0, 1, 2, 6, 4, 5, 3] rfl) (hD.sub [0, 1, 2, 6, 4, 5, 3] (by decide) rfl) hS (lv_sub hl [2, 3, 4, 5, 6] rfl)
        · simp only [lq_eq] at c_9
          exact absurd (by rw [h_4]; exact k_least hR (by rw [← h_2]; exact c_8)) c_9
    · exact absurd (by rw [h_6, h_2]; exact ((j_least hR _ _).1).symm) c_7

set_option maxHeartbeats 4000000 in
set_option maxRecDepth 100000 in
theorem law_greatest {p : Program} {l : Launch} {e : Env} {s : State} {m : MethodId} {below : List Frame} {meth : Method} {c : Code} {b L : Nat} {xs : Nat → Int32} {A : Nat → Prop} {dC : Nat → ClassId} {dI : Nat → Nat → Nat} {h0 a b1 m0 a2 b2 o : Nat} {cI cJ cK cM cO : ClassId} (C0 : lw_C p l s m c b L xs A) (hK : va_K (dC, dI) vwCl [(cI, .int), (cJ, .long), (cK, .int), (cM, .long), (cO, .long)] s) {n0 : Nat} (hn : n0 + 5 < L) {cells slots : Nat} (hrc : cells + 5 ≤ room_1.cells) (hrs : slots + 30 ≤ room_1.slots) {kf : Nat → Int32} {vf ov : Nat → Int64} {er : Int32} (hR : okA kf vf) {H : Heap} {locs : List Loc} {ls : Array Slot} (hP : va_P (dC, dI) vwCl [(h0, .inr (1, [.ref a, .ref b1])), (a, .inl (cI, 256, .inl kf)), (b1, .inl (cJ, 256, .inr (.inl vf))), (m0, .inr (2, [.int er, .ref a2, .ref b2])), (a2, .inl (cK, 256, .inl kf)), (b2, .inl (cM, 256, .inr (.inl vf))), (o, .inl (cO, 1, .inr (.inl ov)))] H) (hD : va_D A [(h0, .inr (1, [.ref a, .ref b1])), (a, .inl (cI, 256, .inl kf)), (b1, .inl (cJ, 256, .inr (.inl vf))), (m0, .inr (2, [.int er, .ref a2, .ref b2])), (a2, .inl (cK, 256, .inl kf)), (b2, .inl (cM, 256, .inr (.inl vf))), (o, .inl (cO, 1, .inr (.inl ov)))]) (hS : va_S A s.heap H locs) (hl : lv_has ls 8 [(0, .ref b), (1, .ref h0), (2, .ref m0), (3, .ref o), (4, .int (nI n0))]) (K : ∀ (kf : Nat → Int32) (vf ov : Nat → Int64) (er : Int32) (H : Heap) (locs : List Loc) (ls : Array Slot), okA kf vf → va_P (dC, dI) vwCl [(h0, .inr (1, [.ref a, .ref b1])), (a, .inl (cI, 256, .inl kf)), (b1, .inl (cJ, 256, .inr (.inl vf))), (m0, .inr (2, [.int er, .ref a2, .ref b2])), (a2, .inl (cK, 256, .inl kf)), (b2, .inl (cM, 256, .inr (.inl vf))), (o, .inl (cO, 1, .inr (.inl ov)))] H → va_D A [(h0, .inr (1, [.ref a, .ref b1])), (a, .inl (cI, 256, .inl kf)), (b1, .inl (cJ, 256, .inr (.inl vf))), (m0, .inr (2, [.int er, .ref a2, .ref b2])), (a2, .inl (cK, 256, .inl kf)), (b2, .inl (cM, 256, .inr (.inl vf))), (o, .inl (cO, 1, .inr (.inl ov)))] → va_S A s.heap H locs → lv_has ls 8 [(0, .ref b), (1, .ref h0), (2, .ref m0), (3, .ref o), (4, .int (nI n0))] → W p l e room_1 s m #[Value.ref b] below meth c H locs (cells + 5) (slots + 30) (lw_Z below #[Value.ref b] s) (F0 m 879 ls [])) : W p l e room_1 s m #[Value.ref b] below meth c H locs cells slots (lw_Z below #[Value.ref b] s) (F0 m 637 ls []) := by
  obtain ⟨hx, hb, hml, hown, hts, hX, hbl, hbA, hA, hlt, hE, hZ, hL⟩ := C0
  refine lv_aload_n hx hb dL_law_637 rfl (lv_at hl 1 rfl) ?_
  refine lv_aload_n hx hb dL_law_638 rfl (lv_at hl 0 rfl) ?_
  refine lv_iload hx hb dL_law_639 (lv_at hl 4 rfl) ?_
  refine lv_iconst (v := 1) hx hb dL_law_641 (by decide) ?_
  refine lv_iadd hx hb dL_law_642 ?_
  refine lw_sld (c9 := 1) hx hb hX hbl hbA hS rfl (by omega) hL dL_law_643 ?_
  refine lv_aload_n hx hb dL_law_644 rfl (lv_at hl 0 rfl) ?_
  refine lv_iload hx hb dL_law_645 (lv_at hl 4 rfl) ?_
  refine lv_iconst (v := 2) hx hb dL_law_647 (by decide) ?_
  refine lv_iadd hx hb dL_law_648 ?_
  refine lw_sld (c9 := 2) hx hb hX hbl hbA hS rfl (by omega) hL dL_law_649 ?_
  refine lv_aload_n hx hb dL_law_650 rfl (lv_at hl 3 rfl) ?_
  have hPc := hP.sub (ws' := [(h0, .inr (1, [.ref a, .ref b1])), (a, .inl (cI, 256, .inl kf)), (b1, .inl (cJ, 256, .inr (.inl vf))), (o, .inl (cO, 1, .inr (.inl ov)))]) [0, 1, 2, 6] rfl
  have hDc := hD.sub (ws' := [(h0, .inr (1, [.ref a, .ref b1])), (a, .inl (cI, 256, .inl kf)), (b1, .inl (cJ, 256, .inr (.inl vf))), (o, .inl (cO, 1, .inr (.inl ov)))]) [0, 1, 2, 6] (by decide) rfl
  have hKc := hK.sub (tys' := [(cI, .int), (cJ, .long), (cO, .long)]) [0, 1, 4] rfl
  have hFc := va_free (wc := [(h0, .inr (1, [.ref a, .ref b1])), (a, .inl (cI, 256, .inl kf)), (b1, .inl (cJ, 256, .inr (.inl vf))), (o, .inl (cO, 1, .inr (.inl ov)))]) hD hS hA [0, 1, 2, 6] rfl
  refine vx_calli (vx_runSX (As := [.ref h0, .int (xs (n0 + 1)), .int (xs (n0 + 2)), .ref o]) (rest := []) ⟨hx, hb, hml, hown, hts⟩ (qL_greatest l hlt dC dI H.size h0 a b1 cI cJ kf vf o cO ov (xs (n0 + 1)) (xs (n0 + 2))) (vx_cwSW 4 hts gL_law_L_greatest rfl rfl rfl (by decide +kernel) ⟨Nat.le_of_ble_eq_true rfl, Nat.le_of_ble_eq_true rfl⟩) ⟨fun a U g mk q => by obtain ⟨q0, q1, qP, qK, qD, qE, qZ⟩ := q; exact ⟨q0, q1, qP, va_K.moved (u := U) (U := U.calling g mk a) (Vm.Alike.refl U.vm) qK, qD, ev.same (u := U) rfl qE, ez.moved (U := U.calling g mk a) qZ (Vm.Alike.refl U.vm)⟩, fun U hU hW => ⟨rfl, by rw [hU], by rw [hU]; exact hPc, va_K.moved hW.alike hKc, hDc.weaken (fun _ _ _ _ => trivial), hE.warm hW, by rw [hU]; exact ((hZ.kept hS.2.1).narrow hFc).moved hW.alike⟩⟩ rfl rfl hl.1 rfl (lv_room (Nat.le_of_ble_eq_true rfl)) dL_law_651 ⟨Nat.le_trans (by omega) hrc, Nat.le_trans (by omega) hrs⟩) hS (fun q _ h => hFc q h) hFc (fun q _ h => hFc q h) (fun E ce q9 u t9 H1 locs ht hvm hw hB hz1 hk1 hS hce hcv hcl => ?_) (fun r_1 u t9 H1 locs ht hvm hw hB hz1 hk1 hS => ?_)
  · exact hB.1.elim
  · obtain ⟨hP1, hK1, hD1⟩ := hB
    rw [ht] at hP1
    obtain ⟨h_2, rfl⟩ := hw
    have hK1 := va_K.moved hvm.symm hK1
    obtain ⟨hP, hD⟩ := va_join (wr := [(m0, .inr (2, [.int er, .ref a2, .ref b2])), (a2, .inl (cK, 256, .inl kf)), (b2, .inl (cM, 256, .inr (.inl vf)))]) (w1 := [(h0, .inr (1, [.ref a, .ref b1])), (a, .inl (cI, 256, .inl kf)), (b1, .inl (cJ, 256, .inr (.inl vf))), (o, .inl (cO, 1, .inr (.inl (if okW (xs (n0 + 1)) (xs (n0 + 2)) ∧ ¬ (eW kf vf (xs (n0 + 1)) (xs (n0 + 2))).2.2.2.1 = 0 then vp_updL ov (0 : Int32).toNatClampNeg (eW kf vf (xs (n0 + 1)) (xs (n0 + 2))).2.2.2.2 else ov))))]) hP hD [0, 1, 2, 6] [3, 4, 5] rfl rfl (by decide) (by decide) hk1 hFc hP1 hD1
    have hK := (hK.sub (tys' := [(cK, .int), (cM, .long)]) [2, 3] rfl).app hK1
    generalize H1 = H at hP hS ⊢
    have hP : va_P (dC, dI) vwCl [(m0, .inr (2, [.int er, .ref a2, .ref b2])), (a2, .inl (cK, 256, .inl kf)), (b2, .inl (cM, 256, .inr (.inl vf))), (h0, .inr (1, [.ref a, .ref b1])), (a, .inl (cI, 256, .inl kf)), (b1, .inl (cJ, 256, .inr (.inl vf))), (o, .inl (cO, 1, .inr (.inl (if okW (xs (n0 + 1)) (xs (n0 + 2)) ∧ ¬ (eW kf vf (xs (n0 + 1)) (xs (n0 + 2))).2.2.2.1 = 0 then vp_updL ov (0 : Int32).toNatClampNeg (eW kf vf (xs (n0 + 1)) (xs (n0 + 2))).2.2.2.2 else ov))))] H := hP
    have hD : va_D A [(m0, .inr (2, [.int er, .ref a2, .ref b2])), (a2, .inl (cK, 256, .inl kf)), (b2, .inl (cM, 256, .inr (.inl vf))), (h0, .inr (1, [.ref a, .ref b1])), (a, .inl (cI, 256, .inl kf)), (b1, .inl (cJ, 256, .inr (.inl vf))), (o, .inl (cO, 1, .inr (.inl (if okW (xs (n0 + 1)) (xs (n0 + 2)) ∧ ¬ (eW kf vf (xs (n0 + 1)) (xs (n0 + 2))).2.2.2.1 = 0 then vp_updL ov (0 : Int32).toNatClampNeg (eW kf vf (xs (n0 + 1)) (xs (n0 + 2))).2.2.2.2 else ov))))] := hD
    have hK : va_K (dC, dI) vwCl [(cK, .int), (cM, .long), (cI, .int), (cJ, .long), (cO, .long)] s := hK
    refine lv_istore (lv' := [(5, .int r_1), (0, .ref b), (1, .ref h0), (2, .ref m0), (3, .ref o), (4, .int (nI n0))]) hx hb dL_law_654 hl (by decide) rfl (fun ls hl => ?_)
    refine lv_aload_n hx hb dL_law_656 rfl (lv_at hl 3 rfl) ?_
    refine lv_aload_n hx hb dL_law_657 rfl (lv_at hl 1 rfl) ?_
    refine lv_iload hx hb dL_law_658 (lv_at hl 5 rfl) ?_
    refine lv_iconst (v := 1) hx hb dL_law_660 (by decide) ?_
    refine lv_iadd hx hb dL_law_661 ?_
    refine lw_sld (c9 := 1) hx hb hX hbl hbA hS rfl (by omega) hL dL_law_662 ?_
    refine lv_aload_n hx hb dL_law_663 rfl (lv_at hl 1 rfl) ?_
    refine lv_iload hx hb dL_law_664 (lv_at hl 5 rfl) ?_
    refine lv_iconst (v := 2) hx hb dL_law_666 (by decide) ?_
    refine lv_iadd hx hb dL_law_667 ?_
    refine lw_sld (c9 := 2) hx hb hX hbl hbA hS rfl (by omega) hL dL_law_668 ?_
    have hPc := hP.sub (ws' := [(m0, .inr (2, [.int er, .ref a2, .ref b2])), (a2, .inl (cK, 256, .inl kf)), (b2, .inl (cM, 256, .inr (.inl vf)))]) [0, 1, 2] rfl
    have hDc := hD.sub (ws' := [(m0, .inr (2, [.int er, .ref a2, .ref b2])), (a2, .inl (cK, 256, .inl kf)), (b2, .inl (cM, 256, .inr (.inl vf)))]) [0, 1, 2] (by decide) rfl
    have hKc := hK.sub (tys' := [(cK, .int), (cM, .long)]) [0, 1] rfl
    have hFc := va_free (wc := [(m0, .inr (2, [.int er, .ref a2, .ref b2])), (a2, .inl (cK, 256, .inl kf)), (b2, .inl (cM, 256, .inr (.inl vf)))]) hD hS hA [0, 1, 2] rfl
    refine va_calll (va_runV (As := [.int (xs (n0 + 1)), .int (xs (n0 + 2))]) (rest := []) ⟨hx, hb, hml, hown, hts⟩ (qX2_greatest l dC dI H.size m0 a2 b2 cK cM er kf vf (xs (n0 + 1)) (xs (n0 + 2))) (cwV 2 hts gL_law_X2_greatest rfl rfl rfl (by decide +kernel) ⟨Nat.le_of_ble_eq_true rfl, Nat.le_of_ble_eq_true rfl⟩) ⟨fun a U g mk q => by obtain ⟨q0, q1, qP, qK, qD⟩ := q; exact ⟨q0, q1, qP, va_K.moved (u := U) (U := U.calling g mk a) (Vm.Alike.refl U.vm) qK, qD⟩, va_recv hKc hPc (ci := 2) (q0 := 0) rfl rfl, fun U hU hW => ⟨rfl, by rw [hU], by rw [hU]; exact hPc, va_K.moved hW.alike hKc, hDc.weaken (fun _ _ _ _ => trivial)⟩⟩ rfl rfl hl.1 rfl (lv_room (Nat.le_of_ble_eq_true rfl)) dL_law_669 ⟨Nat.le_trans (by omega) hrc, Nat.le_trans (by omega) hrs⟩) hS (fun q _ h => hFc q h) hFc (fun r_3 u t9 H1 locs ht hvm hw hB hz1 hk1 hS => ?_)
    obtain ⟨hP1, hK1, hD1⟩ := hB
    rw [ht] at hP1
    obtain ⟨h_4, rfl⟩ := hw
    have hK1 := va_K.moved hvm.symm hK1
    obtain ⟨hP, hD⟩ := va_join (wr := [(h0, .inr (1, [.ref a, .ref b1])), (a, .inl (cI, 256, .inl kf)), (b1, .inl (cJ, 256, .inr (.inl vf))), (o, .inl (cO, 1, .inr (.inl (if okW (xs (n0 + 1)) (xs (n0 + 2)) ∧ ¬ (eW kf vf (xs (n0 + 1)) (xs (n0 + 2))).2.2.2.1 = 0 then vp_updL ov (0 : Int32).toNatClampNeg (eW kf vf (xs (n0 + 1)) (xs (n0 + 2))).2.2.2.2 else ov))))]) (w1 := [(m0, .inr (2, [.int (l_c kf vf (xs (n0 + 1)) (xs (n0 + 2)) 1000000000000000), .ref a2, .ref b2])), (a2, .inl (cK, 256, .inl kf)), (b2, .inl (cM, 256, .inr (.inl vf)))]) hP hD [0, 1, 2] [3, 4, 5, 6] rfl rfl (by decide) (by decide) hk1 hFc hP1 hD1
    have hK := (hK.sub (tys' := [(cI, .int), (cJ, .long), (cO, .long)]) [2, 3, 4] rfl).app hK1
    generalize H1 = H at hP hS ⊢
    have hP : va_P (dC, dI) vwCl [(h0, .inr (1, [.ref a, .ref b1])), (a, .inl (cI, 256, .inl kf)), (b1, .inl (cJ, 256, .inr (.inl vf))), (o, .inl (cO, 1, .inr (.inl (if okW (xs (n0 + 1)) (xs (n0 + 2)) ∧ ¬ (eW kf vf (xs (n0 + 1)) (xs (n0 + 2))).2.2.2.1 = 0 then vp_updL ov (0 : Int32).toNatClampNeg (eW kf vf (xs (n0 + 1)) (xs (n0 + 2))).2.2.2.2 else ov)))), (m0, .inr (2, [.int (l_c kf vf (xs (n0 + 1)) (xs (n0 + 2)) 1000000000000000), .ref a2, .ref b2])), (a2, .inl (cK, 256, .inl kf)), (b2, .inl (cM, 256, .inr (.inl vf)))] H := hP
    have hD : va_D A [(h0, .inr (1, [.ref a, .ref b1])), (a, .inl (cI, 256, .inl kf)), (b1, .inl (cJ, 256, .inr (.inl vf))), (o, .inl (cO, 1, .inr (.inl (if okW (xs (n0 + 1)) (xs (n0 + 2)) ∧ ¬ (eW kf vf (xs (n0 + 1)) (xs (n0 + 2))).2.2.2.1 = 0 then vp_updL ov (0 : Int32).toNatClampNeg (eW kf vf (xs (n0 + 1)) (xs (n0 + 2))).2.2.2.2 else ov)))), (m0, .inr (2, [.int (l_c kf vf (xs (n0 + 1)) (xs (n0 + 2)) 1000000000000000), .ref a2, .ref b2])), (a2, .inl (cK, 256, .inl kf)), (b2, .inl (cM, 256, .inr (.inl vf)))] := hD
    have hK : va_K (dC, dI) vwCl [(cI, .int), (cJ, .long), (cO, .long), (cK, .int), (cM, .long)] s := hK
    refine lv_lstore (lv' := [(6, .long r_3), (5, .int r_1), (0, .ref b), (1, .ref h0), (2, .ref m0), (3, .ref o), (4, .int (nI n0))]) hx hb dL_law_672 hl (by decide) rfl (fun ls hl => ?_)
    refine lv_aload_n hx hb dL_law_674 rfl (lv_at hl 4 rfl) ?_
    have hPc := hP.sub (ws' := [(m0, .inr (2, [.int (l_c kf vf (xs (n0 + 1)) (xs (n0 + 2)) 1000000000000000), .ref a2, .ref b2]))]) [4] rfl
    have hDc := hD.sub (ws' := [(m0, .inr (2, [.int (l_c kf vf (xs (n0 + 1)) (xs (n0 + 2)) 1000000000000000), .ref a2, .ref b2]))]) [4] (by decide) rfl
    have hKc := hK.sub (tys' := []) [] rfl
    have hFc := va_free (wc := [(m0, .inr (2, [.int (l_c kf vf (xs (n0 + 1)) (xs (n0 + 2)) 1000000000000000), .ref a2, .ref b2]))]) hD hS hA [4] rfl
    refine va_calli (va_runV (As := []) (rest := []) ⟨hx, hb, hml, hown, hts⟩ (qX2_thrown l dC dI H.size m0 a2 b2 (l_c kf vf (xs (n0 + 1)) (xs (n0 + 2)) 1000000000000000)) (cwV 0 hts gL_law_X2_thrown rfl rfl rfl (by decide +kernel) ⟨Nat.le_of_ble_eq_true rfl, Nat.le_of_ble_eq_true rfl⟩) ⟨fun a U g mk q => by obtain ⟨q0, q1, qP, qK, qD⟩ := q; exact ⟨q0, q1, qP, va_K.moved (u := U) (U := U.calling g mk a) (Vm.Alike.refl U.vm) qK, qD⟩, va_recv hKc hPc (ci := 2) (q0 := 0) rfl rfl, fun U hU hW => ⟨rfl, by rw [hU], by rw [hU]; exact hPc, va_K.moved hW.alike hKc, hDc.weaken (fun _ _ _ _ => trivial)⟩⟩ rfl rfl hl.1 rfl (lv_room (Nat.le_of_ble_eq_true rfl)) dL_law_675 ⟨Nat.le_trans (by omega) hrc, Nat.le_trans (by omega) hrs⟩) hS (fun q _ h => hFc q h) hFc (fun r_5 u t9 H1 locs ht hvm hw hB hz1 hk1 hS => ?_)
    obtain ⟨hP1, hK1, hD1⟩ := hB
    rw [ht] at hP1
    have h_6 := hw
    have hK1 := va_K.moved hvm.symm hK1
    obtain ⟨hP, hD⟩ := va_join (wr := [(h0, .inr (1, [.ref a, .ref b1])), (a, .inl (cI, 256, .inl kf)), (b1, .inl (cJ, 256, .inr (.inl vf))), (o, .inl (cO, 1, .inr (.inl (if okW (xs (n0 + 1)) (xs (n0 + 2)) ∧ ¬ (eW kf vf (xs (n0 + 1)) (xs (n0 + 2))).2.2.2.1 = 0 then vp_updL ov (0 : Int32).toNatClampNeg (eW kf vf (xs (n0 + 1)) (xs (n0 + 2))).2.2.2.2 else ov)))), (a2, .inl (cK, 256, .inl kf)), (b2, .inl (cM, 256, .inr (.inl vf)))]) (w1 := [(m0, .inr (2, [.int (l_c kf vf (xs (n0 + 1)) (xs (n0 + 2)) 1000000000000000), .ref a2, .ref b2]))]) hP hD [4] [0, 1, 2, 3, 5, 6] rfl rfl (by decide) (by decide) hk1 hFc hP1 hD1
    have hK := (hK.sub (tys' := [(cI, .int), (cJ, .long), (cO, .long), (cK, .int), (cM, .long)]) [0, 1, 2, 3, 4] rfl).app hK1
    generalize H1 = H at hP hS ⊢
    have hP : va_P (dC, dI) vwCl [(h0, .inr (1, [.ref a, .ref b1])), (a, .inl (cI, 256, .inl kf)), (b1, .inl (cJ, 256, .inr (.inl vf))), (o, .inl (cO, 1, .inr (.inl (if okW (xs (n0 + 1)) (xs (n0 + 2)) ∧ ¬ (eW kf vf (xs (n0 + 1)) (xs (n0 + 2))).2.2.2.1 = 0 then vp_updL ov (0 : Int32).toNatClampNeg (eW kf vf (xs (n0 + 1)) (xs (n0 + 2))).2.2.2.2 else ov)))), (a2, .inl (cK, 256, .inl kf)), (b2, .inl (cM, 256, .inr (.inl vf))), (m0, .inr (2, [.int (l_c kf vf (xs (n0 + 1)) (xs (n0 + 2)) 1000000000000000), .ref a2, .ref b2]))] H := hP
    have hD : va_D A [(h0, .inr (1, [.ref a, .ref b1])), (a, .inl (cI, 256, .inl kf)), (b1, .inl (cJ, 256, .inr (.inl vf))), (o, .inl (cO, 1, .inr (.inl (if okW (xs (n0 + 1)) (xs (n0 + 2)) ∧ ¬ (eW kf vf (xs (n0 + 1)) (xs (n0 + 2))).2.2.2.1 = 0 then vp_updL ov (0 : Int32).toNatClampNeg (eW kf vf (xs (n0 + 1)) (xs (n0 + 2))).2.2.2.2 else ov)))), (a2, .inl (cK, 256, .inl kf)), (b2, .inl (cM, 256, .inr (.inl vf))), (m0, .inr (2, [.int (l_c kf vf (xs (n0 + 1)) (xs (n0 + 2)) 1000000000000000), .ref a2, .ref b2]))] := hD
    have hK : va_K (dC, dI) vwCl [(cI, .int), (cJ, .long), (cO, .long), (cK, .int), (cM, .long)] s := hK
    refine lv_iload hx hb dL_law_678 (lv_at hl 1 rfl) ?_
    refine lv_icmp_eq (tgt := 685) hx hb dL_law_680 (by decide) (fun c_7 => ?_) (fun c_7 => ?_)
    · refine lv_iload hx hb dL_law_685 (lv_at hl 1 rfl) ?_
      refine lv_if_ne (tgt := 701) hx hb dL_law_687 (by decide) (fun c_8 => ?_) (fun c_8 => ?_)
      · refine lv_goto (tgt := 879) hx hb dL_law_701 (by decide) ?_
        refine W.widen (k := cells + 5) (n := slots + 30) (by omega) (by omega) ?_
        exact K kf vf (if okW (xs (n0 + 1)) (xs (n0 + 2)) ∧ ¬ (eW kf vf (xs (n0 + 1)) (xs (n0 + 2))).2.2.2.1 = 0 then vp_updL ov (0 : Int32).toNatClampNeg (eW kf vf (xs (n0 + 1)) (xs (n0 + 2))).2.2.2.2 else ov) (l_c kf vf (xs (n0 + 1)) (xs (n0 + 2)) 1000000000000000) _ _ ls hR (hP.sub [0, 1, 2, 6, 4, 5, 3] rfl) (hD.sub [0, 1, 2, 6, 4, 5, 3] (by decide) rfl) hS (lv_sub hl [2, 3, 4, 5, 6] rfl)
      · refine lv_aload_n hx hb dL_law_690 rfl (lv_at hl 5 rfl) ?_
        refine lv_iconst (v := 0) hx hb dL_law_691 (by decide) ?_
        refine va_lald hx hb hK hP 3 2 rfl rfl in_01 dL_law_692 ?_
        refine lv_lload hx hb dL_law_693 (lv_at hl 0 rfl) ?_
        refine W.lcmp hx hb dL_law_695 ?_
        refine lv_if_eq (tgt := 701) hx hb dL_law_696 (by decide) (fun c_9 => ?_) (fun c_9 => ?_)
        · simp only [lq_eq] at c_9
          refine lv_goto (tgt := 879) hx hb dL_law_701 (by decide) ?_
          refine W.widen (k := cells + 5) (n := slots + 30) (by omega) (by omega) ?_
          exact K kf vf (if okW (xs (n0 + 1)) (xs (n0 + 2)) ∧ ¬ (eW kf vf (xs (n0 + 1)) (xs (n0 + 2))).2.2.2.1 = 0 then vp_updL ov (0 : Int32).toNatClampNeg (eW kf vf (xs (n0 + 1)) (xs (n0 + 2))).2.2.2.2 else ov) (l_c kf vf (xs (n0 + 1)) (xs (n0 + 2)) 1000000000000000) _ _ ls hR (hP.sub [0, 1, 2, 6, 4, 5, 3] rfl) (hD.sub [0, 1, 2, 6, 4, 5, 3] (by decide) rfl) hS (lv_sub hl [2, 3, 4, 5, 6] rfl)
        · simp only [lq_eq] at c_9
          exact absurd (by rw [h_4]; exact k_greatest hR (by rw [← h_2]; exact c_8)) c_9
    · exact absurd (by rw [h_6, h_2]; exact ((j_greatest hR _ _).1).symm) c_7
