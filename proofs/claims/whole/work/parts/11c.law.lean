set_option maxHeartbeats 4000000 in
set_option maxRecDepth 100000 in
theorem law_fold {p : Program} {l : Launch} {e : Env} {s : State} {m : MethodId} {below : List Frame} {meth : Method} {c : Code} {b L : Nat} {xs : Nat → Int32} {A : Nat → Prop} {dC : Nat → ClassId} {dI : Nat → Nat → Nat} {h0 a b1 m0 a2 b2 o : Nat} {cI cJ cK cM cO : ClassId} (C0 : lw_C p l s m c b L xs A) (hK : va_K (dC, dI) vwCl [(cI, .int), (cJ, .long), (cK, .int), (cM, .long), (cO, .long)] s) {n0 : Nat} (hn : n0 + 5 < L) {cells slots : Nat} (hrc : cells + 5 ≤ room_1.cells) (hrs : slots + 30 ≤ room_1.slots) {kf : Nat → Int32} {vf ov : Nat → Int64} {er : Int32} (hR : okA kf vf) {H : Heap} {locs : List Loc} {ls : Array Slot} (hP : va_P (dC, dI) vwCl [(h0, .inr (1, [.ref a, .ref b1])), (a, .inl (cI, 256, .inl kf)), (b1, .inl (cJ, 256, .inr (.inl vf))), (m0, .inr (2, [.int er, .ref a2, .ref b2])), (a2, .inl (cK, 256, .inl kf)), (b2, .inl (cM, 256, .inr (.inl vf))), (o, .inl (cO, 1, .inr (.inl ov)))] H) (hD : va_D A [(h0, .inr (1, [.ref a, .ref b1])), (a, .inl (cI, 256, .inl kf)), (b1, .inl (cJ, 256, .inr (.inl vf))), (m0, .inr (2, [.int er, .ref a2, .ref b2])), (a2, .inl (cK, 256, .inl kf)), (b2, .inl (cM, 256, .inr (.inl vf))), (o, .inl (cO, 1, .inr (.inl ov)))]) (hS : va_S A s.heap H locs) (hl : lv_has ls 8 [(0, .ref b), (1, .ref h0), (2, .ref m0), (3, .ref o), (4, .int (nI n0))]) (K : ∀ (kf : Nat → Int32) (vf ov : Nat → Int64) (er : Int32) (H : Heap) (locs : List Loc) (ls : Array Slot), okA kf vf → va_P (dC, dI) vwCl [(h0, .inr (1, [.ref a, .ref b1])), (a, .inl (cI, 256, .inl kf)), (b1, .inl (cJ, 256, .inr (.inl vf))), (m0, .inr (2, [.int er, .ref a2, .ref b2])), (a2, .inl (cK, 256, .inl kf)), (b2, .inl (cM, 256, .inr (.inl vf))), (o, .inl (cO, 1, .inr (.inl ov)))] H → va_D A [(h0, .inr (1, [.ref a, .ref b1])), (a, .inl (cI, 256, .inl kf)), (b1, .inl (cJ, 256, .inr (.inl vf))), (m0, .inr (2, [.int er, .ref a2, .ref b2])), (a2, .inl (cK, 256, .inl kf)), (b2, .inl (cM, 256, .inr (.inl vf))), (o, .inl (cO, 1, .inr (.inl ov)))] → va_S A s.heap H locs → lv_has ls 8 [(0, .ref b), (1, .ref h0), (2, .ref m0), (3, .ref o), (4, .int (nI n0))] → W p l e room_1 s m #[Value.ref b] below meth c H locs (cells + 5) (slots + 30) (lw_Z below #[Value.ref b] s) (F0 m 879 ls [])) : W p l e room_1 s m #[Value.ref b] below meth c H locs cells slots (lw_Z below #[Value.ref b] s) (F0 m 336 ls []) := by
  obtain ⟨hx, hb, hml, hown, hts, hX, hbl, hbA, hA, hlt, hE, hZ, hL⟩ := C0
  refine lv_aload_n hx hb dL_law_336 rfl (lv_at hl 1 rfl) ?_
  refine lv_aload_n hx hb dL_law_337 rfl (lv_at hl 0 rfl) ?_
  refine lv_iload hx hb dL_law_338 (lv_at hl 4 rfl) ?_
  refine lv_iconst (v := 1) hx hb dL_law_340 (by decide) ?_
  refine lv_iadd hx hb dL_law_341 ?_
  refine lw_sld (c9 := 1) hx hb hX hbl hbA hS rfl (by omega) hL dL_law_342 ?_
  refine lv_aload_n hx hb dL_law_343 rfl (lv_at hl 0 rfl) ?_
  refine lv_iload hx hb dL_law_344 (lv_at hl 4 rfl) ?_
  refine lv_iconst (v := 2) hx hb dL_law_346 (by decide) ?_
  refine lv_iadd hx hb dL_law_347 ?_
  refine lw_sld (c9 := 2) hx hb hX hbl hbA hS rfl (by omega) hL dL_law_348 ?_
  refine lv_aload_n hx hb dL_law_349 rfl (lv_at hl 0 rfl) ?_
  refine lv_iload hx hb dL_law_350 (lv_at hl 4 rfl) ?_
  refine lv_iconst (v := 3) hx hb dL_law_352 (by decide) ?_
  refine lv_iadd hx hb dL_law_353 ?_
  refine lw_sld (c9 := 3) hx hb hX hbl hbA hS rfl (by omega) hL dL_law_354 ?_
  refine lv_i2l (v := (xs (n0 + 3)).toInt64) hx hb dL_law_355 rfl ?_
  refine lv_bipush (v := 32) hx hb dL_law_356 (by decide) ?_
  refine lv_lshl (v := ((xs (n0 + 3)).toInt64) <<< ((32 : Int32).toInt64 &&& 63)) hx hb dL_law_358 rfl ?_
  refine lv_aload_n hx hb dL_law_359 rfl (lv_at hl 0 rfl) ?_
  refine lv_iload hx hb dL_law_360 (lv_at hl 4 rfl) ?_
  refine lv_iconst (v := 4) hx hb dL_law_362 (by decide) ?_
  refine lv_iadd hx hb dL_law_363 ?_
  refine lw_sld (c9 := 4) hx hb hX hbl hbA hS rfl (by omega) hL dL_law_364 ?_
  refine lv_i2l (v := (xs (n0 + 4)).toInt64) hx hb dL_law_365 rfl ?_
  refine lv_ldc2 hx hb hown (hts (.constantLong RL 54 (4294967295)) kLaw_0) dL_law_366 ?_
  refine lv_land hx hb dL_law_369 ?_
  refine lv_lor hx hb dL_law_370 ?_
  refine lw_lJ ?_
  refine lv_aload_n hx hb dL_law_371 rfl (lv_at hl 3 rfl) ?_
  have hPc := hP.sub (ws' := [(h0, .inr (1, [.ref a, .ref b1])), (a, .inl (cI, 256, .inl kf)), (b1, .inl (cJ, 256, .inr (.inl vf))), (o, .inl (cO, 1, .inr (.inl ov)))]) [0, 1, 2, 6] rfl
  have hDc := hD.sub (ws' := [(h0, .inr (1, [.ref a, .ref b1])), (a, .inl (cI, 256, .inl kf)), (b1, .inl (cJ, 256, .inr (.inl vf))), (o, .inl (cO, 1, .inr (.inl ov)))]) [0, 1, 2, 6] (by decide) rfl
  have hKc := hK.sub (tys' := [(cI, .int), (cJ, .long), (cO, .long)]) [0, 1, 4] rfl
  have hFc := va_free (wc := [(h0, .inr (1, [.ref a, .ref b1])), (a, .inl (cI, 256, .inl kf)), (b1, .inl (cJ, 256, .inr (.inl vf))), (o, .inl (cO, 1, .inr (.inl ov)))]) hD hS hA [0, 1, 2, 6] rfl
  refine vx_calli (vx_runSX (As := [.ref h0, .int (xs (n0 + 1)), .int (xs (n0 + 2)), .long (lw_J (xs (n0 + 3)) (xs (n0 + 4))), .ref o]) (rest := []) ⟨hx, hb, hml, hown, hts⟩ (qL_fold l hlt dC dI H.size h0 a b1 cI cJ kf vf o cO ov (xs (n0 + 1)) (xs (n0 + 2)) (lw_J (xs (n0 + 3)) (xs (n0 + 4)))) (vx_cwSW 5 hts gL_law_L_fold rfl rfl rfl (by decide +kernel) ⟨Nat.le_of_ble_eq_true rfl, Nat.le_of_ble_eq_true rfl⟩) ⟨fun a U g mk q => by obtain ⟨q0, q1, qP, qK, qD, qE, qZ⟩ := q; exact ⟨q0, q1, qP, va_K.moved (u := U) (U := U.calling g mk a) (Vm.Alike.refl U.vm) qK, qD, ev.same (u := U) rfl qE, ez.moved (U := U.calling g mk a) qZ (Vm.Alike.refl U.vm)⟩, fun U hU hW => ⟨rfl, by rw [hU], by rw [hU]; exact hPc, va_K.moved hW.alike hKc, hDc.weaken (fun _ _ _ _ => trivial), hE.warm hW, by rw [hU]; exact ((hZ.kept hS.2.1).narrow hFc).moved hW.alike⟩⟩ rfl rfl hl.1 rfl (lv_room (Nat.le_of_ble_eq_true rfl)) dL_law_372 ⟨Nat.le_trans (by omega) hrc, Nat.le_trans (by omega) hrs⟩) hS (fun q _ h => hFc q h) hFc (fun q _ h => hFc q h) (fun E ce q9 u t9 H1 locs ht hvm hw hB hz1 hk1 hS hce hcv hcl => ?_) (fun r_1 u t9 H1 locs ht hvm hw hB hz1 hk1 hS => ?_)
  · exact hB.1.elim
  · obtain ⟨hP1, hK1, hD1⟩ := hB
    rw [ht] at hP1
    obtain ⟨h_2, rfl⟩ := hw
    have hK1 := va_K.moved hvm.symm hK1
    obtain ⟨hP, hD⟩ := va_join (wr := [(m0, .inr (2, [.int er, .ref a2, .ref b2])), (a2, .inl (cK, 256, .inl kf)), (b2, .inl (cM, 256, .inr (.inl vf)))]) (w1 := [(h0, .inr (1, [.ref a, .ref b1])), (a, .inl (cI, 256, .inl kf)), (b1, .inl (cJ, 256, .inr (.inl vf))), (o, .inl (cO, 1, .inr (.inl (if okX (lw_J (xs (n0 + 3)) (xs (n0 + 4))) ∧ okW (xs (n0 + 1)) (xs (n0 + 2)) then vp_updL ov (0 : Int32).toNatClampNeg (e_on (eW kf vf (xs (n0 + 1)) (xs (n0 + 2))) (lw_J (xs (n0 + 3)) (xs (n0 + 4)))) else ov))))]) hP hD [0, 1, 2, 6] [3, 4, 5] rfl rfl (by decide) (by decide) hk1 hFc hP1 hD1
    have hK := (hK.sub (tys' := [(cK, .int), (cM, .long)]) [2, 3] rfl).app hK1
    generalize H1 = H at hP hS ⊢
    have hP : va_P (dC, dI) vwCl [(m0, .inr (2, [.int er, .ref a2, .ref b2])), (a2, .inl (cK, 256, .inl kf)), (b2, .inl (cM, 256, .inr (.inl vf))), (h0, .inr (1, [.ref a, .ref b1])), (a, .inl (cI, 256, .inl kf)), (b1, .inl (cJ, 256, .inr (.inl vf))), (o, .inl (cO, 1, .inr (.inl (if okX (lw_J (xs (n0 + 3)) (xs (n0 + 4))) ∧ okW (xs (n0 + 1)) (xs (n0 + 2)) then vp_updL ov (0 : Int32).toNatClampNeg (e_on (eW kf vf (xs (n0 + 1)) (xs (n0 + 2))) (lw_J (xs (n0 + 3)) (xs (n0 + 4)))) else ov))))] H := hP
    have hD : va_D A [(m0, .inr (2, [.int er, .ref a2, .ref b2])), (a2, .inl (cK, 256, .inl kf)), (b2, .inl (cM, 256, .inr (.inl vf))), (h0, .inr (1, [.ref a, .ref b1])), (a, .inl (cI, 256, .inl kf)), (b1, .inl (cJ, 256, .inr (.inl vf))), (o, .inl (cO, 1, .inr (.inl (if okX (lw_J (xs (n0 + 3)) (xs (n0 + 4))) ∧ okW (xs (n0 + 1)) (xs (n0 + 2)) then vp_updL ov (0 : Int32).toNatClampNeg (e_on (eW kf vf (xs (n0 + 1)) (xs (n0 + 2))) (lw_J (xs (n0 + 3)) (xs (n0 + 4)))) else ov))))] := hD
    have hK : va_K (dC, dI) vwCl [(cK, .int), (cM, .long), (cI, .int), (cJ, .long), (cO, .long)] s := hK
    refine lv_istore (lv' := [(5, .int r_1), (0, .ref b), (1, .ref h0), (2, .ref m0), (3, .ref o), (4, .int (nI n0))]) hx hb dL_law_375 hl (by decide) rfl (fun ls hl => ?_)
    refine lv_aload_n hx hb dL_law_377 rfl (lv_at hl 3 rfl) ?_
    refine lv_aload_n hx hb dL_law_378 rfl (lv_at hl 1 rfl) ?_
    refine lv_iload hx hb dL_law_379 (lv_at hl 5 rfl) ?_
    refine lv_iconst (v := 1) hx hb dL_law_381 (by decide) ?_
    refine lv_iadd hx hb dL_law_382 ?_
    refine lw_sld (c9 := 1) hx hb hX hbl hbA hS rfl (by omega) hL dL_law_383 ?_
    refine lv_aload_n hx hb dL_law_384 rfl (lv_at hl 1 rfl) ?_
    refine lv_iload hx hb dL_law_385 (lv_at hl 5 rfl) ?_
    refine lv_iconst (v := 2) hx hb dL_law_387 (by decide) ?_
    refine lv_iadd hx hb dL_law_388 ?_
    refine lw_sld (c9 := 2) hx hb hX hbl hbA hS rfl (by omega) hL dL_law_389 ?_
    refine lv_aload_n hx hb dL_law_390 rfl (lv_at hl 1 rfl) ?_
    refine lv_iload hx hb dL_law_391 (lv_at hl 5 rfl) ?_
    refine lv_iconst (v := 3) hx hb dL_law_393 (by decide) ?_
    refine lv_iadd hx hb dL_law_394 ?_
    refine lw_sld (c9 := 3) hx hb hX hbl hbA hS rfl (by omega) hL dL_law_395 ?_
    refine lv_i2l (v := (xs (n0 + 3)).toInt64) hx hb dL_law_396 rfl ?_
    refine lv_bipush (v := 32) hx hb dL_law_397 (by decide) ?_
    refine lv_lshl (v := ((xs (n0 + 3)).toInt64) <<< ((32 : Int32).toInt64 &&& 63)) hx hb dL_law_399 rfl ?_
    refine lv_aload_n hx hb dL_law_400 rfl (lv_at hl 1 rfl) ?_
    refine lv_iload hx hb dL_law_401 (lv_at hl 5 rfl) ?_
    refine lv_iconst (v := 4) hx hb dL_law_403 (by decide) ?_
    refine lv_iadd hx hb dL_law_404 ?_
    refine lw_sld (c9 := 4) hx hb hX hbl hbA hS rfl (by omega) hL dL_law_405 ?_
    refine lv_i2l (v := (xs (n0 + 4)).toInt64) hx hb dL_law_406 rfl ?_
    refine lv_ldc2 hx hb hown (hts (.constantLong RL 54 (4294967295)) kLaw_0) dL_law_407 ?_
    refine lv_land hx hb dL_law_410 ?_
    refine lv_lor hx hb dL_law_411 ?_
    refine lw_lJ ?_
    have hPc := hP.sub (ws' := [(m0, .inr (2, [.int er, .ref a2, .ref b2])), (a2, .inl (cK, 256, .inl kf)), (b2, .inl (cM, 256, .inr (.inl vf)))]) [0, 1, 2] rfl
    have hDc := hD.sub (ws' := [(m0, .inr (2, [.int er, .ref a2, .ref b2])), (a2, .inl (cK, 256, .inl kf)), (b2, .inl (cM, 256, .inr (.inl vf)))]) [0, 1, 2] (by decide) rfl
    have hKc := hK.sub (tys' := [(cK, .int), (cM, .long)]) [0, 1] rfl
    have hFc := va_free (wc := [(m0, .inr (2, [.int er, .ref a2, .ref b2])), (a2, .inl (cK, 256, .inl kf)), (b2, .inl (cM, 256, .inr (.inl vf)))]) hD hS hA [0, 1, 2] rfl
    refine va_calll (va_runV (As := [.int (xs (n0 + 1)), .int (xs (n0 + 2)), .long (lw_J (xs (n0 + 3)) (xs (n0 + 4)))]) (rest := []) ⟨hx, hb, hml, hown, hts⟩ (qX2_fold l dC dI H.size m0 a2 b2 cK cM er kf vf (xs (n0 + 1)) (xs (n0 + 2)) (lw_J (xs (n0 + 3)) (xs (n0 + 4)))) (cwV 3 hts gL_law_X2_fold rfl rfl rfl (by decide +kernel) ⟨Nat.le_of_ble_eq_true rfl, Nat.le_of_ble_eq_true rfl⟩) ⟨fun a U g mk q => by obtain ⟨q0, q1, qP, qK, qD⟩ := q; exact ⟨q0, q1, qP, va_K.moved (u := U) (U := U.calling g mk a) (Vm.Alike.refl U.vm) qK, qD⟩, va_recv hKc hPc (ci := 2) (q0 := 0) rfl rfl, fun U hU hW => ⟨rfl, by rw [hU], by rw [hU]; exact hPc, va_K.moved hW.alike hKc, hDc.weaken (fun _ _ _ _ => trivial)⟩⟩ rfl rfl hl.1 rfl (lv_room (Nat.le_of_ble_eq_true rfl)) dL_law_412 ⟨Nat.le_trans (by omega) hrc, Nat.le_trans (by omega) hrs⟩) hS (fun q _ h => hFc q h) hFc (fun r_3 u t9 H1 locs ht hvm hw hB hz1 hk1 hS => ?_)
    obtain ⟨hP1, hK1, hD1⟩ := hB
    rw [ht] at hP1
    obtain ⟨h_4, rfl⟩ := hw
    have hK1 := va_K.moved hvm.symm hK1
    obtain ⟨hP, hD⟩ := va_join (wr := [(h0, .inr (1, [.ref a, .ref b1])), (a, .inl (cI, 256, .inl kf)), (b1, .inl (cJ, 256, .inr (.inl vf))), (o, .inl (cO, 1, .inr (.inl (if okX (lw_J (xs (n0 + 3)) (xs (n0 + 4))) ∧ okW (xs (n0 + 1)) (xs (n0 + 2)) then vp_updL ov (0 : Int32).toNatClampNeg (e_on (eW kf vf (xs (n0 + 1)) (xs (n0 + 2))) (lw_J (xs (n0 + 3)) (xs (n0 + 4)))) else ov))))]) (w1 := [(m0, .inr (2, [.int (o_c (xs (n0 + 1)) (xs (n0 + 2)) (lw_J (xs (n0 + 3)) (xs (n0 + 4)))), .ref a2, .ref b2])), (a2, .inl (cK, 256, .inl kf)), (b2, .inl (cM, 256, .inr (.inl vf)))]) hP hD [0, 1, 2] [3, 4, 5, 6] rfl rfl (by decide) (by decide) hk1 hFc hP1 hD1
    have hK := (hK.sub (tys' := [(cI, .int), (cJ, .long), (cO, .long)]) [2, 3, 4] rfl).app hK1
    generalize H1 = H at hP hS ⊢
    have hP : va_P (dC, dI) vwCl [(h0, .inr (1, [.ref a, .ref b1])), (a, .inl (cI, 256, .inl kf)), (b1, .inl (cJ, 256, .inr (.inl vf))), (o, .inl (cO, 1, .inr (.inl (if okX (lw_J (xs (n0 + 3)) (xs (n0 + 4))) ∧ okW (xs (n0 + 1)) (xs (n0 + 2)) then vp_updL ov (0 : Int32).toNatClampNeg (e_on (eW kf vf (xs (n0 + 1)) (xs (n0 + 2))) (lw_J (xs (n0 + 3)) (xs (n0 + 4)))) else ov)))), (m0, .inr (2, [.int (o_c (xs (n0 + 1)) (xs (n0 + 2)) (lw_J (xs (n0 + 3)) (xs (n0 + 4)))), .ref a2, .ref b2])), (a2, .inl (cK, 256, .inl kf)), (b2, .inl (cM, 256, .inr (.inl vf)))] H := hP
    have hD : va_D A [(h0, .inr (1, [.ref a, .ref b1])), (a, .inl (cI, 256, .inl kf)), (b1, .inl (cJ, 256, .inr (.inl vf))), (o, .inl (cO, 1, .inr (.inl (if okX (lw_J (xs (n0 + 3)) (xs (n0 + 4))) ∧ okW (xs (n0 + 1)) (xs (n0 + 2)) then vp_updL ov (0 : Int32).toNatClampNeg (e_on (eW kf vf (xs (n0 + 1)) (xs (n0 + 2))) (lw_J (xs (n0 + 3)) (xs (n0 + 4)))) else ov)))), (m0, .inr (2, [.int (o_c (xs (n0 + 1)) (xs (n0 + 2)) (lw_J (xs (n0 + 3)) (xs (n0 + 4)))), .ref a2, .ref b2])), (a2, .inl (cK, 256, .inl kf)), (b2, .inl (cM, 256, .inr (.inl vf)))] := hD
    have hK : va_K (dC, dI) vwCl [(cI, .int), (cJ, .long), (cO, .long), (cK, .int), (cM, .long)] s := hK
    refine lv_lstore (lv' := [(6, .long r_3), (5, .int r_1), (0, .ref b), (1, .ref h0), (2, .ref m0), (3, .ref o), (4, .int (nI n0))]) hx hb dL_law_415 hl (by decide) rfl (fun ls hl => ?_)
    refine lv_aload_n hx hb dL_law_417 rfl (lv_at hl 4 rfl) ?_
    have hPc := hP.sub (ws' := [(m0, .inr (2, [.int (o_c (xs (n0 + 1)) (xs (n0 + 2)) (lw_J (xs (n0 + 3)) (xs (n0 + 4)))), .ref a2, .ref b2]))]) [4] rfl
    have hDc := hD.sub (ws' := [(m0, .inr (2, [.int (o_c (xs (n0 + 1)) (xs (n0 + 2)) (lw_J (xs (n0 + 3)) (xs (n0 + 4)))), .ref a2, .ref b2]))]) [4] (by decide) rfl
    have hKc := hK.sub (tys' := []) [] rfl
    have hFc := va_free (wc := [(m0, .inr (2, [.int (o_c (xs (n0 + 1)) (xs (n0 + 2)) (lw_J (xs (n0 + 3)) (xs (n0 + 4)))), .ref a2, .ref b2]))]) hD hS hA [4] rfl
    refine va_calli (va_runV (As := []) (rest := []) ⟨hx, hb, hml, hown, hts⟩ (qX2_thrown l dC dI H.size m0 a2 b2 (o_c (xs (n0 + 1)) (xs (n0 + 2)) (lw_J (xs (n0 + 3)) (xs (n0 + 4))))) (cwV 0 hts gL_law_X2_thrown rfl rfl rfl (by decide +kernel) ⟨Nat.le_of_ble_eq_true rfl, Nat.le_of_ble_eq_true rfl⟩) ⟨fun a U g mk q => by obtain ⟨q0, q1, qP, qK, qD⟩ := q; exact ⟨q0, q1, qP, va_K.moved (u := U) (U := U.calling g mk a) (Vm.Alike.refl U.vm) qK, qD⟩, va_recv hKc hPc (ci := 2) (q0 := 0) rfl rfl, fun U hU hW => ⟨rfl, by rw [hU], by rw [hU]; exact hPc, va_K.moved hW.alike hKc, hDc.weaken (fun _ _ _ _ => trivial)⟩⟩ rfl rfl hl.1 rfl (lv_room (Nat.le_of_ble_eq_true rfl)) dL_law_418 ⟨Nat.le_trans (by omega) hrc, Nat.le_trans (by omega) hrs⟩) hS (fun q _ h => hFc q h) hFc (fun r_5 u t9 H1 locs ht hvm hw hB hz1 hk1 hS => ?_)
    obtain ⟨hP1, hK1, hD1⟩ := hB
    rw [ht] at hP1
    have h_6 := hw
    have hK1 := va_K.moved hvm.symm hK1
    obtain ⟨hP, hD⟩ := va_join (wr := [(h0, .inr (1, [.ref a, .ref b1])), (a, .inl (cI, 256, .inl kf)), (b1, .inl (cJ, 256, .inr (.inl vf))), (o, .inl (cO, 1, .inr (.inl (if okX (lw_J (xs (n0 + 3)) (xs (n0 + 4))) ∧ okW (xs (n0 + 1)) (xs (n0 + 2)) then vp_updL ov (0 : Int32).toNatClampNeg (e_on (eW kf vf (xs (n0 + 1)) (xs (n0 + 2))) (lw_J (xs (n0 + 3)) (xs (n0 + 4)))) else ov)))), (a2, .inl (cK, 256, .inl kf)), (b2, .inl (cM, 256, .inr (.inl vf)))]) (w1 := [(m0, .inr (2, [.int (o_c (xs (n0 + 1)) (xs (n0 + 2)) (lw_J (xs (n0 + 3)) (xs (n0 + 4)))), .ref a2, .ref b2]))]) hP hD [4] [0, 1, 2, 3, 5, 6] rfl rfl (by decide) (by decide) hk1 hFc hP1 hD1
    have hK := (hK.sub (tys' := [(cI, .int), (cJ, .long), (cO, .long), (cK, .int), (cM, .long)]) [0, 1, 2, 3, 4] rfl).app hK1
    generalize H1 = H at hP hS ⊢
    have hP : va_P (dC, dI) vwCl [(h0, .inr (1, [.ref a, .ref b1])), (a, .inl (cI, 256, .inl kf)), (b1, .inl (cJ, 256, .inr (.inl vf))), (o, .inl (cO, 1, .inr (.inl (if okX (lw_J (xs (n0 + 3)) (xs (n0 + 4))) ∧ okW (xs (n0 + 1)) (xs (n0 + 2)) then vp_updL ov (0 : Int32).toNatClampNeg (e_on (eW kf vf (xs (n0 + 1)) (xs (n0 + 2))) (lw_J (xs (n0 + 3)) (xs (n0 + 4)))) else ov)))), (a2, .inl (cK, 256, .inl kf)), (b2, .inl (cM, 256, .inr (.inl vf))), (m0, .inr (2, [.int (o_c (xs (n0 + 1)) (xs (n0 + 2)) (lw_J (xs (n0 + 3)) (xs (n0 + 4)))), .ref a2, .ref b2]))] H := hP
    have hD : va_D A [(h0, .inr (1, [.ref a, .ref b1])), (a, .inl (cI, 256, .inl kf)), (b1, .inl (cJ, 256, .inr (.inl vf))), (o, .inl (cO, 1, .inr (.inl (if okX (lw_J (xs (n0 + 3)) (xs (n0 + 4))) ∧ okW (xs (n0 + 1)) (xs (n0 + 2)) then vp_updL ov (0 : Int32).toNatClampNeg (e_on (eW kf vf (xs (n0 + 1)) (xs (n0 + 2))) (lw_J (xs (n0 + 3)) (xs (n0 + 4)))) else ov)))), (a2, .inl (cK, 256, .inl kf)), (b2, .inl (cM, 256, .inr (.inl vf))), (m0, .inr (2, [.int (o_c (xs (n0 + 1)) (xs (n0 + 2)) (lw_J (xs (n0 + 3)) (xs (n0 + 4)))), .ref a2, .ref b2]))] := hD
    have hK : va_K (dC, dI) vwCl [(cI, .int), (cJ, .long), (cO, .long), (cK, .int), (cM, .long)] s := hK
    refine lv_iload hx hb dL_law_421 (lv_at hl 1 rfl) ?_
    refine lv_icmp_eq (tgt := 428) hx hb dL_law_423 (by decide) (fun c_7 => ?_) (fun c_7 => ?_)
    · refine lv_iload hx hb dL_law_428 (lv_at hl 1 rfl) ?_
      refine lv_if_ne (tgt := 444) hx hb dL_law_430 (by decide) (fun c_8 => ?_) (fun c_8 => ?_)
      · refine lv_goto (tgt := 879) hx hb dL_law_444 (by decide) ?_
        refine W.widen (k := cells + 5) (n := slots + 30) (by omega) (by omega) ?_
        exact K kf vf (if okX (lw_J (xs (n0 + 3)) (xs (n0 + 4))) ∧ okW (xs (n0 + 1)) (xs (n0 + 2)) then vp_updL ov (0 : Int32).toNatClampNeg (e_on (eW kf vf (xs (n0 + 1)) (xs (n0 + 2))) (lw_J (xs (n0 + 3)) (xs (n0 + 4)))) else ov) (o_c (xs (n0 + 1)) (xs (n0 + 2)) (lw_J (xs (n0 + 3)) (xs (n0 + 4)))) _ _ ls hR (hP.sub [0, 1, 2, 6, 4, 5, 3] rfl) (hD.sub [0, 1, 2, 6, 4, 5, 3] (by decide) rfl) hS (lv_sub hl [2, 3, 4, 5, 6] rfl)
      · refine lv_aload_n hx hb dL_law_433 rfl (lv_at hl 5 rfl) ?_
        refine lv_iconst (v := 0) hx hb dL_law_434 (by decide) ?_
        refine va_lald hx hb hK hP 3 2 rfl rfl in_01 dL_law_435 ?_
        refine lv_lload hx hb dL_law_436 (lv_at hl 0 rfl) ?_
        refine W.lcmp hx hb dL_law_438 ?_
        refine lv_if_eq (tgt := 444) hx hb dL_law_439 (by decide) (fun c_9 => ?_) (fun c_9 => ?_)
        · simp only [lq_eq] at c_9
          refine lv_goto (tgt := 879) hx hb dL_law_444 (by decide) ?_
          refine W.widen (k := cells + 5) (n := slots + 30) (by omega) (by omega) ?_
          exact K kf vf (if okX (lw_J (xs (n0 + 3)) (xs (n0 + 4))) ∧ okW (xs (n0 + 1)) (xs (n0 + 2)) then vp_updL ov (0 : Int32).toNatClampNeg (e_on (eW kf vf (xs (n0 + 1)) (xs (n0 + 2))) (lw_J (xs (n0 + 3)) (xs (n0 + 4)))) else ov) (o_c (xs (n0 + 1)) (xs (n0 + 2)) (lw_J (xs (n0 + 3)) (xs (n0 + 4)))) _ _ ls hR (hP.sub [0, 1, 2, 6, 4, 5, 3] rfl) (hD.sub [0, 1, 2, 6, 4, 5, 3] (by decide) rfl) hS (lv_sub hl [2, 3, 4, 5, 6] rfl)
        · simp only [lq_eq] at c_9
          exact absurd (by rw [h_4]; exact k_fold hR (by rw [← h_2]; exact c_8)) c_9
    · exact absurd (by rw [h_6, h_2]) c_7

set_option maxHeartbeats 4000000 in
set_option maxRecDepth 100000 in
theorem law_again {p : Program} {l : Launch} {e : Env} {s : State} {m : MethodId} {below : List Frame} {meth : Method} {c : Code} {b L : Nat} {xs : Nat → Int32} {A : Nat → Prop} {dC : Nat → ClassId} {dI : Nat → Nat → Nat} {h0 a b1 m0 a2 b2 o : Nat} {cI cJ cK cM cO : ClassId} (C0 : lw_C p l s m c b L xs A) (hK : va_K (dC, dI) vwCl [(cI, .int), (cJ, .long), (cK, .int), (cM, .long), (cO, .long)] s) {n0 : Nat} (hn : n0 + 5 < L) {cells slots : Nat} (hrc : cells + 5 ≤ room_1.cells) (hrs : slots + 30 ≤ room_1.slots) {kf : Nat → Int32} {vf ov : Nat → Int64} {er : Int32} (hR : okA kf vf) {H : Heap} {locs : List Loc} {ls : Array Slot} (hP : va_P (dC, dI) vwCl [(h0, .inr (1, [.ref a, .ref b1])), (a, .inl (cI, 256, .inl kf)), (b1, .inl (cJ, 256, .inr (.inl vf))), (m0, .inr (2, [.int er, .ref a2, .ref b2])), (a2, .inl (cK, 256, .inl kf)), (b2, .inl (cM, 256, .inr (.inl vf))), (o, .inl (cO, 1, .inr (.inl ov)))] H) (hD : va_D A [(h0, .inr (1, [.ref a, .ref b1])), (a, .inl (cI, 256, .inl kf)), (b1, .inl (cJ, 256, .inr (.inl vf))), (m0, .inr (2, [.int er, .ref a2, .ref b2])), (a2, .inl (cK, 256, .inl kf)), (b2, .inl (cM, 256, .inr (.inl vf))), (o, .inl (cO, 1, .inr (.inl ov)))]) (hS : va_S A s.heap H locs) (hl : lv_has ls 8 [(0, .ref b), (1, .ref h0), (2, .ref m0), (3, .ref o), (4, .int (nI n0))]) (K : ∀ (kf : Nat → Int32) (vf ov : Nat → Int64) (er : Int32) (H : Heap) (locs : List Loc) (ls : Array Slot), okA kf vf → va_P (dC, dI) vwCl [(h0, .inr (1, [.ref a, .ref b1])), (a, .inl (cI, 256, .inl kf)), (b1, .inl (cJ, 256, .inr (.inl vf))), (m0, .inr (2, [.int er, .ref a2, .ref b2])), (a2, .inl (cK, 256, .inl kf)), (b2, .inl (cM, 256, .inr (.inl vf))), (o, .inl (cO, 1, .inr (.inl ov)))] H → va_D A [(h0, .inr (1, [.ref a, .ref b1])), (a, .inl (cI, 256, .inl kf)), (b1, .inl (cJ, 256, .inr (.inl vf))), (m0, .inr (2, [.int er, .ref a2, .ref b2])), (a2, .inl (cK, 256, .inl kf)), (b2, .inl (cM, 256, .inr (.inl vf))), (o, .inl (cO, 1, .inr (.inl ov)))] → va_S A s.heap H locs → lv_has ls 8 [(0, .ref b), (1, .ref h0), (2, .ref m0), (3, .ref o), (4, .int (nI n0))] → W p l e room_1 s m #[Value.ref b] below meth c H locs (cells + 5) (slots + 30) (lw_Z below #[Value.ref b] s) (F0 m 879 ls [])) : W p l e room_1 s m #[Value.ref b] below meth c H locs cells slots (lw_Z below #[Value.ref b] s) (F0 m 447 ls []) := by
  obtain ⟨hx, hb, hml, hown, hts, hX, hbl, hbA, hA, hlt, hE, hZ, hL⟩ := C0
  refine lv_aload_n hx hb dL_law_447 rfl (lv_at hl 1 rfl) ?_
  refine lv_aload_n hx hb dL_law_448 rfl (lv_at hl 0 rfl) ?_
  refine lv_iload hx hb dL_law_449 (lv_at hl 4 rfl) ?_
  refine lv_iconst (v := 1) hx hb dL_law_451 (by decide) ?_
  refine lv_iadd hx hb dL_law_452 ?_
  refine lw_sld (c9 := 1) hx hb hX hbl hbA hS rfl (by omega) hL dL_law_453 ?_
  refine lv_aload_n hx hb dL_law_454 rfl (lv_at hl 0 rfl) ?_
  refine lv_iload hx hb dL_law_455 (lv_at hl 4 rfl) ?_
  refine lv_iconst (v := 2) hx hb dL_law_457 (by decide) ?_
  refine lv_iadd hx hb dL_law_458 ?_
  refine lw_sld (c9 := 2) hx hb hX hbl hbA hS rfl (by omega) hL dL_law_459 ?_
  refine lv_aload_n hx hb dL_law_460 rfl (lv_at hl 0 rfl) ?_
  refine lv_iload hx hb dL_law_461 (lv_at hl 4 rfl) ?_
  refine lv_iconst (v := 3) hx hb dL_law_463 (by decide) ?_
  refine lv_iadd hx hb dL_law_464 ?_
  refine lw_sld (c9 := 3) hx hb hX hbl hbA hS rfl (by omega) hL dL_law_465 ?_
  refine lv_i2l (v := (xs (n0 + 3)).toInt64) hx hb dL_law_466 rfl ?_
  refine lv_bipush (v := 32) hx hb dL_law_467 (by decide) ?_
  refine lv_lshl (v := ((xs (n0 + 3)).toInt64) <<< ((32 : Int32).toInt64 &&& 63)) hx hb dL_law_469 rfl ?_
  refine lv_aload_n hx hb dL_law_470 rfl (lv_at hl 0 rfl) ?_
  refine lv_iload hx hb dL_law_471 (lv_at hl 4 rfl) ?_
  refine lv_iconst (v := 4) hx hb dL_law_473 (by decide) ?_
  refine lv_iadd hx hb dL_law_474 ?_
  refine lw_sld (c9 := 4) hx hb hX hbl hbA hS rfl (by omega) hL dL_law_475 ?_
  refine lv_i2l (v := (xs (n0 + 4)).toInt64) hx hb dL_law_476 rfl ?_
  refine lv_ldc2 hx hb hown (hts (.constantLong RL 54 (4294967295)) kLaw_0) dL_law_477 ?_
  refine lv_land hx hb dL_law_480 ?_
  refine lv_lor hx hb dL_law_481 ?_
  refine lw_lJ ?_
  refine lv_aload_n hx hb dL_law_482 rfl (lv_at hl 0 rfl) ?_
  refine lv_iload hx hb dL_law_483 (lv_at hl 4 rfl) ?_
  refine lv_iconst (v := 5) hx hb dL_law_485 (by decide) ?_
  refine lv_iadd hx hb dL_law_486 ?_
  refine lw_sld (c9 := 5) hx hb hX hbl hbA hS rfl (by omega) hL dL_law_487 ?_
  refine lv_aload_n hx hb dL_law_488 rfl (lv_at hl 3 rfl) ?_
  have hPc := hP.sub (ws' := [(h0, .inr (1, [.ref a, .ref b1])), (a, .inl (cI, 256, .inl kf)), (b1, .inl (cJ, 256, .inr (.inl vf))), (o, .inl (cO, 1, .inr (.inl ov)))]) [0, 1, 2, 6] rfl
  have hDc := hD.sub (ws' := [(h0, .inr (1, [.ref a, .ref b1])), (a, .inl (cI, 256, .inl kf)), (b1, .inl (cJ, 256, .inr (.inl vf))), (o, .inl (cO, 1, .inr (.inl ov)))]) [0, 1, 2, 6] (by decide) rfl
  have hKc := hK.sub (tys' := [(cI, .int), (cJ, .long), (cO, .long)]) [0, 1, 4] rfl
  have hFc := va_free (wc := [(h0, .inr (1, [.ref a, .ref b1])), (a, .inl (cI, 256, .inl kf)), (b1, .inl (cJ, 256, .inr (.inl vf))), (o, .inl (cO, 1, .inr (.inl ov)))]) hD hS hA [0, 1, 2, 6] rfl
  refine vx_calli (vx_runSX (As := [.ref h0, .int (xs (n0 + 1)), .int (xs (n0 + 2)), .long (lw_J (xs (n0 + 3)) (xs (n0 + 4))), .int (xs (n0 + 5)), .ref o]) (rest := []) ⟨hx, hb, hml, hown, hts⟩ (qL_again l hlt dC dI H.size h0 a b1 cI cJ kf vf o cO ov (xs (n0 + 1)) (xs (n0 + 2)) (lw_J (xs (n0 + 3)) (xs (n0 + 4))) (xs (n0 + 5))) (vx_cwSW 6 hts gL_law_L_again rfl rfl rfl (by decide +kernel) ⟨Nat.le_of_ble_eq_true rfl, Nat.le_of_ble_eq_true rfl⟩) ⟨fun a U g mk q => by obtain ⟨q0, q1, qP, qK, qD, qE, qZ⟩ := q; exact ⟨q0, q1, qP, va_K.moved (u := U) (U := U.calling g mk a) (Vm.Alike.refl U.vm) qK, qD, ev.same (u := U) rfl qE, ez.moved (U := U.calling g mk a) qZ (Vm.Alike.refl U.vm)⟩, fun U hU hW => ⟨rfl, by rw [hU], by rw [hU]; exact hPc, va_K.moved hW.alike hKc, hDc.weaken (fun _ _ _ _ => trivial), hE.warm hW, by rw [hU]; exact ((hZ.kept hS.2.1).narrow hFc).moved hW.alike⟩⟩ rfl rfl hl.1 rfl (lv_room (Nat.le_of_ble_eq_true rfl)) dL_law_489 ⟨Nat.le_trans (by omega) hrc, Nat.le_trans (by omega) hrs⟩) hS (fun q _ h => hFc q h) hFc (fun q _ h => hFc q h) (fun E ce q9 u t9 H1 locs ht hvm hw hB hz1 hk1 hS hce hcv hcl => ?_) (fun r_1 u t9 H1 locs ht hvm hw hB hz1 hk1 hS => ?_)
  · exact hB.1.elim
  · obtain ⟨hP1, hK1, hD1⟩ := hB
    rw [ht] at hP1
    obtain ⟨h_2, rfl⟩ := hw
    have hK1 := va_K.moved hvm.symm hK1
    obtain ⟨hP, hD⟩ := va_join (wr := [(m0, .inr (2, [.int er, .ref a2, .ref b2])), (a2, .inl (cK, 256, .inl kf)), (b2, .inl (cM, 256, .inr (.inl vf)))]) (w1 := [(h0, .inr (1, [.ref a, .ref b1])), (a, .inl (cI, 256, .inl kf)), (b1, .inl (cJ, 256, .inr (.inl vf))), (o, .inl (cO, 1, .inr (.inl (if (okX (lw_J (xs (n0 + 3)) (xs (n0 + 4))) ∧ okN (xs (n0 + 5))) ∧ okW (xs (n0 + 1)) (xs (n0 + 2)) then vp_updL ov (0 : Int32).toNatClampNeg (e_it (eW kf vf (xs (n0 + 1)) (xs (n0 + 2))) (lw_J (xs (n0 + 3)) (xs (n0 + 4))) (xs (n0 + 5)).toNatClampNeg) else ov))))]) hP hD [0, 1, 2, 6] [3, 4, 5] rfl rfl (by decide) (by decide) hk1 hFc hP1 hD1
    have hK := (hK.sub (tys' := [(cK, .int), (cM, .long)]) [2, 3] rfl).app hK1
    generalize H1 = H at hP hS ⊢
    have hP : va_P (dC, dI) vwCl [(m0, .inr (2, [.int er, .ref a2, .ref b2])), (a2, .inl (cK, 256, .inl kf)), (b2, .inl (cM, 256, .inr (.inl vf))), (h0, .inr (1, [.ref a, .ref b1])), (a, .inl (cI, 256, .inl kf)), (b1, .inl (cJ, 256, .inr (.inl vf))), (o, .inl (cO, 1, .inr (.inl (if (okX (lw_J (xs (n0 + 3)) (xs (n0 + 4))) ∧ okN (xs (n0 + 5))) ∧ okW (xs (n0 + 1)) (xs (n0 + 2)) then vp_updL ov (0 : Int32).toNatClampNeg (e_it (eW kf vf (xs (n0 + 1)) (xs (n0 + 2))) (lw_J (xs (n0 + 3)) (xs (n0 + 4))) (xs (n0 + 5)).toNatClampNeg) else ov))))] H := hP
    have hD : va_D A [(m0, .inr (2, [.int er, .ref a2, .ref b2])), (a2, .inl (cK, 256, .inl kf)), (b2, .inl (cM, 256, .inr (.inl vf))), (h0, .inr (1, [.ref a, .ref b1])), (a, .inl (cI, 256, .inl kf)), (b1, .inl (cJ, 256, .inr (.inl vf))), (o, .inl (cO, 1, .inr (.inl (if (okX (lw_J (xs (n0 + 3)) (xs (n0 + 4))) ∧ okN (xs (n0 + 5))) ∧ okW (xs (n0 + 1)) (xs (n0 + 2)) then vp_updL ov (0 : Int32).toNatClampNeg (e_it (eW kf vf (xs (n0 + 1)) (xs (n0 + 2))) (lw_J (xs (n0 + 3)) (xs (n0 + 4))) (xs (n0 + 5)).toNatClampNeg) else ov))))] := hD
    have hK : va_K (dC, dI) vwCl [(cK, .int), (cM, .long), (cI, .int), (cJ, .long), (cO, .long)] s := hK
    refine lv_istore (lv' := [(5, .int r_1), (0, .ref b), (1, .ref h0), (2, .ref m0), (3, .ref o), (4, .int (nI n0))]) hx hb dL_law_492 hl (by decide) rfl (fun ls hl => ?_)
    refine lv_aload_n hx hb dL_law_494 rfl (lv_at hl 3 rfl) ?_
    refine lv_aload_n hx hb dL_law_495 rfl (lv_at hl 1 rfl) ?_
    refine lv_iload hx hb dL_law_496 (lv_at hl 5 rfl) ?_
    refine lv_iconst (v := 1) hx hb dL_law_498 (by decide) ?_
    refine lv_iadd hx hb dL_law_499 ?_
    refine lw_sld (c9 := 1) hx hb hX hbl hbA hS rfl (by omega) hL dL_law_500 ?_
    refine lv_aload_n hx hb dL_law_501 rfl (lv_at hl 1 rfl) ?_
    refine lv_iload hx hb dL_law_502 (lv_at hl 5 rfl) ?_
    refine lv_iconst (v := 2) hx hb dL_law_504 (by decide) ?_
    refine lv_iadd hx hb dL_law_505 ?_
    refine lw_sld (c9 := 2) hx hb hX hbl hbA hS rfl (by omega) hL dL_law_506 ?_
    refine lv_aload_n hx hb dL_law_507 rfl (lv_at hl 1 rfl) ?_
    refine lv_iload hx hb dL_law_508 (lv_at hl 5 rfl) ?_
    refine lv_iconst (v := 3) hx hb dL_law_510 (by decide) ?_
    refine lv_iadd hx hb dL_law_511 ?_
    refine lw_sld (c9 := 3) hx hb hX hbl hbA hS rfl (by omega) hL dL_law_512 ?_
    refine lv_i2l (v := (xs (n0 + 3)).toInt64) hx hb dL_law_513 rfl ?_
    refine lv_bipush (v := 32) hx hb dL_law_514 (by decide) ?_
    refine lv_lshl (v := ((xs (n0 + 3)).toInt64) <<< ((32 : Int32).toInt64 &&& 63)) hx hb dL_law_516 rfl ?_
    refine lv_aload_n hx hb dL_law_517 rfl (lv_at hl 1 rfl) ?_
    refine lv_iload hx hb dL_law_518 (lv_at hl 5 rfl) ?_
    refine lv_iconst (v := 4) hx hb dL_law_520 (by decide) ?_
    refine lv_iadd hx hb dL_law_521 ?_
    refine lw_sld (c9 := 4) hx hb hX hbl hbA hS rfl (by omega) hL dL_law_522 ?_
    refine lv_i2l (v := (xs (n0 + 4)).toInt64) hx hb dL_law_523 rfl ?_
    refine lv_ldc2 hx hb hown (hts (.constantLong RL 54 (4294967295)) kLaw_0) dL_law_524 ?_
    refine lv_land hx hb dL_law_527 ?_
    refine lv_lor hx hb dL_law_528 ?_
    refine lw_lJ ?_
    refine lv_aload_n hx hb dL_law_529 rfl (lv_at hl 1 rfl) ?_
    refine lv_iload hx hb dL_law_530 (lv_at hl 5 rfl) ?_
    refine lv_iconst (v := 5) hx hb dL_law_532 (by decide) ?_
    refine lv_iadd hx hb dL_law_533 ?_
    refine lw_sld (c9 := 5) hx hb hX hbl hbA hS rfl (by omega) hL dL_law_534 ?_
    have hPc := hP.sub (ws' := [(m0, .inr (2, [.int er, .ref a2, .ref b2])), (a2, .inl (cK, 256, .inl kf)), (b2, .inl (cM, 256, .inr (.inl vf)))]) [0, 1, 2] rfl
    have hDc := hD.sub (ws' := [(m0, .inr (2, [.int er, .ref a2, .ref b2])), (a2, .inl (cK, 256, .inl kf)), (b2, .inl (cM, 256, .inr (.inl vf)))]) [0, 1, 2] (by decide) rfl
    have hKc := hK.sub (tys' := [(cK, .int), (cM, .long)]) [0, 1] rfl
    have hFc := va_free (wc := [(m0, .inr (2, [.int er, .ref a2, .ref b2])), (a2, .inl (cK, 256, .inl kf)), (b2, .inl (cM, 256, .inr (.inl vf)))]) hD hS hA [0, 1, 2] rfl
    refine va_calll (va_runV (As := [.int (xs (n0 + 1)), .int (xs (n0 + 2)), .long (lw_J (xs (n0 + 3)) (xs (n0 + 4))), .int (xs (n0 + 5))]) (rest := []) ⟨hx, hb, hml, hown, hts⟩ (qX2_again l dC dI H.size m0 a2 b2 cK cM er kf vf (xs (n0 + 1)) (xs (n0 + 2)) (lw_J (xs (n0 + 3)) (xs (n0 + 4))) (xs (n0 + 5))) (cwV 4 hts gL_law_X2_again rfl rfl rfl (by decide +kernel) ⟨Nat.le_of_ble_eq_true rfl, Nat.le_of_ble_eq_true rfl⟩) ⟨fun a U g mk q => by obtain ⟨q0, q1, qP, qK, qD⟩ := q; exact ⟨q0, q1, qP, va_K.moved (u := U) (U := U.calling g mk a) (Vm.Alike.refl U.vm) qK, qD⟩, va_recv hKc hPc (ci := 2) (q0 := 0) rfl rfl, fun U hU hW => ⟨rfl, by rw [hU], by rw [hU]; exact hPc, va_K.moved hW.alike hKc, hDc.weaken (fun _ _ _ _ => trivial)⟩⟩ rfl rfl hl.1 rfl (lv_room (Nat.le_of_ble_eq_true rfl)) dL_law_535 ⟨Nat.le_trans (by omega) hrc, Nat.le_trans (by omega) hrs⟩) hS (fun q _ h => hFc q h) hFc (fun r_3 u t9 H1 locs ht hvm hw hB hz1 hk1 hS => ?_)
    obtain ⟨hP1, hK1, hD1⟩ := hB
    rw [ht] at hP1
    obtain ⟨h_4, rfl⟩ := hw
    have hK1 := va_K.moved hvm.symm hK1
    obtain ⟨hP, hD⟩ := va_join (wr := [(h0, .inr (1, [.ref a, .ref b1])), (a, .inl (cI, 256, .inl kf)), (b1, .inl (cJ, 256, .inr (.inl vf))), (o, .inl (cO, 1, .inr (.inl (if (okX (lw_J (xs (n0 + 3)) (xs (n0 + 4))) ∧ okN (xs (n0 + 5))) ∧ okW (xs (n0 + 1)) (xs (n0 + 2)) then vp_updL ov (0 : Int32).toNatClampNeg (e_it (eW kf vf (xs (n0 + 1)) (xs (n0 + 2))) (lw_J (xs (n0 + 3)) (xs (n0 + 4))) (xs (n0 + 5)).toNatClampNeg) else ov))))]) (w1 := [(m0, .inr (2, [.int (a_c (xs (n0 + 1)) (xs (n0 + 2)) (lw_J (xs (n0 + 3)) (xs (n0 + 4))) (xs (n0 + 5))), .ref a2, .ref b2])), (a2, .inl (cK, 256, .inl kf)), (b2, .inl (cM, 256, .inr (.inl vf)))]) hP hD [0, 1, 2] [3, 4, 5, 6] rfl rfl (by decide) (by decide) hk1 hFc hP1 hD1
    have hK := (hK.sub (tys' := [(cI, .int), (cJ, .long), (cO, .long)]) [2, 3, 4] rfl).app hK1
    generalize H1 = H at hP hS ⊢
    have hP : va_P (dC, dI) vwCl [(h0, .inr (1, [.ref a, .ref b1])), (a, .inl (cI, 256, .inl kf)), (b1, .inl (cJ, 256, .inr (.inl vf))), (o, .inl (cO, 1, .inr (.inl (if (okX (lw_J (xs (n0 + 3)) (xs (n0 + 4))) ∧ okN (xs (n0 + 5))) ∧ okW (xs (n0 + 1)) (xs (n0 + 2)) then vp_updL ov (0 : Int32).toNatClampNeg (e_it (eW kf vf (xs (n0 + 1)) (xs (n0 + 2))) (lw_J (xs (n0 + 3)) (xs (n0 + 4))) (xs (n0 + 5)).toNatClampNeg) else ov)))), (m0, .inr (2, [.int (a_c (xs (n0 + 1)) (xs (n0 + 2)) (lw_J (xs (n0 + 3)) (xs (n0 + 4))) (xs (n0 + 5))), .ref a2, .ref b2])), (a2, .inl (cK, 256, .inl kf)), (b2, .inl (cM, 256, .inr (.inl vf)))] H := hP
    have hD : va_D A [(h0, .inr (1, [.ref a, .ref b1])), (a, .inl (cI, 256, .inl kf)), (b1, .inl (cJ, 256, .inr (.inl vf))), (o, .inl (cO, 1, .inr (.inl (if (okX (lw_J (xs (n0 + 3)) (xs (n0 + 4))) ∧ okN (xs (n0 + 5))) ∧ okW (xs (n0 + 1)) (xs (n0 + 2)) then vp_updL ov (0 : Int32).toNatClampNeg (e_it (eW kf vf (xs (n0 + 1)) (xs (n0 + 2))) (lw_J (xs (n0 + 3)) (xs (n0 + 4))) (xs (n0 + 5)).toNatClampNeg) else ov)))), (m0, .inr (2, [.int (a_c (xs (n0 + 1)) (xs (n0 + 2)) (lw_J (xs (n0 + 3)) (xs (n0 + 4))) (xs (n0 + 5))), .ref a2, .ref b2])), (a2, .inl (cK, 256, .inl kf)), (b2, .inl (cM, 256, .inr (.inl vf)))] := hD
    have hK : va_K (dC, dI) vwCl [(cI, .int), (cJ, .long), (cO, .long), (cK, .int), (cM, .long)] s := hK
    refine lv_lstore (lv' := [(6, .long r_3), (5, .int r_1), (0, .ref b), (1, .ref h0), (2, .ref m0), (3, .ref o), (4, .int (nI n0))]) hx hb dL_law_538 hl (by decide) rfl (fun ls hl => ?_)
    refine lv_aload_n hx hb dL_law_540 rfl (lv_at hl 4 rfl) ?_
    have hPc := hP.sub (ws' := [(m0, .inr (2, [.int (a_c (xs (n0 + 1)) (xs (n0 + 2)) (lw_J (xs (n0 + 3)) (xs (n0 + 4))) (xs (n0 + 5))), .ref a2, .ref b2]))]) [4] rfl
    have hDc := hD.sub (ws' := [(m0, .inr (2, [.int (a_c (xs (n0 + 1)) (xs (n0 + 2)) (lw_J (xs (n0 + 3)) (xs (n0 + 4))) (xs (n0 + 5))), .ref a2, .ref b2]))]) [4] (by decide) rfl
    have hKc := hK.sub (tys' := []) [] rfl
    have hFc := va_free (wc := [(m0, .inr (2, [.int (a_c (xs (n0 + 1)) (xs (n0 + 2)) (lw_J (xs (n0 + 3)) (xs (n0 + 4))) (xs (n0 + 5))), .ref a2, .ref b2]))]) hD hS hA [4] rfl
    refine va_calli (va_runV (As := []) (rest := []) ⟨hx, hb, hml, hown, hts⟩ (qX2_thrown l dC dI H.size m0 a2 b2 (a_c (xs (n0 + 1)) (xs (n0 + 2)) (lw_J (xs (n0 + 3)) (xs (n0 + 4))) (xs (n0 + 5)))) (cwV 0 hts gL_law_X2_thrown rfl rfl rfl (by decide +kernel) ⟨Nat.le_of_ble_eq_true rfl, Nat.le_of_ble_eq_true rfl⟩) ⟨fun a U g mk q => by obtain ⟨q0, q1, qP, qK, qD⟩ := q; exact ⟨q0, q1, qP, va_K.moved (u := U) (U := U.calling g mk a) (Vm.Alike.refl U.vm) qK, qD⟩, va_recv hKc hPc (ci := 2) (q0 := 0) rfl rfl, fun U hU hW => ⟨rfl, by rw [hU], by rw [hU]; exact hPc, va_K.moved hW.alike hKc, hDc.weaken (fun _ _ _ _ => trivial)⟩⟩ rfl rfl hl.1 rfl (lv_room (Nat.le_of_ble_eq_true rfl)) dL_law_541 ⟨Nat.le_trans (by omega) hrc, Nat.le_trans (by omega) hrs⟩) hS (fun q _ h => hFc q h) hFc (fun r_5 u t9 H1 locs ht hvm hw hB hz1 hk1 hS => ?_)
    obtain ⟨hP1, hK1, hD1⟩ := hB
    rw [ht] at hP1
    have h_6 := hw
    have hK1 := va_K.moved hvm.symm hK1
    obtain ⟨hP, hD⟩ := va_join (wr := [(h0, .inr (1, [.ref a, .ref b1])), (a, .inl (cI, 256, .inl kf)), (b1, .inl (cJ, 256, .inr (.inl vf))), (o, .inl (cO, 1, .inr (.inl (if (okX (lw_J (xs (n0 + 3)) (xs (n0 + 4))) ∧ okN (xs (n0 + 5))) ∧ okW (xs (n0 + 1)) (xs (n0 + 2)) then vp_updL ov (0 : Int32).toNatClampNeg (e_it (eW kf vf (xs (n0 + 1)) (xs (n0 + 2))) (lw_J (xs (n0 + 3)) (xs (n0 + 4))) (xs (n0 + 5)).toNatClampNeg) else ov)))), (a2, .inl (cK, 256, .inl kf)), (b2, .inl (cM, 256, .inr (.inl vf)))]) (w1 := [(m0, .inr (2, [.int (a_c (xs (n0 + 1)) (xs (n0 + 2)) (lw_J (xs (n0 + 3)) (xs (n0 + 4))) (xs (n0 + 5))), .ref a2, .ref b2]))]) hP hD [4] [0, 1, 2, 3, 5, 6] rfl rfl (by decide) (by decide) hk1 hFc hP1 hD1
    have hK := (hK.sub (tys' := [(cI, .int), (cJ, .long), (cO, .long), (cK, .int), (cM, .long)]) [0, 1, 2, 3, 4] rfl).app hK1
    generalize H1 = H at hP hS ⊢
    have hP : va_P (dC, dI) vwCl [(h0, .inr (1, [.ref a, .ref b1])), (a, .inl (cI, 256, .inl kf)), (b1, .inl (cJ, 256, .inr (.inl vf))), (o, .inl (cO, 1, .inr (.inl (if (okX (lw_J (xs (n0 + 3)) (xs (n0 + 4))) ∧ okN (xs (n0 + 5))) ∧ okW (xs (n0 + 1)) (xs (n0 + 2)) then vp_updL ov (0 : Int32).toNatClampNeg (e_it (eW kf vf (xs (n0 + 1)) (xs (n0 + 2))) (lw_J (xs (n0 + 3)) (xs (n0 + 4))) (xs (n0 + 5)).toNatClampNeg) else ov)))), (a2, .inl (cK, 256, .inl kf)), (b2, .inl (cM, 256, .inr (.inl vf))), (m0, .inr (2, [.int (a_c (xs (n0 + 1)) (xs (n0 + 2)) (lw_J (xs (n0 + 3)) (xs (n0 + 4))) (xs (n0 + 5))), .ref a2, .ref b2]))] H := hP
    have hD : va_D A [(h0, .inr (1, [.ref a, .ref b1])), (a, .inl (cI, 256, .inl kf)), (b1, .inl (cJ, 256, .inr (.inl vf))), (o, .inl (cO, 1, .inr (.inl (if (okX (lw_J (xs (n0 + 3)) (xs (n0 + 4))) ∧ okN (xs (n0 + 5))) ∧ okW (xs (n0 + 1)) (xs (n0 + 2)) then vp_updL ov (0 : Int32).toNatClampNeg (e_it (eW kf vf (xs (n0 + 1)) (xs (n0 + 2))) (lw_J (xs (n0 + 3)) (xs (n0 + 4))) (xs (n0 + 5)).toNatClampNeg) else ov)))), (a2, .inl (cK, 256, .inl kf)), (b2, .inl (cM, 256, .inr (.inl vf))), (m0, .inr (2, [.int (a_c (xs (n0 + 1)) (xs (n0 + 2)) (lw_J (xs (n0 + 3)) (xs (n0 + 4))) (xs (n0 + 5))), .ref a2, .ref b2]))] := hD
    have hK : va_K (dC, dI) vwCl [(cI, .int), (cJ, .long), (cO, .long), (cK, .int), (cM, .long)] s := hK
    refine lv_iload hx hb dL_law_544 (lv_at hl 1 rfl) ?_
    refine lv_icmp_eq (tgt := 551) hx hb dL_law_546 (by decide) (fun c_7 => ?_) (fun c_7 => ?_)
    · refine lv_iload hx hb dL_law_551 (lv_at hl 1 rfl) ?_
      refine lv_if_ne (tgt := 567) hx hb dL_law_553 (by decide) (fun c_8 => ?_) (fun c_8 => ?_)
      · refine lv_goto (tgt := 879) hx hb dL_law_567 (by decide) ?_
        refine W.widen (k := cells + 5) (n := slots + 30) (by omega) (by omega) ?_
        exact K kf vf (if (okX (lw_J (xs (n0 + 3)) (xs (n0 + 4))) ∧ okN (xs (n0 + 5))) ∧ okW (xs (n0 + 1)) (xs (n0 + 2)) then vp_updL ov (0 : Int32).toNatClampNeg (e_it (eW kf vf (xs (n0 + 1)) (xs (n0 + 2))) (lw_J (xs (n0 + 3)) (xs (n0 + 4))) (xs (n0 + 5)).toNatClampNeg) else ov) (a_c (xs (n0 + 1)) (xs (n0 + 2)) (lw_J (xs (n0 + 3)) (xs (n0 + 4))) (xs (n0 + 5))) _ _ ls hR (hP.sub [0, 1, 2, 6, 4, 5, 3] rfl) (hD.sub [0, 1, 2, 6, 4, 5, 3] (by decide) rfl) hS (lv_sub hl [2, 3, 4, 5, 6] rfl)
      · refine lv_aload_n hx hb dL_law_556 rfl (lv_at hl 5 rfl) ?_
        refine lv_iconst (v := 0) hx hb dL_law_557 (by decide) ?_
        refine va_lald hx hb hK hP 3 2 rfl rfl in_01 dL_law_558 ?_
        refine lv_lload hx hb dL_law_559 (lv_at hl 0 rfl) ?_
        refine W.lcmp hx hb dL_law_561 ?_
        refine lv_if_eq (tgt := 567) hx hb dL_law_562 (by decide) (fun c_9 => ?_) (fun c_9 => ?_)
        · simp only [lq_eq] at c_9
          refine lv_goto (tgt := 879) hx hb dL_law_567 (by decide) ?_
          refine W.widen (k := cells + 5) (n := slots + 30) (by omega) (by omega) ?_
          exact K kf vf (if (okX (lw_J (xs (n0 + 3)) (xs (n0 + 4))) ∧ okN (xs (n0 + 5))) ∧ okW (xs (n0 + 1)) (xs (n0 + 2)) then vp_updL ov (0 : Int32).toNatClampNeg (e_it (eW kf vf (xs (n0 + 1)) (xs (n0 + 2))) (lw_J (xs (n0 + 3)) (xs (n0 + 4))) (xs (n0 + 5)).toNatClampNeg) else ov) (a_c (xs (n0 + 1)) (xs (n0 + 2)) (lw_J (xs (n0 + 3)) (xs (n0 + 4))) (xs (n0 + 5))) _ _ ls hR (hP.sub [0, 1, 2, 6, 4, 5, 3] rfl) (hD.sub [0, 1, 2, 6, 4, 5, 3] (by decide) rfl) hS (lv_sub hl [2, 3, 4, 5, 6] rfl)
        · simp only [lq_eq] at c_9
          exact absurd (by rw [h_4]; exact k_again hR (by rw [← h_2]; exact c_8)) c_9
    · exact absurd (by rw [h_6, h_2]) c_7
