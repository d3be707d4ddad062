set_option maxHeartbeats 4000000 in
set_option maxRecDepth 100000 in
theorem law_fixed {p : Program} {l : Launch} {e : Env} {s : State} {m : MethodId} {below : List Frame} {meth : Method} {c : Code} {b L : Nat} {xs : Nat → Int32} {A : Nat → Prop} {dC : Nat → ClassId} {dI : Nat → Nat → Nat} {h0 a b1 m0 a2 b2 o : Nat} {cI cJ cK cM cO : ClassId} (C0 : lw_C p l s m c b L xs A) (hK : va_K (dC, dI) vwCl [(cI, .int), (cJ, .long), (cK, .int), (cM, .long), (cO, .long)] s) {n0 : Nat} (hn : n0 + 5 < L) {cells slots : Nat} (hrc : cells + 5 ≤ room_1.cells) (hrs : slots + 30 ≤ room_1.slots) {kf : Nat → Int32} {vf ov : Nat → Int64} {er : Int32} (hR : okA kf vf) {H : Heap} {locs : List Loc} {ls : Array Slot} (hP : va_P (dC, dI) vwCl [(h0, .inr (1, [.ref a, .ref b1])), (a, .inl (cI, 256, .inl kf)), (b1, .inl (cJ, 256, .inr (.inl vf))), (m0, .inr (2, [.int er, .ref a2, .ref b2])), (a2, .inl (cK, 256, .inl kf)), (b2, .inl (cM, 256, .inr (.inl vf))), (o, .inl (cO, 1, .inr (.inl ov)))] H) (hD : va_D A [(h0, .inr (1, [.ref a, .ref b1])), (a, .inl (cI, 256, .inl kf)), (b1, .inl (cJ, 256, .inr (.inl vf))), (m0, .inr (2, [.int er, .ref a2, .ref b2])), (a2, .inl (cK, 256, .inl kf)), (b2, .inl (cM, 256, .inr (.inl vf))), (o, .inl (cO, 1, .inr (.inl ov)))]) (hS : va_S A s.heap H locs) (hl : lv_has ls 8 [(0, .ref b), (1, .ref h0), (2, .ref m0), (3, .ref o), (4, .int (nI n0))]) (K : ∀ (kf : Nat → Int32) (vf ov : Nat → Int64) (er : Int32) (H : Heap) (locs : List Loc) (ls : Array Slot), okA kf vf → va_P (dC, dI) vwCl [(h0, .inr (1, [.ref a, .ref b1])), (a, .inl (cI, 256, .inl kf)), (b1, .inl (cJ, 256, .inr (.inl vf))), (m0, .inr (2, [.int er, .ref a2, .ref b2])), (a2, .inl (cK, 256, .inl kf)), (b2, .inl (cM, 256, .inr (.inl vf))), (o, .inl (cO, 1, .inr (.inl ov)))] H → va_D A [(h0, .inr (1, [.ref a, .ref b1])), (a, .inl (cI, 256, .inl kf)), (b1, .inl (cJ, 256, .inr (.inl vf))), (m0, .inr (2, [.int er, .ref a2, .ref b2])), (a2, .inl (cK, 256, .inl kf)), (b2, .inl (cM, 256, .inr (.inl vf))), (o, .inl (cO, 1, .inr (.inl ov)))] → va_S A s.heap H locs → lv_has ls 8 [(0, .ref b), (1, .ref h0), (2, .ref m0), (3, .ref o), (4, .int (nI n0))] → W p l e room_1 s m #[Value.ref b] below meth c H locs (cells + 5) (slots + 30) (lw_Z below #[Value.ref b] s) (F0 m 879 ls [])) : W p l e room_1 s m #[Value.ref b] below meth c H locs cells slots (lw_Z below #[Value.ref b] s) (F0 m 704 ls []) := by
  obtain ⟨hx, hb, hml, hown, hts, hX, hbl, hbA, hA, hlt, hE, hZ, hL⟩ := C0
  refine lv_aload_n hx hb dL_law_704 rfl (lv_at hl 1 rfl) ?_
  refine lv_aload_n hx hb dL_law_705 rfl (lv_at hl 0 rfl) ?_
  refine lv_iload hx hb dL_law_706 (lv_at hl 4 rfl) ?_
  refine lv_iconst (v := 1) hx hb dL_law_708 (by decide) ?_
  refine lv_iadd hx hb dL_law_709 ?_
  refine lw_sld (c9 := 1) hx hb hX hbl hbA hS rfl (by omega) hL dL_law_710 ?_
  refine lv_aload_n hx hb dL_law_711 rfl (lv_at hl 0 rfl) ?_
  refine lv_iload hx hb dL_law_712 (lv_at hl 4 rfl) ?_
  refine lv_iconst (v := 2) hx hb dL_law_714 (by decide) ?_
  refine lv_iadd hx hb dL_law_715 ?_
  refine lw_sld (c9 := 2) hx hb hX hbl hbA hS rfl (by omega) hL dL_law_716 ?_
  refine lv_aload_n hx hb dL_law_717 rfl (lv_at hl 0 rfl) ?_
  refine lv_iload hx hb dL_law_718 (lv_at hl 4 rfl) ?_
  refine lv_iconst (v := 3) hx hb dL_law_720 (by decide) ?_
  refine lv_iadd hx hb dL_law_721 ?_
  refine lw_sld (c9 := 3) hx hb hX hbl hbA hS rfl (by omega) hL dL_law_722 ?_
  refine lv_if_eq (tgt := 730) hx hb dL_law_723 (by decide) (fun c_1 => ?_) (fun c_1 => ?_)
  · refine lv_iconst (v := 0) hx hb dL_law_730 (by decide) ?_
    refine lv_aload_n hx hb dL_law_731 rfl (lv_at hl 3 rfl) ?_
    have hPc := hP.sub (ws' := [(h0, .inr (1, [.ref a, .ref b1])), (a, .inl (cI, 256, .inl kf)), (b1, .inl (cJ, 256, .inr (.inl vf))), (o, .inl (cO, 1, .inr (.inl ov)))]) [0, 1, 2, 6] rfl
    have hDc := hD.sub (ws' := [(h0, .inr (1, [.ref a, .ref b1])), (a, .inl (cI, 256, .inl kf)), (b1, .inl (cJ, 256, .inr (.inl vf))), (o, .inl (cO, 1, .inr (.inl ov)))]) [0, 1, 2, 6] (by decide) rfl
    have hKc := hK.sub (tys' := [(cI, .int), (cJ, .long), (cO, .long)]) [0, 1, 4] rfl
    have hFc := va_free (wc := [(h0, .inr (1, [.ref a, .ref b1])), (a, .inl (cI, 256, .inl kf)), (b1, .inl (cJ, 256, .inr (.inl vf))), (o, .inl (cO, 1, .inr (.inl ov)))]) hD hS hA [0, 1, 2, 6] rfl
    refine vx_calli (vx_runSX (As := [.ref h0, .int (xs (n0 + 1)), .int (xs (n0 + 2)), .int 0, .ref o]) (rest := []) ⟨hx, hb, hml, hown, hts⟩ (qL_fixed l hlt dC dI H.size h0 a b1 cI cJ kf vf o cO ov (xs (n0 + 1)) (xs (n0 + 2)) (0) (Or.inl rfl)) (vx_cwSW 5 hts gL_law_L_fixed rfl rfl rfl (by decide +kernel) ⟨Nat.le_of_ble_eq_true rfl, Nat.le_of_ble_eq_true rfl⟩) ⟨fun a U g mk q => by obtain ⟨q0, q1, qP, qK, qD, qE, qZ⟩ := q; exact ⟨q0, q1, qP, va_K.moved (u := U) (U := U.calling g mk a) (Vm.Alike.refl U.vm) qK, qD, ev.same (u := U) rfl qE, ez.moved (U := U.calling g mk a) qZ (Vm.Alike.refl U.vm)⟩, fun U hU hW => ⟨rfl, by rw [hU], by rw [hU]; exact hPc, va_K.moved hW.alike hKc, hDc.weaken (fun _ _ _ _ => trivial), hE.warm hW, by rw [hU]; exact ((hZ.kept hS.2.1).narrow hFc).moved hW.alike⟩⟩ rfl rfl hl.1 rfl (lv_room (Nat.le_of_ble_eq_true rfl)) dL_law_732 ⟨Nat.le_trans (by omega) hrc, Nat.le_trans (by omega) hrs⟩) hS (fun q _ h => hFc q h) hFc (fun q _ h => hFc q h) (fun E ce q9 u t9 H1 locs ht hvm hw hB hz1 hk1 hS hce hcv hcl => ?_) (fun r_2 u t9 H1 locs ht hvm hw hB hz1 hk1 hS => ?_)
    · exact hB.1.elim
    · obtain ⟨hP1, hK1, hD1⟩ := hB
      rw [ht] at hP1
      obtain ⟨h_3, rfl⟩ := hw
      have hK1 := va_K.moved hvm.symm hK1
      obtain ⟨hP, hD⟩ := va_join (wr := [(m0, .inr (2, [.int er, .ref a2, .ref b2])), (a2, .inl (cK, 256, .inl kf)), (b2, .inl (cM, 256, .inr (.inl vf)))]) (w1 := [(h0, .inr (1, [.ref a, .ref b1])), (a, .inl (cI, 256, .inl kf)), (b1, .inl (cJ, 256, .inr (.inl vf))), (o, .inl (cO, 1, .inr (.inl (if okW (xs (n0 + 1)) (xs (n0 + 2)) ∧ ¬ e_fo (eW kf vf (xs (n0 + 1)) (xs (n0 + 2))) 0 = 0 then vp_updL ov (0 : Int32).toNatClampNeg (e_fv (eW kf vf (xs (n0 + 1)) (xs (n0 + 2))) 0) else ov))))]) hP hD [0, 1, 2, 6] [3, 4, 5] rfl rfl (by decide) (by decide) hk1 hFc hP1 hD1
      have hK := (hK.sub (tys' := [(cK, .int), (cM, .long)]) [2, 3] rfl).app hK1
      generalize H1 = H at hP hS ⊢
      have hP : va_P (dC, dI) vwCl [(m0, .inr (2, [.int er, .ref a2, .ref b2])), (a2, .inl (cK, 256, .inl kf)), (b2, .inl (cM, 256, .inr (.inl vf))), (h0, .inr (1, [.ref a, .ref b1])), (a, .inl (cI, 256, .inl kf)), (b1, .inl (cJ, 256, .inr (.inl vf))), (o, .inl (cO, 1, .inr (.inl (if okW (xs (n0 + 1)) (xs (n0 + 2)) ∧ ¬ e_fo (eW kf vf (xs (n0 + 1)) (xs (n0 + 2))) 0 = 0 then vp_updL ov (0 : Int32).toNatClampNeg (e_fv (eW kf vf (xs (n0 + 1)) (xs (n0 + 2))) 0) else ov))))] H := hP
      have hD : va_D A [(m0, .inr (2, [.int er, .ref a2, .ref b2])), (a2, .inl (cK, 256, .inl kf)), (b2, .inl (cM, 256, .inr (.inl vf))), (h0, .inr (1, [.ref a, .ref b1])), (a, .inl (cI, 256, .inl kf)), (b1, .inl (cJ, 256, .inr (.inl vf))), (o, .inl (cO, 1, .inr (.inl (if okW (xs (n0 + 1)) (xs (n0 + 2)) ∧ ¬ e_fo (eW kf vf (xs (n0 + 1)) (xs (n0 + 2))) 0 = 0 then vp_updL ov (0 : Int32).toNatClampNeg (e_fv (eW kf vf (xs (n0 + 1)) (xs (n0 + 2))) 0) else ov))))] := hD
      have hK : va_K (dC, dI) vwCl [(cK, .int), (cM, .long), (cI, .int), (cJ, .long), (cO, .long)] s := hK
      refine lv_istore (lv' := [(5, .int r_2), (0, .ref b), (1, .ref h0), (2, .ref m0), (3, .ref o), (4, .int (nI n0))]) hx hb dL_law_735 hl (by decide) rfl (fun ls hl => ?_)
      refine lv_aload_n hx hb dL_law_737 rfl (lv_at hl 3 rfl) ?_
      refine lv_aload_n hx hb dL_law_738 rfl (lv_at hl 1 rfl) ?_
      refine lv_iload hx hb dL_law_739 (lv_at hl 5 rfl) ?_
      refine lv_iconst (v := 1) hx hb dL_law_741 (by decide) ?_
      refine lv_iadd hx hb dL_law_742 ?_
      refine lw_sld (c9 := 1) hx hb hX hbl hbA hS rfl (by omega) hL dL_law_743 ?_
      refine lv_aload_n hx hb dL_law_744 rfl (lv_at hl 1 rfl) ?_
      refine lv_iload hx hb dL_law_745 (lv_at hl 5 rfl) ?_
      refine lv_iconst (v := 2) hx hb dL_law_747 (by decide) ?_
      refine lv_iadd hx hb dL_law_748 ?_
      refine lw_sld (c9 := 2) hx hb hX hbl hbA hS rfl (by omega) hL dL_law_749 ?_
      refine lv_aload_n hx hb dL_law_750 rfl (lv_at hl 1 rfl) ?_
      refine lv_iload hx hb dL_law_751 (lv_at hl 5 rfl) ?_
      refine lv_iconst (v := 3) hx hb dL_law_753 (by decide) ?_
      refine lv_iadd hx hb dL_law_754 ?_
      refine lw_sld (c9 := 3) hx hb hX hbl hbA hS rfl (by omega) hL dL_law_755 ?_
      refine lv_if_eq (tgt := 763) hx hb dL_law_756 (by decide) (fun c_4 => ?_) (fun c_4 => ?_)
      · refine lv_iconst (v := 0) hx hb dL_law_763 (by decide) ?_
        have hPc := hP.sub (ws' := [(m0, .inr (2, [.int er, .ref a2, .ref b2])), (a2, .inl (cK, 256, .inl kf)), (b2, .inl (cM, 256, .inr (.inl vf)))]) [0, 1, 2] rfl
        have hDc := hD.sub (ws' := [(m0, .inr (2, [.int er, .ref a2, .ref b2])), (a2, .inl (cK, 256, .inl kf)), (b2, .inl (cM, 256, .inr (.inl vf)))]) [0, 1, 2] (by decide) rfl
        have hKc := hK.sub (tys' := [(cK, .int), (cM, .long)]) [0, 1] rfl
        have hFc := va_free (wc := [(m0, .inr (2, [.int er, .ref a2, .ref b2])), (a2, .inl (cK, 256, .inl kf)), (b2, .inl (cM, 256, .inr (.inl vf)))]) hD hS hA [0, 1, 2] rfl
        refine va_calll (va_runV (As := [.int (xs (n0 + 1)), .int (xs (n0 + 2)), .int 0]) (rest := []) ⟨hx, hb, hml, hown, hts⟩ (qX2_fixed l dC dI H.size m0 a2 b2 cK cM er kf vf (xs (n0 + 1)) (xs (n0 + 2)) (0)) (cwV 3 hts gL_law_X2_fixed rfl rfl rfl (by decide +kernel) ⟨Nat.le_of_ble_eq_true rfl, Nat.le_of_ble_eq_true rfl⟩) ⟨fun a U g mk q => by obtain ⟨q0, q1, qP, qK, qD⟩ := q; exact ⟨q0, q1, qP, va_K.moved (u := U) (U := U.calling g mk a) (Vm.Alike.refl U.vm) qK, qD⟩, va_recv hKc hPc (ci := 2) (q0 := 0) rfl rfl, fun U hU hW => ⟨rfl, by rw [hU], by rw [hU]; exact hPc, va_K.moved hW.alike hKc, hDc.weaken (fun _ _ _ _ => trivial)⟩⟩ rfl rfl hl.1 rfl (lv_room (Nat.le_of_ble_eq_true rfl)) dL_law_764 ⟨Nat.le_trans (by omega) hrc, Nat.le_trans (by omega) hrs⟩) hS (fun q _ h => hFc q h) hFc (fun r_5 u t9 H1 locs ht hvm hw hB hz1 hk1 hS => ?_)
        obtain ⟨hP1, hK1, hD1⟩ := hB
        rw [ht] at hP1
        obtain ⟨h_6, rfl⟩ := hw
        have hK1 := va_K.moved hvm.symm hK1
        obtain ⟨hP, hD⟩ := va_join (wr := [(h0, .inr (1, [.ref a, .ref b1])), (a, .inl (cI, 256, .inl kf)), (b1, .inl (cJ, 256, .inr (.inl vf))), (o, .inl (cO, 1, .inr (.inl (if okW (xs (n0 + 1)) (xs (n0 + 2)) ∧ ¬ e_fo (eW kf vf (xs (n0 + 1)) (xs (n0 + 2))) 0 = 0 then vp_updL ov (0 : Int32).toNatClampNeg (e_fv (eW kf vf (xs (n0 + 1)) (xs (n0 + 2))) 0) else ov))))]) (w1 := [(m0, .inr (2, [.int (x_c kf vf (xs (n0 + 1)) (xs (n0 + 2)) (x_f 0)), .ref a2, .ref b2])), (a2, .inl (cK, 256, .inl kf)), (b2, .inl (cM, 256, .inr (.inl vf)))]) hP hD [0, 1, 2] [3, 4, 5, 6] rfl rfl (by decide) (by decide) hk1 hFc hP1 hD1
        have hK := (hK.sub (tys' := [(cI, .int), (cJ, .long), (cO, .long)]) [2, 3, 4] rfl).app hK1
        generalize H1 = H at hP hS ⊢
        have hP : va_P (dC, dI) vwCl [(h0, .inr (1, [.ref a, .ref b1])), (a, .inl (cI, 256, .inl kf)), (b1, .inl (cJ, 256, .inr (.inl vf))), (o, .inl (cO, 1, .inr (.inl (if okW (xs (n0 + 1)) (xs (n0 + 2)) ∧ ¬ e_fo (eW kf vf (xs (n0 + 1)) (xs (n0 + 2))) 0 = 0 then vp_updL ov (0 : Int32).toNatClampNeg (e_fv (eW kf vf (xs (n0 + 1)) (xs (n0 + 2))) 0) else ov)))), (m0, .inr (2, [.int (x_c kf vf (xs (n0 + 1)) (xs (n0 + 2)) (x_f 0)), .ref a2, .ref b2])), (a2, .inl (cK, 256, .inl kf)), (b2, .inl (cM, 256, .inr (.inl vf)))] H := hP
        have hD : va_D A [(h0, .inr (1, [.ref a, .ref b1])), (a, .inl (cI, 256, .inl kf)), (b1, .inl (cJ, 256, .inr (.inl vf))), (o, .inl (cO, 1, .inr (.inl (if okW (xs (n0 + 1)) (xs (n0 + 2)) ∧ ¬ e_fo (eW kf vf (xs (n0 + 1)) (xs (n0 + 2))) 0 = 0 then vp_updL ov (0 : Int32).toNatClampNeg (e_fv (eW kf vf (xs (n0 + 1)) (xs (n0 + 2))) 0) else ov)))), (m0, .inr (2, [.int (x_c kf vf (xs (n0 + 1)) (xs (n0 + 2)) (x_f 0)), .ref a2, .ref b2])), (a2, .inl (cK, 256, .inl kf)), (b2, .inl (cM, 256, .inr (.inl vf)))] := hD
        have hK : va_K (dC, dI) vwCl [(cI, .int), (cJ, .long), (cO, .long), (cK, .int), (cM, .long)] s := hK
        refine lv_lstore (lv' := [(6, .long r_5), (5, .int r_2), (0, .ref b), (1, .ref h0), (2, .ref m0), (3, .ref o), (4, .int (nI n0))]) hx hb dL_law_767 hl (by decide) rfl (fun ls hl => ?_)
        refine lv_aload_n hx hb dL_law_769 rfl (lv_at hl 4 rfl) ?_
        have hPc := hP.sub (ws' := [(m0, .inr (2, [.int (x_c kf vf (xs (n0 + 1)) (xs (n0 + 2)) (x_f 0)), .ref a2, .ref b2]))]) [4] rfl
        have hDc := hD.sub (ws' := [(m0, .inr (2, [.int (x_c kf vf (xs (n0 + 1)) (xs (n0 + 2)) (x_f 0)), .ref a2, .ref b2]))]) [4] (by decide) rfl
        have hKc := hK.sub (tys' := []) [] rfl
        have hFc := va_free (wc := [(m0, .inr (2, [.int (x_c kf vf (xs (n0 + 1)) (xs (n0 + 2)) (x_f 0)), .ref a2, .ref b2]))]) hD hS hA [4] rfl
        refine va_calli (va_runV (As := []) (rest := []) ⟨hx, hb, hml, hown, hts⟩ (qX2_thrown l dC dI H.size m0 a2 b2 (x_c kf vf (xs (n0 + 1)) (xs (n0 + 2)) (x_f 0))) (cwV 0 hts gL_law_X2_thrown rfl rfl rfl (by decide +kernel) ⟨Nat.le_of_ble_eq_true rfl, Nat.le_of_ble_eq_true rfl⟩) ⟨fun a U g mk q => by obtain ⟨q0, q1, qP, qK, qD⟩ := q; exact ⟨q0, q1, qP, va_K.moved (u := U) (U := U.calling g mk a) (Vm.Alike.refl U.vm) qK, qD⟩, va_recv hKc hPc (ci := 2) (q0 := 0) rfl rfl, fun U hU hW => ⟨rfl, by rw [hU], by rw [hU]; exact hPc, va_K.moved hW.alike hKc, hDc.weaken (fun _ _ _ _ => trivial)⟩⟩ rfl rfl hl.1 rfl (lv_room (Nat.le_of_ble_eq_true rfl)) dL_law_770 ⟨Nat.le_trans (by omega) hrc, Nat.le_trans (by omega) hrs⟩) hS (fun q _ h => hFc q h) hFc (fun r_7 u t9 H1 locs ht hvm hw hB hz1 hk1 hS => ?_)
        obtain ⟨hP1, hK1, hD1⟩ := hB
        rw [ht] at hP1
        have h_8 := hw
        have hK1 := va_K.moved hvm.symm hK1
        obtain ⟨hP, hD⟩ := va_join (wr := [(h0, .inr (1, [.ref a, .ref b1])), (a, .inl (cI, 256, .inl kf)), (b1, .inl (cJ, 256, .inr (.inl vf))), (o, .inl (cO, 1, .inr (.inl (if okW (xs (n0 + 1)) (xs (n0 + 2)) ∧ ¬ e_fo (eW kf vf (xs (n0 + 1)) (xs (n0 + 2))) 0 = 0 then vp_updL ov (0 : Int32).toNatClampNeg (e_fv (eW kf vf (xs (n0 + 1)) (xs (n0 + 2))) 0) else ov)))), (a2, .inl (cK, 256, .inl kf)), (b2, .inl (cM, 256, .inr (.inl vf)))]) (w1 := [(m0, .inr (2, [.int (x_c kf vf (xs (n0 + 1)) (xs (n0 + 2)) (x_f 0)), .ref a2, .ref b2]))]) hP hD [4] [0, 1, 2, 3, 5, 6] rfl rfl (by decide) (by decide) hk1 hFc hP1 hD1
        have hK := (hK.sub (tys' := [(cI, .int), (cJ, .long), (cO, .long), (cK, .int), (cM, .long)]) [0, 1, 2, 3, 4] rfl).app hK1
        generalize H1 = H at hP hS ⊢
        have hP : va_P (dC, dI) vwCl [(h0, .inr (1, [.ref a, .ref b1])), (a, .inl (cI, 256, .inl kf)), (b1, .inl (cJ, 256, .inr (.inl vf))), (o, .inl (cO, 1, .inr (.inl (if okW (xs (n0 + 1)) (xs (n0 + 2)) ∧ ¬ e_fo (eW kf vf (xs (n0 + 1)) (xs (n0 + 2))) 0 = 0 then vp_updL ov (0 : Int32).toNatClampNeg (e_fv (eW kf vf (xs (n0 + 1)) (xs (n0 + 2))) 0) else ov)))), (a2, .inl (cK, 256, .inl kf)), (b2, .inl (cM, 256, .inr (.inl vf))), (m0, .inr (2, [.int (x_c kf vf (xs (n0 + 1)) (xs (n0 + 2)) (x_f 0)), .ref a2, .ref b2]))] H := hP
        have hD : va_D A [(h0, .inr (1, [.ref a, .ref b1])), (a, .inl (cI, 256, .inl kf)), (b1, .inl (cJ, 256, .inr (.inl vf))), (o, .inl (cO, 1, .inr (.inl (if okW (xs (n0 + 1)) (xs (n0 + 2)) ∧ ¬ e_fo (eW kf vf (xs (n0 + 1)) (xs (n0 + 2))) 0 = 0 then vp_updL ov (0 : Int32).toNatClampNeg (e_fv (eW kf vf (xs (n0 + 1)) (xs (n0 + 2))) 0) else ov)))), (a2, .inl (cK, 256, .inl kf)), (b2, .inl (cM, 256, .inr (.inl vf))), (m0, .inr (2, [.int (x_c kf vf (xs (n0 + 1)) (xs (n0 + 2)) (x_f 0)), .ref a2, .ref b2]))] := hD
        have hK : va_K (dC, dI) vwCl [(cI, .int), (cJ, .long), (cO, .long), (cK, .int), (cM, .long)] s := hK
        refine lv_iload hx hb dL_law_773 (lv_at hl 1 rfl) ?_
        refine lv_icmp_eq (tgt := 780) hx hb dL_law_775 (by decide) (fun c_9 => ?_) (fun c_9 => ?_)
        · refine lv_iload hx hb dL_law_780 (lv_at hl 1 rfl) ?_
          refine lv_if_ne (tgt := 796) hx hb dL_law_782 (by decide) (fun c_10 => ?_) (fun c_10 => ?_)
          · refine lv_goto (tgt := 879) hx hb dL_law_796 (by decide) ?_
            refine W.widen (k := cells + 5) (n := slots + 30) (by omega) (by omega) ?_
            exact K kf vf (if okW (xs (n0 + 1)) (xs (n0 + 2)) ∧ ¬ e_fo (eW kf vf (xs (n0 + 1)) (xs (n0 + 2))) 0 = 0 then vp_updL ov (0 : Int32).toNatClampNeg (e_fv (eW kf vf (xs (n0 + 1)) (xs (n0 + 2))) 0) else ov) (x_c kf vf (xs (n0 + 1)) (xs (n0 + 2)) (x_f 0)) _ _ ls hR (hP.sub [0, 1, 2, 6, 4, 5, 3] rfl) (hD.sub [0, 1, 2, 6, 4, 5, 3] (by decide) rfl) hS (lv_sub hl [2, 3, 4, 5, 6] rfl)
          · refine lv_aload_n hx hb dL_law_785 rfl (lv_at hl 5 rfl) ?_
            refine lv_iconst (v := 0) hx hb dL_law_786 (by decide) ?_
            refine va_lald hx hb hK hP 3 2 rfl rfl in_01 dL_law_787 ?_
            refine lv_lload hx hb dL_law_788 (lv_at hl 0 rfl) ?_
            refine W.lcmp hx hb dL_law_790 ?_
            refine lv_if_eq (tgt := 796) hx hb dL_law_791 (by decide) (fun c_11 => ?_) (fun c_11 => ?_)
            · simp only [lq_eq] at c_11
              refine lv_goto (tgt := 879) hx hb dL_law_796 (by decide) ?_
              refine W.widen (k := cells + 5) (n := slots + 30) (by omega) (by omega) ?_
              exact K kf vf (if okW (xs (n0 + 1)) (xs (n0 + 2)) ∧ ¬ e_fo (eW kf vf (xs (n0 + 1)) (xs (n0 + 2))) 0 = 0 then vp_updL ov (0 : Int32).toNatClampNeg (e_fv (eW kf vf (xs (n0 + 1)) (xs (n0 + 2))) 0) else ov) (x_c kf vf (xs (n0 + 1)) (xs (n0 + 2)) (x_f 0)) _ _ ls hR (hP.sub [0, 1, 2, 6, 4, 5, 3] rfl) (hD.sub [0, 1, 2, 6, 4, 5, 3] (by decide) rfl) hS (lv_sub hl [2, 3, 4, 5, 6] rfl)
            · simp only [lq_eq] at c_11
              exact absurd (by rw [h_6]; exact k_fixed hR (Or.inl rfl) (by rw [← h_3]; exact c_10)) c_11
        · exact absurd (by rw [h_8, h_3]; exact ((j_fixed hR _ _ _ (Or.inl rfl)).1).symm) c_9
      · exact absurd c_1 c_4
  · refine lv_iconst (v := 1) hx hb dL_law_726 (by decide) ?_
    refine lv_goto (tgt := 731) hx hb dL_law_727 (by decide) ?_
    refine lv_aload_n hx hb dL_law_731 rfl (lv_at hl 3 rfl) ?_
    have hPc := hP.sub (ws' := [(h0, .inr (1, [.ref a, .ref b1])), (a, .inl (cI, 256, .inl kf)), (b1, .inl (cJ, 256, .inr (.inl vf))), (o, .inl (cO, 1, .inr (.inl ov)))]) [0, 1, 2, 6] rfl
    have hDc := hD.sub (ws' := [(h0, .inr (1, [.ref a, .ref b1])), (a, .inl (cI, 256, .inl kf)), (b1, .inl (cJ, 256, .inr (.inl vf))), (o, .inl (cO, 1, .inr (.inl ov)))]) [0, 1, 2, 6] (by decide) rfl
    have hKc := hK.sub (tys' := [(cI, .int), (cJ, .long), (cO, .long)]) [0, 1, 4] rfl
    have hFc := va_free (wc := [(h0, .inr (1, [.ref a, .ref b1])), (a, .inl (cI, 256, .inl kf)), (b1, .inl (cJ, 256, .inr (.inl vf))), (o, .inl (cO, 1, .inr (.inl ov)))]) hD hS hA [0, 1, 2, 6] rfl
    refine vx_calli (vx_runSX (As := [.ref h0, .int (xs (n0 + 1)), .int (xs (n0 + 2)), .int 1, .ref o]) (rest := []) ⟨hx, hb, hml, hown, hts⟩ (qL_fixed l hlt dC dI H.size h0 a b1 cI cJ kf vf o cO ov (xs (n0 + 1)) (xs (n0 + 2)) (1) (Or.inr rfl)) (vx_cwSW 5 hts gL_law_L_fixed rfl rfl rfl (by decide +kernel) ⟨Nat.le_of_ble_eq_true rfl, Nat.le_of_ble_eq_true rfl⟩) ⟨fun a U g mk q => by obtain ⟨q0, q1, qP, qK, qD, qE, qZ⟩ := q; exact ⟨q0, q1, qP, va_K.moved (u := U) (U := U.calling g mk a) (Vm.Alike.refl U.vm) qK, qD, ev.same (u := U) rfl qE, ez.moved (U := U.calling g mk a) qZ (Vm.Alike.refl U.vm)⟩, fun U hU hW => ⟨rfl, by rw [hU], by rw [hU]; exact hPc, va_K.moved hW.alike hKc, hDc.weaken (fun _ _ _ _ => trivial), hE.warm hW, by rw [hU]; exact ((hZ.kept hS.2.1).narrow hFc).moved hW.alike⟩⟩ rfl rfl hl.1 rfl (lv_room (Nat.le_of_ble_eq_true rfl)) dL_law_732 ⟨Nat.le_trans (by omega) hrc, Nat.le_trans (by omega) hrs⟩) hS (fun q _ h => hFc q h) hFc (fun q _ h => hFc q h) (fun E ce q9 u t9 H1 locs ht hvm hw hB hz1 hk1 hS hce hcv hcl => ?_) (fun r_12 u t9 H1 locs ht hvm hw hB hz1 hk1 hS => ?_)
    · exact hB.1.elim
    · obtain ⟨hP1, hK1, hD1⟩ := hB
      rw [ht] at hP1
      obtain ⟨h_13, rfl⟩ := hw
      have hK1 := va_K.moved hvm.symm hK1
      obtain ⟨hP, hD⟩ := va_join (wr := [(m0, .inr (2, [.int er, .ref a2, .ref b2])), (a2, .inl (cK, 256, .inl kf)), (b2, .inl (cM, 256, .inr (.inl vf)))]) (w1 := [(h0, .inr (1, [.ref a, .ref b1])), (a, .inl (cI, 256, .inl kf)), (b1, .inl (cJ, 256, .inr (.inl vf))), (o, .inl (cO, 1, .inr (.inl (if okW (xs (n0 + 1)) (xs (n0 + 2)) ∧ ¬ e_fo (eW kf vf (xs (n0 + 1)) (xs (n0 + 2))) 1 = 0 then vp_updL ov (0 : Int32).toNatClampNeg (e_fv (eW kf vf (xs (n0 + 1)) (xs (n0 + 2))) 1) else ov))))]) hP hD [0, 1, 2, 6] [3, 4, 5] rfl rfl (by decide) (by decide) hk1 hFc hP1 hD1
      have hK := (hK.sub (tys' := [(cK, .int), (cM, .long)]) [2, 3] rfl).app hK1
      generalize H1 = H at hP hS ⊢
      have hP : va_P (dC, dI) vwCl [(m0, .inr (2, [.int er, .ref a2, .ref b2])), (a2, .inl (cK, 256, .inl kf)), (b2, .inl (cM, 256, .inr (.inl vf))), (h0, .inr (1, [.ref a, .ref b1])), (a, .inl (cI, 256, .inl kf)), (b1, .inl (cJ, 256, .inr (.inl vf))), (o, .inl (cO, 1, .inr (.inl (if okW (xs (n0 + 1)) (xs (n0 + 2)) ∧ ¬ e_fo (eW kf vf (xs (n0 + 1)) (xs (n0 + 2))) 1 = 0 then vp_updL ov (0 : Int32).toNatClampNeg (e_fv (eW kf vf (xs (n0 + 1)) (xs (n0 + 2))) 1) else ov))))] H := hP
      have hD : va_D A [(m0, .inr (2, [.int er, .ref a2, .ref b2])), (a2, .inl (cK, 256, .inl kf)), (b2, .inl (cM, 256, .inr (.inl vf))), (h0, .inr (1, [.ref a, .ref b1])), (a, .inl (cI, 256, .inl kf)), (b1, .inl (cJ, 256, .inr (.inl vf))), (o, .inl (cO, 1, .inr (.inl (if okW (xs (n0 + 1)) (xs (n0 + 2)) ∧ ¬ e_fo (eW kf vf (xs (n0 + 1)) (xs (n0 + 2))) 1 = 0 then vp_updL ov (0 : Int32).toNatClampNeg (e_fv (eW kf vf (xs (n0 + 1)) (xs (n0 + 2))) 1) else ov))))] := hD
      have hK : va_K (dC, dI) vwCl [(cK, .int), (cM, .long), (cI, .int), (cJ, .long), (cO, .long)] s := hK
      refine lv_istore (lv' := [(5, .int r_12), (0, .ref b), (1, .ref h0), (2, .ref m0), (3, .ref o), (4, .int (nI n0))]) hx hb dL_law_735 hl (by decide) rfl (fun ls hl => ?_)
      refine lv_aload_n hx hb dL_law_737 rfl (lv_at hl 3 rfl) ?_
      refine lv_aload_n hx hb dL_law_738 rfl (lv_at hl 1 rfl) ?_
      refine lv_iload hx hb dL_law_739 (lv_at hl 5 rfl) ?_
      refine lv_iconst (v := 1) hx hb dL_law_741 (by decide) ?_
      refine lv_iadd hx hb dL_law_742 ?_
      refine lw_sld (c9 := 1) hx hb hX hbl hbA hS rfl (by omega) hL dL_law_743 ?_
      refine lv_aload_n hx hb dL_law_744 rfl (lv_at hl 1 rfl) ?_
      refine lv_iload hx hb dL_law_745 (lv_at hl 5 rfl) ?_
      refine lv_iconst (v := 2) hx hb dL_law_747 (by decide) ?_
      refine lv_iadd hx hb dL_law_748 ?_
      refine lw_sld (c9 := 2) hx hb hX hbl hbA hS rfl (by omega) hL dL_law_749 ?_
      refine lv_aload_n hx hb dL_law_750 rfl (lv_at hl 1 rfl) ?_
      refine lv_iload hx hb dL_law_751 (lv_at hl 5 rfl) ?_
      refine lv_iconst (v := 3) hx hb dL_law_753 (by decide) ?_
      refine lv_iadd hx hb dL_law_754 ?_
      refine lw_sld (c9 := 3) hx hb hX hbl hbA hS rfl (by omega) hL dL_law_755 ?_
      refine lv_if_eq (tgt := 763) hx hb dL_law_756 (by decide) (fun c_14 => ?_) (fun c_14 => ?_)
      · exact absurd c_14 c_1
      · refine lv_iconst (v := 1) hx hb dL_law_759 (by decide) ?_
        refine lv_goto (tgt := 764) hx hb dL_law_760 (by decide) ?_
        have hPc := hP.sub (ws' := [(m0, .inr (2, [.int er, .ref a2, .ref b2])), (a2, .inl (cK, 256, .inl kf)), (b2, .inl (cM, 256, .inr (.inl vf)))]) [0, 1, 2] rfl
        have hDc := hD.sub (ws' := [(m0, .inr (2, [.int er, .ref a2, .ref b2])), (a2, .inl (cK, 256, .inl kf)), (b2, .inl (cM, 256, .inr (.inl vf)))]) [0, 1, 2] (by decide) rfl
        have hKc := hK.sub (tys' := [(cK, .int), (cM, .long)]) [0, 1] rfl
        have hFc := va_free (wc := [(m0, .inr (2, [.int er, .ref a2, .ref b2])), (a2, .inl (cK, 256, .inl kf)), (b2, .inl (cM, 256, .inr (.inl vf)))]) hD hS hA [0, 1, 2] rfl
        refine va_calll (va_runV (As := [.int (xs (n0 + 1)), .int (xs (n0 + 2)), .int 1]) (rest := []) ⟨hx, hb, hml, hown, hts⟩ (qX2_fixed l dC dI H.size m0 a2 b2 cK cM er kf vf (xs (n0 + 1)) (xs (n0 + 2)) (1)) (cwV 3 hts gL_law_X2_fixed rfl rfl rfl (by decide +kernel) ⟨Nat.le_of_ble_eq_true rfl, Nat.le_of_ble_eq_true rfl⟩) ⟨fun a U g mk q => by obtain ⟨q0, q1, qP, qK, qD⟩ := q; exact ⟨q0, q1, qP, va_K.moved (u := U) (U := U.calling g mk a) (Vm.Alike.refl U.vm) qK, qD⟩, va_recv hKc hPc (ci := 2) (q0 := 0) rfl rfl, fun U hU hW => ⟨rfl, by rw [hU], by rw [hU]; exact hPc, va_K.moved hW.alike hKc, hDc.weaken (fun _ _ _ _ => trivial)⟩⟩ rfl rfl hl.1 rfl (lv_room (Nat.le_of_ble_eq_true rfl)) dL_law_764 ⟨Nat.le_trans (by omega) hrc, Nat.le_trans (by omega) hrs⟩) hS (fun q _ h => hFc q h) hFc (fun r_15 u t9 H1 locs ht hvm hw hB hz1 hk1 hS => ?_)
        obtain ⟨hP1, hK1, hD1⟩ := hB
        rw [ht] at hP1
        obtain ⟨h_16, rfl⟩ := hw
        have hK1 := va_K.moved hvm.symm hK1
        obtain ⟨hP, hD⟩ := va_join (wr := [(h0, .inr (1, [.ref a, .ref b1])), (a, .inl (cI, 256, .inl kf)), (b1, .inl (cJ, 256, .inr (.inl vf))), (o, .inl (cO, 1, .inr (.inl (if okW (xs (n0 + 1)) (xs (n0 + 2)) ∧ ¬ e_fo (eW kf vf (xs (n0 + 1)) (xs (n0 + 2))) 1 = 0 then vp_updL ov (0 : Int32).toNatClampNeg (e_fv (eW kf vf (xs (n0 + 1)) (xs (n0 + 2))) 1) else ov))))]) (w1 := [(m0, .inr (2, [.int (x_c kf vf (xs (n0 + 1)) (xs (n0 + 2)) (x_f 1)), .ref a2, .ref b2])), (a2, .inl (cK, 256, .inl kf)), (b2, .inl (cM, 256, .inr (.inl vf)))]) hP hD [0, 1, 2] [3, 4, 5, 6] rfl rfl (by decide) (by decide) hk1 hFc hP1 hD1
        have hK := (hK.sub (tys' := [(cI, .int), (cJ, .long), (cO, .long)]) [2, 3, 4] rfl).app hK1
        generalize H1 = H at hP hS ⊢
        have hP : va_P (dC, dI) vwCl [(h0, .inr (1, [.ref a, .ref b1])), (a, .inl (cI, 256, .inl kf)), (b1, .inl (cJ, 256, .inr (.inl vf))), (o, .inl (cO, 1, .inr (.inl (if okW (xs (n0 + 1)) (xs (n0 + 2)) ∧ ¬ e_fo (eW kf vf (xs (n0 + 1)) (xs (n0 + 2))) 1 = 0 then vp_updL ov (0 : Int32).toNatClampNeg (e_fv (eW kf vf (xs (n0 + 1)) (xs (n0 + 2))) 1) else ov)))), (m0, .inr (2, [.int (x_c kf vf (xs (n0 + 1)) (xs (n0 + 2)) (x_f 1)), .ref a2, .ref b2])), (a2, .inl (cK, 256, .inl kf)), (b2, .inl (cM, 256, .inr (.inl vf)))] H := hP
        have hD : va_D A [(h0, .inr (1, [.ref a, .ref b1])), (a, .inl (cI, 256, .inl kf)), (b1, .inl (cJ, 256, .inr (.inl vf))), (o, .inl (cO, 1, .inr (.inl (if okW (xs (n0 + 1)) (xs (n0 + 2)) ∧ ¬ e_fo (eW kf vf (xs (n0 + 1)) (xs (n0 + 2))) 1 = 0 then vp_updL ov (0 : Int32).toNatClampNeg (e_fv (eW kf vf (xs (n0 + 1)) (xs (n0 + 2))) 1) else ov)))), (m0, .inr (2, [.int (x_c kf vf (xs (n0 + 1)) (xs (n0 + 2)) (x_f 1)), .ref a2, .ref b2])), (a2, .inl (cK, 256, .inl kf)), (b2, .inl (cM, 256, .inr (.inl vf)))] := hD
        have hK : va_K (dC, dI) vwCl [(cI, .int), (cJ, .long), (cO, .long), (cK, .int), (cM, .long)] s := hK
        refine lv_lstore (lv' := [(6, .long r_15), (5, .int r_12), (0, .ref b), (1, .ref h0), (2, .ref m0), (3, .ref o), (4, .int (nI n0))]) hx hb dL_law_767 hl (by decide) rfl (fun ls hl => ?_)
        refine lv_aload_n hx hb dL_law_769 rfl (lv_at hl 4 rfl) ?_
        have hPc := hP.sub (ws' := [(m0, .inr (2, [.int (x_c kf vf (xs (n0 + 1)) (xs (n0 + 2)) (x_f 1)), .ref a2, .ref b2]))]) [4] rfl
        have hDc := hD.sub (ws' := [(m0, .inr (2, [.int (x_c kf vf (xs (n0 + 1)) (xs (n0 + 2)) (x_f 1)), .ref a2, .ref b2]))]) [4] (by decide) rfl
        have hKc := hK.sub (tys' := []) [] rfl
        have hFc := va_free (wc := [(m0, .inr (2, [.int (x_c kf vf (xs (n0 + 1)) (xs (n0 + 2)) (x_f 1)), .ref a2, .ref b2]))]) hD hS hA [4] rfl
        refine va_calli (va_runV (As := []) (rest := []) ⟨hx, hb, hml, hown, hts⟩ (qX2_thrown l dC dI H.size m0 a2 b2 (x_c kf vf (xs (n0 + 1)) (xs (n0 + 2)) (x_f 1))) (cwV 0 hts gL_law_X2_thrown rfl rfl rfl (by decide +kernel) ⟨Nat.le_of_ble_eq_true rfl, Nat.le_of_ble_eq_true rfl⟩) ⟨fun a U g mk q => by obtain ⟨q0, q1, qP, qK, qD⟩ := q; exact ⟨q0, q1, qP, va_K.moved (u := U) (U := U.calling g mk a) (Vm.Alike.refl U.vm) qK, qD⟩, va_recv hKc hPc (ci := 2) (q0 := 0) rfl rfl, fun U hU hW => ⟨rfl, by rw [hU], by rw [hU]; exact hPc, va_K.moved hW.alike hKc, hDc.weaken (fun _ _ _ _ => trivial)⟩⟩ rfl rfl hl.1 rfl (lv_room (Nat.le_of_ble_eq_true rfl)) dL_law_770 ⟨Nat.le_trans (by omega) hrc, Nat.le_trans (by omega) hrs⟩) hS (fun q _ h => hFc q h) hFc (fun r_17 u t9 H1 locs ht hvm hw hB hz1 hk1 hS => ?_)
        obtain ⟨hP1, hK1, hD1⟩ := hB
        rw [ht] at hP1
        have h_18 := hw
        have hK1 := va_K.moved hvm.symm hK1
        obtain ⟨hP, hD⟩ := va_join (wr := [(h0, .inr (1, [.ref a, .ref b1])), (a, .inl (cI, 256, .inl kf)), (b1, .inl (cJ, 256, .inr (.inl vf))), (o, .inl (cO, 1, .inr (.inl (if okW (xs (n0 + 1)) (xs (n0 + 2)) ∧ ¬ e_fo (eW kf vf (xs (n0 + 1)) (xs (n0 + 2))) 1 = 0 then vp_updL ov (0 : Int32).toNatClampNeg (e_fv (eW kf vf (xs (n0 + 1)) (xs (n0 + 2))) 1) else ov)))), (a2, .inl (cK, 256, .inl kf)), (b2, .inl (cM, 256, .inr (.inl vf)))]) (w1 := [(m0, .inr (2, [.int (x_c kf vf (xs (n0 + 1)) (xs (n0 + 2)) (x_f 1)), .ref a2, .ref b2]))]) hP hD [4] [0, 1, 2, 3, 5, 6] rfl rfl (by decide) (by decide) hk1 hFc hP1 hD1
        have hK := (hK.sub (tys' := [(cI, .int), (cJ, .long), (cO, .long), (cK, .int), (cM, .long)]) [0, 1, 2, 3, 4] rfl).app hK1
        generalize H1 = H at hP hS ⊢
        have hP : va_P (dC, dI) vwCl [(h0, .inr (1, [.ref a, .ref b1])), (a, .inl (cI, 256, .inl kf)), (b1, .inl (cJ, 256, .inr (.inl vf))), (o, .inl (cO, 1, .inr (.inl (if okW (xs (n0 + 1)) (xs (n0 + 2)) ∧ ¬ e_fo (eW kf vf (xs (n0 + 1)) (xs (n0 + 2))) 1 = 0 then vp_updL ov (0 : Int32).toNatClampNeg (e_fv (eW kf vf (xs (n0 + 1)) (xs (n0 + 2))) 1) else ov)))), (a2, .inl (cK, 256, .inl kf)), (b2, .inl (cM, 256, .inr (.inl vf))), (m0, .inr (2, [.int (x_c kf vf (xs (n0 + 1)) (xs (n0 + 2)) (x_f 1)), .ref a2, .ref b2]))] H := hP
        have hD : va_D A [(h0, .inr (1, [.ref a, .ref b1])), (a, .inl (cI, 256, .inl kf)), (b1, .inl (cJ, 256, .inr (.inl vf))), (o, .inl (cO, 1, .inr (.inl (if okW (xs (n0 + 1)) (xs (n0 + 2)) ∧ ¬ e_fo (eW kf vf (xs (n0 + 1)) (xs (n0 + 2))) 1 = 0 then vp_updL ov (0 : Int32).toNatClampNeg (e_fv (eW kf vf (xs (n0 + 1)) (xs (n0 + 2))) 1) else ov)))), (a2, .inl (cK, 256, .inl kf)), (b2, .inl (cM, 256, .inr (.inl vf))), (m0, .inr (2, [.int (x_c kf vf (xs (n0 + 1)) (xs (n0 + 2)) (x_f 1)), .ref a2, .ref b2]))] := hD
        have hK : va_K (dC, dI) vwCl [(cI, .int), (cJ, .long), (cO, .long), (cK, .int), (cM, .long)] s := hK
        refine lv_iload hx hb dL_law_773 (lv_at hl 1 rfl) ?_
        refine lv_icmp_eq (tgt := 780) hx hb dL_law_775 (by decide) (fun c_19 => ?_) (fun c_19 => ?_)
        · refine lv_iload hx hb dL_law_780 (lv_at hl 1 rfl) ?_
          refine lv_if_ne (tgt := 796) hx hb dL_law_782 (by decide) (fun c_20 => ?_) (fun c_20 => ?_)
          · refine lv_goto (tgt := 879) hx hb dL_law_796 (by decide) ?_
            refine W.widen (k := cells + 5) (n := slots + 30) (by omega) (by omega) ?_
            exact K kf vf (if okW (xs (n0 + 1)) (xs (n0 + 2)) ∧ ¬ e_fo (eW kf vf (xs (n0 + 1)) (xs (n0 + 2))) 1 = 0 then vp_updL ov (0 : Int32).toNatClampNeg (e_fv (eW kf vf (xs (n0 + 1)) (xs (n0 + 2))) 1) else ov) (x_c kf vf (xs (n0 + 1)) (xs (n0 + 2)) (x_f 1)) _ _ ls hR (hP.sub [0, 1, 2, 6, 4, 5, 3] rfl) (hD.sub [0, 1, 2, 6, 4, 5, 3] (by decide) rfl) hS (lv_sub hl [2, 3, 4, 5, 6] rfl)
          · refine lv_aload_n hx hb dL_law_785 rfl (lv_at hl 5 rfl) ?_
            refine lv_iconst (v := 0) hx hb dL_law_786 (by decide) ?_
            refine va_lald hx hb hK hP 3 2 rfl rfl in_01 dL_law_787 ?_
            refine lv_lload hx hb dL_law_788 (lv_at hl 0 rfl) ?_
            refine W.lcmp hx hb dL_law_790 ?_
            refine lv_if_eq (tgt := 796) hx hb dL_law_791 (by decide) (fun c_21 => ?_) (fun c_21 => ?_)
            · simp only [lq_eq] at c_21
              refine lv_goto (tgt := 879) hx hb dL_law_796 (by decide) ?_
              refine W.widen (k := cells + 5) (n := slots + 30) (by omega) (by omega) ?_
              exact K kf vf (if okW (xs (n0 + 1)) (xs (n0 + 2)) ∧ ¬ e_fo (eW kf vf (xs (n0 + 1)) (xs (n0 + 2))) 1 = 0 then vp_updL ov (0 : Int32).toNatClampNeg (e_fv (eW kf vf (xs (n0 + 1)) (xs (n0 + 2))) 1) else ov) (x_c kf vf (xs (n0 + 1)) (xs (n0 + 2)) (x_f 1)) _ _ ls hR (hP.sub [0, 1, 2, 6, 4, 5, 3] rfl) (hD.sub [0, 1, 2, 6, 4, 5, 3] (by decide) rfl) hS (lv_sub hl [2, 3, 4, 5, 6] rfl)
            · simp only [lq_eq] at c_21
              exact absurd (by rw [h_16]; exact k_fixed hR (Or.inr rfl) (by rw [← h_13]; exact c_20)) c_21
        · exact absurd (by rw [h_18, h_13]; exact ((j_fixed hR _ _ _ (Or.inr rfl)).1).symm) c_19
