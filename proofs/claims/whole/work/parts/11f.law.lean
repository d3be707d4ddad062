set_option maxHeartbeats 4000000 in
set_option maxRecDepth 100000 in
theorem law_about {p : Program} {l : Launch} {e : Env} {s : State} {m : MethodId} {below : List Frame} {meth : Method} {c : Code} {b L : Nat} {xs : Nat → Int32} {A : Nat → Prop} {dC : Nat → ClassId} {dI : Nat → Nat → Nat} {h0 a b1 m0 a2 b2 o : Nat} {cI cJ cK cM cO : ClassId} (C0 : lw_C p l s m c b L xs A) (hK : va_K (dC, dI) vwCl [(cI, .int), (cJ, .long), (cK, .int), (cM, .long), (cO, .long)] s) {n0 : Nat} (hn : n0 + 5 < L) {cells slots : Nat} (hrc : cells + 5 ≤ room_1.cells) (hrs : slots + 30 ≤ room_1.slots) {kf : Nat → Int32} {vf ov : Nat → Int64} {er : Int32} (hR : okA kf vf) {H : Heap} {locs : List Loc} {ls : Array Slot} (hP : va_P (dC, dI) vwCl [(h0, .inr (1, [.ref a, .ref b1])), (a, .inl (cI, 256, .inl kf)), (b1, .inl (cJ, 256, .inr (.inl vf))), (m0, .inr (2, [.int er, .ref a2, .ref b2])), (a2, .inl (cK, 256, .inl kf)), (b2, .inl (cM, 256, .inr (.inl vf))), (o, .inl (cO, 1, .inr (.inl ov)))] H) (hD : va_D A [(h0, .inr (1, [.ref a, .ref b1])), (a, .inl (cI, 256, .inl kf)), (b1, .inl (cJ, 256, .inr (.inl vf))), (m0, .inr (2, [.int er, .ref a2, .ref b2])), (a2, .inl (cK, 256, .inl kf)), (b2, .inl (cM, 256, .inr (.inl vf))), (o, .inl (cO, 1, .inr (.inl ov)))]) (hS : va_S A s.heap H locs) (hl : lv_has ls 8 [(0, .ref b), (1, .ref h0), (2, .ref m0), (3, .ref o), (4, .int (nI n0))]) (K : ∀ (kf : Nat → Int32) (vf ov : Nat → Int64) (er : Int32) (H : Heap) (locs : List Loc) (ls : Array Slot), okA kf vf → va_P (dC, dI) vwCl [(h0, .inr (1, [.ref a, .ref b1])), (a, .inl (cI, 256, .inl kf)), (b1, .inl (cJ, 256, .inr (.inl vf))), (m0, .inr (2, [.int er, .ref a2, .ref b2])), (a2, .inl (cK, 256, .inl kf)), (b2, .inl (cM, 256, .inr (.inl vf))), (o, .inl (cO, 1, .inr (.inl ov)))] H → va_D A [(h0, .inr (1, [.ref a, .ref b1])), (a, .inl (cI, 256, .inl kf)), (b1, .inl (cJ, 256, .inr (.inl vf))), (m0, .inr (2, [.int er, .ref a2, .ref b2])), (a2, .inl (cK, 256, .inl kf)), (b2, .inl (cM, 256, .inr (.inl vf))), (o, .inl (cO, 1, .inr (.inl ov)))] → va_S A s.heap H locs → lv_has ls 8 [(0, .ref b), (1, .ref h0), (2, .ref m0), (3, .ref o), (4, .int (nI n0))] → W p l e room_1 s m #[Value.ref b] below meth c H locs (cells + 5) (slots + 30) (lw_Z below #[Value.ref b] s) (F0 m 879 ls [])) : W p l e room_1 s m #[Value.ref b] below meth c H locs cells slots (lw_Z below #[Value.ref b] s) (F0 m 799 ls []) := by
  obtain ⟨hx, hb, hml, hown, hts, hX, hbl, hbA, hA, hlt, hE, hZ, hL⟩ := C0
  refine lv_aload_n hx hb dL_law_799 rfl (lv_at hl 1 rfl) ?_
  refine lv_aload_n hx hb dL_law_800 rfl (lv_at hl 0 rfl) ?_
  refine lv_iload hx hb dL_law_801 (lv_at hl 4 rfl) ?_
  refine lv_iconst (v := 1) hx hb dL_law_803 (by decide) ?_
  refine lv_iadd hx hb dL_law_804 ?_
  refine lw_sld (c9 := 1) hx hb hX hbl hbA hS rfl (by omega) hL dL_law_805 ?_
  refine lv_aload_n hx hb dL_law_806 rfl (lv_at hl 0 rfl) ?_
  refine lv_iload hx hb dL_law_807 (lv_at hl 4 rfl) ?_
  refine lv_iconst (v := 2) hx hb dL_law_809 (by decide) ?_
  refine lv_iadd hx hb dL_law_810 ?_
  refine lw_sld (c9 := 2) hx hb hX hbl hbA hS rfl (by omega) hL dL_law_811 ?_
  refine lv_aload_n hx hb dL_law_812 rfl (lv_at hl 0 rfl) ?_
  refine lv_iload hx hb dL_law_813 (lv_at hl 4 rfl) ?_
  refine lv_iconst (v := 3) hx hb dL_law_815 (by decide) ?_
  refine lv_iadd hx hb dL_law_816 ?_
  refine lw_sld (c9 := 3) hx hb hX hbl hbA hS rfl (by omega) hL dL_law_817 ?_
  refine lv_aload_n hx hb dL_law_818 rfl (lv_at hl 3 rfl) ?_
  have hPc := hP.sub (ws' := [(h0, .inr (1, [.ref a, .ref b1])), (a, .inl (cI, 256, .inl kf)), (b1, .inl (cJ, 256, .inr (.inl vf))), (o, .inl (cO, 1, .inr (.inl ov)))]) [0, 1, 2, 6] rfl
  have hDc := hD.sub (ws' := [(h0, .inr (1, [.ref a, .ref b1])), (a, .inl (cI, 256, .inl kf)), (b1, .inl (cJ, 256, .inr (.inl vf))), (o, .inl (cO, 1, .inr (.inl ov)))]) [0, 1, 2, 6] (by decide) rfl
  have hKc := hK.sub (tys' := [(cI, .int), (cJ, .long), (cO, .long)]) [0, 1, 4] rfl
  have hFc := va_free (wc := [(h0, .inr (1, [.ref a, .ref b1])), (a, .inl (cI, 256, .inl kf)), (b1, .inl (cJ, 256, .inr (.inl vf))), (o, .inl (cO, 1, .inr (.inl ov)))]) hD hS hA [0, 1, 2, 6] rfl
  refine vx_calli (vx_runSX (As := [.ref h0, .int (xs (n0 + 1)), .int (xs (n0 + 2)), .int (xs (n0 + 3)), .ref o]) (rest := []) ⟨hx, hb, hml, hown, hts⟩ (qL_about l hlt dC dI H.size h0 a b1 cI cJ kf vf o cO ov (xs (n0 + 1)) (xs (n0 + 2)) (xs (n0 + 3))) (vx_cwSW 5 hts gL_law_L_about rfl rfl rfl (by decide +kernel) ⟨Nat.le_of_ble_eq_true rfl, Nat.le_of_ble_eq_true rfl⟩) ⟨fun a U g mk q => by obtain ⟨q0, q1, qP, qK, qD, qE, qZ⟩ := q; exact ⟨q0, q1, qP, va_K.moved (u := U) (U := U.calling g mk a) (Vm.Alike.refl U.vm) qK, qD, ev.same (u := U) rfl qE, ez.moved (U := U.calling g mk a) qZ (Vm.Alike.refl U.vm)⟩, fun U hU hW => ⟨rfl, by rw [hU], by rw [hU]; exact hPc, va_K.moved hW.alike hKc, hDc.weaken (fun _ _ _ _ => trivial), hE.warm hW, by rw [hU]; exact ((hZ.kept hS.2.1).narrow hFc).moved hW.alike⟩⟩ rfl rfl hl.1 rfl (lv_room (Nat.le_of_ble_eq_true rfl)) dL_law_819 ⟨Nat.le_trans (by omega) hrc, Nat.le_trans (by omega) hrs⟩) hS (fun q _ h => hFc q h) hFc (fun q _ h => hFc q h) (fun E ce q9 u t9 H1 locs ht hvm hw hB hz1 hk1 hS hce hcv hcl => ?_) (fun r_1 u t9 H1 locs ht hvm hw hB hz1 hk1 hS => ?_)
  · exact hB.1.elim
  · obtain ⟨hP1, hK1, hD1⟩ := hB
    rw [ht] at hP1
    obtain ⟨h_2, rfl⟩ := hw
    have hK1 := va_K.moved hvm.symm hK1
    obtain ⟨hP, hD⟩ := va_join (wr := [(m0, .inr (2, [.int er, .ref a2, .ref b2])), (a2, .inl (cK, 256, .inl kf)), (b2, .inl (cM, 256, .inr (.inl vf)))]) (w1 := [(h0, .inr (1, [.ref a, .ref b1])), (a, .inl (cI, 256, .inl kf)), (b1, .inl (cJ, 256, .inr (.inl vf))), (o, .inl (cO, 1, .inr (.inl (if okQ (xs (n0 + 3)) ∧ okW (xs (n0 + 1)) (xs (n0 + 2)) then vp_updL ov (0 : Int32).toNatClampNeg (e_ab kf vf (xs (n0 + 1)) (xs (n0 + 2)) (xs (n0 + 3))).toInt64 else ov))))]) hP hD [0, 1, 2, 6] [3, 4, 5] rfl rfl (by decide) (by decide) hk1 hFc hP1 hD1
    have hK := (hK.sub (tys' := [(cK, .int), (cM, .long)]) [2, 3] rfl).app hK1
    generalize H1 = H at hP hS ⊢
    have hP : va_P (dC, dI) vwCl [(m0, .inr (2, [.int er, .ref a2, .ref b2])), (a2, .inl (cK, 256, .inl kf)), (b2, .inl (cM, 256, .inr (.inl vf))), (h0, .inr (1, [.ref a, .ref b1])), (a, .inl (cI, 256, .inl kf)), (b1, .inl (cJ, 256, .inr (.inl vf))), (o, .inl (cO, 1, .inr (.inl (if okQ (xs (n0 + 3)) ∧ okW (xs (n0 + 1)) (xs (n0 + 2)) then vp_updL ov (0 : Int32).toNatClampNeg (e_ab kf vf (xs (n0 + 1)) (xs (n0 + 2)) (xs (n0 + 3))).toInt64 else ov))))] H := hP
    have hD : va_D A [(m0, .inr (2, [.int er, .ref a2, .ref b2])), (a2, .inl (cK, 256, .inl kf)), (b2, .inl (cM, 256, .inr (.inl vf))), (h0, .inr (1, [.ref a, .ref b1])), (a, .inl (cI, 256, .inl kf)), (b1, .inl (cJ, 256, .inr (.inl vf))), (o, .inl (cO, 1, .inr (.inl (if okQ (xs (n0 + 3)) ∧ okW (xs (n0 + 1)) (xs (n0 + 2)) then vp_updL ov (0 : Int32).toNatClampNeg (e_ab kf vf (xs (n0 + 1)) (xs (n0 + 2)) (xs (n0 + 3))).toInt64 else ov))))] := hD
    have hK : va_K (dC, dI) vwCl [(cK, .int), (cM, .long), (cI, .int), (cJ, .long), (cO, .long)] s := hK
    refine lv_istore (lv' := [(5, .int r_1), (0, .ref b), (1, .ref h0), (2, .ref m0), (3, .ref o), (4, .int (nI n0))]) hx hb dL_law_822 hl (by decide) rfl (fun ls hl => ?_)
    refine lv_aload_n hx hb dL_law_824 rfl (lv_at hl 3 rfl) ?_
    refine lv_aload_n hx hb dL_law_825 rfl (lv_at hl 1 rfl) ?_
    refine lv_iload hx hb dL_law_826 (lv_at hl 5 rfl) ?_
    refine lv_iconst (v := 1) hx hb dL_law_828 (by decide) ?_
    refine lv_iadd hx hb dL_law_829 ?_
    refine lw_sld (c9 := 1) hx hb hX hbl hbA hS rfl (by omega) hL dL_law_830 ?_
    refine lv_aload_n hx hb dL_law_831 rfl (lv_at hl 1 rfl) ?_
    refine lv_iload hx hb dL_law_832 (lv_at hl 5 rfl) ?_
    refine lv_iconst (v := 2) hx hb dL_law_834 (by decide) ?_
    refine lv_iadd hx hb dL_law_835 ?_
    refine lw_sld (c9 := 2) hx hb hX hbl hbA hS rfl (by omega) hL dL_law_836 ?_
    refine lv_aload_n hx hb dL_law_837 rfl (lv_at hl 1 rfl) ?_
    refine lv_iload hx hb dL_law_838 (lv_at hl 5 rfl) ?_
    refine lv_iconst (v := 3) hx hb dL_law_840 (by decide) ?_
    refine lv_iadd hx hb dL_law_841 ?_
    refine lw_sld (c9 := 3) hx hb hX hbl hbA hS rfl (by omega) hL dL_law_842 ?_
    have hPc := hP.sub (ws' := [(m0, .inr (2, [.int er, .ref a2, .ref b2])), (a2, .inl (cK, 256, .inl kf)), (b2, .inl (cM, 256, .inr (.inl vf)))]) [0, 1, 2] rfl
    have hDc := hD.sub (ws' := [(m0, .inr (2, [.int er, .ref a2, .ref b2])), (a2, .inl (cK, 256, .inl kf)), (b2, .inl (cM, 256, .inr (.inl vf)))]) [0, 1, 2] (by decide) rfl
    have hKc := hK.sub (tys' := [(cK, .int), (cM, .long)]) [0, 1] rfl
    have hFc := va_free (wc := [(m0, .inr (2, [.int er, .ref a2, .ref b2])), (a2, .inl (cK, 256, .inl kf)), (b2, .inl (cM, 256, .inr (.inl vf)))]) hD hS hA [0, 1, 2] rfl
    refine va_calli (va_runV (As := [.int (xs (n0 + 1)), .int (xs (n0 + 2)), .int (xs (n0 + 3))]) (rest := []) ⟨hx, hb, hml, hown, hts⟩ (qX2_about l dC dI H.size m0 a2 b2 cK cM er kf vf (xs (n0 + 1)) (xs (n0 + 2)) (xs (n0 + 3))) (cwV 3 hts gL_law_X2_about rfl rfl rfl (by decide +kernel) ⟨Nat.le_of_ble_eq_true rfl, Nat.le_of_ble_eq_true rfl⟩) ⟨fun a U g mk q => by obtain ⟨q0, q1, qP, qK, qD⟩ := q; exact ⟨q0, q1, qP, va_K.moved (u := U) (U := U.calling g mk a) (Vm.Alike.refl U.vm) qK, qD⟩, va_recv hKc hPc (ci := 2) (q0 := 0) rfl rfl, fun U hU hW => ⟨rfl, by rw [hU], by rw [hU]; exact hPc, va_K.moved hW.alike hKc, hDc.weaken (fun _ _ _ _ => trivial)⟩⟩ rfl rfl hl.1 rfl (lv_room (Nat.le_of_ble_eq_true rfl)) dL_law_843 ⟨Nat.le_trans (by omega) hrc, Nat.le_trans (by omega) hrs⟩) hS (fun q _ h => hFc q h) hFc (fun r_3 u t9 H1 locs ht hvm hw hB hz1 hk1 hS => ?_)
    obtain ⟨hP1, hK1, hD1⟩ := hB
    rw [ht] at hP1
    obtain ⟨h_4, rfl⟩ := hw
    have hK1 := va_K.moved hvm.symm hK1
    obtain ⟨hP, hD⟩ := va_join (wr := [(h0, .inr (1, [.ref a, .ref b1])), (a, .inl (cI, 256, .inl kf)), (b1, .inl (cJ, 256, .inr (.inl vf))), (o, .inl (cO, 1, .inr (.inl (if okQ (xs (n0 + 3)) ∧ okW (xs (n0 + 1)) (xs (n0 + 2)) then vp_updL ov (0 : Int32).toNatClampNeg (e_ab kf vf (xs (n0 + 1)) (xs (n0 + 2)) (xs (n0 + 3))).toInt64 else ov))))]) (w1 := [(m0, .inr (2, [.int (b_c (xs (n0 + 1)) (xs (n0 + 2)) (xs (n0 + 3))), .ref a2, .ref b2])), (a2, .inl (cK, 256, .inl kf)), (b2, .inl (cM, 256, .inr (.inl vf)))]) hP hD [0, 1, 2] [3, 4, 5, 6] rfl rfl (by decide) (by decide) hk1 hFc hP1 hD1
    have hK := (hK.sub (tys' := [(cI, .int), (cJ, .long), (cO, .long)]) [2, 3, 4] rfl).app hK1
    generalize H1 = H at hP hS ⊢
    have hP : va_P (dC, dI) vwCl [(h0, .inr (1, [.ref a, .ref b1])), (a, .inl (cI, 256, .inl kf)), (b1, .inl (cJ, 256, .inr (.inl vf))), (o, .inl (cO, 1, .inr (.inl (if okQ (xs (n0 + 3)) ∧ okW (xs (n0 + 1)) (xs (n0 + 2)) then vp_updL ov (0 : Int32).toNatClampNeg (e_ab kf vf (xs (n0 + 1)) (xs (n0 + 2)) (xs (n0 + 3))).toInt64 else ov)))), (m0, .inr (2, [.int (b_c (xs (n0 + 1)) (xs (n0 + 2)) (xs (n0 + 3))), .ref a2, .ref b2])), (a2, .inl (cK, 256, .inl kf)), (b2, .inl (cM, 256, .inr (.inl vf)))] H := hP
    have hD : va_D A [(h0, .inr (1, [.ref a, .ref b1])), (a, .inl (cI, 256, .inl kf)), (b1, .inl (cJ, 256, .inr (.inl vf))), (o, .inl (cO, 1, .inr (.inl (if okQ (xs (n0 + 3)) ∧ okW (xs (n0 + 1)) (xs (n0 + 2)) then vp_updL ov (0 : Int32).toNatClampNeg (e_ab kf vf (xs (n0 + 1)) (xs (n0 + 2)) (xs (n0 + 3))).toInt64 else ov)))), (m0, .inr (2, [.int (b_c (xs (n0 + 1)) (xs (n0 + 2)) (xs (n0 + 3))), .ref a2, .ref b2])), (a2, .inl (cK, 256, .inl kf)), (b2, .inl (cM, 256, .inr (.inl vf)))] := hD
    have hK : va_K (dC, dI) vwCl [(cI, .int), (cJ, .long), (cO, .long), (cK, .int), (cM, .long)] s := hK
    refine lv_istore (lv' := [(6, .int r_3), (5, .int r_1), (0, .ref b), (1, .ref h0), (2, .ref m0), (3, .ref o), (4, .int (nI n0))]) hx hb dL_law_846 hl (by decide) rfl (fun ls hl => ?_)
    refine lv_aload_n hx hb dL_law_848 rfl (lv_at hl 4 rfl) ?_
    have hPc := hP.sub (ws' := [(m0, .inr (2, [.int (b_c (xs (n0 + 1)) (xs (n0 + 2)) (xs (n0 + 3))), .ref a2, .ref b2]))]) [4] rfl
    have hDc := hD.sub (ws' := [(m0, .inr (2, [.int (b_c (xs (n0 + 1)) (xs (n0 + 2)) (xs (n0 + 3))), .ref a2, .ref b2]))]) [4] (by decide) rfl
    have hKc := hK.sub (tys' := []) [] rfl
    have hFc := va_free (wc := [(m0, .inr (2, [.int (b_c (xs (n0 + 1)) (xs (n0 + 2)) (xs (n0 + 3))), .ref a2, .ref b2]))]) hD hS hA [4] rfl
    refine va_calli (va_runV (As := []) (rest := []) ⟨hx, hb, hml, hown, hts⟩ (qX2_thrown l dC dI H.size m0 a2 b2 (b_c (xs (n0 + 1)) (xs (n0 + 2)) (xs (n0 + 3)))) (cwV 0 hts gL_law_X2_thrown rfl rfl rfl (by decide +kernel) ⟨Nat.le_of_ble_eq_true rfl, Nat.le_of_ble_eq_true rfl⟩) ⟨fun a U g mk q => by obtain ⟨q0, q1, qP, qK, qD⟩ := q; exact ⟨q0, q1, qP, va_K.moved (u := U) (U := U.calling g mk a) (Vm.Alike.refl U.vm) qK, qD⟩, va_recv hKc hPc (ci := 2) (q0 := 0) rfl rfl, fun U hU hW => ⟨rfl, by rw [hU], by rw [hU]; exact hPc, va_K.moved hW.alike hKc, hDc.weaken (fun _ _ _ _ => trivial)⟩⟩ rfl rfl hl.1 rfl (lv_room (Nat.le_of_ble_eq_true rfl)) dL_law_849 ⟨Nat.le_trans (by omega) hrc, Nat.le_trans (by omega) hrs⟩) hS (fun q _ h => hFc q h) hFc (fun r_5 u t9 H1 locs ht hvm hw hB hz1 hk1 hS => ?_)
    obtain ⟨hP1, hK1, hD1⟩ := hB
    rw [ht] at hP1
    have h_6 := hw
    have hK1 := va_K.moved hvm.symm hK1
    obtain ⟨hP, hD⟩ := va_join (wr := [(h0, .inr (1, [.ref a, .ref b1])), (a, .inl (cI, 256, .inl kf)), (b1, .inl (cJ, 256, .inr (.inl vf))), (o, .inl (cO, 1, .inr (.inl (if okQ (xs (n0 + 3)) ∧ okW (xs (n0 + 1)) (xs (n0 + 2)) then vp_updL ov (0 : Int32).toNatClampNeg (e_ab kf vf (xs (n0 + 1)) (xs (n0 + 2)) (xs (n0 + 3))).toInt64 else ov)))), (a2, .inl (cK, 256, .inl kf)), (b2, .inl (cM, 256, .inr (.inl vf)))]) (w1 := [(m0, .inr (2, [.int (b_c (xs (n0 + 1)) (xs (n0 + 2)) (xs (n0 + 3))), .ref a2, .ref b2]))]) hP hD [4] [0, 1, 2, 3, 5, 6] rfl rfl (by decide) (by decide) hk1 hFc hP1 hD1
    have hK := (hK.sub (tys' := [(cI, .int), (cJ, .long), (cO, .long), (cK, .int), (cM, .long)]) [0, 1, 2, 3, 4] rfl).app hK1
    generalize H1 = H at hP hS ⊢
    have hP : va_P (dC, dI) vwCl [(h0, .inr (1, [.ref a, .ref b1])), (a, .inl (cI, 256, .inl kf)), (b1, .inl (cJ, 256, .inr (.inl vf))), (o, .inl (cO, 1, .inr (.inl (if okQ (xs (n0 + 3)) ∧ okW (xs (n0 + 1)) (xs (n0 + 2)) then vp_updL ov (0 : Int32).toNatClampNeg (e_ab kf vf (xs (n0 + 1)) (xs (n0 + 2)) (xs (n0 + 3))).toInt64 else ov)))), (a2, .inl (cK, 256, .inl kf)), (b2, .inl (cM, 256, .inr (.inl vf))), (m0, .inr (2, [.int (b_c (xs (n0 + 1)) (xs (n0 + 2)) (xs (n0 + 3))), .ref a2, .ref b2]))] H := hP
    have hD : va_D A [(h0, .inr (1, [.ref a, .ref b1])), (a, .inl (cI, 256, .inl kf)), (b1, .inl (cJ, 256, .inr (.inl vf))), (o, .inl (cO, 1, .inr (.inl (if okQ (xs (n0 + 3)) ∧ okW (xs (n0 + 1)) (xs (n0 + 2)) then vp_updL ov (0 : Int32).toNatClampNeg (e_ab kf vf (xs (n0 + 1)) (xs (n0 + 2)) (xs (n0 + 3))).toInt64 else ov)))), (a2, .inl (cK, 256, .inl kf)), (b2, .inl (cM, 256, .inr (.inl vf))), (m0, .inr (2, [.int (b_c (xs (n0 + 1)) (xs (n0 + 2)) (xs (n0 + 3))), .ref a2, .ref b2]))] := hD
    have hK : va_K (dC, dI) vwCl [(cI, .int), (cJ, .long), (cO, .long), (cK, .int), (cM, .long)] s := hK
    refine lv_iload hx hb dL_law_852 (lv_at hl 1 rfl) ?_
    refine lv_icmp_eq (tgt := 859) hx hb dL_law_854 (by decide) (fun c_7 => ?_) (fun c_7 => ?_)
    · refine lv_iload hx hb dL_law_859 (lv_at hl 1 rfl) ?_
      refine lv_if_ne (tgt := 876) hx hb dL_law_861 (by decide) (fun c_8 => ?_) (fun c_8 => ?_)
      · refine lv_goto (tgt := 879) hx hb dL_law_876 (by decide) ?_
        refine W.widen (k := cells + 5) (n := slots + 30) (by omega) (by omega) ?_
        exact K kf vf (if okQ (xs (n0 + 3)) ∧ okW (xs (n0 + 1)) (xs (n0 + 2)) then vp_updL ov (0 : Int32).toNatClampNeg (e_ab kf vf (xs (n0 + 1)) (xs (n0 + 2)) (xs (n0 + 3))).toInt64 else ov) (b_c (xs (n0 + 1)) (xs (n0 + 2)) (xs (n0 + 3))) _ _ ls hR (hP.sub [0, 1, 2, 6, 4, 5, 3] rfl) (hD.sub [0, 1, 2, 6, 4, 5, 3] (by decide) rfl) hS (lv_sub hl [2, 3, 4, 5, 6] rfl)
      · refine lv_aload_n hx hb dL_law_864 rfl (lv_at hl 5 rfl) ?_
        refine lv_iconst (v := 0) hx hb dL_law_865 (by decide) ?_
        refine va_lald hx hb hK hP 3 2 rfl rfl in_01 dL_law_866 ?_
        refine lv_iload hx hb dL_law_867 (lv_at hl 0 rfl) ?_
        refine lv_i2l (v := r_3.toInt64) hx hb dL_law_869 rfl ?_
        refine W.lcmp hx hb dL_law_870 ?_
        refine lv_if_eq (tgt := 876) hx hb dL_law_871 (by decide) (fun c_9 => ?_) (fun c_9 => ?_)
        · simp only [lq_eq] at c_9
          refine lv_goto (tgt := 879) hx hb dL_law_876 (by decide) ?_
          refine W.widen (k := cells + 5) (n := slots + 30) (by omega) (by omega) ?_
          exact K kf vf (if okQ (xs (n0 + 3)) ∧ okW (xs (n0 + 1)) (xs (n0 + 2)) then vp_updL ov (0 : Int32).toNatClampNeg (e_ab kf vf (xs (n0 + 1)) (xs (n0 + 2)) (xs (n0 + 3))).toInt64 else ov) (b_c (xs (n0 + 1)) (xs (n0 + 2)) (xs (n0 + 3))) _ _ ls hR (hP.sub [0, 1, 2, 6, 4, 5, 3] rfl) (hD.sub [0, 1, 2, 6, 4, 5, 3] (by decide) rfl) hS (lv_sub hl [2, 3, 4, 5, 6] rfl)
        · simp only [lq_eq] at c_9
          exact absurd (by rw [h_4]; exact k_about hR (by rw [← h_2]; exact c_8)) c_9
    · exact absurd (by rw [h_6, h_2]) c_7
