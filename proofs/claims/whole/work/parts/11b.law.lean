set_option maxHeartbeats 4000000 in
set_option maxRecDepth 100000 in
theorem law_set {p : Program} {l : Launch} {e : Env} {s : State} {m : MethodId} {below : List Frame} {meth : Method} {c : Code} {b L : Nat} {xs : Nat → Int32} {A : Nat → Prop} {dC : Nat → ClassId} {dI : Nat → Nat → Nat} {h0 a b1 m0 a2 b2 o : Nat} {cI cJ cK cM cO : ClassId} (C0 : lw_C p l s m c b L xs A) (hK : va_K (dC, dI) vwCl [(cI, .int), (cJ, .long), (cK, .int), (cM, .long), (cO, .long)] s) {n0 : Nat} (hn : n0 + 5 < L) {cells slots : Nat} (hrc : cells + 5 ≤ room_1.cells) (hrs : slots + 30 ≤ room_1.slots) {kf : Nat → Int32} {vf ov : Nat → Int64} {er : Int32} (hR : okA kf vf) {H : Heap} {locs : List Loc} {ls : Array Slot} (hP : va_P (dC, dI) vwCl [(h0, .inr (1, [.ref a, .ref b1])), (a, .inl (cI, 256, .inl kf)), (b1, .inl (cJ, 256, .inr (.inl vf))), (m0, .inr (2, [.int er, .ref a2, .ref b2])), (a2, .inl (cK, 256, .inl kf)), (b2, .inl (cM, 256, .inr (.inl vf))), (o, .inl (cO, 1, .inr (.inl ov)))] H) (hD : va_D A [(h0, .inr (1, [.ref a, .ref b1])), (a, .inl (cI, 256, .inl kf)), (b1, .inl (cJ, 256, .inr (.inl vf))), (m0, .inr (2, [.int er, .ref a2, .ref b2])), (a2, .inl (cK, 256, .inl kf)), (b2, .inl (cM, 256, .inr (.inl vf))), (o, .inl (cO, 1, .inr (.inl ov)))]) (hS : va_S A s.heap H locs) (hl : lv_has ls 8 [(0, .ref b), (1, .ref h0), (2, .ref m0), (3, .ref o), (4, .int (nI n0))]) (K : ∀ (kf : Nat → Int32) (vf ov : Nat → Int64) (er : Int32) (H : Heap) (locs : List Loc) (ls : Array Slot), okA kf vf → va_P (dC, dI) vwCl [(h0, .inr (1, [.ref a, .ref b1])), (a, .inl (cI, 256, .inl kf)), (b1, .inl (cJ, 256, .inr (.inl vf))), (m0, .inr (2, [.int er, .ref a2, .ref b2])), (a2, .inl (cK, 256, .inl kf)), (b2, .inl (cM, 256, .inr (.inl vf))), (o, .inl (cO, 1, .inr (.inl ov)))] H → va_D A [(h0, .inr (1, [.ref a, .ref b1])), (a, .inl (cI, 256, .inl kf)), (b1, .inl (cJ, 256, .inr (.inl vf))), (m0, .inr (2, [.int er, .ref a2, .ref b2])), (a2, .inl (cK, 256, .inl kf)), (b2, .inl (cM, 256, .inr (.inl vf))), (o, .inl (cO, 1, .inr (.inl ov)))] → va_S A s.heap H locs → lv_has ls 8 [(0, .ref b), (1, .ref h0), (2, .ref m0), (3, .ref o), (4, .int (nI n0))] → W p l e room_1 s m #[Value.ref b] below meth c H locs (cells + 5) (slots + 30) (lw_Z below #[Value.ref b] s) (F0 m 879 ls [])) : W p l e room_1 s m #[Value.ref b] below meth c H locs cells slots (lw_Z below #[Value.ref b] s) (F0 m 92 ls []) := by
  obtain ⟨hx, hb, hml, hown, hts, hX, hbl, hbA, hA, hlt, hE, hZ, hL⟩ := C0
  refine lv_aload_n hx hb dL_law_92 rfl (lv_at hl 1 rfl) ?_
  refine lv_aload_n hx hb dL_law_93 rfl (lv_at hl 0 rfl) ?_
  refine lv_iload hx hb dL_law_94 (lv_at hl 4 rfl) ?_
  refine lv_iconst (v := 1) hx hb dL_law_96 (by decide) ?_
  refine lv_iadd hx hb dL_law_97 ?_
  refine lw_sld (c9 := 1) hx hb hX hbl hbA hS rfl (by omega) hL dL_law_98 ?_
  refine lv_aload_n hx hb dL_law_99 rfl (lv_at hl 0 rfl) ?_
  refine lv_iload hx hb dL_law_100 (lv_at hl 4 rfl) ?_
  refine lv_iconst (v := 2) hx hb dL_law_102 (by decide) ?_
  refine lv_iadd hx hb dL_law_103 ?_
  refine lw_sld (c9 := 2) hx hb hX hbl hbA hS rfl (by omega) hL dL_law_104 ?_
  refine lv_aload_n hx hb dL_law_105 rfl (lv_at hl 0 rfl) ?_
  refine lv_iload hx hb dL_law_106 (lv_at hl 4 rfl) ?_
  refine lv_iconst (v := 3) hx hb dL_law_108 (by decide) ?_
  refine lv_iadd hx hb dL_law_109 ?_
  refine lw_sld (c9 := 3) hx hb hX hbl hbA hS rfl (by omega) hL dL_law_110 ?_
  refine lv_i2l (v := (xs (n0 + 3)).toInt64) hx hb dL_law_111 rfl ?_
  refine lv_bipush (v := 32) hx hb dL_law_112 (by decide) ?_
  refine lv_lshl (v := ((xs (n0 + 3)).toInt64) <<< ((32 : Int32).toInt64 &&& 63)) hx hb dL_law_114 rfl ?_
  refine lv_aload_n hx hb dL_law_115 rfl (lv_at hl 0 rfl) ?_
  refine lv_iload hx hb dL_law_116 (lv_at hl 4 rfl) ?_
  refine lv_iconst (v := 4) hx hb dL_law_118 (by decide) ?_
  refine lv_iadd hx hb dL_law_119 ?_
  refine lw_sld (c9 := 4) hx hb hX hbl hbA hS rfl (by omega) hL dL_law_120 ?_
  refine lv_i2l (v := (xs (n0 + 4)).toInt64) hx hb dL_law_121 rfl ?_
  refine lv_ldc2 hx hb hown (hts (.constantLong RL 54 (4294967295)) kLaw_0) dL_law_122 ?_
  refine lv_land hx hb dL_law_125 ?_
  refine lv_lor hx hb dL_law_126 ?_
  refine lw_lJ ?_
  have hPc := hP.sub (ws' := [(h0, .inr (1, [.ref a, .ref b1])), (a, .inl (cI, 256, .inl kf)), (b1, .inl (cJ, 256, .inr (.inl vf)))]) [0, 1, 2] rfl
  have hDc := hD.sub (ws' := [(h0, .inr (1, [.ref a, .ref b1])), (a, .inl (cI, 256, .inl kf)), (b1, .inl (cJ, 256, .inr (.inl vf)))]) [0, 1, 2] (by decide) rfl
  have hKc := hK.sub (tys' := [(cI, .int), (cJ, .long)]) [0, 1] rfl
  have hFc := va_free (wc := [(h0, .inr (1, [.ref a, .ref b1])), (a, .inl (cI, 256, .inl kf)), (b1, .inl (cJ, 256, .inr (.inl vf)))]) hD hS hA [0, 1, 2] rfl
  refine vx_calli (vx_runSX (As := [.ref h0, .int (xs (n0 + 1)), .int (xs (n0 + 2)), .long (lw_J (xs (n0 + 3)) (xs (n0 + 4)))]) (rest := []) ⟨hx, hb, hml, hown, hts⟩ (qL_set l hlt dC dI H.size h0 a b1 cI cJ kf vf (xs (n0 + 1)) (xs (n0 + 2)) (lw_J (xs (n0 + 3)) (xs (n0 + 4)))) (vx_cwSW 4 hts gL_law_L_set rfl rfl rfl (by decide +kernel) ⟨Nat.le_of_ble_eq_true rfl, Nat.le_of_ble_eq_true rfl⟩) ⟨fun a U g mk q => by obtain ⟨q0, q1, qP, qK, qD, qE, qZ⟩ := q; exact ⟨q0, q1, qP, va_K.moved (u := U) (U := U.calling g mk a) (Vm.Alike.refl U.vm) qK, qD, ev.same (u := U) rfl qE, ez.moved (U := U.calling g mk a) qZ (Vm.Alike.refl U.vm)⟩, fun U hU hW => ⟨rfl, by rw [hU], by rw [hU]; exact hPc, va_K.moved hW.alike hKc, hDc.weaken (fun _ _ _ _ => trivial), hE.warm hW, by rw [hU]; exact ((hZ.kept hS.2.1).narrow hFc).moved hW.alike⟩⟩ rfl rfl hl.1 rfl (lv_room (Nat.le_of_ble_eq_true rfl)) dL_law_127 ⟨Nat.le_trans (by omega) hrc, Nat.le_trans (by omega) hrs⟩) hS (fun q _ h => hFc q h) hFc (fun q _ h => hFc q h) (fun E ce q9 u t9 H1 locs ht hvm hw hB hz1 hk1 hS hce hcv hcl => ?_) (fun r_1 u t9 H1 locs ht hvm hw hB hz1 hk1 hS => ?_)
  · exact hB.1.elim
  · obtain ⟨hP1, hK1, hD1⟩ := hB
    rw [ht] at hP1
    obtain ⟨h_2, rfl⟩ := hw
    have hK1 := va_K.moved hvm.symm hK1
    obtain ⟨hP, hD⟩ := va_join (wr := [(m0, .inr (2, [.int er, .ref a2, .ref b2])), (a2, .inl (cK, 256, .inl kf)), (b2, .inl (cM, 256, .inr (.inl vf))), (o, .inl (cO, 1, .inr (.inl ov)))]) (w1 := [(h0, .inr (1, [.ref a, .ref b1])), (a, .inl (cI, 256, .inl ((s_k kf (xs (n0 + 1)) (xs (n0 + 2)) (lw_J (xs (n0 + 3)) (xs (n0 + 4))), s_v vf (xs (n0 + 1)) (xs (n0 + 2)) (lw_J (xs (n0 + 3)) (xs (n0 + 4)))).1))), (b1, .inl (cJ, 256, .inr (.inl ((s_k kf (xs (n0 + 1)) (xs (n0 + 2)) (lw_J (xs (n0 + 3)) (xs (n0 + 4))), s_v vf (xs (n0 + 1)) (xs (n0 + 2)) (lw_J (xs (n0 + 3)) (xs (n0 + 4)))).2))))]) hP hD [0, 1, 2] [3, 4, 5, 6] rfl rfl (by decide) (by decide) hk1 hFc hP1 hD1
    have hK := (hK.sub (tys' := [(cK, .int), (cM, .long), (cO, .long)]) [2, 3, 4] rfl).app hK1
    generalize H1 = H at hP hS ⊢
    have hP : va_P (dC, dI) vwCl [(m0, .inr (2, [.int er, .ref a2, .ref b2])), (a2, .inl (cK, 256, .inl kf)), (b2, .inl (cM, 256, .inr (.inl vf))), (o, .inl (cO, 1, .inr (.inl ov))), (h0, .inr (1, [.ref a, .ref b1])), (a, .inl (cI, 256, .inl ((s_k kf (xs (n0 + 1)) (xs (n0 + 2)) (lw_J (xs (n0 + 3)) (xs (n0 + 4))), s_v vf (xs (n0 + 1)) (xs (n0 + 2)) (lw_J (xs (n0 + 3)) (xs (n0 + 4)))).1))), (b1, .inl (cJ, 256, .inr (.inl ((s_k kf (xs (n0 + 1)) (xs (n0 + 2)) (lw_J (xs (n0 + 3)) (xs (n0 + 4))), s_v vf (xs (n0 + 1)) (xs (n0 + 2)) (lw_J (xs (n0 + 3)) (xs (n0 + 4)))).2))))] H := hP
    have hD : va_D A [(m0, .inr (2, [.int er, .ref a2, .ref b2])), (a2, .inl (cK, 256, .inl kf)), (b2, .inl (cM, 256, .inr (.inl vf))), (o, .inl (cO, 1, .inr (.inl ov))), (h0, .inr (1, [.ref a, .ref b1])), (a, .inl (cI, 256, .inl ((s_k kf (xs (n0 + 1)) (xs (n0 + 2)) (lw_J (xs (n0 + 3)) (xs (n0 + 4))), s_v vf (xs (n0 + 1)) (xs (n0 + 2)) (lw_J (xs (n0 + 3)) (xs (n0 + 4)))).1))), (b1, .inl (cJ, 256, .inr (.inl ((s_k kf (xs (n0 + 1)) (xs (n0 + 2)) (lw_J (xs (n0 + 3)) (xs (n0 + 4))), s_v vf (xs (n0 + 1)) (xs (n0 + 2)) (lw_J (xs (n0 + 3)) (xs (n0 + 4)))).2))))] := hD
    have hK : va_K (dC, dI) vwCl [(cK, .int), (cM, .long), (cO, .long), (cI, .int), (cJ, .long)] s := hK
    refine lv_istore (lv' := [(5, .int r_1), (0, .ref b), (1, .ref h0), (2, .ref m0), (3, .ref o), (4, .int (nI n0))]) hx hb dL_law_130 hl (by decide) rfl (fun ls hl => ?_)
    refine lv_aload_n hx hb dL_law_132 rfl (lv_at hl 3 rfl) ?_
    refine lv_aload_n hx hb dL_law_133 rfl (lv_at hl 1 rfl) ?_
    refine lv_iload hx hb dL_law_134 (lv_at hl 5 rfl) ?_
    refine lv_iconst (v := 1) hx hb dL_law_136 (by decide) ?_
    refine lv_iadd hx hb dL_law_137 ?_
    refine lw_sld (c9 := 1) hx hb hX hbl hbA hS rfl (by omega) hL dL_law_138 ?_
    refine lv_aload_n hx hb dL_law_139 rfl (lv_at hl 1 rfl) ?_
    refine lv_iload hx hb dL_law_140 (lv_at hl 5 rfl) ?_
    refine lv_iconst (v := 2) hx hb dL_law_142 (by decide) ?_
    refine lv_iadd hx hb dL_law_143 ?_
    refine lw_sld (c9 := 2) hx hb hX hbl hbA hS rfl (by omega) hL dL_law_144 ?_
    refine lv_aload_n hx hb dL_law_145 rfl (lv_at hl 1 rfl) ?_
    refine lv_iload hx hb dL_law_146 (lv_at hl 5 rfl) ?_
    refine lv_iconst (v := 3) hx hb dL_law_148 (by decide) ?_
    refine lv_iadd hx hb dL_law_149 ?_
    refine lw_sld (c9 := 3) hx hb hX hbl hbA hS rfl (by omega) hL dL_law_150 ?_
    refine lv_i2l (v := (xs (n0 + 3)).toInt64) hx hb dL_law_151 rfl ?_
    refine lv_bipush (v := 32) hx hb dL_law_152 (by decide) ?_
    refine lv_lshl (v := ((xs (n0 + 3)).toInt64) <<< ((32 : Int32).toInt64 &&& 63)) hx hb dL_law_154 rfl ?_
    refine lv_aload_n hx hb dL_law_155 rfl (lv_at hl 1 rfl) ?_
    refine lv_iload hx hb dL_law_156 (lv_at hl 5 rfl) ?_
    refine lv_iconst (v := 4) hx hb dL_law_158 (by decide) ?_
    refine lv_iadd hx hb dL_law_159 ?_
    refine lw_sld (c9 := 4) hx hb hX hbl hbA hS rfl (by omega) hL dL_law_160 ?_
    refine lv_i2l (v := (xs (n0 + 4)).toInt64) hx hb dL_law_161 rfl ?_
    refine lv_ldc2 hx hb hown (hts (.constantLong RL 54 (4294967295)) kLaw_0) dL_law_162 ?_
    refine lv_land hx hb dL_law_165 ?_
    refine lv_lor hx hb dL_law_166 ?_
    refine lw_lJ ?_
    have hPc := hP.sub (ws' := [(m0, .inr (2, [.int er, .ref a2, .ref b2])), (a2, .inl (cK, 256, .inl kf)), (b2, .inl (cM, 256, .inr (.inl vf)))]) [0, 1, 2] rfl
    have hDc := hD.sub (ws' := [(m0, .inr (2, [.int er, .ref a2, .ref b2])), (a2, .inl (cK, 256, .inl kf)), (b2, .inl (cM, 256, .inr (.inl vf)))]) [0, 1, 2] (by decide) rfl
    have hKc := hK.sub (tys' := [(cK, .int), (cM, .long)]) [0, 1] rfl
    have hFc := va_free (wc := [(m0, .inr (2, [.int er, .ref a2, .ref b2])), (a2, .inl (cK, 256, .inl kf)), (b2, .inl (cM, 256, .inr (.inl vf)))]) hD hS hA [0, 1, 2] rfl
    refine va_callv (va_runV (As := [.int (xs (n0 + 1)), .int (xs (n0 + 2)), .long (lw_J (xs (n0 + 3)) (xs (n0 + 4)))]) (rest := []) ⟨hx, hb, hml, hown, hts⟩ (qX2_set l dC dI H.size m0 a2 b2 cK cM er kf vf (xs (n0 + 1)) (xs (n0 + 2)) (lw_J (xs (n0 + 3)) (xs (n0 + 4)))) (cwV 3 hts gL_law_X2_set rfl rfl rfl (by decide +kernel) ⟨Nat.le_of_ble_eq_true rfl, Nat.le_of_ble_eq_true rfl⟩) ⟨fun a U g mk q => by obtain ⟨q0, q1, qP, qK, qD⟩ := q; exact ⟨q0, q1, qP, va_K.moved (u := U) (U := U.calling g mk a) (Vm.Alike.refl U.vm) qK, qD⟩, va_recv hKc hPc (ci := 2) (q0 := 0) rfl rfl, fun U hU hW => ⟨rfl, by rw [hU], by rw [hU]; exact hPc, va_K.moved hW.alike hKc, hDc.weaken (fun _ _ _ _ => trivial)⟩⟩ rfl rfl hl.1 rfl (lv_room (Nat.le_of_ble_eq_true rfl)) dL_law_167 ⟨Nat.le_trans (by omega) hrc, Nat.le_trans (by omega) hrs⟩) hS (fun q _ h => hFc q h) hFc (fun u t9 H1 locs ht hvm hw hB hz1 hk1 hS => ?_)
    obtain ⟨hP1, hK1, hD1⟩ := hB
    rw [ht] at hP1
    obtain rfl := hw
    have hK1 := va_K.moved hvm.symm hK1
    obtain ⟨hP, hD⟩ := va_join (wr := [(o, .inl (cO, 1, .inr (.inl ov))), (h0, .inr (1, [.ref a, .ref b1])), (a, .inl (cI, 256, .inl ((s_k kf (xs (n0 + 1)) (xs (n0 + 2)) (lw_J (xs (n0 + 3)) (xs (n0 + 4))), s_v vf (xs (n0 + 1)) (xs (n0 + 2)) (lw_J (xs (n0 + 3)) (xs (n0 + 4)))).1))), (b1, .inl (cJ, 256, .inr (.inl ((s_k kf (xs (n0 + 1)) (xs (n0 + 2)) (lw_J (xs (n0 + 3)) (xs (n0 + 4))), s_v vf (xs (n0 + 1)) (xs (n0 + 2)) (lw_J (xs (n0 + 3)) (xs (n0 + 4)))).2))))]) (w1 := [(m0, .inr (2, [.int ((s_c (xs (n0 + 1)) (xs (n0 + 2)) (lw_J (xs (n0 + 3)) (xs (n0 + 4))), s_k kf (xs (n0 + 1)) (xs (n0 + 2)) (lw_J (xs (n0 + 3)) (xs (n0 + 4))), s_v vf (xs (n0 + 1)) (xs (n0 + 2)) (lw_J (xs (n0 + 3)) (xs (n0 + 4)))).1), .ref a2, .ref b2])), (a2, .inl (cK, 256, .inl ((s_c (xs (n0 + 1)) (xs (n0 + 2)) (lw_J (xs (n0 + 3)) (xs (n0 + 4))), s_k kf (xs (n0 + 1)) (xs (n0 + 2)) (lw_J (xs (n0 + 3)) (xs (n0 + 4))), s_v vf (xs (n0 + 1)) (xs (n0 + 2)) (lw_J (xs (n0 + 3)) (xs (n0 + 4)))).2.1))), (b2, .inl (cM, 256, .inr (.inl ((s_c (xs (n0 + 1)) (xs (n0 + 2)) (lw_J (xs (n0 + 3)) (xs (n0 + 4))), s_k kf (xs (n0 + 1)) (xs (n0 + 2)) (lw_J (xs (n0 + 3)) (xs (n0 + 4))), s_v vf (xs (n0 + 1)) (xs (n0 + 2)) (lw_J (xs (n0 + 3)) (xs (n0 + 4)))).2.2))))]) hP hD [0, 1, 2] [3, 4, 5, 6] rfl rfl (by decide) (by decide) hk1 hFc hP1 hD1
    have hK := (hK.sub (tys' := [(cO, .long), (cI, .int), (cJ, .long)]) [2, 3, 4] rfl).app hK1
    generalize H1 = H at hP hS ⊢
    have hP : va_P (dC, dI) vwCl [(o, .inl (cO, 1, .inr (.inl ov))), (h0, .inr (1, [.ref a, .ref b1])), (a, .inl (cI, 256, .inl ((s_k kf (xs (n0 + 1)) (xs (n0 + 2)) (lw_J (xs (n0 + 3)) (xs (n0 + 4))), s_v vf (xs (n0 + 1)) (xs (n0 + 2)) (lw_J (xs (n0 + 3)) (xs (n0 + 4)))).1))), (b1, .inl (cJ, 256, .inr (.inl ((s_k kf (xs (n0 + 1)) (xs (n0 + 2)) (lw_J (xs (n0 + 3)) (xs (n0 + 4))), s_v vf (xs (n0 + 1)) (xs (n0 + 2)) (lw_J (xs (n0 + 3)) (xs (n0 + 4)))).2)))), (m0, .inr (2, [.int ((s_c (xs (n0 + 1)) (xs (n0 + 2)) (lw_J (xs (n0 + 3)) (xs (n0 + 4))), s_k kf (xs (n0 + 1)) (xs (n0 + 2)) (lw_J (xs (n0 + 3)) (xs (n0 + 4))), s_v vf (xs (n0 + 1)) (xs (n0 + 2)) (lw_J (xs (n0 + 3)) (xs (n0 + 4)))).1), .ref a2, .ref b2])), (a2, .inl (cK, 256, .inl ((s_c (xs (n0 + 1)) (xs (n0 + 2)) (lw_J (xs (n0 + 3)) (xs (n0 + 4))), s_k kf (xs (n0 + 1)) (xs (n0 + 2)) (lw_J (xs (n0 + 3)) (xs (n0 + 4))), s_v vf (xs (n0 + 1)) (xs (n0 + 2)) (lw_J (xs (n0 + 3)) (xs (n0 + 4)))).2.1))), (b2, .inl (cM, 256, .inr (.inl ((s_c (xs (n0 + 1)) (xs (n0 + 2)) (lw_J (xs (n0 + 3)) (xs (n0 + 4))), s_k kf (xs (n0 + 1)) (xs (n0 + 2)) (lw_J (xs (n0 + 3)) (xs (n0 + 4))), s_v vf (xs (n0 + 1)) (xs (n0 + 2)) (lw_J (xs (n0 + 3)) (xs (n0 + 4)))).2.2))))] H := hP
    have hD : va_D A [(o, .inl (cO, 1, .inr (.inl ov))), (h0, .inr (1, [.ref a, .ref b1])), (a, .inl (cI, 256, .inl ((s_k kf (xs (n0 + 1)) (xs (n0 + 2)) (lw_J (xs (n0 + 3)) (xs (n0 + 4))), s_v vf (xs (n0 + 1)) (xs (n0 + 2)) (lw_J (xs (n0 + 3)) (xs (n0 + 4)))).1))), (b1, .inl (cJ, 256, .inr (.inl ((s_k kf (xs (n0 + 1)) (xs (n0 + 2)) (lw_J (xs (n0 + 3)) (xs (n0 + 4))), s_v vf (xs (n0 + 1)) (xs (n0 + 2)) (lw_J (xs (n0 + 3)) (xs (n0 + 4)))).2)))), (m0, .inr (2, [.int ((s_c (xs (n0 + 1)) (xs (n0 + 2)) (lw_J (xs (n0 + 3)) (xs (n0 + 4))), s_k kf (xs (n0 + 1)) (xs (n0 + 2)) (lw_J (xs (n0 + 3)) (xs (n0 + 4))), s_v vf (xs (n0 + 1)) (xs (n0 + 2)) (lw_J (xs (n0 + 3)) (xs (n0 + 4)))).1), .ref a2, .ref b2])), (a2, .inl (cK, 256, .inl ((s_c (xs (n0 + 1)) (xs (n0 + 2)) (lw_J (xs (n0 + 3)) (xs (n0 + 4))), s_k kf (xs (n0 + 1)) (xs (n0 + 2)) (lw_J (xs (n0 + 3)) (xs (n0 + 4))), s_v vf (xs (n0 + 1)) (xs (n0 + 2)) (lw_J (xs (n0 + 3)) (xs (n0 + 4)))).2.1))), (b2, .inl (cM, 256, .inr (.inl ((s_c (xs (n0 + 1)) (xs (n0 + 2)) (lw_J (xs (n0 + 3)) (xs (n0 + 4))), s_k kf (xs (n0 + 1)) (xs (n0 + 2)) (lw_J (xs (n0 + 3)) (xs (n0 + 4))), s_v vf (xs (n0 + 1)) (xs (n0 + 2)) (lw_J (xs (n0 + 3)) (xs (n0 + 4)))).2.2))))] := hD
    have hK : va_K (dC, dI) vwCl [(cO, .long), (cI, .int), (cJ, .long), (cK, .int), (cM, .long)] s := hK
    refine lv_aload_n hx hb dL_law_170 rfl (lv_at hl 3 rfl) ?_
    have hPc := hP.sub (ws' := [(m0, .inr (2, [.int ((s_c (xs (n0 + 1)) (xs (n0 + 2)) (lw_J (xs (n0 + 3)) (xs (n0 + 4))), s_k kf (xs (n0 + 1)) (xs (n0 + 2)) (lw_J (xs (n0 + 3)) (xs (n0 + 4))), s_v vf (xs (n0 + 1)) (xs (n0 + 2)) (lw_J (xs (n0 + 3)) (xs (n0 + 4)))).1), .ref a2, .ref b2]))]) [4] rfl
    have hDc := hD.sub (ws' := [(m0, .inr (2, [.int ((s_c (xs (n0 + 1)) (xs (n0 + 2)) (lw_J (xs (n0 + 3)) (xs (n0 + 4))), s_k kf (xs (n0 + 1)) (xs (n0 + 2)) (lw_J (xs (n0 + 3)) (xs (n0 + 4))), s_v vf (xs (n0 + 1)) (xs (n0 + 2)) (lw_J (xs (n0 + 3)) (xs (n0 + 4)))).1), .ref a2, .ref b2]))]) [4] (by decide) rfl
    have hKc := hK.sub (tys' := []) [] rfl
    have hFc := va_free (wc := [(m0, .inr (2, [.int ((s_c (xs (n0 + 1)) (xs (n0 + 2)) (lw_J (xs (n0 + 3)) (xs (n0 + 4))), s_k kf (xs (n0 + 1)) (xs (n0 + 2)) (lw_J (xs (n0 + 3)) (xs (n0 + 4))), s_v vf (xs (n0 + 1)) (xs (n0 + 2)) (lw_J (xs (n0 + 3)) (xs (n0 + 4)))).1), .ref a2, .ref b2]))]) hD hS hA [4] rfl
    refine va_calli (va_runV (As := []) (rest := []) ⟨hx, hb, hml, hown, hts⟩ (qX2_thrown l dC dI H.size m0 a2 b2 ((s_c (xs (n0 + 1)) (xs (n0 + 2)) (lw_J (xs (n0 + 3)) (xs (n0 + 4))), s_k kf (xs (n0 + 1)) (xs (n0 + 2)) (lw_J (xs (n0 + 3)) (xs (n0 + 4))), s_v vf (xs (n0 + 1)) (xs (n0 + 2)) (lw_J (xs (n0 + 3)) (xs (n0 + 4)))).1)) (cwV 0 hts gL_law_X2_thrown rfl rfl rfl (by decide +kernel) ⟨Nat.le_of_ble_eq_true rfl, Nat.le_of_ble_eq_true rfl⟩) ⟨fun a U g mk q => by obtain ⟨q0, q1, qP, qK, qD⟩ := q; exact ⟨q0, q1, qP, va_K.moved (u := U) (U := U.calling g mk a) (Vm.Alike.refl U.vm) qK, qD⟩, va_recv hKc hPc (ci := 2) (q0 := 0) rfl rfl, fun U hU hW => ⟨rfl, by rw [hU], by rw [hU]; exact hPc, va_K.moved hW.alike hKc, hDc.weaken (fun _ _ _ _ => trivial)⟩⟩ rfl rfl hl.1 rfl (lv_room (Nat.le_of_ble_eq_true rfl)) dL_law_171 ⟨Nat.le_trans (by omega) hrc, Nat.le_trans (by omega) hrs⟩) hS (fun q _ h => hFc q h) hFc (fun r_5 u t9 H1 locs ht hvm hw hB hz1 hk1 hS => ?_)
    obtain ⟨hP1, hK1, hD1⟩ := hB
    rw [ht] at hP1
    have h_6 := hw
    have hK1 := va_K.moved hvm.symm hK1
    obtain ⟨hP, hD⟩ := va_join (wr := [(o, .inl (cO, 1, .inr (.inl ov))), (h0, .inr (1, [.ref a, .ref b1])), (a, .inl (cI, 256, .inl ((s_k kf (xs (n0 + 1)) (xs (n0 + 2)) (lw_J (xs (n0 + 3)) (xs (n0 + 4))), s_v vf (xs (n0 + 1)) (xs (n0 + 2)) (lw_J (xs (n0 + 3)) (xs (n0 + 4)))).1))), (b1, .inl (cJ, 256, .inr (.inl ((s_k kf (xs (n0 + 1)) (xs (n0 + 2)) (lw_J (xs (n0 + 3)) (xs (n0 + 4))), s_v vf (xs (n0 + 1)) (xs (n0 + 2)) (lw_J (xs (n0 + 3)) (xs (n0 + 4)))).2)))), (a2, .inl (cK, 256, .inl ((s_c (xs (n0 + 1)) (xs (n0 + 2)) (lw_J (xs (n0 + 3)) (xs (n0 + 4))), s_k kf (xs (n0 + 1)) (xs (n0 + 2)) (lw_J (xs (n0 + 3)) (xs (n0 + 4))), s_v vf (xs (n0 + 1)) (xs (n0 + 2)) (lw_J (xs (n0 + 3)) (xs (n0 + 4)))).2.1))), (b2, .inl (cM, 256, .inr (.inl ((s_c (xs (n0 + 1)) (xs (n0 + 2)) (lw_J (xs (n0 + 3)) (xs (n0 + 4))), s_k kf (xs (n0 + 1)) (xs (n0 + 2)) (lw_J (xs (n0 + 3)) (xs (n0 + 4))), s_v vf (xs (n0 + 1)) (xs (n0 + 2)) (lw_J (xs (n0 + 3)) (xs (n0 + 4)))).2.2))))]) (w1 := [(m0, .inr (2, [.int ((s_c (xs (n0 + 1)) (xs (n0 + 2)) (lw_J (xs (n0 + 3)) (xs (n0 + 4))), s_k kf (xs (n0 + 1)) (xs (n0 + 2)) (lw_J (xs (n0 + 3)) (xs (n0 + 4))), s_v vf (xs (n0 + 1)) (xs (n0 + 2)) (lw_J (xs (n0 + 3)) (xs (n0 + 4)))).1), .ref a2, .ref b2]))]) hP hD [4] [0, 1, 2, 3, 5, 6] rfl rfl (by decide) (by decide) hk1 hFc hP1 hD1
    have hK := (hK.sub (tys' := [(cO, .long), (cI, .int), (cJ, .long), (cK, .int), (cM, .long)]) [0, 1, 2, 3, 4] rfl).app hK1
    generalize H1 = H at hP hS ⊢
    have hP : va_P (dC, dI) vwCl [(o, .inl (cO, 1, .inr (.inl ov))), (h0, .inr (1, [.ref a, .ref b1])), (a, .inl (cI, 256, .inl ((s_k kf (xs (n0 + 1)) (xs (n0 + 2)) (lw_J (xs (n0 + 3)) (xs (n0 + 4))), s_v vf (xs (n0 + 1)) (xs (n0 + 2)) (lw_J (xs (n0 + 3)) (xs (n0 + 4)))).1))), (b1, .inl (cJ, 256, .inr (.inl ((s_k kf (xs (n0 + 1)) (xs (n0 + 2)) (lw_J (xs (n0 + 3)) (xs (n0 + 4))), s_v vf (xs (n0 + 1)) (xs (n0 + 2)) (lw_J (xs (n0 + 3)) (xs (n0 + 4)))).2)))), (a2, .inl (cK, 256, .inl ((s_c (xs (n0 + 1)) (xs (n0 + 2)) (lw_J (xs (n0 + 3)) (xs (n0 + 4))), s_k kf (xs (n0 + 1)) (xs (n0 + 2)) (lw_J (xs (n0 + 3)) (xs (n0 + 4))), s_v vf (xs (n0 + 1)) (xs (n0 + 2)) (lw_J (xs (n0 + 3)) (xs (n0 + 4)))).2.1))), (b2, .inl (cM, 256, .inr (.inl ((s_c (xs (n0 + 1)) (xs (n0 + 2)) (lw_J (xs (n0 + 3)) (xs (n0 + 4))), s_k kf (xs (n0 + 1)) (xs (n0 + 2)) (lw_J (xs (n0 + 3)) (xs (n0 + 4))), s_v vf (xs (n0 + 1)) (xs (n0 + 2)) (lw_J (xs (n0 + 3)) (xs (n0 + 4)))).2.2)))), (m0, .inr (2, [.int ((s_c (xs (n0 + 1)) (xs (n0 + 2)) (lw_J (xs (n0 + 3)) (xs (n0 + 4))), s_k kf (xs (n0 + 1)) (xs (n0 + 2)) (lw_J (xs (n0 + 3)) (xs (n0 + 4))), s_v vf (xs (n0 + 1)) (xs (n0 + 2)) (lw_J (xs (n0 + 3)) (xs (n0 + 4)))).1), .ref a2, .ref b2]))] H := hP
    have hD : va_D A [(o, .inl (cO, 1, .inr (.inl ov))), (h0, .inr (1, [.ref a, .ref b1])), (a, .inl (cI, 256, .inl ((s_k kf (xs (n0 + 1)) (xs (n0 + 2)) (lw_J (xs (n0 + 3)) (xs (n0 + 4))), s_v vf (xs (n0 + 1)) (xs (n0 + 2)) (lw_J (xs (n0 + 3)) (xs (n0 + 4)))).1))), (b1, .inl (cJ, 256, .inr (.inl ((s_k kf (xs (n0 + 1)) (xs (n0 + 2)) (lw_J (xs (n0 + 3)) (xs (n0 + 4))), s_v vf (xs (n0 + 1)) (xs (n0 + 2)) (lw_J (xs (n0 + 3)) (xs (n0 + 4)))).2)))), (a2, .inl (cK, 256, .inl ((s_c (xs (n0 + 1)) (xs (n0 + 2)) (lw_J (xs (n0 + 3)) (xs (n0 + 4))), s_k kf (xs (n0 + 1)) (xs (n0 + 2)) (lw_J (xs (n0 + 3)) (xs (n0 + 4))), s_v vf (xs (n0 + 1)) (xs (n0 + 2)) (lw_J (xs (n0 + 3)) (xs (n0 + 4)))).2.1))), (b2, .inl (cM, 256, .inr (.inl ((s_c (xs (n0 + 1)) (xs (n0 + 2)) (lw_J (xs (n0 + 3)) (xs (n0 + 4))), s_k kf (xs (n0 + 1)) (xs (n0 + 2)) (lw_J (xs (n0 + 3)) (xs (n0 + 4))), s_v vf (xs (n0 + 1)) (xs (n0 + 2)) (lw_J (xs (n0 + 3)) (xs (n0 + 4)))).2.2)))), (m0, .inr (2, [.int ((s_c (xs (n0 + 1)) (xs (n0 + 2)) (lw_J (xs (n0 + 3)) (xs (n0 + 4))), s_k kf (xs (n0 + 1)) (xs (n0 + 2)) (lw_J (xs (n0 + 3)) (xs (n0 + 4))), s_v vf (xs (n0 + 1)) (xs (n0 + 2)) (lw_J (xs (n0 + 3)) (xs (n0 + 4)))).1), .ref a2, .ref b2]))] := hD
    have hK : va_K (dC, dI) vwCl [(cO, .long), (cI, .int), (cJ, .long), (cK, .int), (cM, .long)] s := hK
    refine lv_iload hx hb dL_law_174 (lv_at hl 0 rfl) ?_
    refine lv_icmp_eq (tgt := 181) hx hb dL_law_176 (by decide) (fun c_7 => ?_) (fun c_7 => ?_)
    · refine lv_goto (tgt := 879) hx hb dL_law_181 (by decide) ?_
      refine W.widen (k := cells + 5) (n := slots + 30) (by omega) (by omega) ?_
      exact K ((s_k kf (xs (n0 + 1)) (xs (n0 + 2)) (lw_J (xs (n0 + 3)) (xs (n0 + 4))), s_v vf (xs (n0 + 1)) (xs (n0 + 2)) (lw_J (xs (n0 + 3)) (xs (n0 + 4)))).1) ((s_k kf (xs (n0 + 1)) (xs (n0 + 2)) (lw_J (xs (n0 + 3)) (xs (n0 + 4))), s_v vf (xs (n0 + 1)) (xs (n0 + 2)) (lw_J (xs (n0 + 3)) (xs (n0 + 4)))).2) ov ((s_c (xs (n0 + 1)) (xs (n0 + 2)) (lw_J (xs (n0 + 3)) (xs (n0 + 4))), s_k kf (xs (n0 + 1)) (xs (n0 + 2)) (lw_J (xs (n0 + 3)) (xs (n0 + 4))), s_v vf (xs (n0 + 1)) (xs (n0 + 2)) (lw_J (xs (n0 + 3)) (xs (n0 + 4)))).1) _ _ ls (okA_set hR _ _ _) (hP.sub [1, 2, 3, 6, 4, 5, 0] rfl) (hD.sub [1, 2, 3, 6, 4, 5, 0] (by decide) rfl) hS (lv_sub hl [1, 2, 3, 4, 5] rfl)
    · exact absurd (by rw [h_6, h_2]) c_7

set_option maxHeartbeats 4000000 in
set_option maxRecDepth 100000 in
theorem law_fill {p : Program} {l : Launch} {e : Env} {s : State} {m : MethodId} {below : List Frame} {meth : Method} {c : Code} {b L : Nat} {xs : Nat → Int32} {A : Nat → Prop} {dC : Nat → ClassId} {dI : Nat → Nat → Nat} {h0 a b1 m0 a2 b2 o : Nat} {cI cJ cK cM cO : ClassId} (C0 : lw_C p l s m c b L xs A) (hK : va_K (dC, dI) vwCl [(cI, .int), (cJ, .long), (cK, .int), (cM, .long), (cO, .long)] s) {n0 : Nat} (hn : n0 + 5 < L) {cells slots : Nat} (hrc : cells + 5 ≤ room_1.cells) (hrs : slots + 30 ≤ room_1.slots) {kf : Nat → Int32} {vf ov : Nat → Int64} {er : Int32} (hR : okA kf vf) {H : Heap} {locs : List Loc} {ls : Array Slot} (hP : va_P (dC, dI) vwCl [(h0, .inr (1, [.ref a, .ref b1])), (a, .inl (cI, 256, .inl kf)), (b1, .inl (cJ, 256, .inr (.inl vf))), (m0, .inr (2, [.int er, .ref a2, .ref b2])), (a2, .inl (cK, 256, .inl kf)), (b2, .inl (cM, 256, .inr (.inl vf))), (o, .inl (cO, 1, .inr (.inl ov)))] H) (hD : va_D A [(h0, .inr (1, [.ref a, .ref b1])), (a, .inl (cI, 256, .inl kf)), (b1, .inl (cJ, 256, .inr (.inl vf))), (m0, .inr (2, [.int er, .ref a2, .ref b2])), (a2, .inl (cK, 256, .inl kf)), (b2, .inl (cM, 256, .inr (.inl vf))), (o, .inl (cO, 1, .inr (.inl ov)))]) (hS : va_S A s.heap H locs) (hl : lv_has ls 8 [(0, .ref b), (1, .ref h0), (2, .ref m0), (3, .ref o), (4, .int (nI n0))]) (K : ∀ (kf : Nat → Int32) (vf ov : Nat → Int64) (er : Int32) (H : Heap) (locs : List Loc) (ls : Array Slot), okA kf vf → va_P (dC, dI) vwCl [(h0, .inr (1, [.ref a, .ref b1])), (a, .inl (cI, 256, .inl kf)), (b1, .inl (cJ, 256, .inr (.inl vf))), (m0, .inr (2, [.int er, .ref a2, .ref b2])), (a2, .inl (cK, 256, .inl kf)), (b2, .inl (cM, 256, .inr (.inl vf))), (o, .inl (cO, 1, .inr (.inl ov)))] H → va_D A [(h0, .inr (1, [.ref a, .ref b1])), (a, .inl (cI, 256, .inl kf)), (b1, .inl (cJ, 256, .inr (.inl vf))), (m0, .inr (2, [.int er, .ref a2, .ref b2])), (a2, .inl (cK, 256, .inl kf)), (b2, .inl (cM, 256, .inr (.inl vf))), (o, .inl (cO, 1, .inr (.inl ov)))] → va_S A s.heap H locs → lv_has ls 8 [(0, .ref b), (1, .ref h0), (2, .ref m0), (3, .ref o), (4, .int (nI n0))] → W p l e room_1 s m #[Value.ref b] below meth c H locs (cells + 5) (slots + 30) (lw_Z below #[Value.ref b] s) (F0 m 879 ls [])) : W p l e room_1 s m #[Value.ref b] below meth c H locs cells slots (lw_Z below #[Value.ref b] s) (F0 m 184 ls []) := by
  obtain ⟨hx, hb, hml, hown, hts, hX, hbl, hbA, hA, hlt, hE, hZ, hL⟩ := C0
  refine lv_aload_n hx hb dL_law_184 rfl (lv_at hl 1 rfl) ?_
  refine lv_aload_n hx hb dL_law_185 rfl (lv_at hl 0 rfl) ?_
  refine lv_iload hx hb dL_law_186 (lv_at hl 4 rfl) ?_
  refine lv_iconst (v := 1) hx hb dL_law_188 (by decide) ?_
  refine lv_iadd hx hb dL_law_189 ?_
  refine lw_sld (c9 := 1) hx hb hX hbl hbA hS rfl (by omega) hL dL_law_190 ?_
  refine lv_aload_n hx hb dL_law_191 rfl (lv_at hl 0 rfl) ?_
  refine lv_iload hx hb dL_law_192 (lv_at hl 4 rfl) ?_
  refine lv_iconst (v := 2) hx hb dL_law_194 (by decide) ?_
  refine lv_iadd hx hb dL_law_195 ?_
  refine lw_sld (c9 := 2) hx hb hX hbl hbA hS rfl (by omega) hL dL_law_196 ?_
  refine lv_aload_n hx hb dL_law_197 rfl (lv_at hl 0 rfl) ?_
  refine lv_iload hx hb dL_law_198 (lv_at hl 4 rfl) ?_
  refine lv_iconst (v := 3) hx hb dL_law_200 (by decide) ?_
  refine lv_iadd hx hb dL_law_201 ?_
  refine lw_sld (c9 := 3) hx hb hX hbl hbA hS rfl (by omega) hL dL_law_202 ?_
  refine lv_aload_n hx hb dL_law_203 rfl (lv_at hl 0 rfl) ?_
  refine lv_iload hx hb dL_law_204 (lv_at hl 4 rfl) ?_
  refine lv_iconst (v := 4) hx hb dL_law_206 (by decide) ?_
  refine lv_iadd hx hb dL_law_207 ?_
  refine lw_sld (c9 := 4) hx hb hX hbl hbA hS rfl (by omega) hL dL_law_208 ?_
  refine lv_i2l (v := (xs (n0 + 4)).toInt64) hx hb dL_law_209 rfl ?_
  refine lv_bipush (v := 32) hx hb dL_law_210 (by decide) ?_
  refine lv_lshl (v := ((xs (n0 + 4)).toInt64) <<< ((32 : Int32).toInt64 &&& 63)) hx hb dL_law_212 rfl ?_
  refine lv_aload_n hx hb dL_law_213 rfl (lv_at hl 0 rfl) ?_
  refine lv_iload hx hb dL_law_214 (lv_at hl 4 rfl) ?_
  refine lv_iconst (v := 5) hx hb dL_law_216 (by decide) ?_
  refine lv_iadd hx hb dL_law_217 ?_
  refine lw_sld (c9 := 5) hx hb hX hbl hbA hS rfl (by omega) hL dL_law_218 ?_
  refine lv_i2l (v := (xs (n0 + 5)).toInt64) hx hb dL_law_219 rfl ?_
  refine lv_ldc2 hx hb hown (hts (.constantLong RL 54 (4294967295)) kLaw_0) dL_law_220 ?_
  refine lv_land hx hb dL_law_223 ?_
  refine lv_lor hx hb dL_law_224 ?_
  refine lw_lJ ?_
  have hPc := hP.sub (ws' := [(h0, .inr (1, [.ref a, .ref b1])), (a, .inl (cI, 256, .inl kf)), (b1, .inl (cJ, 256, .inr (.inl vf)))]) [0, 1, 2] rfl
  have hDc := hD.sub (ws' := [(h0, .inr (1, [.ref a, .ref b1])), (a, .inl (cI, 256, .inl kf)), (b1, .inl (cJ, 256, .inr (.inl vf)))]) [0, 1, 2] (by decide) rfl
  have hKc := hK.sub (tys' := [(cI, .int), (cJ, .long)]) [0, 1] rfl
  have hFc := va_free (wc := [(h0, .inr (1, [.ref a, .ref b1])), (a, .inl (cI, 256, .inl kf)), (b1, .inl (cJ, 256, .inr (.inl vf)))]) hD hS hA [0, 1, 2] rfl
  refine vx_calli (vx_runSX (As := [.ref h0, .int (xs (n0 + 1)), .int (xs (n0 + 2)), .int (xs (n0 + 3)), .long (lw_J (xs (n0 + 4)) (xs (n0 + 5)))]) (rest := []) ⟨hx, hb, hml, hown, hts⟩ (qL_fill l hlt dC dI H.size h0 a b1 cI cJ kf vf (xs (n0 + 1)) (xs (n0 + 2)) (xs (n0 + 3)) (lw_J (xs (n0 + 4)) (xs (n0 + 5)))) (vx_cwSW 5 hts gL_law_L_fill rfl rfl rfl (by decide +kernel) ⟨Nat.le_of_ble_eq_true rfl, Nat.le_of_ble_eq_true rfl⟩) ⟨fun a U g mk q => by obtain ⟨q0, q1, qP, qK, qD, qE, qZ⟩ := q; exact ⟨q0, q1, qP, va_K.moved (u := U) (U := U.calling g mk a) (Vm.Alike.refl U.vm) qK, qD, ev.same (u := U) rfl qE, ez.moved (U := U.calling g mk a) qZ (Vm.Alike.refl U.vm)⟩, fun U hU hW => ⟨rfl, by rw [hU], by rw [hU]; exact hPc, va_K.moved hW.alike hKc, hDc.weaken (fun _ _ _ _ => trivial), hE.warm hW, by rw [hU]; exact ((hZ.kept hS.2.1).narrow hFc).moved hW.alike⟩⟩ rfl rfl hl.1 rfl (lv_room (Nat.le_of_ble_eq_true rfl)) dL_law_225 ⟨Nat.le_trans (by omega) hrc, Nat.le_trans (by omega) hrs⟩) hS (fun q _ h => hFc q h) hFc (fun q _ h => hFc q h) (fun E ce q9 u t9 H1 locs ht hvm hw hB hz1 hk1 hS hce hcv hcl => ?_) (fun r_1 u t9 H1 locs ht hvm hw hB hz1 hk1 hS => ?_)
  · exact hB.1.elim
  · obtain ⟨hP1, hK1, hD1⟩ := hB
    rw [ht] at hP1
    obtain ⟨h_2, rfl⟩ := hw
    have hK1 := va_K.moved hvm.symm hK1
    obtain ⟨hP, hD⟩ := va_join (wr := [(m0, .inr (2, [.int er, .ref a2, .ref b2])), (a2, .inl (cK, 256, .inl kf)), (b2, .inl (cM, 256, .inr (.inl vf))), (o, .inl (cO, 1, .inr (.inl ov)))]) (w1 := [(h0, .inr (1, [.ref a, .ref b1])), (a, .inl (cI, 256, .inl ((f_k kf (xs (n0 + 1)) (xs (n0 + 2)) (xs (n0 + 3)) (lw_J (xs (n0 + 4)) (xs (n0 + 5))), f_v vf (xs (n0 + 1)) (xs (n0 + 2)) (xs (n0 + 3)) (lw_J (xs (n0 + 4)) (xs (n0 + 5)))).1))), (b1, .inl (cJ, 256, .inr (.inl ((f_k kf (xs (n0 + 1)) (xs (n0 + 2)) (xs (n0 + 3)) (lw_J (xs (n0 + 4)) (xs (n0 + 5))), f_v vf (xs (n0 + 1)) (xs (n0 + 2)) (xs (n0 + 3)) (lw_J (xs (n0 + 4)) (xs (n0 + 5)))).2))))]) hP hD [0, 1, 2] [3, 4, 5, 6] rfl rfl (by decide) (by decide) hk1 hFc hP1 hD1
    have hK := (hK.sub (tys' := [(cK, .int), (cM, .long), (cO, .long)]) [2, 3, 4] rfl).app hK1
    generalize H1 = H at hP hS ⊢
    have hP : va_P (dC, dI) vwCl [(m0, .inr (2, [.int er, .ref a2, .ref b2])), (a2, .inl (cK, 256, .inl kf)), (b2, .inl (cM, 256, .inr (.inl vf))), (o, .inl (cO, 1, .inr (.inl ov))), (h0, .inr (1, [.ref a, .ref b1])), (a, .inl (cI, 256, .inl ((f_k kf (xs (n0 + 1)) (xs (n0 + 2)) (xs (n0 + 3)) (lw_J (xs (n0 + 4)) (xs (n0 + 5))), f_v vf (xs (n0 + 1)) (xs (n0 + 2)) (xs (n0 + 3)) (lw_J (xs (n0 + 4)) (xs (n0 + 5)))).1))), (b1, .inl (cJ, 256, .inr (.inl ((f_k kf (xs (n0 + 1)) (xs (n0 + 2)) (xs (n0 + 3)) (lw_J (xs (n0 + 4)) (xs (n0 + 5))), f_v vf (xs (n0 + 1)) (xs (n0 + 2)) (xs (n0 + 3)) (lw_J (xs (n0 + 4)) (xs (n0 + 5)))).2))))] H := hP
    have hD : va_D A [(m0, .inr (2, [.int er, .ref a2, .ref b2])), (a2, .inl (cK, 256, .inl kf)), (b2, .inl (cM, 256, .inr (.inl vf))), (o, .inl (cO, 1, .inr (.inl ov))), (h0, .inr (1, [.ref a, .ref b1])), (a, .inl (cI, 256, .inl ((f_k kf (xs (n0 + 1)) (xs (n0 + 2)) (xs (n0 + 3)) (lw_J (xs (n0 + 4)) (xs (n0 + 5))), f_v vf (xs (n0 + 1)) (xs (n0 + 2)) (xs (n0 + 3)) (lw_J (xs (n0 + 4)) (xs (n0 + 5)))).1))), (b1, .inl (cJ, 256, .inr (.inl ((f_k kf (xs (n0 + 1)) (xs (n0 + 2)) (xs (n0 + 3)) (lw_J (xs (n0 + 4)) (xs (n0 + 5))), f_v vf (xs (n0 + 1)) (xs (n0 + 2)) (xs (n0 + 3)) (lw_J (xs (n0 + 4)) (xs (n0 + 5)))).2))))] := hD
    have hK : va_K (dC, dI) vwCl [(cK, .int), (cM, .long), (cO, .long), (cI, .int), (cJ, .long)] s := hK
    refine lv_istore (lv' := [(5, .int r_1), (0, .ref b), (1, .ref h0), (2, .ref m0), (3, .ref o), (4, .int (nI n0))]) hx hb dL_law_228 hl (by decide) rfl (fun ls hl => ?_)
    refine lv_aload_n hx hb dL_law_230 rfl (lv_at hl 3 rfl) ?_
    refine lv_aload_n hx hb dL_law_231 rfl (lv_at hl 1 rfl) ?_
    refine lv_iload hx hb dL_law_232 (lv_at hl 5 rfl) ?_
    refine lv_iconst (v := 1) hx hb dL_law_234 (by decide) ?_
    refine lv_iadd hx hb dL_law_235 ?_
    refine lw_sld (c9 := 1) hx hb hX hbl hbA hS rfl (by omega) hL dL_law_236 ?_
    refine lv_aload_n hx hb dL_law_237 rfl (lv_at hl 1 rfl) ?_
    refine lv_iload hx hb dL_law_238 (lv_at hl 5 rfl) ?_
    refine lv_iconst (v := 2) hx hb dL_law_240 (by decide) ?_
    refine lv_iadd hx hb dL_law_241 ?_
    refine lw_sld (c9 := 2) hx hb hX hbl hbA hS rfl (by omega) hL dL_law_242 ?_
    refine lv_aload_n hx hb dL_law_243 rfl (lv_at hl 1 rfl) ?_
    refine lv_iload hx hb dL_law_244 (lv_at hl 5 rfl) ?_
    refine lv_iconst (v := 3) hx hb dL_law_246 (by decide) ?_
    refine lv_iadd hx hb dL_law_247 ?_
    refine lw_sld (c9 := 3) hx hb hX hbl hbA hS rfl (by omega) hL dL_law_248 ?_
    refine lv_aload_n hx hb dL_law_249 rfl (lv_at hl 1 rfl) ?_
    refine lv_iload hx hb dL_law_250 (lv_at hl 5 rfl) ?_
    refine lv_iconst (v := 4) hx hb dL_law_252 (by decide) ?_
    refine lv_iadd hx hb dL_law_253 ?_
    refine lw_sld (c9 := 4) hx hb hX hbl hbA hS rfl (by omega) hL dL_law_254 ?_
    refine lv_i2l (v := (xs (n0 + 4)).toInt64) hx hb dL_law_255 rfl ?_
    refine lv_bipush (v := 32) hx hb dL_law_256 (by decide) ?_
    refine lv_lshl (v := ((xs (n0 + 4)).toInt64) <<< ((32 : Int32).toInt64 &&& 63)) hx hb dL_law_258 rfl ?_
    refine lv_aload_n hx hb dL_law_259 rfl (lv_at hl 1 rfl) ?_
    refine lv_iload hx hb dL_law_260 (lv_at hl 5 rfl) ?_
    refine lv_iconst (v := 5) hx hb dL_law_262 (by decide) ?_
    refine lv_iadd hx hb dL_law_263 ?_
    refine lw_sld (c9 := 5) hx hb hX hbl hbA hS rfl (by omega) hL dL_law_264 ?_
    refine lv_i2l (v := (xs (n0 + 5)).toInt64) hx hb dL_law_265 rfl ?_
    refine lv_ldc2 hx hb hown (hts (.constantLong RL 54 (4294967295)) kLaw_0) dL_law_266 ?_
    refine lv_land hx hb dL_law_269 ?_
    refine lv_lor hx hb dL_law_270 ?_
    refine lw_lJ ?_
    have hPc := hP.sub (ws' := [(m0, .inr (2, [.int er, .ref a2, .ref b2])), (a2, .inl (cK, 256, .inl kf)), (b2, .inl (cM, 256, .inr (.inl vf)))]) [0, 1, 2] rfl
    have hDc := hD.sub (ws' := [(m0, .inr (2, [.int er, .ref a2, .ref b2])), (a2, .inl (cK, 256, .inl kf)), (b2, .inl (cM, 256, .inr (.inl vf)))]) [0, 1, 2] (by decide) rfl
    have hKc := hK.sub (tys' := [(cK, .int), (cM, .long)]) [0, 1] rfl
    have hFc := va_free (wc := [(m0, .inr (2, [.int er, .ref a2, .ref b2])), (a2, .inl (cK, 256, .inl kf)), (b2, .inl (cM, 256, .inr (.inl vf)))]) hD hS hA [0, 1, 2] rfl
    refine va_callv (va_runV (As := [.int (xs (n0 + 1)), .int (xs (n0 + 2)), .int (xs (n0 + 3)), .long (lw_J (xs (n0 + 4)) (xs (n0 + 5)))]) (rest := []) ⟨hx, hb, hml, hown, hts⟩ (qX2_fill l dC dI H.size m0 a2 b2 cK cM er kf vf (xs (n0 + 1)) (xs (n0 + 2)) (xs (n0 + 3)) (lw_J (xs (n0 + 4)) (xs (n0 + 5)))) (cwV 4 hts gL_law_X2_fill rfl rfl rfl (by decide +kernel) ⟨Nat.le_of_ble_eq_true rfl, Nat.le_of_ble_eq_true rfl⟩) ⟨fun a U g mk q => by obtain ⟨q0, q1, qP, qK, qD⟩ := q; exact ⟨q0, q1, qP, va_K.moved (u := U) (U := U.calling g mk a) (Vm.Alike.refl U.vm) qK, qD⟩, va_recv hKc hPc (ci := 2) (q0 := 0) rfl rfl, fun U hU hW => ⟨rfl, by rw [hU], by rw [hU]; exact hPc, va_K.moved hW.alike hKc, hDc.weaken (fun _ _ _ _ => trivial)⟩⟩ rfl rfl hl.1 rfl (lv_room (Nat.le_of_ble_eq_true rfl)) dL_law_271 ⟨Nat.le_trans (by omega) hrc, Nat.le_trans (by omega) hrs⟩) hS (fun q _ h => hFc q h) hFc (fun u t9 H1 locs ht hvm hw hB hz1 hk1 hS => ?_)
    obtain ⟨hP1, hK1, hD1⟩ := hB
    rw [ht] at hP1
    obtain rfl := hw
    have hK1 := va_K.moved hvm.symm hK1
    obtain ⟨hP, hD⟩ := va_join (wr := [(o, .inl (cO, 1, .inr (.inl ov))), (h0, .inr (1, [.ref a, .ref b1])), (a, .inl (cI, 256, .inl ((f_k kf (xs (n0 + 1)) (xs (n0 + 2)) (xs (n0 + 3)) (lw_J (xs (n0 + 4)) (xs (n0 + 5))), f_v vf (xs (n0 + 1)) (xs (n0 + 2)) (xs (n0 + 3)) (lw_J (xs (n0 + 4)) (xs (n0 + 5)))).1))), (b1, .inl (cJ, 256, .inr (.inl ((f_k kf (xs (n0 + 1)) (xs (n0 + 2)) (xs (n0 + 3)) (lw_J (xs (n0 + 4)) (xs (n0 + 5))), f_v vf (xs (n0 + 1)) (xs (n0 + 2)) (xs (n0 + 3)) (lw_J (xs (n0 + 4)) (xs (n0 + 5)))).2))))]) (w1 := [(m0, .inr (2, [.int ((f_c (xs (n0 + 1)) (xs (n0 + 2)) (xs (n0 + 3)) (lw_J (xs (n0 + 4)) (xs (n0 + 5))), f_k kf (xs (n0 + 1)) (xs (n0 + 2)) (xs (n0 + 3)) (lw_J (xs (n0 + 4)) (xs (n0 + 5))), f_v vf (xs (n0 + 1)) (xs (n0 + 2)) (xs (n0 + 3)) (lw_J (xs (n0 + 4)) (xs (n0 + 5)))).1), .ref a2, .ref b2])), (a2, .inl (cK, 256, .inl ((f_c (xs (n0 + 1)) (xs (n0 + 2)) (xs (n0 + 3)) (lw_J (xs (n0 + 4)) (xs (n0 + 5))), f_k kf (xs (n0 + 1)) (xs (n0 + 2)) (xs (n0 + 3)) (lw_J (xs (n0 + 4)) (xs (n0 + 5))), f_v vf (xs (n0 + 1)) (xs (n0 + 2)) (xs (n0 + 3)) (lw_J (xs (n0 + 4)) (xs (n0 + 5)))).2.1))), (b2, .inl (cM, 256, .inr (.inl ((f_c (xs (n0 + 1)) (xs (n0 + 2)) (xs (n0 + 3)) (lw_J (xs (n0 + 4)) (xs (n0 + 5))), f_k kf (xs (n0 + 1)) (xs (n0 + 2)) (xs (n0 + 3)) (lw_J (xs (n0 + 4)) (xs (n0 + 5))), f_v vf (xs (n0 + 1)) (xs (n0 + 2)) (xs (n0 + 3)) (lw_J (xs (n0 + 4)) (xs (n0 + 5)))).2.2))))]) hP hD [0, 1, 2] [3, 4, 5, 6] rfl rfl (by decide) (by decide) hk1 hFc hP1 hD1
    have hK := (hK.sub (tys' := [(cO, .long), (cI, .int), (cJ, .long)]) [2, 3, 4] rfl).app hK1
    generalize H1 = H at hP hS ⊢
    have hP : va_P (dC, dI) vwCl [(o, .inl (cO, 1, .inr (.inl ov))), (h0, .inr (1, [.ref a, .ref b1])), (a, .inl (cI, 256, .inl ((f_k kf (xs (n0 + 1)) (xs (n0 + 2)) (xs (n0 + 3)) (lw_J (xs (n0 + 4)) (xs (n0 + 5))), f_v vf (xs (n0 + 1)) (xs (n0 + 2)) (xs (n0 + 3)) (lw_J (xs (n0 + 4)) (xs (n0 + 5)))).1))), (b1, .inl (cJ, 256, .inr (.inl ((f_k kf (xs (n0 + 1)) (xs (n0 + 2)) (xs (n0 + 3)) (lw_J (xs (n0 + 4)) (xs (n0 + 5))), f_v vf (xs (n0 + 1)) (xs (n0 + 2)) (xs (n0 + 3)) (lw_J (xs (n0 + 4)) (xs (n0 + 5)))).2)))), (m0, .inr (2, [.int ((f_c (xs (n0 + 1)) (xs (n0 + 2)) (xs (n0 + 3)) (lw_J (xs (n0 + 4)) (xs (n0 + 5))), f_k kf (xs (n0 + 1)) (xs (n0 + 2)) (xs (n0 + 3)) (lw_J (xs (n0 + 4)) (xs (n0 + 5))), f_v vf (xs (n0 + 1)) (xs (n0 + 2)) (xs (n0 + 3)) (lw_J (xs (n0 + 4)) (xs (n0 + 5)))).1), .ref a2, .ref b2])), (a2, .inl (cK, 256, .inl ((f_c (xs (n0 + 1)) (xs (n0 + 2)) (xs (n0 + 3)) (lw_J (xs (n0 + 4)) (xs (n0 + 5))), f_k kf (xs (n0 + 1)) (xs (n0 + 2)) (xs (n0 + 3)) (lw_J (xs (n0 + 4)) (xs (n0 + 5))), f_v vf (xs (n0 + 1)) (xs (n0 + 2)) (xs (n0 + 3)) (lw_J (xs (n0 + 4)) (xs (n0 + 5)))).2.1))), (b2, .inl (cM, 256, .inr (.inl ((f_c (xs (n0 + 1)) (xs (n0 + 2)) (xs (n0 + 3)) (lw_J (xs (n0 + 4)) (xs (n0 + 5))), f_k kf (xs (n0 + 1)) (xs (n0 + 2)) (xs (n0 + 3)) (lw_J (xs (n0 + 4)) (xs (n0 + 5))), f_v vf (xs (n0 + 1)) (xs (n0 + 2)) (xs (n0 + 3)) (lw_J (xs (n0 + 4)) (xs (n0 + 5)))).2.2))))] H := hP
    have hD : va_D A [(o, .inl (cO, 1, .inr (.inl ov))), (h0, .inr (1, [.ref a, .ref b1])), (a, .inl (cI, 256, .inl ((f_k kf (xs (n0 + 1)) (xs (n0 + 2)) (xs (n0 + 3)) (lw_J (xs (n0 + 4)) (xs (n0 + 5))), f_v vf (xs (n0 + 1)) (xs (n0 + 2)) (xs (n0 + 3)) (lw_J (xs (n0 + 4)) (xs (n0 + 5)))).1))), (b1, .inl (cJ, 256, .inr (.inl ((f_k kf (xs (n0 + 1)) (xs (n0 + 2)) (xs (n0 + 3)) (lw_J (xs (n0 + 4)) (xs (n0 + 5))), f_v vf (xs (n0 + 1)) (xs (n0 + 2)) (xs (n0 + 3)) (lw_J (xs (n0 + 4)) (xs (n0 + 5)))).2)))), (m0, .inr (2, [.int ((f_c (xs (n0 + 1)) (xs (n0 + 2)) (xs (n0 + 3)) (lw_J (xs (n0 + 4)) (xs (n0 + 5))), f_k kf (xs (n0 + 1)) (xs (n0 + 2)) (xs (n0 + 3)) (lw_J (xs (n0 + 4)) (xs (n0 + 5))), f_v vf (xs (n0 + 1)) (xs (n0 + 2)) (xs (n0 + 3)) (lw_J (xs (n0 + 4)) (xs (n0 + 5)))).1), .ref a2, .ref b2])), (a2, .inl (cK, 256, .inl ((f_c (xs (n0 + 1)) (xs (n0 + 2)) (xs (n0 + 3)) (lw_J (xs (n0 + 4)) (xs (n0 + 5))), f_k kf (xs (n0 + 1)) (xs (n0 + 2)) (xs (n0 + 3)) (lw_J (xs (n0 + 4)) (xs (n0 + 5))), f_v vf (xs (n0 + 1)) (xs (n0 + 2)) (xs (n0 + 3)) (lw_J (xs (n0 + 4)) (xs (n0 + 5)))).2.1))), (b2, .inl (cM, 256, .inr (.inl ((f_c (xs (n0 + 1)) (xs (n0 + 2)) (xs (n0 + 3)) (lw_J (xs (n0 + 4)) (xs (n0 + 5))), f_k kf (xs (n0 + 1)) (xs (n0 + 2)) (xs (n0 + 3)) (lw_J (xs (n0 + 4)) (xs (n0 + 5))), f_v vf (xs (n0 + 1)) (xs (n0 + 2)) (xs (n0 + 3)) (lw_J (xs (n0 + 4)) (xs (n0 + 5)))).2.2))))] := hD
    have hK : va_K (dC, dI) vwCl [(cO, .long), (cI, .int), (cJ, .long), (cK, .int), (cM, .long)] s := hK
    refine lv_aload_n hx hb dL_law_274 rfl (lv_at hl 3 rfl) ?_
    have hPc := hP.sub (ws' := [(m0, .inr (2, [.int ((f_c (xs (n0 + 1)) (xs (n0 + 2)) (xs (n0 + 3)) (lw_J (xs (n0 + 4)) (xs (n0 + 5))), f_k kf (xs (n0 + 1)) (xs (n0 + 2)) (xs (n0 + 3)) (lw_J (xs (n0 + 4)) (xs (n0 + 5))), f_v vf (xs (n0 + 1)) (xs (n0 + 2)) (xs (n0 + 3)) (lw_J (xs (n0 + 4)) (xs (n0 + 5)))).1), .ref a2, .ref b2]))]) [4] rfl
    have hDc := hD.sub (ws' := [(m0, .inr (2, [.int ((f_c (xs (n0 + 1)) (xs (n0 + 2)) (xs (n0 + 3)) (lw_J (xs (n0 + 4)) (xs (n0 + 5))), f_k kf (xs (n0 + 1)) (xs (n0 + 2)) (xs (n0 + 3)) (lw_J (xs (n0 + 4)) (xs (n0 + 5))), f_v vf (xs (n0 + 1)) (xs (n0 + 2)) (xs (n0 + 3)) (lw_J (xs (n0 + 4)) (xs (n0 + 5)))).1), .ref a2, .ref b2]))]) [4] (by decide) rfl
    have hKc := hK.sub (tys' := []) [] rfl
    have hFc := va_free (wc := [(m0, .inr (2, [.int ((f_c (xs (n0 + 1)) (xs (n0 + 2)) (xs (n0 + 3)) (lw_J (xs (n0 + 4)) (xs (n0 + 5))), f_k kf (xs (n0 + 1)) (xs (n0 + 2)) (xs (n0 + 3)) (lw_J (xs (n0 + 4)) (xs (n0 + 5))), f_v vf (xs (n0 + 1)) (xs (n0 + 2)) (xs (n0 + 3)) (lw_J (xs (n0 + 4)) (xs (n0 + 5)))).1), .ref a2, .ref b2]))]) hD hS hA [4] rfl
    refine va_calli (va_runV (As := []) (rest := []) ⟨hx, hb, hml, hown, hts⟩ (qX2_thrown l dC dI H.size m0 a2 b2 ((f_c (xs (n0 + 1)) (xs (n0 + 2)) (xs (n0 + 3)) (lw_J (xs (n0 + 4)) (xs (n0 + 5))), f_k kf (xs (n0 + 1)) (xs (n0 + 2)) (xs (n0 + 3)) (lw_J (xs (n0 + 4)) (xs (n0 + 5))), f_v vf (xs (n0 + 1)) (xs (n0 + 2)) (xs (n0 + 3)) (lw_J (xs (n0 + 4)) (xs (n0 + 5)))).1)) (cwV 0 hts gL_law_X2_thrown rfl rfl rfl (by decide +kernel) ⟨Nat.le_of_ble_eq_true rfl, Nat.le_of_ble_eq_true rfl⟩) ⟨fun a U g mk q => by obtain ⟨q0, q1, qP, qK, qD⟩ := q; exact ⟨q0, q1, qP, va_K.moved (u := U) (U := U.calling g mk a) (Vm.Alike.refl U.vm) qK, qD⟩, va_recv hKc hPc (ci := 2) (q0 := 0) rfl rfl, fun U hU hW => ⟨rfl, by rw [hU], by rw [hU]; exact hPc, va_K.moved hW.alike hKc, hDc.weaken (fun _ _ _ _ => trivial)⟩⟩ rfl rfl hl.1 rfl (lv_room (Nat.le_of_ble_eq_true rfl)) dL_law_275 ⟨Nat.le_trans (by omega) hrc, Nat.le_trans (by omega) hrs⟩) hS (fun q _ h => hFc q h) hFc (fun r_5 u t9 H1 locs ht hvm hw hB hz1 hk1 hS => ?_)
    obtain ⟨hP1, hK1, hD1⟩ := hB
    rw [ht] at hP1
    have h_6 := hw
    have hK1 := va_K.moved hvm.symm hK1
    obtain ⟨hP, hD⟩ := va_join (wr := [(o, .inl (cO, 1, .inr (.inl ov))), (h0, .inr (1, [.ref a, .ref b1])), (a, .inl (cI, 256, .inl ((f_k kf (xs (n0 + 1)) (xs (n0 + 2)) (xs (n0 + 3)) (lw_J (xs (n0 + 4)) (xs (n0 + 5))), f_v vf (xs (n0 + 1)) (xs (n0 + 2)) (xs (n0 + 3)) (lw_J (xs (n0 + 4)) (xs (n0 + 5)))).1))), (b1, .inl (cJ, 256, .inr (.inl ((f_k kf (xs (n0 + 1)) (xs (n0 + 2)) (xs (n0 + 3)) (lw_J (xs (n0 + 4)) (xs (n0 + 5))), f_v vf (xs (n0 + 1)) (xs (n0 + 2)) (xs (n0 + 3)) (lw_J (xs (n0 + 4)) (xs (n0 + 5)))).2)))), (a2, .inl (cK, 256, .inl ((f_c (xs (n0 + 1)) (xs (n0 + 2)) (xs (n0 + 3)) (lw_J (xs (n0 + 4)) (xs (n0 + 5))), f_k kf (xs (n0 + 1)) (xs (n0 + 2)) (xs (n0 + 3)) (lw_J (xs (n0 + 4)) (xs (n0 + 5))), f_v vf (xs (n0 + 1)) (xs (n0 + 2)) (xs (n0 + 3)) (lw_J (xs (n0 + 4)) (xs (n0 + 5)))).2.1))), (b2, .inl (cM, 256, .inr (.inl ((f_c (xs (n0 + 1)) (xs (n0 + 2)) (xs (n0 + 3)) (lw_J (xs (n0 + 4)) (xs (n0 + 5))), f_k kf (xs (n0 + 1)) (xs (n0 + 2)) (xs (n0 + 3)) (lw_J (xs (n0 + 4)) (xs (n0 + 5))), f_v vf (xs (n0 + 1)) (xs (n0 + 2)) (xs (n0 + 3)) (lw_J (xs (n0 + 4)) (xs (n0 + 5)))).2.2))))]) (w1 := [(m0, .inr (2, [.int ((f_c (xs (n0 + 1)) (xs (n0 + 2)) (xs (n0 + 3)) (lw_J (xs (n0 + 4)) (xs (n0 + 5))), f_k kf (xs (n0 + 1)) (xs (n0 + 2)) (xs (n0 + 3)) (lw_J (xs (n0 + 4)) (xs (n0 + 5))), f_v vf (xs (n0 + 1)) (xs (n0 + 2)) (xs (n0 + 3)) (lw_J (xs (n0 + 4)) (xs (n0 + 5)))).1), .ref a2, .ref b2]))]) hP hD [4] [0, 1, 2, 3, 5, 6] rfl rfl (by decide) (by decide) hk1 hFc hP1 hD1
    have hK := (hK.sub (tys' := [(cO, .long), (cI, .int), (cJ, .long), (cK, .int), (cM, .long)]) [0, 1, 2, 3, 4] rfl).app hK1
    generalize H1 = H at hP hS ⊢
    have hP : va_P (dC, dI) vwCl [(o, .inl (cO, 1, .inr (.inl ov))), (h0, .inr (1, [.ref a, .ref b1])), (a, .inl (cI, 256, .inl ((f_k kf (xs (n0 + 1)) (xs (n0 + 2)) (xs (n0 + 3)) (lw_J (xs (n0 + 4)) (xs (n0 + 5))), f_v vf (xs (n0 + 1)) (xs (n0 + 2)) (xs (n0 + 3)) (lw_J (xs (n0 + 4)) (xs (n0 + 5)))).1))), (b1, .inl (cJ, 256, .inr (.inl ((f_k kf (xs (n0 + 1)) (xs (n0 + 2)) (xs (n0 + 3)) (lw_J (xs (n0 + 4)) (xs (n0 + 5))), f_v vf (xs (n0 + 1)) (xs (n0 + 2)) (xs (n0 + 3)) (lw_J (xs (n0 + 4)) (xs (n0 + 5)))).2)))), (a2, .inl (cK, 256, .inl ((f_c (xs (n0 + 1)) (xs (n0 + 2)) (xs (n0 + 3)) (lw_J (xs (n0 + 4)) (xs (n0 + 5))), f_k kf (xs (n0 + 1)) (xs (n0 + 2)) (xs (n0 + 3)) (lw_J (xs (n0 + 4)) (xs (n0 + 5))), f_v vf (xs (n0 + 1)) (xs (n0 + 2)) (xs (n0 + 3)) (lw_J (xs (n0 + 4)) (xs (n0 + 5)))).2.1))), (b2, .inl (cM, 256, .inr (.inl ((f_c (xs (n0 + 1)) (xs (n0 + 2)) (xs (n0 + 3)) (lw_J (xs (n0 + 4)) (xs (n0 + 5))), f_k kf (xs (n0 + 1)) (xs (n0 + 2)) (xs (n0 + 3)) (lw_J (xs (n0 + 4)) (xs (n0 + 5))), f_v vf (xs (n0 + 1)) (xs (n0 + 2)) (xs (n0 + 3)) (lw_J (xs (n0 + 4)) (xs (n0 + 5)))).2.2)))), (m0, .inr (2, [.int ((f_c (xs (n0 + 1)) (xs (n0 + 2)) (xs (n0 + 3)) (lw_J (xs (n0 + 4)) (xs (n0 + 5))), f_k kf (xs (n0 + 1)) (xs (n0 + 2)) (xs (n0 + 3)) (lw_J (xs (n0 + 4)) (xs (n0 + 5))), f_v vf (xs (n0 + 1)) (xs (n0 + 2)) (xs (n0 + 3)) (lw_J (xs (n0 + 4)) (xs (n0 + 5)))).1), .ref a2, .ref b2]))] H := hP
    have hD : va_D A [(o, .inl (cO, 1, .inr (.inl ov))), (h0, .inr (1, [.ref a, .ref b1])), (a, .inl (cI, 256, .inl ((f_k kf (xs (n0 + 1)) (xs (n0 + 2)) (xs (n0 + 3)) (lw_J (xs (n0 + 4)) (xs (n0 + 5))), f_v vf (xs (n0 + 1)) (xs (n0 + 2)) (xs (n0 + 3)) (lw_J (xs (n0 + 4)) (xs (n0 + 5)))).1))), (b1, .inl (cJ, 256, .inr (.inl ((f_k kf (xs (n0 + 1)) (xs (n0 + 2)) (xs (n0 + 3)) (lw_J (xs (n0 + 4)) (xs (n0 + 5))), f_v vf (xs (n0 + 1)) (xs (n0 + 2)) (xs (n0 + 3)) (lw_J (xs (n0 + 4)) (xs (n0 + 5)))).2)))), (a2, .inl (cK, 256, .inl ((f_c (xs (n0 + 1)) (xs (n0 + 2)) (xs (n0 + 3)) (lw_J (xs (n0 + 4)) (xs (n0 + 5))), f_k kf (xs (n0 + 1)) (xs (n0 + 2)) (xs (n0 + 3)) (lw_J (xs (n0 + 4)) (xs (n0 + 5))), f_v vf (xs (n0 + 1)) (xs (n0 + 2)) (xs (n0 + 3)) (lw_J (xs (n0 + 4)) (xs (n0 + 5)))).2.1))), (b2, .inl (cM, 256, .inr (.inl ((f_c (xs (n0 + 1)) (xs (n0 + 2)) (xs (n0 + 3)) (lw_J (xs (n0 + 4)) (xs (n0 + 5))), f_k kf (xs (n0 + 1)) (xs (n0 + 2)) (xs (n0 + 3)) (lw_J (xs (n0 + 4)) (xs (n0 + 5))), f_v vf (xs (n0 + 1)) (xs (n0 + 2)) (xs (n0 + 3)) (lw_J (xs (n0 + 4)) (xs (n0 + 5)))).2.2)))), (m0, .inr (2, [.int ((f_c (xs (n0 + 1)) (xs (n0 + 2)) (xs (n0 + 3)) (lw_J (xs (n0 + 4)) (xs (n0 + 5))), f_k kf (xs (n0 + 1)) (xs (n0 + 2)) (xs (n0 + 3)) (lw_J (xs (n0 + 4)) (xs (n0 + 5))), f_v vf (xs (n0 + 1)) (xs (n0 + 2)) (xs (n0 + 3)) (lw_J (xs (n0 + 4)) (xs (n0 + 5)))).1), .ref a2, .ref b2]))] := hD
    have hK : va_K (dC, dI) vwCl [(cO, .long), (cI, .int), (cJ, .long), (cK, .int), (cM, .long)] s := hK
    refine lv_iload hx hb dL_law_278 (lv_at hl 0 rfl) ?_
    refine lv_icmp_eq (tgt := 285) hx hb dL_law_280 (by decide) (fun c_7 => ?_) (fun c_7 => ?_)
    · refine lv_goto (tgt := 879) hx hb dL_law_285 (by decide) ?_
      refine W.widen (k := cells + 5) (n := slots + 30) (by omega) (by omega) ?_
      exact K ((f_k kf (xs (n0 + 1)) (xs (n0 + 2)) (xs (n0 + 3)) (lw_J (xs (n0 + 4)) (xs (n0 + 5))), f_v vf (xs (n0 + 1)) (xs (n0 + 2)) (xs (n0 + 3)) (lw_J (xs (n0 + 4)) (xs (n0 + 5)))).1) ((f_k kf (xs (n0 + 1)) (xs (n0 + 2)) (xs (n0 + 3)) (lw_J (xs (n0 + 4)) (xs (n0 + 5))), f_v vf (xs (n0 + 1)) (xs (n0 + 2)) (xs (n0 + 3)) (lw_J (xs (n0 + 4)) (xs (n0 + 5)))).2) ov ((f_c (xs (n0 + 1)) (xs (n0 + 2)) (xs (n0 + 3)) (lw_J (xs (n0 + 4)) (xs (n0 + 5))), f_k kf (xs (n0 + 1)) (xs (n0 + 2)) (xs (n0 + 3)) (lw_J (xs (n0 + 4)) (xs (n0 + 5))), f_v vf (xs (n0 + 1)) (xs (n0 + 2)) (xs (n0 + 3)) (lw_J (xs (n0 + 4)) (xs (n0 + 5)))).1) _ _ ls (okA_fill hR _ _ _ _) (hP.sub [1, 2, 3, 6, 4, 5, 0] rfl) (hD.sub [1, 2, 3, 6, 4, 5, 0] (by decide) rfl) hS (lv_sub hl [1, 2, 3, 4, 5] rfl)
    · exact absurd (by rw [h_6, h_2]) c_7

set_option maxHeartbeats 4000000 in
set_option maxRecDepth 100000 in
theorem law_swap {p : Program} {l : Launch} {e : Env} {s : State} {m : MethodId} {below : List Frame} {meth : Method} {c : Code} {b L : Nat} {xs : Nat → Int32} {A : Nat → Prop} {dC : Nat → ClassId} {dI : Nat → Nat → Nat} {h0 a b1 m0 a2 b2 o : Nat} {cI cJ cK cM cO : ClassId} (C0 : lw_C p l s m c b L xs A) (hK : va_K (dC, dI) vwCl [(cI, .int), (cJ, .long), (cK, .int), (cM, .long), (cO, .long)] s) {n0 : Nat} (hn : n0 + 5 < L) {cells slots : Nat} (hrc : cells + 5 ≤ room_1.cells) (hrs : slots + 30 ≤ room_1.slots) {kf : Nat → Int32} {vf ov : Nat → Int64} {er : Int32} (hR : okA kf vf) {H : Heap} {locs : List Loc} {ls : Array Slot} (hP : va_P (dC, dI) vwCl [(h0, .inr (1, [.ref a, .ref b1])), (a, .inl (cI, 256, .inl kf)), (b1, .inl (cJ, 256, .inr (.inl vf))), (m0, .inr (2, [.int er, .ref a2, .ref b2])), (a2, .inl (cK, 256, .inl kf)), (b2, .inl (cM, 256, .inr (.inl vf))), (o, .inl (cO, 1, .inr (.inl ov)))] H) (hD : va_D A [(h0, .inr (1, [.ref a, .ref b1])), (a, .inl (cI, 256, .inl kf)), (b1, .inl (cJ, 256, .inr (.inl vf))), (m0, .inr (2, [.int er, .ref a2, .ref b2])), (a2, .inl (cK, 256, .inl kf)), (b2, .inl (cM, 256, .inr (.inl vf))), (o, .inl (cO, 1, .inr (.inl ov)))]) (hS : va_S A s.heap H locs) (hl : lv_has ls 8 [(0, .ref b), (1, .ref h0), (2, .ref m0), (3, .ref o), (4, .int (nI n0))]) (K : ∀ (kf : Nat → Int32) (vf ov : Nat → Int64) (er : Int32) (H : Heap) (locs : List Loc) (ls : Array Slot), okA kf vf → va_P (dC, dI) vwCl [(h0, .inr (1, [.ref a, .ref b1])), (a, .inl (cI, 256, .inl kf)), (b1, .inl (cJ, 256, .inr (.inl vf))), (m0, .inr (2, [.int er, .ref a2, .ref b2])), (a2, .inl (cK, 256, .inl kf)), (b2, .inl (cM, 256, .inr (.inl vf))), (o, .inl (cO, 1, .inr (.inl ov)))] H → va_D A [(h0, .inr (1, [.ref a, .ref b1])), (a, .inl (cI, 256, .inl kf)), (b1, .inl (cJ, 256, .inr (.inl vf))), (m0, .inr (2, [.int er, .ref a2, .ref b2])), (a2, .inl (cK, 256, .inl kf)), (b2, .inl (cM, 256, .inr (.inl vf))), (o, .inl (cO, 1, .inr (.inl ov)))] → va_S A s.heap H locs → lv_has ls 8 [(0, .ref b), (1, .ref h0), (2, .ref m0), (3, .ref o), (4, .int (nI n0))] → W p l e room_1 s m #[Value.ref b] below meth c H locs (cells + 5) (slots + 30) (lw_Z below #[Value.ref b] s) (F0 m 879 ls [])) : W p l e room_1 s m #[Value.ref b] below meth c H locs cells slots (lw_Z below #[Value.ref b] s) (F0 m 288 ls []) := by
  obtain ⟨hx, hb, hml, hown, hts, hX, hbl, hbA, hA, hlt, hE, hZ, hL⟩ := C0
  refine lv_aload_n hx hb dL_law_288 rfl (lv_at hl 1 rfl) ?_
  refine lv_aload_n hx hb dL_law_289 rfl (lv_at hl 0 rfl) ?_
  refine lv_iload hx hb dL_law_290 (lv_at hl 4 rfl) ?_
  refine lv_iconst (v := 1) hx hb dL_law_292 (by decide) ?_
  refine lv_iadd hx hb dL_law_293 ?_
  refine lw_sld (c9 := 1) hx hb hX hbl hbA hS rfl (by omega) hL dL_law_294 ?_
  refine lv_aload_n hx hb dL_law_295 rfl (lv_at hl 0 rfl) ?_
  refine lv_iload hx hb dL_law_296 (lv_at hl 4 rfl) ?_
  refine lv_iconst (v := 2) hx hb dL_law_298 (by decide) ?_
  refine lv_iadd hx hb dL_law_299 ?_
  refine lw_sld (c9 := 2) hx hb hX hbl hbA hS rfl (by omega) hL dL_law_300 ?_
  have hPc := hP.sub (ws' := [(h0, .inr (1, [.ref a, .ref b1])), (a, .inl (cI, 256, .inl kf)), (b1, .inl (cJ, 256, .inr (.inl vf)))]) [0, 1, 2] rfl
  have hDc := hD.sub (ws' := [(h0, .inr (1, [.ref a, .ref b1])), (a, .inl (cI, 256, .inl kf)), (b1, .inl (cJ, 256, .inr (.inl vf)))]) [0, 1, 2] (by decide) rfl
  have hKc := hK.sub (tys' := [(cI, .int), (cJ, .long)]) [0, 1] rfl
  have hFc := va_free (wc := [(h0, .inr (1, [.ref a, .ref b1])), (a, .inl (cI, 256, .inl kf)), (b1, .inl (cJ, 256, .inr (.inl vf)))]) hD hS hA [0, 1, 2] rfl
  refine vx_calli (vx_runSX (As := [.ref h0, .int (xs (n0 + 1)), .int (xs (n0 + 2))]) (rest := []) ⟨hx, hb, hml, hown, hts⟩ (qL_swap l hlt dC dI H.size h0 a b1 cI cJ kf vf (xs (n0 + 1)) (xs (n0 + 2))) (vx_cwSW 3 hts gL_law_L_swap rfl rfl rfl (by decide +kernel) ⟨Nat.le_of_ble_eq_true rfl, Nat.le_of_ble_eq_true rfl⟩) ⟨fun a U g mk q => by obtain ⟨q0, q1, qP, qK, qD, qE, qZ⟩ := q; exact ⟨q0, q1, qP, va_K.moved (u := U) (U := U.calling g mk a) (Vm.Alike.refl U.vm) qK, qD, ev.same (u := U) rfl qE, ez.moved (U := U.calling g mk a) qZ (Vm.Alike.refl U.vm)⟩, fun U hU hW => ⟨rfl, by rw [hU], by rw [hU]; exact hPc, va_K.moved hW.alike hKc, hDc.weaken (fun _ _ _ _ => trivial), hE.warm hW, by rw [hU]; exact ((hZ.kept hS.2.1).narrow hFc).moved hW.alike⟩⟩ rfl rfl hl.1 rfl (lv_room (Nat.le_of_ble_eq_true rfl)) dL_law_301 ⟨Nat.le_trans (by omega) hrc, Nat.le_trans (by omega) hrs⟩) hS (fun q _ h => hFc q h) hFc (fun q _ h => hFc q h) (fun E ce q9 u t9 H1 locs ht hvm hw hB hz1 hk1 hS hce hcv hcl => ?_) (fun r_1 u t9 H1 locs ht hvm hw hB hz1 hk1 hS => ?_)
  · exact hB.1.elim
  · obtain ⟨hP1, hK1, hD1⟩ := hB
    rw [ht] at hP1
    obtain ⟨h_2, rfl⟩ := hw
    have hK1 := va_K.moved hvm.symm hK1
    obtain ⟨hP, hD⟩ := va_join (wr := [(m0, .inr (2, [.int er, .ref a2, .ref b2])), (a2, .inl (cK, 256, .inl kf)), (b2, .inl (cM, 256, .inr (.inl vf))), (o, .inl (cO, 1, .inr (.inl ov)))]) (w1 := [(h0, .inr (1, [.ref a, .ref b1])), (a, .inl (cI, 256, .inl ((w_k kf (xs (n0 + 1)) (xs (n0 + 2)), w_v vf (xs (n0 + 1)) (xs (n0 + 2))).1))), (b1, .inl (cJ, 256, .inr (.inl ((w_k kf (xs (n0 + 1)) (xs (n0 + 2)), w_v vf (xs (n0 + 1)) (xs (n0 + 2))).2))))]) hP hD [0, 1, 2] [3, 4, 5, 6] rfl rfl (by decide) (by decide) hk1 hFc hP1 hD1
    have hK := (hK.sub (tys' := [(cK, .int), (cM, .long), (cO, .long)]) [2, 3, 4] rfl).app hK1
    generalize H1 = H at hP hS ⊢
    have hP : va_P (dC, dI) vwCl [(m0, .inr (2, [.int er, .ref a2, .ref b2])), (a2, .inl (cK, 256, .inl kf)), (b2, .inl (cM, 256, .inr (.inl vf))), (o, .inl (cO, 1, .inr (.inl ov))), (h0, .inr (1, [.ref a, .ref b1])), (a, .inl (cI, 256, .inl ((w_k kf (xs (n0 + 1)) (xs (n0 + 2)), w_v vf (xs (n0 + 1)) (xs (n0 + 2))).1))), (b1, .inl (cJ, 256, .inr (.inl ((w_k kf (xs (n0 + 1)) (xs (n0 + 2)), w_v vf (xs (n0 + 1)) (xs (n0 + 2))).2))))] H := hP
    have hD : va_D A [(m0, .inr (2, [.int er, .ref a2, .ref b2])), (a2, .inl (cK, 256, .inl kf)), (b2, .inl (cM, 256, .inr (.inl vf))), (o, .inl (cO, 1, .inr (.inl ov))), (h0, .inr (1, [.ref a, .ref b1])), (a, .inl (cI, 256, .inl ((w_k kf (xs (n0 + 1)) (xs (n0 + 2)), w_v vf (xs (n0 + 1)) (xs (n0 + 2))).1))), (b1, .inl (cJ, 256, .inr (.inl ((w_k kf (xs (n0 + 1)) (xs (n0 + 2)), w_v vf (xs (n0 + 1)) (xs (n0 + 2))).2))))] := hD
    have hK : va_K (dC, dI) vwCl [(cK, .int), (cM, .long), (cO, .long), (cI, .int), (cJ, .long)] s := hK
    refine lv_istore (lv' := [(5, .int r_1), (0, .ref b), (1, .ref h0), (2, .ref m0), (3, .ref o), (4, .int (nI n0))]) hx hb dL_law_304 hl (by decide) rfl (fun ls hl => ?_)
    refine lv_aload_n hx hb dL_law_306 rfl (lv_at hl 3 rfl) ?_
    refine lv_aload_n hx hb dL_law_307 rfl (lv_at hl 1 rfl) ?_
    refine lv_iload hx hb dL_law_308 (lv_at hl 5 rfl) ?_
    refine lv_iconst (v := 1) hx hb dL_law_310 (by decide) ?_
    refine lv_iadd hx hb dL_law_311 ?_
    refine lw_sld (c9 := 1) hx hb hX hbl hbA hS rfl (by omega) hL dL_law_312 ?_
    refine lv_aload_n hx hb dL_law_313 rfl (lv_at hl 1 rfl) ?_
    refine lv_iload hx hb dL_law_314 (lv_at hl 5 rfl) ?_
    refine lv_iconst (v := 2) hx hb dL_law_316 (by decide) ?_
    refine lv_iadd hx hb dL_law_317 ?_
    refine lw_sld (c9 := 2) hx hb hX hbl hbA hS rfl (by omega) hL dL_law_318 ?_
    have hPc := hP.sub (ws' := [(m0, .inr (2, [.int er, .ref a2, .ref b2])), (a2, .inl (cK, 256, .inl kf)), (b2, .inl (cM, 256, .inr (.inl vf)))]) [0, 1, 2] rfl
    have hDc := hD.sub (ws' := [(m0, .inr (2, [.int er, .ref a2, .ref b2])), (a2, .inl (cK, 256, .inl kf)), (b2, .inl (cM, 256, .inr (.inl vf)))]) [0, 1, 2] (by decide) rfl
    have hKc := hK.sub (tys' := [(cK, .int), (cM, .long)]) [0, 1] rfl
    have hFc := va_free (wc := [(m0, .inr (2, [.int er, .ref a2, .ref b2])), (a2, .inl (cK, 256, .inl kf)), (b2, .inl (cM, 256, .inr (.inl vf)))]) hD hS hA [0, 1, 2] rfl
    refine va_callv (va_runV (As := [.int (xs (n0 + 1)), .int (xs (n0 + 2))]) (rest := []) ⟨hx, hb, hml, hown, hts⟩ (qX2_swap l dC dI H.size m0 a2 b2 cK cM er kf vf (xs (n0 + 1)) (xs (n0 + 2))) (cwV 2 hts gL_law_X2_swap rfl rfl rfl (by decide +kernel) ⟨Nat.le_of_ble_eq_true rfl, Nat.le_of_ble_eq_true rfl⟩) ⟨fun a U g mk q => by obtain ⟨q0, q1, qP, qK, qD⟩ := q; exact ⟨q0, q1, qP, va_K.moved (u := U) (U := U.calling g mk a) (Vm.Alike.refl U.vm) qK, qD⟩, va_recv hKc hPc (ci := 2) (q0 := 0) rfl rfl, fun U hU hW => ⟨rfl, by rw [hU], by rw [hU]; exact hPc, va_K.moved hW.alike hKc, hDc.weaken (fun _ _ _ _ => trivial)⟩⟩ rfl rfl hl.1 rfl (lv_room (Nat.le_of_ble_eq_true rfl)) dL_law_319 ⟨Nat.le_trans (by omega) hrc, Nat.le_trans (by omega) hrs⟩) hS (fun q _ h => hFc q h) hFc (fun u t9 H1 locs ht hvm hw hB hz1 hk1 hS => ?_)
    obtain ⟨hP1, hK1, hD1⟩ := hB
    rw [ht] at hP1
    obtain rfl := hw
    have hK1 := va_K.moved hvm.symm hK1
    obtain ⟨hP, hD⟩ := va_join (wr := [(o, .inl (cO, 1, .inr (.inl ov))), (h0, .inr (1, [.ref a, .ref b1])), (a, .inl (cI, 256, .inl ((w_k kf (xs (n0 + 1)) (xs (n0 + 2)), w_v vf (xs (n0 + 1)) (xs (n0 + 2))).1))), (b1, .inl (cJ, 256, .inr (.inl ((w_k kf (xs (n0 + 1)) (xs (n0 + 2)), w_v vf (xs (n0 + 1)) (xs (n0 + 2))).2))))]) (w1 := [(m0, .inr (2, [.int ((w_c (xs (n0 + 1)) (xs (n0 + 2)), w_k kf (xs (n0 + 1)) (xs (n0 + 2)), w_v vf (xs (n0 + 1)) (xs (n0 + 2))).1), .ref a2, .ref b2])), (a2, .inl (cK, 256, .inl ((w_c (xs (n0 + 1)) (xs (n0 + 2)), w_k kf (xs (n0 + 1)) (xs (n0 + 2)), w_v vf (xs (n0 + 1)) (xs (n0 + 2))).2.1))), (b2, .inl (cM, 256, .inr (.inl ((w_c (xs (n0 + 1)) (xs (n0 + 2)), w_k kf (xs (n0 + 1)) (xs (n0 + 2)), w_v vf (xs (n0 + 1)) (xs (n0 + 2))).2.2))))]) hP hD [0, 1, 2] [3, 4, 5, 6] rfl rfl (by decide) (by decide) hk1 hFc hP1 hD1
    have hK := (hK.sub (tys' := [(cO, .long), (cI, .int), (cJ, .long)]) [2, 3, 4] rfl).app hK1
    generalize H1 = H at hP hS ⊢
    have hP : va_P (dC, dI) vwCl [(o, .inl (cO, 1, .inr (.inl ov))), (h0, .inr (1, [.ref a, .ref b1])), (a, .inl (cI, 256, .inl ((w_k kf (xs (n0 + 1)) (xs (n0 + 2)), w_v vf (xs (n0 + 1)) (xs (n0 + 2))).1))), (b1, .inl (cJ, 256, .inr (.inl ((w_k kf (xs (n0 + 1)) (xs (n0 + 2)), w_v vf (xs (n0 + 1)) (xs (n0 + 2))).2)))), (m0, .inr (2, [.int ((w_c (xs (n0 + 1)) (xs (n0 + 2)), w_k kf (xs (n0 + 1)) (xs (n0 + 2)), w_v vf (xs (n0 + 1)) (xs (n0 + 2))).1), .ref a2, .ref b2])), (a2, .inl (cK, 256, .inl ((w_c (xs (n0 + 1)) (xs (n0 + 2)), w_k kf (xs (n0 + 1)) (xs (n0 + 2)), w_v vf (xs (n0 + 1)) (xs (n0 + 2))).2.1))), (b2, .inl (cM, 256, .inr (.inl ((w_c (xs (n0 + 1)) (xs (n0 + 2)), w_k kf (xs (n0 + 1)) (xs (n0 + 2)), w_v vf (xs (n0 + 1)) (xs (n0 + 2))).2.2))))] H := hP
    have hD : va_D A [(o, .inl (cO, 1, .inr (.inl ov))), (h0, .inr (1, [.ref a, .ref b1])), (a, .inl (cI, 256, .inl ((w_k kf (xs (n0 + 1)) (xs (n0 + 2)), w_v vf (xs (n0 + 1)) (xs (n0 + 2))).1))), (b1, .inl (cJ, 256, .inr (.inl ((w_k kf (xs (n0 + 1)) (xs (n0 + 2)), w_v vf (xs (n0 + 1)) (xs (n0 + 2))).2)))), (m0, .inr (2, [.int ((w_c (xs (n0 + 1)) (xs (n0 + 2)), w_k kf (xs (n0 + 1)) (xs (n0 + 2)), w_v vf (xs (n0 + 1)) (xs (n0 + 2))).1), .ref a2, .ref b2])), (a2, .inl (cK, 256, .inl ((w_c (xs (n0 + 1)) (xs (n0 + 2)), w_k kf (xs (n0 + 1)) (xs (n0 + 2)), w_v vf (xs (n0 + 1)) (xs (n0 + 2))).2.1))), (b2, .inl (cM, 256, .inr (.inl ((w_c (xs (n0 + 1)) (xs (n0 + 2)), w_k kf (xs (n0 + 1)) (xs (n0 + 2)), w_v vf (xs (n0 + 1)) (xs (n0 + 2))).2.2))))] := hD
    have hK : va_K (dC, dI) vwCl [(cO, .long), (cI, .int), (cJ, .long), (cK, .int), (cM, .long)] s := hK
    refine lv_aload_n hx hb dL_law_322 rfl (lv_at hl 3 rfl) ?_
    have hPc := hP.sub (ws' := [(m0, .inr (2, [.int ((w_c (xs (n0 + 1)) (xs (n0 + 2)), w_k kf (xs (n0 + 1)) (xs (n0 + 2)), w_v vf (xs (n0 + 1)) (xs (n0 + 2))).1), .ref a2, .ref b2]))]) [4] rfl
    have hDc := hD.sub (ws' := [(m0, .inr (2, [.int ((w_c (xs (n0 + 1)) (xs (n0 + 2)), w_k kf (xs (n0 + 1)) (xs (n0 + 2)), w_v vf (xs (n0 + 1)) (xs (n0 + 2))).1), .ref a2, .ref b2]))]) [4] (by decide) rfl
    have hKc := hK.sub (tys' := []) [] rfl
    have hFc := va_free (wc := [(m0, .inr (2, [.int ((w_c (xs (n0 + 1)) (xs (n0 + 2)), w_k kf (xs (n0 + 1)) (xs (n0 + 2)), w_v vf (xs (n0 + 1)) (xs (n0 + 2))).1), .ref a2, .ref b2]))]) hD hS hA [4] rfl
    refine va_calli (va_runV (As := []) (rest := []) ⟨hx, hb, hml, hown, hts⟩ (qX2_thrown l dC dI H.size m0 a2 b2 ((w_c (xs (n0 + 1)) (xs (n0 + 2)), w_k kf (xs (n0 + 1)) (xs (n0 + 2)), w_v vf (xs (n0 + 1)) (xs (n0 + 2))).1)) (cwV 0 hts gL_law_X2_thrown rfl rfl rfl (by decide +kernel) ⟨Nat.le_of_ble_eq_true rfl, Nat.le_of_ble_eq_true rfl⟩) ⟨fun a U g mk q => by obtain ⟨q0, q1, qP, qK, qD⟩ := q; exact ⟨q0, q1, qP, va_K.moved (u := U) (U := U.calling g mk a) (Vm.Alike.refl U.vm) qK, qD⟩, va_recv hKc hPc (ci := 2) (q0 := 0) rfl rfl, fun U hU hW => ⟨rfl, by rw [hU], by rw [hU]; exact hPc, va_K.moved hW.alike hKc, hDc.weaken (fun _ _ _ _ => trivial)⟩⟩ rfl rfl hl.1 rfl (lv_room (Nat.le_of_ble_eq_true rfl)) dL_law_323 ⟨Nat.le_trans (by omega) hrc, Nat.le_trans (by omega) hrs⟩) hS (fun q _ h => hFc q h) hFc (fun r_5 u t9 H1 locs ht hvm hw hB hz1 hk1 hS => ?_)
    obtain ⟨hP1, hK1, hD1⟩ := hB
    rw [ht] at hP1
    have h_6 := hw
    have hK1 := va_K.moved hvm.symm hK1
    obtain ⟨hP, hD⟩ := va_join (wr := [(o, .inl (cO, 1, .inr (.inl ov))), (h0, .inr (1, [.ref a, .ref b1])), (a, .inl (cI, 256, .inl ((w_k kf (xs (n0 + 1)) (xs (n0 + 2)), w_v vf (xs (n0 + 1)) (xs (n0 + 2))).1))), (b1, .inl (cJ, 256, .inr (.inl ((w_k kf (xs (n0 + 1)) (xs (n0 + 2)), w_v vf (xs (n0 + 1)) (xs (n0 + 2))).2)))), (a2, .inl (cK, 256, .inl ((w_c (xs (n0 + 1)) (xs (n0 + 2)), w_k kf (xs (n0 + 1)) (xs (n0 + 2)), w_v vf (xs (n0 + 1)) (xs (n0 + 2))).2.1))), (b2, .inl (cM, 256, .inr (.inl ((w_c (xs (n0 + 1)) (xs (n0 + 2)), w_k kf (xs (n0 + 1)) (xs (n0 + 2)), w_v vf (xs (n0 + 1)) (xs (n0 + 2))).2.2))))]) (w1 := [(m0, .inr (2, [.int ((w_c (xs (n0 + 1)) (xs (n0 + 2)), w_k kf (xs (n0 + 1)) (xs (n0 + 2)), w_v vf (xs (n0 + 1)) (xs (n0 + 2))).1), .ref a2, .ref b2]))]) hP hD [4] [0, 1, 2, 3, 5, 6] rfl rfl (by decide) (by decide) hk1 hFc hP1 hD1
    have hK := (hK.sub (tys' := [(cO, .long), (cI, .int), (cJ, .long), (cK, .int), (cM, .long)]) [0, 1, 2, 3, 4] rfl).app hK1
    generalize H1 = H at hP hS ⊢
    have hP : va_P (dC, dI) vwCl [(o, .inl (cO, 1, .inr (.inl ov))), (h0, .inr (1, [.ref a, .ref b1])), (a, .inl (cI, 256, .inl ((w_k kf (xs (n0 + 1)) (xs (n0 + 2)), w_v vf (xs (n0 + 1)) (xs (n0 + 2))).1))), (b1, .inl (cJ, 256, .inr (.inl ((w_k kf (xs (n0 + 1)) (xs (n0 + 2)), w_v vf (xs (n0 + 1)) (xs (n0 + 2))).2)))), (a2, .inl (cK, 256, .inl ((w_c (xs (n0 + 1)) (xs (n0 + 2)), w_k kf (xs (n0 + 1)) (xs (n0 + 2)), w_v vf (xs (n0 + 1)) (xs (n0 + 2))).2.1))), (b2, .inl (cM, 256, .inr (.inl ((w_c (xs (n0 + 1)) (xs (n0 + 2)), w_k kf (xs (n0 + 1)) (xs (n0 + 2)), w_v vf (xs (n0 + 1)) (xs (n0 + 2))).2.2)))), (m0, .inr (2, [.int ((w_c (xs (n0 + 1)) (xs (n0 + 2)), w_k kf (xs (n0 + 1)) (xs (n0 + 2)), w_v vf (xs (n0 + 1)) (xs (n0 + 2))).1), .ref a2, .ref b2]))] H := hP
    have hD : va_D A [(o, .inl (cO, 1, .inr (.inl ov))), (h0, .inr (1, [.ref a, .ref b1])), (a, .inl (cI, 256, .inl ((w_k kf (xs (n0 + 1)) (xs (n0 + 2)), w_v vf (xs (n0 + 1)) (xs (n0 + 2))).1))), (b1, .inl (cJ, 256, .inr (.inl ((w_k kf (xs (n0 + 1)) (xs (n0 + 2)), w_v vf (xs (n0 + 1)) (xs (n0 + 2))).2)))), (a2, .inl (cK, 256, .inl ((w_c (xs (n0 + 1)) (xs (n0 + 2)), w_k kf (xs (n0 + 1)) (xs (n0 + 2)), w_v vf (xs (n0 + 1)) (xs (n0 + 2))).2.1))), (b2, .inl (cM, 256, .inr (.inl ((w_c (xs (n0 + 1)) (xs (n0 + 2)), w_k kf (xs (n0 + 1)) (xs (n0 + 2)), w_v vf (xs (n0 + 1)) (xs (n0 + 2))).2.2)))), (m0, .inr (2, [.int ((w_c (xs (n0 + 1)) (xs (n0 + 2)), w_k kf (xs (n0 + 1)) (xs (n0 + 2)), w_v vf (xs (n0 + 1)) (xs (n0 + 2))).1), .ref a2, .ref b2]))] := hD
    have hK : va_K (dC, dI) vwCl [(cO, .long), (cI, .int), (cJ, .long), (cK, .int), (cM, .long)] s := hK
    refine lv_iload hx hb dL_law_326 (lv_at hl 0 rfl) ?_
    refine lv_icmp_eq (tgt := 333) hx hb dL_law_328 (by decide) (fun c_7 => ?_) (fun c_7 => ?_)
    · refine lv_goto (tgt := 879) hx hb dL_law_333 (by decide) ?_
      refine W.widen (k := cells + 5) (n := slots + 30) (by omega) (by omega) ?_
      exact K ((w_k kf (xs (n0 + 1)) (xs (n0 + 2)), w_v vf (xs (n0 + 1)) (xs (n0 + 2))).1) ((w_k kf (xs (n0 + 1)) (xs (n0 + 2)), w_v vf (xs (n0 + 1)) (xs (n0 + 2))).2) ov ((w_c (xs (n0 + 1)) (xs (n0 + 2)), w_k kf (xs (n0 + 1)) (xs (n0 + 2)), w_v vf (xs (n0 + 1)) (xs (n0 + 2))).1) _ _ ls (okA_swap hR _ _) (hP.sub [1, 2, 3, 6, 4, 5, 0] rfl) (hD.sub [1, 2, 3, 6, 4, 5, 0] (by decide) rfl) hS (lv_sub hl [1, 2, 3, 4, 5] rfl)
    · exact absurd (by rw [h_6, h_2]) c_7
