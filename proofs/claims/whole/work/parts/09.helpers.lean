/-! ===== the law's own helpers: what each answers, what it leaves ===== -/
def le_c (kf : Nat → Int32) (vf : Nat → Int64) (f t : Int32) : Int32 := if okW f t then (if (eW kf vf f t).2.1 = 0 then 2 else 0) else 1
def ge_c (kf : Nat → Int32) (vf : Nat → Int64) (f t : Int32) : Int32 := if okW f t then (if (eW kf vf f t).2.2.2.1 = 0 then 2 else 0) else 1
def fe_c (kf : Nat → Int32) (vf : Nat → Int64) (f t w : Int32) : Int32 := if okW f t then (if e_fo (eW kf vf f t) w = 0 then 2 else 0) else 1
theorem in_01 : vp_in (0 : Int32) 1 := by rw [vp_in_iff]; decide
set_option maxRecDepth 20000 in
theorem kL_set_0 : (.classLink RL 13 IAE : Cond) ∈ wsL_set := by decide +kernel
set_option maxRecDepth 20000 in
theorem kL_set_1 : (.classLink RL 15 IOB : Cond) ∈ wsL_set := by decide +kernel
set_option maxHeartbeats 4000000 in
set_option maxRecDepth 100000 in
theorem qL_set (l : Launch) (hlt : l.stackTraces = false) (dC : Nat → ClassId) (dI : Nat → Nat → Nat) (sz : Nat) (h0 a b : Nat) (cI cJ : ClassId) (kf : Nat → Int32) (vf : Nat → Int64) (k kd : Int32) (v : Int64)  : vx_Met l yL_set wsL_set ({ frames := 8, cells := 2, slots := 12, locals := 160 }) (va_Pc [.ref h0, .int k, .int kd, .long v] (fun U => U.heap.size = sz ∧ va_P (dC, dI) vwCl [(h0, .inr (1, [.ref a, .ref b])), (a, .inl (cI, 256, .inl kf)), (b, .inl (cJ, 256, .inr (.inl vf)))] U.heap ∧ va_K (dC, dI) vwCl [(cI, .int), (cJ, .long)] U ∧ va_D (fun _ => True) [(h0, .inr (1, [.ref a, .ref b])), (a, .inl (cI, 256, .inl kf)), (b, .inl (cJ, 256, .inr (.inl vf)))] ∧ ev U ∧ ez (va_A [(h0, .inr (1, [.ref a, .ref b])), (a, .inl (cI, 256, .inl kf)), (b, .inl (cJ, 256, .inr (.inl vf)))] sz) U U.heap)) (va_Qi (fun (r : Int32) (u : (Nat → Int32) × (Nat → Int64)) => (r = s_c k kd v) ∧ u = (s_k kf k kd v, s_v vf k kd v)) (fun (u : (Nat → Int32) × (Nat → Int64)) (t9 : State) => va_P (dC, dI) vwCl [(h0, .inr (1, [.ref a, .ref b])), (a, .inl (cI, 256, .inl u.1)), (b, .inl (cJ, 256, .inr (.inl u.2)))] t9.heap ∧ va_K (dC, dI) vwCl [(cI, .int), (cJ, .long)] t9 ∧ va_D (va_A [(h0, .inr (1, [.ref a, .ref b])), (a, .inl (cI, 256, .inl kf)), (b, .inl (cJ, 256, .inr (.inl vf)))] sz) [(h0, .inr (1, [.ref a, .ref b])), (a, .inl (cI, 256, .inl u.1)), (b, .inl (cJ, 256, .inr (.inl u.2)))]) (va_A [(h0, .inr (1, [.ref a, .ref b])), (a, .inl (cI, 256, .inl kf)), (b, .inl (cJ, 256, .inr (.inl vf)))] sz)) (vx_X (fun _ : Unit => True) (fun (E : String) (_ : Unit) (t9 : State) => (False) ∧ va_P (dC, dI) vwCl [(h0, .inr (1, [.ref a, .ref b])), (a, .inl (cI, 256, .inl kf)), (b, .inl (cJ, 256, .inr (.inl vf)))] t9.heap ∧ va_K (dC, dI) vwCl [(cI, .int), (cJ, .long)] t9 ∧ va_D (va_A [(h0, .inr (1, [.ref a, .ref b])), (a, .inl (cI, 256, .inl kf)), (b, .inl (cJ, 256, .inr (.inl vf)))] sz) [(h0, .inr (1, [.ref a, .ref b])), (a, .inl (cI, 256, .inl kf)), (b, .inl (cJ, 256, .inr (.inl vf)))]) (va_A [(h0, .inr (1, [.ref a, .ref b])), (a, .inl (cI, 256, .inl kf)), (b, .inl (cJ, 256, .inr (.inl vf)))] sz)) 2 12 (va_A [(h0, .inr (1, [.ref a, .ref b])), (a, .inl (cI, 256, .inl kf)), (b, .inl (cJ, 256, .inr (.inl vf)))] sz) := by
  refine vx_ofWH (cc := cL_set) (maxL := 6) (ret := (some .int)) (hh := [(0, 7, 10, 13), (0, 7, 14, 15)]) (by decide) rfl ?_
  intro p e s m args below meth c s₁ B hml hv
  obtain ⟨rfl, hsz, hP, hK, hD0, hE, hZ⟩ := hv
  have hx := B.exec
  have hb := B.bytes
  have hr := B.returns
  have hts := atoms_spec (ws := wsL_set) B.pre
  have hown : s.vm.findClass RL = some m.cls := findClass_of_methodNamed B.named
  have hlocks := B.notSynchronized
  have htb := vx_table (x := yL_set) B (hts _ List.mem_cons_self)
  subst hsz
  have hD := hD0.self (sz := s.heap.size)
  generalize hAe : va_A [(h0, .inr (1, [.ref a, .ref b])), (a, .inl (cI, 256, .inl kf)), (b, .inl (cJ, 256, .inr (.inl vf)))] s.heap.size = A at hD hZ ⊢
  have hA : ∀ q : Nat, s.heap.size ≤ q → A q := fun q h => by rw [← hAe]; exact Or.inr h
  have hS : va_S A s.heap s.heap [] := va_S.rf
  have hP : va_P (dC, dI) vwCl [(h0, .inr (1, [.ref a, .ref b])), (a, .inl (cI, 256, .inl kf)), (b, .inl (cJ, 256, .inr (.inl vf)))] s.heap := hP
  have hl := lv_entry ([.ref h0, .int k, .int kd, .long v]) (n := 6) (Nat.le_of_ble_eq_true rfl)
  rw [lg_entry_eq]
  generalize (lg_sl ([.ref h0, .int k, .int kd, .long v]) ++ List.replicate (6 - (lg_sl ([.ref h0, .int k, .int kd, .long v])).length) Slot.unset).toArray = ls at hl ⊢
  have hl : lv_has ls 6 [(0, .ref h0), (1, .int k), (2, .int kd), (3, .long v)] := hl
  refine lv_aload_n hx hb dL_set_0 rfl (lv_at hl 0 rfl) ?_
  refine lv_iload_n hx hb dL_set_1 rfl (lv_at hl 1 rfl) ?_
  refine lv_iload_n hx hb dL_set_2 rfl (lv_at hl 2 rfl) ?_
  refine lv_lload_n hx hb dL_set_3 rfl (lv_at hl 3 rfl) ?_
  have hPc := hP.sub (ws' := [(h0, .inr (1, [.ref a, .ref b])), (a, .inl (cI, 256, .inl kf)), (b, .inl (cJ, 256, .inr (.inl vf)))]) [0, 1, 2] rfl
  have hDc := hD.sub (ws' := [(h0, .inr (1, [.ref a, .ref b])), (a, .inl (cI, 256, .inl kf)), (b, .inl (cJ, 256, .inr (.inl vf)))]) [0, 1, 2] (by decide) rfl
  have hKc := hK.sub (tys' := [(cI, .int), (cJ, .long)]) [0, 1] rfl
  have hFc := va_free (wc := [(h0, .inr (1, [.ref a, .ref b])), (a, .inl (cI, 256, .inl kf)), (b, .inl (cJ, 256, .inr (.inl vf)))]) hD hS hA [0, 1, 2] rfl
  refine vx_callv (vx_runV (As := [.int k, .int kd, .long v]) (rest := []) ⟨hx, hb, hml, hown, hts⟩ (qX1_set l hlt dC dI s.heap.size h0 a b cI cJ kf vf k kd v) (cwV 3 hts gL_set_X1_set rfl rfl rfl (by decide +kernel) ⟨Nat.le_of_ble_eq_true rfl, Nat.le_of_ble_eq_true rfl⟩) ⟨fun a U g mk q => by obtain ⟨q0, q1, qP, qK, qD, qE, qZ⟩ := q; exact ⟨q0, q1, qP, va_K.moved (u := U) (U := U.calling g mk a) (Vm.Alike.refl U.vm) qK, qD, ev.same (u := U) rfl qE, ez.moved (U := U.calling g mk a) qZ (Vm.Alike.refl U.vm)⟩, va_recv hKc hPc (ci := 1) (q0 := 0) rfl rfl, fun U hU hW => ⟨rfl, by rw [hU], by rw [hU]; exact hPc, va_K.moved hW.alike hKc, hDc.weaken (fun _ _ _ _ => trivial), hE.warm hW, by rw [hU]; exact ((hZ.kept hS.2.1).narrow hFc).moved hW.alike⟩⟩ rfl rfl hl.1 rfl (lv_room (Nat.le_of_ble_eq_true rfl)) dL_set_4 ⟨Nat.le_of_ble_eq_true rfl, Nat.le_of_ble_eq_true rfl⟩) hS (fun q _ h => hFc q h) hFc (fun q _ h => hFc q h) (fun E ce q9 u t9 H1 locs ht hvm hw hB hz1 hk1 hS hce hcv hcl => ?_) (fun u t9 H1 locs ht hvm hw hB hz1 hk1 hS => ?_)
  · obtain ⟨hex, hP1, hK1, hD1⟩ := hB
    rw [ht] at hP1
    have hK1 := va_K.moved hvm.symm hK1
    obtain ⟨hP, hD⟩ := va_join (wr := []) (w1 := [(h0, .inr (1, [.ref a, .ref b])), (a, .inl (cI, 256, .inl kf)), (b, .inl (cJ, 256, .inr (.inl vf)))]) hP hD [0, 1, 2] [] rfl rfl (by decide) (by decide) hk1 hFc hP1 hD1
    have hK := (hK.sub (tys' := []) [] rfl).app hK1
    generalize H1 = H at hP hS hce ⊢
    have hP : va_P (dC, dI) vwCl [(h0, .inr (1, [.ref a, .ref b])), (a, .inl (cI, 256, .inl kf)), (b, .inl (cJ, 256, .inr (.inl vf)))] H := hP
    have hD : va_D A [(h0, .inr (1, [.ref a, .ref b])), (a, .inl (cI, 256, .inl kf)), (b, .inl (cJ, 256, .inr (.inl vf)))] := hD
    have hK : va_K (dC, dI) vwCl [(cI, .int), (cJ, .long)] s := hK
    refine vx_widen (k := 2) (n := 12) (Nat.le_of_ble_eq_true rfl) (Nat.le_of_ble_eq_true rfl) ?_
    rcases hex with ⟨hE9, hx9⟩ | ⟨hE9, hx9⟩
    · subst hE9
      refine vx_catch hown [] ⟨0, 7, 10, 13⟩ [⟨0, 7, 14, 15⟩] htb (fun z hz => absurd hz List.not_mem_nil) (by decide) (by decide) (hts (.classLink RL 13 IAE) kL_set_0) (va_Nw.use rfl (ev_ciae hE)) hce hcv hcl ?_
      refine lv_astore (lv' := [(5, .ref q9), (0, .ref h0), (1, .int k), (2, .int kd), (3, .long v)]) hx hb dL_set_10 hl (by decide) rfl (fun ls hl => ?_)
      refine lv_iconst (v := 1) hx hb dL_set_12 (by decide) ?_
      have hP9 := hP.sub (ws' := [(h0, .inr (1, [.ref a, .ref b])), (a, .inl (cI, 256, .inl kf)), (b, .inl (cJ, 256, .inr (.inl vf)))]) [0, 1, 2] rfl
      have hD9 := hD.sub (ws' := [(h0, .inr (1, [.ref a, .ref b])), (a, .inl (cI, 256, .inl kf)), (b, .inl (cJ, 256, .inr (.inl vf)))]) [0, 1, 2] (by decide) rfl
      have hK9 := hK.sub (tys' := [(cI, .int), (cJ, .long)]) [0, 1] rfl
      refine vx_ret ?_
      refine W.widen (k := 2) (n := 12) (Nat.le_of_ble_eq_true rfl) (Nat.le_of_ble_eq_true rfl) ?_
      exact W.iret (v := 1) hx hb hr (fun t9 ht hW => ⟨⟨1, (kf, vf), rfl, ⟨by first | (simp [s_c, s_k, s_v, hx9]; done) | (simp [s_c, s_k, s_v, hx9]; done) | grind [s_c, s_k, s_v], by first | (simp [s_c, s_k, s_v, hx9]; done) | (simp [s_c, s_k, s_v, hx9]; done) | grind [s_c, s_k, s_v]⟩, by rw [ht]; exact hP9, va_K.moved hW.alike hK9, hD9⟩, hS.F ht⟩) hS.2.2 dL_set_13
    · subst hE9
      refine vx_catch hown [⟨0, 7, 10, 13⟩] ⟨0, 7, 14, 15⟩ [] htb (fun z hz => by rw [List.mem_singleton.mp hz]; exact Or.inr ⟨by decide, IAE, (hts (.classLink RL 13 IAE) kL_set_0), hE.2.2.1⟩) (by decide) (by decide) (hts (.classLink RL 15 IOB) kL_set_1) (va_Nw.use rfl (ev_ciob hE)) hce hcv hcl ?_
      refine lv_astore (lv' := [(5, .ref q9), (0, .ref h0), (1, .int k), (2, .int kd), (3, .long v)]) hx hb dL_set_14 hl (by decide) rfl (fun ls hl => ?_)
      refine lv_iconst (v := 2) hx hb dL_set_16 (by decide) ?_
      have hP9 := hP.sub (ws' := [(h0, .inr (1, [.ref a, .ref b])), (a, .inl (cI, 256, .inl kf)), (b, .inl (cJ, 256, .inr (.inl vf)))]) [0, 1, 2] rfl
      have hD9 := hD.sub (ws' := [(h0, .inr (1, [.ref a, .ref b])), (a, .inl (cI, 256, .inl kf)), (b, .inl (cJ, 256, .inr (.inl vf)))]) [0, 1, 2] (by decide) rfl
      have hK9 := hK.sub (tys' := [(cI, .int), (cJ, .long)]) [0, 1] rfl
      refine vx_ret ?_
      refine W.widen (k := 2) (n := 12) (Nat.le_of_ble_eq_true rfl) (Nat.le_of_ble_eq_true rfl) ?_
      exact W.iret (v := 2) hx hb hr (fun t9 ht hW => ⟨⟨2, (kf, vf), rfl, ⟨by first | (simp [s_c, s_k, s_v, hx9]; done) | (simp [s_c, s_k, s_v, hx9]; done) | grind [s_c, s_k, s_v], by first | (simp [s_c, s_k, s_v, hx9]; done) | (simp [s_c, s_k, s_v, hx9]; done) | grind [s_c, s_k, s_v]⟩, by rw [ht]; exact hP9, va_K.moved hW.alike hK9, hD9⟩, hS.F ht⟩) hS.2.2 dL_set_17
  · obtain ⟨hP1, hK1, hD1⟩ := hB
    rw [ht] at hP1
    obtain ⟨h_2, rfl⟩ := hw
    have hK1 := va_K.moved hvm.symm hK1
    obtain ⟨hP, hD⟩ := va_join (wr := []) (w1 := [(h0, .inr (1, [.ref a, .ref b])), (a, .inl (cI, 256, .inl ((upd kf k.toNatClampNeg kd, vp_updL vf k.toNatClampNeg v).1))), (b, .inl (cJ, 256, .inr (.inl ((upd kf k.toNatClampNeg kd, vp_updL vf k.toNatClampNeg v).2))))]) hP hD [0, 1, 2] [] rfl rfl (by decide) (by decide) hk1 hFc hP1 hD1
    have hK := (hK.sub (tys' := []) [] rfl).app hK1
    generalize H1 = H at hP hS ⊢
    have hP : va_P (dC, dI) vwCl [(h0, .inr (1, [.ref a, .ref b])), (a, .inl (cI, 256, .inl ((upd kf k.toNatClampNeg kd, vp_updL vf k.toNatClampNeg v).1))), (b, .inl (cJ, 256, .inr (.inl ((upd kf k.toNatClampNeg kd, vp_updL vf k.toNatClampNeg v).2))))] H := hP
    have hD : va_D A [(h0, .inr (1, [.ref a, .ref b])), (a, .inl (cI, 256, .inl ((upd kf k.toNatClampNeg kd, vp_updL vf k.toNatClampNeg v).1))), (b, .inl (cJ, 256, .inr (.inl ((upd kf k.toNatClampNeg kd, vp_updL vf k.toNatClampNeg v).2))))] := hD
    have hK : va_K (dC, dI) vwCl [(cI, .int), (cJ, .long)] s := hK
    refine W.widen (k := 2) (n := 12) (Nat.le_of_ble_eq_true rfl) (Nat.le_of_ble_eq_true rfl) ?_
    refine lv_goto (tgt := 18) hx hb dL_set_7 (by decide) ?_
    refine lv_iconst (v := 0) hx hb dL_set_18 (by decide) ?_
    have hP9 := hP.sub (ws' := [(h0, .inr (1, [.ref a, .ref b])), (a, .inl (cI, 256, .inl ((upd kf k.toNatClampNeg kd, vp_updL vf k.toNatClampNeg v).1))), (b, .inl (cJ, 256, .inr (.inl ((upd kf k.toNatClampNeg kd, vp_updL vf k.toNatClampNeg v).2))))]) [0, 1, 2] rfl
    have hD9 := hD.sub (ws' := [(h0, .inr (1, [.ref a, .ref b])), (a, .inl (cI, 256, .inl ((upd kf k.toNatClampNeg kd, vp_updL vf k.toNatClampNeg v).1))), (b, .inl (cJ, 256, .inr (.inl ((upd kf k.toNatClampNeg kd, vp_updL vf k.toNatClampNeg v).2))))]) [0, 1, 2] (by decide) rfl
    have hK9 := hK.sub (tys' := [(cI, .int), (cJ, .long)]) [0, 1] rfl
    refine vx_ret ?_
    refine W.widen (k := 2) (n := 12) (Nat.le_of_ble_eq_true rfl) (Nat.le_of_ble_eq_true rfl) ?_
    exact W.iret (v := 0) hx hb hr (fun t9 ht hW => ⟨⟨0, ((upd kf k.toNatClampNeg kd, vp_updL vf k.toNatClampNeg v).1, (upd kf k.toNatClampNeg kd, vp_updL vf k.toNatClampNeg v).2), rfl, ⟨by first | (simp [s_c, s_k, s_v, h_2]; done) | (simp [s_c, s_k, s_v, h_2]; done) | grind [s_c, s_k, s_v], by first | (simp [s_c, s_k, s_v, h_2]; done) | (simp [s_c, s_k, s_v, h_2]; done) | grind [s_c, s_k, s_v]⟩, by rw [ht]; exact hP9, va_K.moved hW.alike hK9, hD9⟩, hS.F ht⟩) hS.2.2 dL_set_19

set_option maxRecDepth 20000 in
theorem kL_fill_0 : (.classLink RL 13 IAE : Cond) ∈ wsL_fill := by decide +kernel
set_option maxRecDepth 20000 in
theorem kL_fill_1 : (.classLink RL 15 IOB : Cond) ∈ wsL_fill := by decide +kernel
set_option maxHeartbeats 4000000 in
set_option maxRecDepth 100000 in
theorem qL_fill (l : Launch) (hlt : l.stackTraces = false) (dC : Nat → ClassId) (dI : Nat → Nat → Nat) (sz : Nat) (h0 a b : Nat) (cI cJ : ClassId) (kf : Nat → Int32) (vf : Nat → Int64) (f t kd : Int32) (v : Int64)  : vx_Met l yL_fill wsL_fill ({ frames := 8, cells := 2, slots := 12, locals := 160 }) (va_Pc [.ref h0, .int f, .int t, .int kd, .long v] (fun U => U.heap.size = sz ∧ va_P (dC, dI) vwCl [(h0, .inr (1, [.ref a, .ref b])), (a, .inl (cI, 256, .inl kf)), (b, .inl (cJ, 256, .inr (.inl vf)))] U.heap ∧ va_K (dC, dI) vwCl [(cI, .int), (cJ, .long)] U ∧ va_D (fun _ => True) [(h0, .inr (1, [.ref a, .ref b])), (a, .inl (cI, 256, .inl kf)), (b, .inl (cJ, 256, .inr (.inl vf)))] ∧ ev U ∧ ez (va_A [(h0, .inr (1, [.ref a, .ref b])), (a, .inl (cI, 256, .inl kf)), (b, .inl (cJ, 256, .inr (.inl vf)))] sz) U U.heap)) (va_Qi (fun (r : Int32) (u : (Nat → Int32) × (Nat → Int64)) => (r = f_c f t kd v) ∧ u = (f_k kf f t kd v, f_v vf f t kd v)) (fun (u : (Nat → Int32) × (Nat → Int64)) (t9 : State) => va_P (dC, dI) vwCl [(h0, .inr (1, [.ref a, .ref b])), (a, .inl (cI, 256, .inl u.1)), (b, .inl (cJ, 256, .inr (.inl u.2)))] t9.heap ∧ va_K (dC, dI) vwCl [(cI, .int), (cJ, .long)] t9 ∧ va_D (va_A [(h0, .inr (1, [.ref a, .ref b])), (a, .inl (cI, 256, .inl kf)), (b, .inl (cJ, 256, .inr (.inl vf)))] sz) [(h0, .inr (1, [.ref a, .ref b])), (a, .inl (cI, 256, .inl u.1)), (b, .inl (cJ, 256, .inr (.inl u.2)))]) (va_A [(h0, .inr (1, [.ref a, .ref b])), (a, .inl (cI, 256, .inl kf)), (b, .inl (cJ, 256, .inr (.inl vf)))] sz)) (vx_X (fun _ : Unit => True) (fun (E : String) (_ : Unit) (t9 : State) => (False) ∧ va_P (dC, dI) vwCl [(h0, .inr (1, [.ref a, .ref b])), (a, .inl (cI, 256, .inl kf)), (b, .inl (cJ, 256, .inr (.inl vf)))] t9.heap ∧ va_K (dC, dI) vwCl [(cI, .int), (cJ, .long)] t9 ∧ va_D (va_A [(h0, .inr (1, [.ref a, .ref b])), (a, .inl (cI, 256, .inl kf)), (b, .inl (cJ, 256, .inr (.inl vf)))] sz) [(h0, .inr (1, [.ref a, .ref b])), (a, .inl (cI, 256, .inl kf)), (b, .inl (cJ, 256, .inr (.inl vf)))]) (va_A [(h0, .inr (1, [.ref a, .ref b])), (a, .inl (cI, 256, .inl kf)), (b, .inl (cJ, 256, .inr (.inl vf)))] sz)) 2 12 (va_A [(h0, .inr (1, [.ref a, .ref b])), (a, .inl (cI, 256, .inl kf)), (b, .inl (cJ, 256, .inr (.inl vf)))] sz) := by
  refine vx_ofWH (cc := cL_fill) (maxL := 7) (ret := (some .int)) (hh := [(0, 9, 12, 13), (0, 9, 16, 15)]) (by decide) rfl ?_
  intro p e s m args below meth c s₁ B hml hv
  obtain ⟨rfl, hsz, hP, hK, hD0, hE, hZ⟩ := hv
  have hx := B.exec
  have hb := B.bytes
  have hr := B.returns
  have hts := atoms_spec (ws := wsL_fill) B.pre
  have hown : s.vm.findClass RL = some m.cls := findClass_of_methodNamed B.named
  have hlocks := B.notSynchronized
  have htb := vx_table (x := yL_fill) B (hts _ List.mem_cons_self)
  subst hsz
  have hD := hD0.self (sz := s.heap.size)
  generalize hAe : va_A [(h0, .inr (1, [.ref a, .ref b])), (a, .inl (cI, 256, .inl kf)), (b, .inl (cJ, 256, .inr (.inl vf)))] s.heap.size = A at hD hZ ⊢
  have hA : ∀ q : Nat, s.heap.size ≤ q → A q := fun q h => by rw [← hAe]; exact Or.inr h
  have hS : va_S A s.heap s.heap [] := va_S.rf
  have hP : va_P (dC, dI) vwCl [(h0, .inr (1, [.ref a, .ref b])), (a, .inl (cI, 256, .inl kf)), (b, .inl (cJ, 256, .inr (.inl vf)))] s.heap := hP
  have hl := lv_entry ([.ref h0, .int f, .int t, .int kd, .long v]) (n := 7) (Nat.le_of_ble_eq_true rfl)
  rw [lg_entry_eq]
  generalize (lg_sl ([.ref h0, .int f, .int t, .int kd, .long v]) ++ List.replicate (7 - (lg_sl ([.ref h0, .int f, .int t, .int kd, .long v])).length) Slot.unset).toArray = ls at hl ⊢
  have hl : lv_has ls 7 [(0, .ref h0), (1, .int f), (2, .int t), (3, .int kd), (4, .long v)] := hl
  refine lv_aload_n hx hb dL_fill_0 rfl (lv_at hl 0 rfl) ?_
  refine lv_iload_n hx hb dL_fill_1 rfl (lv_at hl 1 rfl) ?_
  refine lv_iload_n hx hb dL_fill_2 rfl (lv_at hl 2 rfl) ?_
  refine lv_iload_n hx hb dL_fill_3 rfl (lv_at hl 3 rfl) ?_
  refine lv_lload hx hb dL_fill_4 (lv_at hl 4 rfl) ?_
  have hPc := hP.sub (ws' := [(h0, .inr (1, [.ref a, .ref b])), (a, .inl (cI, 256, .inl kf)), (b, .inl (cJ, 256, .inr (.inl vf)))]) [0, 1, 2] rfl
  have hDc := hD.sub (ws' := [(h0, .inr (1, [.ref a, .ref b])), (a, .inl (cI, 256, .inl kf)), (b, .inl (cJ, 256, .inr (.inl vf)))]) [0, 1, 2] (by decide) rfl
  have hKc := hK.sub (tys' := [(cI, .int), (cJ, .long)]) [0, 1] rfl
  have hFc := va_free (wc := [(h0, .inr (1, [.ref a, .ref b])), (a, .inl (cI, 256, .inl kf)), (b, .inl (cJ, 256, .inr (.inl vf)))]) hD hS hA [0, 1, 2] rfl
  refine vx_callv (vx_runV (As := [.int f, .int t, .int kd, .long v]) (rest := []) ⟨hx, hb, hml, hown, hts⟩ (qX1_fill l hlt dC dI s.heap.size h0 a b cI cJ kf vf f t kd v) (cwV 4 hts gL_fill_X1_fill rfl rfl rfl (by decide +kernel) ⟨Nat.le_of_ble_eq_true rfl, Nat.le_of_ble_eq_true rfl⟩) ⟨fun a U g mk q => by obtain ⟨q0, q1, qP, qK, qD, qE, qZ⟩ := q; exact ⟨q0, q1, qP, va_K.moved (u := U) (U := U.calling g mk a) (Vm.Alike.refl U.vm) qK, qD, ev.same (u := U) rfl qE, ez.moved (U := U.calling g mk a) qZ (Vm.Alike.refl U.vm)⟩, va_recv hKc hPc (ci := 1) (q0 := 0) rfl rfl, fun U hU hW => ⟨rfl, by rw [hU], by rw [hU]; exact hPc, va_K.moved hW.alike hKc, hDc.weaken (fun _ _ _ _ => trivial), hE.warm hW, by rw [hU]; exact ((hZ.kept hS.2.1).narrow hFc).moved hW.alike⟩⟩ rfl rfl hl.1 rfl (lv_room (Nat.le_of_ble_eq_true rfl)) dL_fill_6 ⟨Nat.le_of_ble_eq_true rfl, Nat.le_of_ble_eq_true rfl⟩) hS (fun q _ h => hFc q h) hFc (fun q _ h => hFc q h) (fun E ce q9 u t9 H1 locs ht hvm hw hB hz1 hk1 hS hce hcv hcl => ?_) (fun u t9 H1 locs ht hvm hw hB hz1 hk1 hS => ?_)
  · obtain ⟨hex, hP1, hK1, hD1⟩ := hB
    rw [ht] at hP1
    have hK1 := va_K.moved hvm.symm hK1
    obtain ⟨hP, hD⟩ := va_join (wr := []) (w1 := [(h0, .inr (1, [.ref a, .ref b])), (a, .inl (cI, 256, .inl kf)), (b, .inl (cJ, 256, .inr (.inl vf)))]) hP hD [0, 1, 2] [] rfl rfl (by decide) (by decide) hk1 hFc hP1 hD1
    have hK := (hK.sub (tys' := []) [] rfl).app hK1
    generalize H1 = H at hP hS hce ⊢
    have hP : va_P (dC, dI) vwCl [(h0, .inr (1, [.ref a, .ref b])), (a, .inl (cI, 256, .inl kf)), (b, .inl (cJ, 256, .inr (.inl vf)))] H := hP
    have hD : va_D A [(h0, .inr (1, [.ref a, .ref b])), (a, .inl (cI, 256, .inl kf)), (b, .inl (cJ, 256, .inr (.inl vf)))] := hD
    have hK : va_K (dC, dI) vwCl [(cI, .int), (cJ, .long)] s := hK
    refine vx_widen (k := 2) (n := 12) (Nat.le_of_ble_eq_true rfl) (Nat.le_of_ble_eq_true rfl) ?_
    rcases hex with ⟨hE9, hx9⟩ | ⟨hE9, hx9⟩
    · subst hE9
      refine vx_catch hown [] ⟨0, 9, 12, 13⟩ [⟨0, 9, 16, 15⟩] htb (fun z hz => absurd hz List.not_mem_nil) (by decide) (by decide) (hts (.classLink RL 13 IAE) kL_fill_0) (va_Nw.use rfl (ev_ciae hE)) hce hcv hcl ?_
      refine lv_astore (lv' := [(6, .ref q9), (0, .ref h0), (1, .int f), (2, .int t), (3, .int kd), (4, .long v)]) hx hb dL_fill_12 hl (by decide) rfl (fun ls hl => ?_)
      refine lv_iconst (v := 1) hx hb dL_fill_14 (by decide) ?_
      have hP9 := hP.sub (ws' := [(h0, .inr (1, [.ref a, .ref b])), (a, .inl (cI, 256, .inl kf)), (b, .inl (cJ, 256, .inr (.inl vf)))]) [0, 1, 2] rfl
      have hD9 := hD.sub (ws' := [(h0, .inr (1, [.ref a, .ref b])), (a, .inl (cI, 256, .inl kf)), (b, .inl (cJ, 256, .inr (.inl vf)))]) [0, 1, 2] (by decide) rfl
      have hK9 := hK.sub (tys' := [(cI, .int), (cJ, .long)]) [0, 1] rfl
      refine vx_ret ?_
      refine W.widen (k := 2) (n := 12) (Nat.le_of_ble_eq_true rfl) (Nat.le_of_ble_eq_true rfl) ?_
      exact W.iret (v := 1) hx hb hr (fun t9 ht hW => ⟨⟨1, (kf, vf), rfl, ⟨by first | (simp [f_c, f_k, f_v, hx9]; done) | (simp [f_c, f_k, f_v, hx9]; done) | grind [f_c, f_k, f_v], by first | (simp [f_c, f_k, f_v, hx9]; done) | (simp [f_c, f_k, f_v, hx9]; done) | grind [f_c, f_k, f_v]⟩, by rw [ht]; exact hP9, va_K.moved hW.alike hK9, hD9⟩, hS.F ht⟩) hS.2.2 dL_fill_15
    · subst hE9
      refine vx_catch hown [⟨0, 9, 12, 13⟩] ⟨0, 9, 16, 15⟩ [] htb (fun z hz => by rw [List.mem_singleton.mp hz]; exact Or.inr ⟨by decide, IAE, (hts (.classLink RL 13 IAE) kL_fill_0), hE.2.2.1⟩) (by decide) (by decide) (hts (.classLink RL 15 IOB) kL_fill_1) (va_Nw.use rfl (ev_ciob hE)) hce hcv hcl ?_
      refine lv_astore (lv' := [(6, .ref q9), (0, .ref h0), (1, .int f), (2, .int t), (3, .int kd), (4, .long v)]) hx hb dL_fill_16 hl (by decide) rfl (fun ls hl => ?_)
      refine lv_iconst (v := 2) hx hb dL_fill_18 (by decide) ?_
      have hP9 := hP.sub (ws' := [(h0, .inr (1, [.ref a, .ref b])), (a, .inl (cI, 256, .inl kf)), (b, .inl (cJ, 256, .inr (.inl vf)))]) [0, 1, 2] rfl
      have hD9 := hD.sub (ws' := [(h0, .inr (1, [.ref a, .ref b])), (a, .inl (cI, 256, .inl kf)), (b, .inl (cJ, 256, .inr (.inl vf)))]) [0, 1, 2] (by decide) rfl
      have hK9 := hK.sub (tys' := [(cI, .int), (cJ, .long)]) [0, 1] rfl
      refine vx_ret ?_
      refine W.widen (k := 2) (n := 12) (Nat.le_of_ble_eq_true rfl) (Nat.le_of_ble_eq_true rfl) ?_
      exact W.iret (v := 2) hx hb hr (fun t9 ht hW => ⟨⟨2, (kf, vf), rfl, ⟨by first | (simp [f_c, f_k, f_v, hx9]; done) | (simp [f_c, f_k, f_v, hx9]; done) | grind [f_c, f_k, f_v], by first | (simp [f_c, f_k, f_v, hx9]; done) | (simp [f_c, f_k, f_v, hx9]; done) | grind [f_c, f_k, f_v]⟩, by rw [ht]; exact hP9, va_K.moved hW.alike hK9, hD9⟩, hS.F ht⟩) hS.2.2 dL_fill_19
  · obtain ⟨hP1, hK1, hD1⟩ := hB
    rw [ht] at hP1
    obtain ⟨h_2, rfl⟩ := hw
    have hK1 := va_K.moved hvm.symm hK1
    obtain ⟨hP, hD⟩ := va_join (wr := []) (w1 := [(h0, .inr (1, [.ref a, .ref b])), (a, .inl (cI, 256, .inl ((f_fi kf f.toNatClampNeg (ln f t) kd, f_fi vf f.toNatClampNeg (ln f t) v).1))), (b, .inl (cJ, 256, .inr (.inl ((f_fi kf f.toNatClampNeg (ln f t) kd, f_fi vf f.toNatClampNeg (ln f t) v).2))))]) hP hD [0, 1, 2] [] rfl rfl (by decide) (by decide) hk1 hFc hP1 hD1
    have hK := (hK.sub (tys' := []) [] rfl).app hK1
    generalize H1 = H at hP hS ⊢
    have hP : va_P (dC, dI) vwCl [(h0, .inr (1, [.ref a, .ref b])), (a, .inl (cI, 256, .inl ((f_fi kf f.toNatClampNeg (ln f t) kd, f_fi vf f.toNatClampNeg (ln f t) v).1))), (b, .inl (cJ, 256, .inr (.inl ((f_fi kf f.toNatClampNeg (ln f t) kd, f_fi vf f.toNatClampNeg (ln f t) v).2))))] H := hP
    have hD : va_D A [(h0, .inr (1, [.ref a, .ref b])), (a, .inl (cI, 256, .inl ((f_fi kf f.toNatClampNeg (ln f t) kd, f_fi vf f.toNatClampNeg (ln f t) v).1))), (b, .inl (cJ, 256, .inr (.inl ((f_fi kf f.toNatClampNeg (ln f t) kd, f_fi vf f.toNatClampNeg (ln f t) v).2))))] := hD
    have hK : va_K (dC, dI) vwCl [(cI, .int), (cJ, .long)] s := hK
    refine W.widen (k := 2) (n := 12) (Nat.le_of_ble_eq_true rfl) (Nat.le_of_ble_eq_true rfl) ?_
    refine lv_goto (tgt := 20) hx hb dL_fill_9 (by decide) ?_
    refine lv_iconst (v := 0) hx hb dL_fill_20 (by decide) ?_
    have hP9 := hP.sub (ws' := [(h0, .inr (1, [.ref a, .ref b])), (a, .inl (cI, 256, .inl ((f_fi kf f.toNatClampNeg (ln f t) kd, f_fi vf f.toNatClampNeg (ln f t) v).1))), (b, .inl (cJ, 256, .inr (.inl ((f_fi kf f.toNatClampNeg (ln f t) kd, f_fi vf f.toNatClampNeg (ln f t) v).2))))]) [0, 1, 2] rfl
    have hD9 := hD.sub (ws' := [(h0, .inr (1, [.ref a, .ref b])), (a, .inl (cI, 256, .inl ((f_fi kf f.toNatClampNeg (ln f t) kd, f_fi vf f.toNatClampNeg (ln f t) v).1))), (b, .inl (cJ, 256, .inr (.inl ((f_fi kf f.toNatClampNeg (ln f t) kd, f_fi vf f.toNatClampNeg (ln f t) v).2))))]) [0, 1, 2] (by decide) rfl
    have hK9 := hK.sub (tys' := [(cI, .int), (cJ, .long)]) [0, 1] rfl
    refine vx_ret ?_
    refine W.widen (k := 2) (n := 12) (Nat.le_of_ble_eq_true rfl) (Nat.le_of_ble_eq_true rfl) ?_
    exact W.iret (v := 0) hx hb hr (fun t9 ht hW => ⟨⟨0, ((f_fi kf f.toNatClampNeg (ln f t) kd, f_fi vf f.toNatClampNeg (ln f t) v).1, (f_fi kf f.toNatClampNeg (ln f t) kd, f_fi vf f.toNatClampNeg (ln f t) v).2), rfl, ⟨by first | (simp [f_c, f_k, f_v, h_2]; done) | (simp [f_c, f_k, f_v, h_2]; done) | grind [f_c, f_k, f_v], by first | (simp [f_c, f_k, f_v, h_2]; done) | (simp [f_c, f_k, f_v, h_2]; done) | grind [f_c, f_k, f_v]⟩, by rw [ht]; exact hP9, va_K.moved hW.alike hK9, hD9⟩, hS.F ht⟩) hS.2.2 dL_fill_21

set_option maxRecDepth 20000 in
theorem kL_swap_0 : (.classLink RL 15 IOB : Cond) ∈ wsL_swap := by decide +kernel
set_option maxHeartbeats 4000000 in
set_option maxRecDepth 100000 in
theorem qL_swap (l : Launch) (hlt : l.stackTraces = false) (dC : Nat → ClassId) (dI : Nat → Nat → Nat) (sz : Nat) (h0 a b : Nat) (cI cJ : ClassId) (kf : Nat → Int32) (vf : Nat → Int64) (i k : Int32)  : vx_Met l yL_swap wsL_swap ({ frames := 8, cells := 2, slots := 12, locals := 160 }) (va_Pc [.ref h0, .int i, .int k] (fun U => U.heap.size = sz ∧ va_P (dC, dI) vwCl [(h0, .inr (1, [.ref a, .ref b])), (a, .inl (cI, 256, .inl kf)), (b, .inl (cJ, 256, .inr (.inl vf)))] U.heap ∧ va_K (dC, dI) vwCl [(cI, .int), (cJ, .long)] U ∧ va_D (fun _ => True) [(h0, .inr (1, [.ref a, .ref b])), (a, .inl (cI, 256, .inl kf)), (b, .inl (cJ, 256, .inr (.inl vf)))] ∧ ev U ∧ ez (va_A [(h0, .inr (1, [.ref a, .ref b])), (a, .inl (cI, 256, .inl kf)), (b, .inl (cJ, 256, .inr (.inl vf)))] sz) U U.heap)) (va_Qi (fun (r : Int32) (u : (Nat → Int32) × (Nat → Int64)) => (r = w_c i k) ∧ u = (w_k kf i k, w_v vf i k)) (fun (u : (Nat → Int32) × (Nat → Int64)) (t9 : State) => va_P (dC, dI) vwCl [(h0, .inr (1, [.ref a, .ref b])), (a, .inl (cI, 256, .inl u.1)), (b, .inl (cJ, 256, .inr (.inl u.2)))] t9.heap ∧ va_K (dC, dI) vwCl [(cI, .int), (cJ, .long)] t9 ∧ va_D (va_A [(h0, .inr (1, [.ref a, .ref b])), (a, .inl (cI, 256, .inl kf)), (b, .inl (cJ, 256, .inr (.inl vf)))] sz) [(h0, .inr (1, [.ref a, .ref b])), (a, .inl (cI, 256, .inl u.1)), (b, .inl (cJ, 256, .inr (.inl u.2)))]) (va_A [(h0, .inr (1, [.ref a, .ref b])), (a, .inl (cI, 256, .inl kf)), (b, .inl (cJ, 256, .inr (.inl vf)))] sz)) (vx_X (fun _ : Unit => True) (fun (E : String) (_ : Unit) (t9 : State) => (False) ∧ va_P (dC, dI) vwCl [(h0, .inr (1, [.ref a, .ref b])), (a, .inl (cI, 256, .inl kf)), (b, .inl (cJ, 256, .inr (.inl vf)))] t9.heap ∧ va_K (dC, dI) vwCl [(cI, .int), (cJ, .long)] t9 ∧ va_D (va_A [(h0, .inr (1, [.ref a, .ref b])), (a, .inl (cI, 256, .inl kf)), (b, .inl (cJ, 256, .inr (.inl vf)))] sz) [(h0, .inr (1, [.ref a, .ref b])), (a, .inl (cI, 256, .inl kf)), (b, .inl (cJ, 256, .inr (.inl vf)))]) (va_A [(h0, .inr (1, [.ref a, .ref b])), (a, .inl (cI, 256, .inl kf)), (b, .inl (cJ, 256, .inr (.inl vf)))] sz)) 2 12 (va_A [(h0, .inr (1, [.ref a, .ref b])), (a, .inl (cI, 256, .inl kf)), (b, .inl (cJ, 256, .inr (.inl vf)))] sz) := by
  refine vx_ofWH (cc := cL_swap) (maxL := 4) (ret := (some .int)) (hh := [(0, 6, 9, 15)]) (by decide) rfl ?_
  intro p e s m args below meth c s₁ B hml hv
  obtain ⟨rfl, hsz, hP, hK, hD0, hE, hZ⟩ := hv
  have hx := B.exec
  have hb := B.bytes
  have hr := B.returns
  have hts := atoms_spec (ws := wsL_swap) B.pre
  have hown : s.vm.findClass RL = some m.cls := findClass_of_methodNamed B.named
  have hlocks := B.notSynchronized
  have htb := vx_table (x := yL_swap) B (hts _ List.mem_cons_self)
  subst hsz
  have hD := hD0.self (sz := s.heap.size)
  generalize hAe : va_A [(h0, .inr (1, [.ref a, .ref b])), (a, .inl (cI, 256, .inl kf)), (b, .inl (cJ, 256, .inr (.inl vf)))] s.heap.size = A at hD hZ ⊢
  have hA : ∀ q : Nat, s.heap.size ≤ q → A q := fun q h => by rw [← hAe]; exact Or.inr h
  have hS : va_S A s.heap s.heap [] := va_S.rf
  have hP : va_P (dC, dI) vwCl [(h0, .inr (1, [.ref a, .ref b])), (a, .inl (cI, 256, .inl kf)), (b, .inl (cJ, 256, .inr (.inl vf)))] s.heap := hP
  have hl := lv_entry ([.ref h0, .int i, .int k]) (n := 4) (Nat.le_of_ble_eq_true rfl)
  rw [lg_entry_eq]
  generalize (lg_sl ([.ref h0, .int i, .int k]) ++ List.replicate (4 - (lg_sl ([.ref h0, .int i, .int k])).length) Slot.unset).toArray = ls at hl ⊢
  have hl : lv_has ls 4 [(0, .ref h0), (1, .int i), (2, .int k)] := hl
  refine lv_aload_n hx hb dL_swap_0 rfl (lv_at hl 0 rfl) ?_
  refine lv_iload_n hx hb dL_swap_1 rfl (lv_at hl 1 rfl) ?_
  refine lv_iload_n hx hb dL_swap_2 rfl (lv_at hl 2 rfl) ?_
  have hPc := hP.sub (ws' := [(h0, .inr (1, [.ref a, .ref b])), (a, .inl (cI, 256, .inl kf)), (b, .inl (cJ, 256, .inr (.inl vf)))]) [0, 1, 2] rfl
  have hDc := hD.sub (ws' := [(h0, .inr (1, [.ref a, .ref b])), (a, .inl (cI, 256, .inl kf)), (b, .inl (cJ, 256, .inr (.inl vf)))]) [0, 1, 2] (by decide) rfl
  have hKc := hK.sub (tys' := [(cI, .int), (cJ, .long)]) [0, 1] rfl
  have hFc := va_free (wc := [(h0, .inr (1, [.ref a, .ref b])), (a, .inl (cI, 256, .inl kf)), (b, .inl (cJ, 256, .inr (.inl vf)))]) hD hS hA [0, 1, 2] rfl
  refine vx_callv (vx_runV (As := [.int i, .int k]) (rest := []) ⟨hx, hb, hml, hown, hts⟩ (qX1_swap l hlt dC dI s.heap.size h0 a b cI cJ kf vf i k) (cwV 2 hts gL_swap_X1_swap rfl rfl rfl (by decide +kernel) ⟨Nat.le_of_ble_eq_true rfl, Nat.le_of_ble_eq_true rfl⟩) ⟨fun a U g mk q => by obtain ⟨q0, q1, qP, qK, qD, qE, qZ⟩ := q; exact ⟨q0, q1, qP, va_K.moved (u := U) (U := U.calling g mk a) (Vm.Alike.refl U.vm) qK, qD, ev.same (u := U) rfl qE, ez.moved (U := U.calling g mk a) qZ (Vm.Alike.refl U.vm)⟩, va_recv hKc hPc (ci := 1) (q0 := 0) rfl rfl, fun U hU hW => ⟨rfl, by rw [hU], by rw [hU]; exact hPc, va_K.moved hW.alike hKc, hDc.weaken (fun _ _ _ _ => trivial), hE.warm hW, by rw [hU]; exact ((hZ.kept hS.2.1).narrow hFc).moved hW.alike⟩⟩ rfl rfl hl.1 rfl (lv_room (Nat.le_of_ble_eq_true rfl)) dL_swap_3 ⟨Nat.le_of_ble_eq_true rfl, Nat.le_of_ble_eq_true rfl⟩) hS (fun q _ h => hFc q h) hFc (fun q _ h => hFc q h) (fun E ce q9 u t9 H1 locs ht hvm hw hB hz1 hk1 hS hce hcv hcl => ?_) (fun u t9 H1 locs ht hvm hw hB hz1 hk1 hS => ?_)
  · obtain ⟨hex, hP1, hK1, hD1⟩ := hB
    rw [ht] at hP1
    have hK1 := va_K.moved hvm.symm hK1
    obtain ⟨hP, hD⟩ := va_join (wr := []) (w1 := [(h0, .inr (1, [.ref a, .ref b])), (a, .inl (cI, 256, .inl kf)), (b, .inl (cJ, 256, .inr (.inl vf)))]) hP hD [0, 1, 2] [] rfl rfl (by decide) (by decide) hk1 hFc hP1 hD1
    have hK := (hK.sub (tys' := []) [] rfl).app hK1
    generalize H1 = H at hP hS hce ⊢
    have hP : va_P (dC, dI) vwCl [(h0, .inr (1, [.ref a, .ref b])), (a, .inl (cI, 256, .inl kf)), (b, .inl (cJ, 256, .inr (.inl vf)))] H := hP
    have hD : va_D A [(h0, .inr (1, [.ref a, .ref b])), (a, .inl (cI, 256, .inl kf)), (b, .inl (cJ, 256, .inr (.inl vf)))] := hD
    have hK : va_K (dC, dI) vwCl [(cI, .int), (cJ, .long)] s := hK
    refine vx_widen (k := 2) (n := 12) (Nat.le_of_ble_eq_true rfl) (Nat.le_of_ble_eq_true rfl) ?_
    obtain ⟨hE9, hx9⟩ := hex
    subst hE9
    refine vx_catch hown [] ⟨0, 6, 9, 15⟩ [] htb (fun z hz => absurd hz List.not_mem_nil) (by decide) (by decide) (hts (.classLink RL 15 IOB) kL_swap_0) (va_Nw.use rfl (ev_ciob hE)) hce hcv hcl ?_
    refine lv_astore_n (lv' := [(3, .ref q9), (0, .ref h0), (1, .int i), (2, .int k)]) hx hb dL_swap_9 rfl hl (by decide) rfl (fun ls hl => ?_)
    refine lv_iconst (v := 1) hx hb dL_swap_10 (by decide) ?_
    have hP9 := hP.sub (ws' := [(h0, .inr (1, [.ref a, .ref b])), (a, .inl (cI, 256, .inl kf)), (b, .inl (cJ, 256, .inr (.inl vf)))]) [0, 1, 2] rfl
    have hD9 := hD.sub (ws' := [(h0, .inr (1, [.ref a, .ref b])), (a, .inl (cI, 256, .inl kf)), (b, .inl (cJ, 256, .inr (.inl vf)))]) [0, 1, 2] (by decide) rfl
    have hK9 := hK.sub (tys' := [(cI, .int), (cJ, .long)]) [0, 1] rfl
    refine vx_ret ?_
    refine W.widen (k := 2) (n := 12) (Nat.le_of_ble_eq_true rfl) (Nat.le_of_ble_eq_true rfl) ?_
    exact W.iret (v := 1) hx hb hr (fun t9 ht hW => ⟨⟨1, (kf, vf), rfl, ⟨by first | (simp [w_c, w_k, w_v, hx9]; done) | (simp [w_c, w_k, w_v, hx9]; done) | grind [w_c, w_k, w_v], by first | (simp [w_c, w_k, w_v, hx9]; done) | (simp [w_c, w_k, w_v, hx9]; done) | grind [w_c, w_k, w_v]⟩, by rw [ht]; exact hP9, va_K.moved hW.alike hK9, hD9⟩, hS.F ht⟩) hS.2.2 dL_swap_11
  · obtain ⟨hP1, hK1, hD1⟩ := hB
    rw [ht] at hP1
    obtain ⟨h_2, rfl⟩ := hw
    have hK1 := va_K.moved hvm.symm hK1
    obtain ⟨hP, hD⟩ := va_join (wr := []) (w1 := [(h0, .inr (1, [.ref a, .ref b])), (a, .inl (cI, 256, .inl ((upd (upd kf i.toNatClampNeg (kf k.toNatClampNeg)) k.toNatClampNeg (kf i.toNatClampNeg), vp_updL (vp_updL vf i.toNatClampNeg (vf k.toNatClampNeg)) k.toNatClampNeg (vf i.toNatClampNeg)).1))), (b, .inl (cJ, 256, .inr (.inl ((upd (upd kf i.toNatClampNeg (kf k.toNatClampNeg)) k.toNatClampNeg (kf i.toNatClampNeg), vp_updL (vp_updL vf i.toNatClampNeg (vf k.toNatClampNeg)) k.toNatClampNeg (vf i.toNatClampNeg)).2))))]) hP hD [0, 1, 2] [] rfl rfl (by decide) (by decide) hk1 hFc hP1 hD1
    have hK := (hK.sub (tys' := []) [] rfl).app hK1
    generalize H1 = H at hP hS ⊢
    have hP : va_P (dC, dI) vwCl [(h0, .inr (1, [.ref a, .ref b])), (a, .inl (cI, 256, .inl ((upd (upd kf i.toNatClampNeg (kf k.toNatClampNeg)) k.toNatClampNeg (kf i.toNatClampNeg), vp_updL (vp_updL vf i.toNatClampNeg (vf k.toNatClampNeg)) k.toNatClampNeg (vf i.toNatClampNeg)).1))), (b, .inl (cJ, 256, .inr (.inl ((upd (upd kf i.toNatClampNeg (kf k.toNatClampNeg)) k.toNatClampNeg (kf i.toNatClampNeg), vp_updL (vp_updL vf i.toNatClampNeg (vf k.toNatClampNeg)) k.toNatClampNeg (vf i.toNatClampNeg)).2))))] H := hP
    have hD : va_D A [(h0, .inr (1, [.ref a, .ref b])), (a, .inl (cI, 256, .inl ((upd (upd kf i.toNatClampNeg (kf k.toNatClampNeg)) k.toNatClampNeg (kf i.toNatClampNeg), vp_updL (vp_updL vf i.toNatClampNeg (vf k.toNatClampNeg)) k.toNatClampNeg (vf i.toNatClampNeg)).1))), (b, .inl (cJ, 256, .inr (.inl ((upd (upd kf i.toNatClampNeg (kf k.toNatClampNeg)) k.toNatClampNeg (kf i.toNatClampNeg), vp_updL (vp_updL vf i.toNatClampNeg (vf k.toNatClampNeg)) k.toNatClampNeg (vf i.toNatClampNeg)).2))))] := hD
    have hK : va_K (dC, dI) vwCl [(cI, .int), (cJ, .long)] s := hK
    refine W.widen (k := 2) (n := 12) (Nat.le_of_ble_eq_true rfl) (Nat.le_of_ble_eq_true rfl) ?_
    refine lv_goto (tgt := 12) hx hb dL_swap_6 (by decide) ?_
    refine lv_iconst (v := 0) hx hb dL_swap_12 (by decide) ?_
    have hP9 := hP.sub (ws' := [(h0, .inr (1, [.ref a, .ref b])), (a, .inl (cI, 256, .inl ((upd (upd kf i.toNatClampNeg (kf k.toNatClampNeg)) k.toNatClampNeg (kf i.toNatClampNeg), vp_updL (vp_updL vf i.toNatClampNeg (vf k.toNatClampNeg)) k.toNatClampNeg (vf i.toNatClampNeg)).1))), (b, .inl (cJ, 256, .inr (.inl ((upd (upd kf i.toNatClampNeg (kf k.toNatClampNeg)) k.toNatClampNeg (kf i.toNatClampNeg), vp_updL (vp_updL vf i.toNatClampNeg (vf k.toNatClampNeg)) k.toNatClampNeg (vf i.toNatClampNeg)).2))))]) [0, 1, 2] rfl
    have hD9 := hD.sub (ws' := [(h0, .inr (1, [.ref a, .ref b])), (a, .inl (cI, 256, .inl ((upd (upd kf i.toNatClampNeg (kf k.toNatClampNeg)) k.toNatClampNeg (kf i.toNatClampNeg), vp_updL (vp_updL vf i.toNatClampNeg (vf k.toNatClampNeg)) k.toNatClampNeg (vf i.toNatClampNeg)).1))), (b, .inl (cJ, 256, .inr (.inl ((upd (upd kf i.toNatClampNeg (kf k.toNatClampNeg)) k.toNatClampNeg (kf i.toNatClampNeg), vp_updL (vp_updL vf i.toNatClampNeg (vf k.toNatClampNeg)) k.toNatClampNeg (vf i.toNatClampNeg)).2))))]) [0, 1, 2] (by decide) rfl
    have hK9 := hK.sub (tys' := [(cI, .int), (cJ, .long)]) [0, 1] rfl
    refine vx_ret ?_
    refine W.widen (k := 2) (n := 12) (Nat.le_of_ble_eq_true rfl) (Nat.le_of_ble_eq_true rfl) ?_
    exact W.iret (v := 0) hx hb hr (fun t9 ht hW => ⟨⟨0, ((upd (upd kf i.toNatClampNeg (kf k.toNatClampNeg)) k.toNatClampNeg (kf i.toNatClampNeg), vp_updL (vp_updL vf i.toNatClampNeg (vf k.toNatClampNeg)) k.toNatClampNeg (vf i.toNatClampNeg)).1, (upd (upd kf i.toNatClampNeg (kf k.toNatClampNeg)) k.toNatClampNeg (kf i.toNatClampNeg), vp_updL (vp_updL vf i.toNatClampNeg (vf k.toNatClampNeg)) k.toNatClampNeg (vf i.toNatClampNeg)).2), rfl, ⟨by first | (simp [w_c, w_k, w_v, h_2]; done) | (simp [w_c, w_k, w_v, h_2]; done) | grind [w_c, w_k, w_v], by first | (simp [w_c, w_k, w_v, h_2]; done) | (simp [w_c, w_k, w_v, h_2]; done) | grind [w_c, w_k, w_v]⟩, by rw [ht]; exact hP9, va_K.moved hW.alike hK9, hD9⟩, hS.F ht⟩) hS.2.2 dL_swap_13

set_option maxRecDepth 20000 in
theorem kL_fold_0 : (.classLink RL 13 IAE : Cond) ∈ wsL_fold := by decide +kernel
set_option maxRecDepth 20000 in
theorem kL_fold_1 : (.classLink RL 15 IOB : Cond) ∈ wsL_fold := by decide +kernel
set_option maxHeartbeats 4000000 in
set_option maxRecDepth 100000 in
theorem qL_fold (l : Launch) (hlt : l.stackTraces = false) (dC : Nat → ClassId) (dI : Nat → Nat → Nat) (sz : Nat) (h0 a b : Nat) (cI cJ : ClassId) (kf : Nat → Int32) (vf : Nat → Int64) (o : Nat) (cO : ClassId) (ov : Nat → Int64) (f t : Int32) (x : Int64)  : vx_Met l yL_fold wsL_fold ({ frames := 8, cells := 3, slots := 17, locals := 160 }) (va_Pc [.ref h0, .int f, .int t, .long x, .ref o] (fun U => U.heap.size = sz ∧ va_P (dC, dI) vwCl [(h0, .inr (1, [.ref a, .ref b])), (a, .inl (cI, 256, .inl kf)), (b, .inl (cJ, 256, .inr (.inl vf))), (o, .inl (cO, 1, .inr (.inl ov)))] U.heap ∧ va_K (dC, dI) vwCl [(cI, .int), (cJ, .long), (cO, .long)] U ∧ va_D (fun _ => True) [(h0, .inr (1, [.ref a, .ref b])), (a, .inl (cI, 256, .inl kf)), (b, .inl (cJ, 256, .inr (.inl vf))), (o, .inl (cO, 1, .inr (.inl ov)))] ∧ ev U ∧ ez (va_A [(h0, .inr (1, [.ref a, .ref b])), (a, .inl (cI, 256, .inl kf)), (b, .inl (cJ, 256, .inr (.inl vf))), (o, .inl (cO, 1, .inr (.inl ov)))] sz) U U.heap)) (va_Qi (fun (r : Int32) (u : Nat → Int64) => (r = o_c f t x) ∧ u = (if okX x ∧ okW f t then vp_updL ov (0 : Int32).toNatClampNeg (e_on (eW kf vf f t) x) else ov)) (fun (u : Nat → Int64) (t9 : State) => va_P (dC, dI) vwCl [(h0, .inr (1, [.ref a, .ref b])), (a, .inl (cI, 256, .inl kf)), (b, .inl (cJ, 256, .inr (.inl vf))), (o, .inl (cO, 1, .inr (.inl u)))] t9.heap ∧ va_K (dC, dI) vwCl [(cI, .int), (cJ, .long), (cO, .long)] t9 ∧ va_D (va_A [(h0, .inr (1, [.ref a, .ref b])), (a, .inl (cI, 256, .inl kf)), (b, .inl (cJ, 256, .inr (.inl vf))), (o, .inl (cO, 1, .inr (.inl ov)))] sz) [(h0, .inr (1, [.ref a, .ref b])), (a, .inl (cI, 256, .inl kf)), (b, .inl (cJ, 256, .inr (.inl vf))), (o, .inl (cO, 1, .inr (.inl u)))]) (va_A [(h0, .inr (1, [.ref a, .ref b])), (a, .inl (cI, 256, .inl kf)), (b, .inl (cJ, 256, .inr (.inl vf))), (o, .inl (cO, 1, .inr (.inl ov)))] sz)) (vx_X (fun _ : Unit => True) (fun (E : String) (_ : Unit) (t9 : State) => (False) ∧ va_P (dC, dI) vwCl [(h0, .inr (1, [.ref a, .ref b])), (a, .inl (cI, 256, .inl kf)), (b, .inl (cJ, 256, .inr (.inl vf))), (o, .inl (cO, 1, .inr (.inl ov)))] t9.heap ∧ va_K (dC, dI) vwCl [(cI, .int), (cJ, .long), (cO, .long)] t9 ∧ va_D (va_A [(h0, .inr (1, [.ref a, .ref b])), (a, .inl (cI, 256, .inl kf)), (b, .inl (cJ, 256, .inr (.inl vf))), (o, .inl (cO, 1, .inr (.inl ov)))] sz) [(h0, .inr (1, [.ref a, .ref b])), (a, .inl (cI, 256, .inl kf)), (b, .inl (cJ, 256, .inr (.inl vf))), (o, .inl (cO, 1, .inr (.inl ov)))]) (va_A [(h0, .inr (1, [.ref a, .ref b])), (a, .inl (cI, 256, .inl kf)), (b, .inl (cJ, 256, .inr (.inl vf))), (o, .inl (cO, 1, .inr (.inl ov)))] sz)) 3 17 (va_A [(h0, .inr (1, [.ref a, .ref b])), (a, .inl (cI, 256, .inl kf)), (b, .inl (cJ, 256, .inr (.inl vf))), (o, .inl (cO, 1, .inr (.inl ov)))] sz) := by
  refine vx_ofWH (cc := cL_fold) (maxL := 7) (ret := (some .int)) (hh := [(0, 11, 14, 13), (0, 11, 18, 15)]) (by decide) rfl ?_
  intro p e s m args below meth c s₁ B hml hv
  obtain ⟨rfl, hsz, hP, hK, hD0, hE, hZ⟩ := hv
  have hx := B.exec
  have hb := B.bytes
  have hr := B.returns
  have hts := atoms_spec (ws := wsL_fold) B.pre
  have hown : s.vm.findClass RL = some m.cls := findClass_of_methodNamed B.named
  have hlocks := B.notSynchronized
  have htb := vx_table (x := yL_fold) B (hts _ List.mem_cons_self)
  subst hsz
  have hD := hD0.self (sz := s.heap.size)
  generalize hAe : va_A [(h0, .inr (1, [.ref a, .ref b])), (a, .inl (cI, 256, .inl kf)), (b, .inl (cJ, 256, .inr (.inl vf))), (o, .inl (cO, 1, .inr (.inl ov)))] s.heap.size = A at hD hZ ⊢
  have hA : ∀ q : Nat, s.heap.size ≤ q → A q := fun q h => by rw [← hAe]; exact Or.inr h
  have hS : va_S A s.heap s.heap [] := va_S.rf
  have hP : va_P (dC, dI) vwCl [(h0, .inr (1, [.ref a, .ref b])), (a, .inl (cI, 256, .inl kf)), (b, .inl (cJ, 256, .inr (.inl vf))), (o, .inl (cO, 1, .inr (.inl ov)))] s.heap := hP
  have hl := lv_entry ([.ref h0, .int f, .int t, .long x, .ref o]) (n := 7) (Nat.le_of_ble_eq_true rfl)
  rw [lg_entry_eq]
  generalize (lg_sl ([.ref h0, .int f, .int t, .long x, .ref o]) ++ List.replicate (7 - (lg_sl ([.ref h0, .int f, .int t, .long x, .ref o])).length) Slot.unset).toArray = ls at hl ⊢
  have hl : lv_has ls 7 [(0, .ref h0), (1, .int f), (2, .int t), (3, .long x), (5, .ref o)] := hl
  refine lv_aload hx hb dL_fold_0 (lv_at hl 4 rfl) ?_
  refine lv_iconst (v := 0) hx hb dL_fold_2 (by decide) ?_
  refine lv_aload_n hx hb dL_fold_3 rfl (lv_at hl 0 rfl) ?_
  refine lv_iload_n hx hb dL_fold_4 rfl (lv_at hl 1 rfl) ?_
  refine lv_iload_n hx hb dL_fold_5 rfl (lv_at hl 2 rfl) ?_
  refine lv_lload_n hx hb dL_fold_6 rfl (lv_at hl 3 rfl) ?_
  have hPc := hP.sub (ws' := [(h0, .inr (1, [.ref a, .ref b])), (a, .inl (cI, 256, .inl kf)), (b, .inl (cJ, 256, .inr (.inl vf)))]) [0, 1, 2] rfl
  have hDc := hD.sub (ws' := [(h0, .inr (1, [.ref a, .ref b])), (a, .inl (cI, 256, .inl kf)), (b, .inl (cJ, 256, .inr (.inl vf)))]) [0, 1, 2] (by decide) rfl
  have hKc := hK.sub (tys' := [(cI, .int), (cJ, .long)]) [0, 1] rfl
  have hFc := va_free (wc := [(h0, .inr (1, [.ref a, .ref b])), (a, .inl (cI, 256, .inl kf)), (b, .inl (cJ, 256, .inr (.inl vf)))]) hD hS hA [0, 1, 2] rfl
  refine vx_calll (vx_runV (As := [.int f, .int t, .long x]) (rest := [.int 0, .ref o]) ⟨hx, hb, hml, hown, hts⟩ (qX1_fold l hlt dC dI s.heap.size h0 a b cI cJ kf vf f t x) (cwV 3 hts gL_fold_X1_fold rfl rfl rfl (by decide +kernel) ⟨Nat.le_of_ble_eq_true rfl, Nat.le_of_ble_eq_true rfl⟩) ⟨fun a U g mk q => by obtain ⟨q0, q1, qP, qK, qD, qE, qZ⟩ := q; exact ⟨q0, q1, qP, va_K.moved (u := U) (U := U.calling g mk a) (Vm.Alike.refl U.vm) qK, qD, ev.same (u := U) rfl qE, ez.moved (U := U.calling g mk a) qZ (Vm.Alike.refl U.vm)⟩, va_recv hKc hPc (ci := 1) (q0 := 0) rfl rfl, fun U hU hW => ⟨rfl, by rw [hU], by rw [hU]; exact hPc, va_K.moved hW.alike hKc, hDc.weaken (fun _ _ _ _ => trivial), hE.warm hW, by rw [hU]; exact ((hZ.kept hS.2.1).narrow hFc).moved hW.alike⟩⟩ rfl rfl hl.1 rfl (lv_room (Nat.le_of_ble_eq_true rfl)) dL_fold_7 ⟨Nat.le_of_ble_eq_true rfl, Nat.le_of_ble_eq_true rfl⟩) hS (fun q _ h => hFc q h) hFc (fun q _ h => hFc q h) (fun E ce q9 u t9 H1 locs ht hvm hw hB hz1 hk1 hS hce hcv hcl => ?_) (fun r_1 u t9 H1 locs ht hvm hw hB hz1 hk1 hS => ?_)
  · obtain ⟨hex, hP1, hK1, hD1⟩ := hB
    rw [ht] at hP1
    have hK1 := va_K.moved hvm.symm hK1
    obtain ⟨hP, hD⟩ := va_join (wr := [(o, .inl (cO, 1, .inr (.inl ov)))]) (w1 := [(h0, .inr (1, [.ref a, .ref b])), (a, .inl (cI, 256, .inl kf)), (b, .inl (cJ, 256, .inr (.inl vf)))]) hP hD [0, 1, 2] [3] rfl rfl (by decide) (by decide) hk1 hFc hP1 hD1
    have hK := (hK.sub (tys' := [(cO, .long)]) [2] rfl).app hK1
    generalize H1 = H at hP hS hce ⊢
    have hP : va_P (dC, dI) vwCl [(o, .inl (cO, 1, .inr (.inl ov))), (h0, .inr (1, [.ref a, .ref b])), (a, .inl (cI, 256, .inl kf)), (b, .inl (cJ, 256, .inr (.inl vf)))] H := hP
    have hD : va_D A [(o, .inl (cO, 1, .inr (.inl ov))), (h0, .inr (1, [.ref a, .ref b])), (a, .inl (cI, 256, .inl kf)), (b, .inl (cJ, 256, .inr (.inl vf)))] := hD
    have hK : va_K (dC, dI) vwCl [(cO, .long), (cI, .int), (cJ, .long)] s := hK
    refine vx_widen (k := 3) (n := 17) (Nat.le_of_ble_eq_true rfl) (Nat.le_of_ble_eq_true rfl) ?_
    rcases hex with ⟨hE9, hx9⟩ | ⟨hE9, hx9⟩
    · subst hE9
      refine vx_catch hown [] ⟨0, 11, 14, 13⟩ [⟨0, 11, 18, 15⟩] htb (fun z hz => absurd hz List.not_mem_nil) (by decide) (by decide) (hts (.classLink RL 13 IAE) kL_fold_0) (va_Nw.use rfl (ev_ciae hE)) hce hcv hcl ?_
      refine lv_astore (lv' := [(6, .ref q9), (0, .ref h0), (1, .int f), (2, .int t), (3, .long x), (5, .ref o)]) hx hb dL_fold_14 hl (by decide) rfl (fun ls hl => ?_)
      refine lv_iconst (v := 1) hx hb dL_fold_16 (by decide) ?_
      have hP9 := hP.sub (ws' := [(h0, .inr (1, [.ref a, .ref b])), (a, .inl (cI, 256, .inl kf)), (b, .inl (cJ, 256, .inr (.inl vf))), (o, .inl (cO, 1, .inr (.inl ov)))]) [1, 2, 3, 0] rfl
      have hD9 := hD.sub (ws' := [(h0, .inr (1, [.ref a, .ref b])), (a, .inl (cI, 256, .inl kf)), (b, .inl (cJ, 256, .inr (.inl vf))), (o, .inl (cO, 1, .inr (.inl ov)))]) [1, 2, 3, 0] (by decide) rfl
      have hK9 := hK.sub (tys' := [(cI, .int), (cJ, .long), (cO, .long)]) [1, 2, 0] rfl
      refine vx_ret ?_
      refine W.widen (k := 3) (n := 17) (Nat.le_of_ble_eq_true rfl) (Nat.le_of_ble_eq_true rfl) ?_
      exact W.iret (v := 1) hx hb hr (fun t9 ht hW => ⟨⟨1, ov, rfl, ⟨by first | (simp [o_c, hx9]; done) | (simp [o_c, hx9]; done) | grind [o_c], by first | (simp [o_c, hx9]; done) | (simp [o_c, hx9]; done) | grind [o_c]⟩, by rw [ht]; exact hP9, va_K.moved hW.alike hK9, hD9⟩, hS.F ht⟩) hS.2.2 dL_fold_17
    · subst hE9
      refine vx_catch hown [⟨0, 11, 14, 13⟩] ⟨0, 11, 18, 15⟩ [] htb (fun z hz => by rw [List.mem_singleton.mp hz]; exact Or.inr ⟨by decide, IAE, (hts (.classLink RL 13 IAE) kL_fold_0), hE.2.2.1⟩) (by decide) (by decide) (hts (.classLink RL 15 IOB) kL_fold_1) (va_Nw.use rfl (ev_ciob hE)) hce hcv hcl ?_
      refine lv_astore (lv' := [(6, .ref q9), (0, .ref h0), (1, .int f), (2, .int t), (3, .long x), (5, .ref o)]) hx hb dL_fold_18 hl (by decide) rfl (fun ls hl => ?_)
      refine lv_iconst (v := 2) hx hb dL_fold_20 (by decide) ?_
      have hP9 := hP.sub (ws' := [(h0, .inr (1, [.ref a, .ref b])), (a, .inl (cI, 256, .inl kf)), (b, .inl (cJ, 256, .inr (.inl vf))), (o, .inl (cO, 1, .inr (.inl ov)))]) [1, 2, 3, 0] rfl
      have hD9 := hD.sub (ws' := [(h0, .inr (1, [.ref a, .ref b])), (a, .inl (cI, 256, .inl kf)), (b, .inl (cJ, 256, .inr (.inl vf))), (o, .inl (cO, 1, .inr (.inl ov)))]) [1, 2, 3, 0] (by decide) rfl
      have hK9 := hK.sub (tys' := [(cI, .int), (cJ, .long), (cO, .long)]) [1, 2, 0] rfl
      refine vx_ret ?_
      refine W.widen (k := 3) (n := 17) (Nat.le_of_ble_eq_true rfl) (Nat.le_of_ble_eq_true rfl) ?_
      exact W.iret (v := 2) hx hb hr (fun t9 ht hW => ⟨⟨2, ov, rfl, ⟨by first | (simp [o_c, hx9]; done) | (simp [o_c, hx9]; done) | grind [o_c], by first | (simp [o_c, hx9]; done) | (simp [o_c, hx9]; done) | grind [o_c]⟩, by rw [ht]; exact hP9, va_K.moved hW.alike hK9, hD9⟩, hS.F ht⟩) hS.2.2 dL_fold_21
  · obtain ⟨hP1, hK1, hD1⟩ := hB
    rw [ht] at hP1
    have h_2 := hw
    have hK1 := va_K.moved hvm.symm hK1
    obtain ⟨hP, hD⟩ := va_join (wr := [(o, .inl (cO, 1, .inr (.inl ov)))]) (w1 := [(h0, .inr (1, [.ref a, .ref b])), (a, .inl (cI, 256, .inl kf)), (b, .inl (cJ, 256, .inr (.inl vf)))]) hP hD [0, 1, 2] [3] rfl rfl (by decide) (by decide) hk1 hFc hP1 hD1
    have hK := (hK.sub (tys' := [(cO, .long)]) [2] rfl).app hK1
    generalize H1 = H at hP hS ⊢
    have hP : va_P (dC, dI) vwCl [(o, .inl (cO, 1, .inr (.inl ov))), (h0, .inr (1, [.ref a, .ref b])), (a, .inl (cI, 256, .inl kf)), (b, .inl (cJ, 256, .inr (.inl vf)))] H := hP
    have hD : va_D A [(o, .inl (cO, 1, .inr (.inl ov))), (h0, .inr (1, [.ref a, .ref b])), (a, .inl (cI, 256, .inl kf)), (b, .inl (cJ, 256, .inr (.inl vf)))] := hD
    have hK : va_K (dC, dI) vwCl [(cO, .long), (cI, .int), (cJ, .long)] s := hK
    refine W.widen (k := 3) (n := 17) (Nat.le_of_ble_eq_true rfl) (Nat.le_of_ble_eq_true rfl) ?_
    refine va_last hx hb hK hP hD hS 0 0 rfl rfl in_01 dL_fold_10 (fun H locs hP hD hS => ?_)
    have hP : va_P (dC, dI) vwCl [(o, .inl (cO, 1, .inr (.inl (vp_updL ov (0 : Int32).toNatClampNeg r_1)))), (h0, .inr (1, [.ref a, .ref b])), (a, .inl (cI, 256, .inl kf)), (b, .inl (cJ, 256, .inr (.inl vf)))] H := hP
    have hD : va_D A [(o, .inl (cO, 1, .inr (.inl (vp_updL ov (0 : Int32).toNatClampNeg r_1)))), (h0, .inr (1, [.ref a, .ref b])), (a, .inl (cI, 256, .inl kf)), (b, .inl (cJ, 256, .inr (.inl vf)))] := hD
    refine lv_goto (tgt := 22) hx hb dL_fold_11 (by decide) ?_
    refine lv_iconst (v := 0) hx hb dL_fold_22 (by decide) ?_
    have hP9 := hP.sub (ws' := [(h0, .inr (1, [.ref a, .ref b])), (a, .inl (cI, 256, .inl kf)), (b, .inl (cJ, 256, .inr (.inl vf))), (o, .inl (cO, 1, .inr (.inl (vp_updL ov (0 : Int32).toNatClampNeg r_1))))]) [1, 2, 3, 0] rfl
    have hD9 := hD.sub (ws' := [(h0, .inr (1, [.ref a, .ref b])), (a, .inl (cI, 256, .inl kf)), (b, .inl (cJ, 256, .inr (.inl vf))), (o, .inl (cO, 1, .inr (.inl (vp_updL ov (0 : Int32).toNatClampNeg r_1))))]) [1, 2, 3, 0] (by decide) rfl
    have hK9 := hK.sub (tys' := [(cI, .int), (cJ, .long), (cO, .long)]) [1, 2, 0] rfl
    refine vx_ret ?_
    refine W.widen (k := 3) (n := 17) (Nat.le_of_ble_eq_true rfl) (Nat.le_of_ble_eq_true rfl) ?_
    exact W.iret (v := 0) hx hb hr (fun t9 ht hW => ⟨⟨0, vp_updL ov (0 : Int32).toNatClampNeg r_1, rfl, ⟨by first | (simp [o_c, h_2]; done) | (simp [o_c, h_2]; done) | grind [o_c], by first | (simp [o_c, h_2]; done) | (simp [o_c, h_2]; done) | grind [o_c]⟩, by rw [ht]; exact hP9, va_K.moved hW.alike hK9, hD9⟩, hS.F ht⟩) hS.2.2 dL_fold_23

set_option maxRecDepth 20000 in
theorem kL_again_0 : (.classLink RL 13 IAE : Cond) ∈ wsL_again := by decide +kernel
set_option maxRecDepth 20000 in
theorem kL_again_1 : (.classLink RL 15 IOB : Cond) ∈ wsL_again := by decide +kernel
set_option maxHeartbeats 4000000 in
set_option maxRecDepth 100000 in
theorem qL_again (l : Launch) (hlt : l.stackTraces = false) (dC : Nat → ClassId) (dI : Nat → Nat → Nat) (sz : Nat) (h0 a b : Nat) (cI cJ : ClassId) (kf : Nat → Int32) (vf : Nat → Int64) (o : Nat) (cO : ClassId) (ov : Nat → Int64) (f t : Int32) (x : Int64) (n : Int32)  : vx_Met l yL_again wsL_again ({ frames := 8, cells := 4, slots := 23, locals := 160 }) (va_Pc [.ref h0, .int f, .int t, .long x, .int n, .ref o] (fun U => U.heap.size = sz ∧ va_P (dC, dI) vwCl [(h0, .inr (1, [.ref a, .ref b])), (a, .inl (cI, 256, .inl kf)), (b, .inl (cJ, 256, .inr (.inl vf))), (o, .inl (cO, 1, .inr (.inl ov)))] U.heap ∧ va_K (dC, dI) vwCl [(cI, .int), (cJ, .long), (cO, .long)] U ∧ va_D (fun _ => True) [(h0, .inr (1, [.ref a, .ref b])), (a, .inl (cI, 256, .inl kf)), (b, .inl (cJ, 256, .inr (.inl vf))), (o, .inl (cO, 1, .inr (.inl ov)))] ∧ ev U ∧ ez (va_A [(h0, .inr (1, [.ref a, .ref b])), (a, .inl (cI, 256, .inl kf)), (b, .inl (cJ, 256, .inr (.inl vf))), (o, .inl (cO, 1, .inr (.inl ov)))] sz) U U.heap)) (va_Qi (fun (r : Int32) (u : Nat → Int64) => (r = a_c f t x n) ∧ u = (if (okX x ∧ okN n) ∧ okW f t then vp_updL ov (0 : Int32).toNatClampNeg (e_it (eW kf vf f t) x n.toNatClampNeg) else ov)) (fun (u : Nat → Int64) (t9 : State) => va_P (dC, dI) vwCl [(h0, .inr (1, [.ref a, .ref b])), (a, .inl (cI, 256, .inl kf)), (b, .inl (cJ, 256, .inr (.inl vf))), (o, .inl (cO, 1, .inr (.inl u)))] t9.heap ∧ va_K (dC, dI) vwCl [(cI, .int), (cJ, .long), (cO, .long)] t9 ∧ va_D (va_A [(h0, .inr (1, [.ref a, .ref b])), (a, .inl (cI, 256, .inl kf)), (b, .inl (cJ, 256, .inr (.inl vf))), (o, .inl (cO, 1, .inr (.inl ov)))] sz) [(h0, .inr (1, [.ref a, .ref b])), (a, .inl (cI, 256, .inl kf)), (b, .inl (cJ, 256, .inr (.inl vf))), (o, .inl (cO, 1, .inr (.inl u)))]) (va_A [(h0, .inr (1, [.ref a, .ref b])), (a, .inl (cI, 256, .inl kf)), (b, .inl (cJ, 256, .inr (.inl vf))), (o, .inl (cO, 1, .inr (.inl ov)))] sz)) (vx_X (fun _ : Unit => True) (fun (E : String) (_ : Unit) (t9 : State) => (False) ∧ va_P (dC, dI) vwCl [(h0, .inr (1, [.ref a, .ref b])), (a, .inl (cI, 256, .inl kf)), (b, .inl (cJ, 256, .inr (.inl vf))), (o, .inl (cO, 1, .inr (.inl ov)))] t9.heap ∧ va_K (dC, dI) vwCl [(cI, .int), (cJ, .long), (cO, .long)] t9 ∧ va_D (va_A [(h0, .inr (1, [.ref a, .ref b])), (a, .inl (cI, 256, .inl kf)), (b, .inl (cJ, 256, .inr (.inl vf))), (o, .inl (cO, 1, .inr (.inl ov)))] sz) [(h0, .inr (1, [.ref a, .ref b])), (a, .inl (cI, 256, .inl kf)), (b, .inl (cJ, 256, .inr (.inl vf))), (o, .inl (cO, 1, .inr (.inl ov)))]) (va_A [(h0, .inr (1, [.ref a, .ref b])), (a, .inl (cI, 256, .inl kf)), (b, .inl (cJ, 256, .inr (.inl vf))), (o, .inl (cO, 1, .inr (.inl ov)))] sz)) 4 23 (va_A [(h0, .inr (1, [.ref a, .ref b])), (a, .inl (cI, 256, .inl kf)), (b, .inl (cJ, 256, .inr (.inl vf))), (o, .inl (cO, 1, .inr (.inl ov)))] sz) := by
  refine vx_ofWH (cc := cL_again) (maxL := 8) (ret := (some .int)) (hh := [(0, 13, 16, 13), (0, 13, 20, 15)]) (by decide) rfl ?_
  intro p e s m args below meth c s₁ B hml hv
  obtain ⟨rfl, hsz, hP, hK, hD0, hE, hZ⟩ := hv
  have hx := B.exec
  have hb := B.bytes
  have hr := B.returns
  have hts := atoms_spec (ws := wsL_again) B.pre
  have hown : s.vm.findClass RL = some m.cls := findClass_of_methodNamed B.named
  have hlocks := B.notSynchronized
  have htb := vx_table (x := yL_again) B (hts _ List.mem_cons_self)
  subst hsz
  have hD := hD0.self (sz := s.heap.size)
  generalize hAe : va_A [(h0, .inr (1, [.ref a, .ref b])), (a, .inl (cI, 256, .inl kf)), (b, .inl (cJ, 256, .inr (.inl vf))), (o, .inl (cO, 1, .inr (.inl ov)))] s.heap.size = A at hD hZ ⊢
  have hA : ∀ q : Nat, s.heap.size ≤ q → A q := fun q h => by rw [← hAe]; exact Or.inr h
  have hS : va_S A s.heap s.heap [] := va_S.rf
  have hP : va_P (dC, dI) vwCl [(h0, .inr (1, [.ref a, .ref b])), (a, .inl (cI, 256, .inl kf)), (b, .inl (cJ, 256, .inr (.inl vf))), (o, .inl (cO, 1, .inr (.inl ov)))] s.heap := hP
  have hl := lv_entry ([.ref h0, .int f, .int t, .long x, .int n, .ref o]) (n := 8) (Nat.le_of_ble_eq_true rfl)
  rw [lg_entry_eq]
  generalize (lg_sl ([.ref h0, .int f, .int t, .long x, .int n, .ref o]) ++ List.replicate (8 - (lg_sl ([.ref h0, .int f, .int t, .long x, .int n, .ref o])).length) Slot.unset).toArray = ls at hl ⊢
  have hl : lv_has ls 8 [(0, .ref h0), (1, .int f), (2, .int t), (3, .long x), (5, .int n), (6, .ref o)] := hl
  refine lv_aload hx hb dL_again_0 (lv_at hl 5 rfl) ?_
  refine lv_iconst (v := 0) hx hb dL_again_2 (by decide) ?_
  refine lv_aload_n hx hb dL_again_3 rfl (lv_at hl 0 rfl) ?_
  refine lv_iload_n hx hb dL_again_4 rfl (lv_at hl 1 rfl) ?_
  refine lv_iload_n hx hb dL_again_5 rfl (lv_at hl 2 rfl) ?_
  refine lv_lload_n hx hb dL_again_6 rfl (lv_at hl 3 rfl) ?_
  refine lv_iload hx hb dL_again_7 (lv_at hl 4 rfl) ?_
  have hPc := hP.sub (ws' := [(h0, .inr (1, [.ref a, .ref b])), (a, .inl (cI, 256, .inl kf)), (b, .inl (cJ, 256, .inr (.inl vf)))]) [0, 1, 2] rfl
  have hDc := hD.sub (ws' := [(h0, .inr (1, [.ref a, .ref b])), (a, .inl (cI, 256, .inl kf)), (b, .inl (cJ, 256, .inr (.inl vf)))]) [0, 1, 2] (by decide) rfl
  have hKc := hK.sub (tys' := [(cI, .int), (cJ, .long)]) [0, 1] rfl
  have hFc := va_free (wc := [(h0, .inr (1, [.ref a, .ref b])), (a, .inl (cI, 256, .inl kf)), (b, .inl (cJ, 256, .inr (.inl vf)))]) hD hS hA [0, 1, 2] rfl
  refine vx_calll (vx_runV (As := [.int f, .int t, .long x, .int n]) (rest := [.int 0, .ref o]) ⟨hx, hb, hml, hown, hts⟩ (qX1_again l hlt dC dI s.heap.size h0 a b cI cJ kf vf f t x n) (cwV 4 hts gL_again_X1_again rfl rfl rfl (by decide +kernel) ⟨Nat.le_of_ble_eq_true rfl, Nat.le_of_ble_eq_true rfl⟩) ⟨fun a U g mk q => by obtain ⟨q0, q1, qP, qK, qD, qE, qZ⟩ := q; exact ⟨q0, q1, qP, va_K.moved (u := U) (U := U.calling g mk a) (Vm.Alike.refl U.vm) qK, qD, ev.same (u := U) rfl qE, ez.moved (U := U.calling g mk a) qZ (Vm.Alike.refl U.vm)⟩, va_recv hKc hPc (ci := 1) (q0 := 0) rfl rfl, fun U hU hW => ⟨rfl, by rw [hU], by rw [hU]; exact hPc, va_K.moved hW.alike hKc, hDc.weaken (fun _ _ _ _ => trivial), hE.warm hW, by rw [hU]; exact ((hZ.kept hS.2.1).narrow hFc).moved hW.alike⟩⟩ rfl rfl hl.1 rfl (lv_room (Nat.le_of_ble_eq_true rfl)) dL_again_9 ⟨Nat.le_of_ble_eq_true rfl, Nat.le_of_ble_eq_true rfl⟩) hS (fun q _ h => hFc q h) hFc (fun q _ h => hFc q h) (fun E ce q9 u t9 H1 locs ht hvm hw hB hz1 hk1 hS hce hcv hcl => ?_) (fun r_1 u t9 H1 locs ht hvm hw hB hz1 hk1 hS => ?_)
  · obtain ⟨hex, hP1, hK1, hD1⟩ := hB
    rw [ht] at hP1
    have hK1 := va_K.moved hvm.symm hK1
    obtain ⟨hP, hD⟩ := va_join (wr := [(o, .inl (cO, 1, .inr (.inl ov)))]) (w1 := [(h0, .inr (1, [.ref a, .ref b])), (a, .inl (cI, 256, .inl kf)), (b, .inl (cJ, 256, .inr (.inl vf)))]) hP hD [0, 1, 2] [3] rfl rfl (by decide) (by decide) hk1 hFc hP1 hD1
    have hK := (hK.sub (tys' := [(cO, .long)]) [2] rfl).app hK1
    generalize H1 = H at hP hS hce ⊢
    have hP : va_P (dC, dI) vwCl [(o, .inl (cO, 1, .inr (.inl ov))), (h0, .inr (1, [.ref a, .ref b])), (a, .inl (cI, 256, .inl kf)), (b, .inl (cJ, 256, .inr (.inl vf)))] H := hP
    have hD : va_D A [(o, .inl (cO, 1, .inr (.inl ov))), (h0, .inr (1, [.ref a, .ref b])), (a, .inl (cI, 256, .inl kf)), (b, .inl (cJ, 256, .inr (.inl vf)))] := hD
    have hK : va_K (dC, dI) vwCl [(cO, .long), (cI, .int), (cJ, .long)] s := hK
    refine vx_widen (k := 4) (n := 23) (Nat.le_of_ble_eq_true rfl) (Nat.le_of_ble_eq_true rfl) ?_
    rcases hex with ⟨hE9, hx9⟩ | ⟨hE9, hx9⟩
    · subst hE9
      refine vx_catch hown [] ⟨0, 13, 16, 13⟩ [⟨0, 13, 20, 15⟩] htb (fun z hz => absurd hz List.not_mem_nil) (by decide) (by decide) (hts (.classLink RL 13 IAE) kL_again_0) (va_Nw.use rfl (ev_ciae hE)) hce hcv hcl ?_
      refine lv_astore (lv' := [(7, .ref q9), (0, .ref h0), (1, .int f), (2, .int t), (3, .long x), (5, .int n), (6, .ref o)]) hx hb dL_again_16 hl (by decide) rfl (fun ls hl => ?_)
      refine lv_iconst (v := 1) hx hb dL_again_18 (by decide) ?_
      have hP9 := hP.sub (ws' := [(h0, .inr (1, [.ref a, .ref b])), (a, .inl (cI, 256, .inl kf)), (b, .inl (cJ, 256, .inr (.inl vf))), (o, .inl (cO, 1, .inr (.inl ov)))]) [1, 2, 3, 0] rfl
      have hD9 := hD.sub (ws' := [(h0, .inr (1, [.ref a, .ref b])), (a, .inl (cI, 256, .inl kf)), (b, .inl (cJ, 256, .inr (.inl vf))), (o, .inl (cO, 1, .inr (.inl ov)))]) [1, 2, 3, 0] (by decide) rfl
      have hK9 := hK.sub (tys' := [(cI, .int), (cJ, .long), (cO, .long)]) [1, 2, 0] rfl
      refine vx_ret ?_
      refine W.widen (k := 4) (n := 23) (Nat.le_of_ble_eq_true rfl) (Nat.le_of_ble_eq_true rfl) ?_
      exact W.iret (v := 1) hx hb hr (fun t9 ht hW => ⟨⟨1, ov, rfl, ⟨by first | (simp [a_c, hx9]; done) | (simp [a_c, hx9]; done) | grind [a_c], by first | (simp [a_c, hx9]; done) | (simp [a_c, hx9]; done) | grind [a_c]⟩, by rw [ht]; exact hP9, va_K.moved hW.alike hK9, hD9⟩, hS.F ht⟩) hS.2.2 dL_again_19
    · subst hE9
      refine vx_catch hown [⟨0, 13, 16, 13⟩] ⟨0, 13, 20, 15⟩ [] htb (fun z hz => by rw [List.mem_singleton.mp hz]; exact Or.inr ⟨by decide, IAE, (hts (.classLink RL 13 IAE) kL_again_0), hE.2.2.1⟩) (by decide) (by decide) (hts (.classLink RL 15 IOB) kL_again_1) (va_Nw.use rfl (ev_ciob hE)) hce hcv hcl ?_
      refine lv_astore (lv' := [(7, .ref q9), (0, .ref h0), (1, .int f), (2, .int t), (3, .long x), (5, .int n), (6, .ref o)]) hx hb dL_again_20 hl (by decide) rfl (fun ls hl => ?_)
      refine lv_iconst (v := 2) hx hb dL_again_22 (by decide) ?_
      have hP9 := hP.sub (ws' := [(h0, .inr (1, [.ref a, .ref b])), (a, .inl (cI, 256, .inl kf)), (b, .inl (cJ, 256, .inr (.inl vf))), (o, .inl (cO, 1, .inr (.inl ov)))]) [1, 2, 3, 0] rfl
      have hD9 := hD.sub (ws' := [(h0, .inr (1, [.ref a, .ref b])), (a, .inl (cI, 256, .inl kf)), (b, .inl (cJ, 256, .inr (.inl vf))), (o, .inl (cO, 1, .inr (.inl ov)))]) [1, 2, 3, 0] (by decide) rfl
      have hK9 := hK.sub (tys' := [(cI, .int), (cJ, .long), (cO, .long)]) [1, 2, 0] rfl
      refine vx_ret ?_
      refine W.widen (k := 4) (n := 23) (Nat.le_of_ble_eq_true rfl) (Nat.le_of_ble_eq_true rfl) ?_
      exact W.iret (v := 2) hx hb hr (fun t9 ht hW => ⟨⟨2, ov, rfl, ⟨by first | (simp [a_c, hx9]; done) | (simp [a_c, hx9]; done) | grind [a_c], by first | (simp [a_c, hx9]; done) | (simp [a_c, hx9]; done) | grind [a_c]⟩, by rw [ht]; exact hP9, va_K.moved hW.alike hK9, hD9⟩, hS.F ht⟩) hS.2.2 dL_again_23
  · obtain ⟨hP1, hK1, hD1⟩ := hB
    rw [ht] at hP1
    have h_2 := hw
    have hK1 := va_K.moved hvm.symm hK1
    obtain ⟨hP, hD⟩ := va_join (wr := [(o, .inl (cO, 1, .inr (.inl ov)))]) (w1 := [(h0, .inr (1, [.ref a, .ref b])), (a, .inl (cI, 256, .inl kf)), (b, .inl (cJ, 256, .inr (.inl vf)))]) hP hD [0, 1, 2] [3] rfl rfl (by decide) (by decide) hk1 hFc hP1 hD1
    have hK := (hK.sub (tys' := [(cO, .long)]) [2] rfl).app hK1
    generalize H1 = H at hP hS ⊢
    have hP : va_P (dC, dI) vwCl [(o, .inl (cO, 1, .inr (.inl ov))), (h0, .inr (1, [.ref a, .ref b])), (a, .inl (cI, 256, .inl kf)), (b, .inl (cJ, 256, .inr (.inl vf)))] H := hP
    have hD : va_D A [(o, .inl (cO, 1, .inr (.inl ov))), (h0, .inr (1, [.ref a, .ref b])), (a, .inl (cI, 256, .inl kf)), (b, .inl (cJ, 256, .inr (.inl vf)))] := hD
    have hK : va_K (dC, dI) vwCl [(cO, .long), (cI, .int), (cJ, .long)] s := hK
    refine W.widen (k := 4) (n := 23) (Nat.le_of_ble_eq_true rfl) (Nat.le_of_ble_eq_true rfl) ?_
    refine va_last hx hb hK hP hD hS 0 0 rfl rfl in_01 dL_again_12 (fun H locs hP hD hS => ?_)
    have hP : va_P (dC, dI) vwCl [(o, .inl (cO, 1, .inr (.inl (vp_updL ov (0 : Int32).toNatClampNeg r_1)))), (h0, .inr (1, [.ref a, .ref b])), (a, .inl (cI, 256, .inl kf)), (b, .inl (cJ, 256, .inr (.inl vf)))] H := hP
    have hD : va_D A [(o, .inl (cO, 1, .inr (.inl (vp_updL ov (0 : Int32).toNatClampNeg r_1)))), (h0, .inr (1, [.ref a, .ref b])), (a, .inl (cI, 256, .inl kf)), (b, .inl (cJ, 256, .inr (.inl vf)))] := hD
    refine lv_goto (tgt := 24) hx hb dL_again_13 (by decide) ?_
    refine lv_iconst (v := 0) hx hb dL_again_24 (by decide) ?_
    have hP9 := hP.sub (ws' := [(h0, .inr (1, [.ref a, .ref b])), (a, .inl (cI, 256, .inl kf)), (b, .inl (cJ, 256, .inr (.inl vf))), (o, .inl (cO, 1, .inr (.inl (vp_updL ov (0 : Int32).toNatClampNeg r_1))))]) [1, 2, 3, 0] rfl
    have hD9 := hD.sub (ws' := [(h0, .inr (1, [.ref a, .ref b])), (a, .inl (cI, 256, .inl kf)), (b, .inl (cJ, 256, .inr (.inl vf))), (o, .inl (cO, 1, .inr (.inl (vp_updL ov (0 : Int32).toNatClampNeg r_1))))]) [1, 2, 3, 0] (by decide) rfl
    have hK9 := hK.sub (tys' := [(cI, .int), (cJ, .long), (cO, .long)]) [1, 2, 0] rfl
    refine vx_ret ?_
    refine W.widen (k := 4) (n := 23) (Nat.le_of_ble_eq_true rfl) (Nat.le_of_ble_eq_true rfl) ?_
    exact W.iret (v := 0) hx hb hr (fun t9 ht hW => ⟨⟨0, vp_updL ov (0 : Int32).toNatClampNeg r_1, rfl, ⟨by first | (simp [a_c, h_2]; done) | (simp [a_c, h_2]; done) | grind [a_c], by first | (simp [a_c, h_2]; done) | (simp [a_c, h_2]; done) | grind [a_c]⟩, by rw [ht]; exact hP9, va_K.moved hW.alike hK9, hD9⟩, hS.F ht⟩) hS.2.2 dL_again_25

set_option maxRecDepth 20000 in
theorem kL_least_0 : (.classLink RL 15 IOB : Cond) ∈ wsL_least := by decide +kernel
set_option maxRecDepth 20000 in
theorem kL_least_1 : (.classLink RL 37 UOE : Cond) ∈ wsL_least := by decide +kernel
set_option maxHeartbeats 4000000 in
set_option maxRecDepth 100000 in
theorem qL_least (l : Launch) (hlt : l.stackTraces = false) (dC : Nat → ClassId) (dI : Nat → Nat → Nat) (sz : Nat) (h0 a b : Nat) (cI cJ : ClassId) (kf : Nat → Int32) (vf : Nat → Int64) (o : Nat) (cO : ClassId) (ov : Nat → Int64) (f t : Int32)  : vx_Met l yL_least wsL_least ({ frames := 8, cells := 3, slots := 17, locals := 160 }) (va_Pc [.ref h0, .int f, .int t, .ref o] (fun U => U.heap.size = sz ∧ va_P (dC, dI) vwCl [(h0, .inr (1, [.ref a, .ref b])), (a, .inl (cI, 256, .inl kf)), (b, .inl (cJ, 256, .inr (.inl vf))), (o, .inl (cO, 1, .inr (.inl ov)))] U.heap ∧ va_K (dC, dI) vwCl [(cI, .int), (cJ, .long), (cO, .long)] U ∧ va_D (fun _ => True) [(h0, .inr (1, [.ref a, .ref b])), (a, .inl (cI, 256, .inl kf)), (b, .inl (cJ, 256, .inr (.inl vf))), (o, .inl (cO, 1, .inr (.inl ov)))] ∧ ev U ∧ ez (va_A [(h0, .inr (1, [.ref a, .ref b])), (a, .inl (cI, 256, .inl kf)), (b, .inl (cJ, 256, .inr (.inl vf))), (o, .inl (cO, 1, .inr (.inl ov)))] sz) U U.heap)) (va_Qi (fun (r : Int32) (u : Nat → Int64) => (r = le_c kf vf f t) ∧ u = (if okW f t ∧ ¬ (eW kf vf f t).2.1 = 0 then vp_updL ov (0 : Int32).toNatClampNeg (eW kf vf f t).2.2.1 else ov)) (fun (u : Nat → Int64) (t9 : State) => va_P (dC, dI) vwCl [(h0, .inr (1, [.ref a, .ref b])), (a, .inl (cI, 256, .inl kf)), (b, .inl (cJ, 256, .inr (.inl vf))), (o, .inl (cO, 1, .inr (.inl u)))] t9.heap ∧ va_K (dC, dI) vwCl [(cI, .int), (cJ, .long), (cO, .long)] t9 ∧ va_D (va_A [(h0, .inr (1, [.ref a, .ref b])), (a, .inl (cI, 256, .inl kf)), (b, .inl (cJ, 256, .inr (.inl vf))), (o, .inl (cO, 1, .inr (.inl ov)))] sz) [(h0, .inr (1, [.ref a, .ref b])), (a, .inl (cI, 256, .inl kf)), (b, .inl (cJ, 256, .inr (.inl vf))), (o, .inl (cO, 1, .inr (.inl u)))]) (va_A [(h0, .inr (1, [.ref a, .ref b])), (a, .inl (cI, 256, .inl kf)), (b, .inl (cJ, 256, .inr (.inl vf))), (o, .inl (cO, 1, .inr (.inl ov)))] sz)) (vx_X (fun _ : Unit => True) (fun (E : String) (_ : Unit) (t9 : State) => (False) ∧ va_P (dC, dI) vwCl [(h0, .inr (1, [.ref a, .ref b])), (a, .inl (cI, 256, .inl kf)), (b, .inl (cJ, 256, .inr (.inl vf))), (o, .inl (cO, 1, .inr (.inl ov)))] t9.heap ∧ va_K (dC, dI) vwCl [(cI, .int), (cJ, .long), (cO, .long)] t9 ∧ va_D (va_A [(h0, .inr (1, [.ref a, .ref b])), (a, .inl (cI, 256, .inl kf)), (b, .inl (cJ, 256, .inr (.inl vf))), (o, .inl (cO, 1, .inr (.inl ov)))] sz) [(h0, .inr (1, [.ref a, .ref b])), (a, .inl (cI, 256, .inl kf)), (b, .inl (cJ, 256, .inr (.inl vf))), (o, .inl (cO, 1, .inr (.inl ov)))]) (va_A [(h0, .inr (1, [.ref a, .ref b])), (a, .inl (cI, 256, .inl kf)), (b, .inl (cJ, 256, .inr (.inl vf))), (o, .inl (cO, 1, .inr (.inl ov)))] sz)) 3 17 (va_A [(h0, .inr (1, [.ref a, .ref b])), (a, .inl (cI, 256, .inl kf)), (b, .inl (cJ, 256, .inr (.inl vf))), (o, .inl (cO, 1, .inr (.inl ov)))] sz) := by
  refine vx_ofWH (cc := cL_least) (maxL := 5) (ret := (some .int)) (hh := [(0, 9, 12, 15), (0, 9, 16, 37)]) (by decide) rfl ?_
  intro p e s m args below meth c s₁ B hml hv
  obtain ⟨rfl, hsz, hP, hK, hD0, hE, hZ⟩ := hv
  have hx := B.exec
  have hb := B.bytes
  have hr := B.returns
  have hts := atoms_spec (ws := wsL_least) B.pre
  have hown : s.vm.findClass RL = some m.cls := findClass_of_methodNamed B.named
  have hlocks := B.notSynchronized
  have htb := vx_table (x := yL_least) B (hts _ List.mem_cons_self)
  subst hsz
  have hD := hD0.self (sz := s.heap.size)
  generalize hAe : va_A [(h0, .inr (1, [.ref a, .ref b])), (a, .inl (cI, 256, .inl kf)), (b, .inl (cJ, 256, .inr (.inl vf))), (o, .inl (cO, 1, .inr (.inl ov)))] s.heap.size = A at hD hZ ⊢
  have hA : ∀ q : Nat, s.heap.size ≤ q → A q := fun q h => by rw [← hAe]; exact Or.inr h
  have hS : va_S A s.heap s.heap [] := va_S.rf
  have hP : va_P (dC, dI) vwCl [(h0, .inr (1, [.ref a, .ref b])), (a, .inl (cI, 256, .inl kf)), (b, .inl (cJ, 256, .inr (.inl vf))), (o, .inl (cO, 1, .inr (.inl ov)))] s.heap := hP
  have hl := lv_entry ([.ref h0, .int f, .int t, .ref o]) (n := 5) (Nat.le_of_ble_eq_true rfl)
  rw [lg_entry_eq]
  generalize (lg_sl ([.ref h0, .int f, .int t, .ref o]) ++ List.replicate (5 - (lg_sl ([.ref h0, .int f, .int t, .ref o])).length) Slot.unset).toArray = ls at hl ⊢
  have hl : lv_has ls 5 [(0, .ref h0), (1, .int f), (2, .int t), (3, .ref o)] := hl
  refine lv_aload_n hx hb dL_least_0 rfl (lv_at hl 3 rfl) ?_
  refine lv_iconst (v := 0) hx hb dL_least_1 (by decide) ?_
  refine lv_aload_n hx hb dL_least_2 rfl (lv_at hl 0 rfl) ?_
  refine lv_iload_n hx hb dL_least_3 rfl (lv_at hl 1 rfl) ?_
  refine lv_iload_n hx hb dL_least_4 rfl (lv_at hl 2 rfl) ?_
  have hPc := hP.sub (ws' := [(h0, .inr (1, [.ref a, .ref b])), (a, .inl (cI, 256, .inl kf)), (b, .inl (cJ, 256, .inr (.inl vf)))]) [0, 1, 2] rfl
  have hDc := hD.sub (ws' := [(h0, .inr (1, [.ref a, .ref b])), (a, .inl (cI, 256, .inl kf)), (b, .inl (cJ, 256, .inr (.inl vf)))]) [0, 1, 2] (by decide) rfl
  have hKc := hK.sub (tys' := [(cI, .int), (cJ, .long)]) [0, 1] rfl
  have hFc := va_free (wc := [(h0, .inr (1, [.ref a, .ref b])), (a, .inl (cI, 256, .inl kf)), (b, .inl (cJ, 256, .inr (.inl vf)))]) hD hS hA [0, 1, 2] rfl
  refine vx_calll (vx_runV (As := [.int f, .int t]) (rest := [.int 0, .ref o]) ⟨hx, hb, hml, hown, hts⟩ (qX1_least l hlt dC dI s.heap.size h0 a b cI cJ kf vf f t) (cwV 2 hts gL_least_X1_least rfl rfl rfl (by decide +kernel) ⟨Nat.le_of_ble_eq_true rfl, Nat.le_of_ble_eq_true rfl⟩) ⟨fun a U g mk q => by obtain ⟨q0, q1, qP, qK, qD, qE, qZ⟩ := q; exact ⟨q0, q1, qP, va_K.moved (u := U) (U := U.calling g mk a) (Vm.Alike.refl U.vm) qK, qD, ev.same (u := U) rfl qE, ez.moved (U := U.calling g mk a) qZ (Vm.Alike.refl U.vm)⟩, va_recv hKc hPc (ci := 1) (q0 := 0) rfl rfl, fun U hU hW => ⟨rfl, by rw [hU], by rw [hU]; exact hPc, va_K.moved hW.alike hKc, hDc.weaken (fun _ _ _ _ => trivial), hE.warm hW, by rw [hU]; exact ((hZ.kept hS.2.1).narrow hFc).moved hW.alike⟩⟩ rfl rfl hl.1 rfl (lv_room (Nat.le_of_ble_eq_true rfl)) dL_least_5 ⟨Nat.le_of_ble_eq_true rfl, Nat.le_of_ble_eq_true rfl⟩) hS (fun q _ h => hFc q h) hFc (fun q _ h => hFc q h) (fun E ce q9 u t9 H1 locs ht hvm hw hB hz1 hk1 hS hce hcv hcl => ?_) (fun r_1 u t9 H1 locs ht hvm hw hB hz1 hk1 hS => ?_)
  · obtain ⟨hex, hP1, hK1, hD1⟩ := hB
    rw [ht] at hP1
    have hK1 := va_K.moved hvm.symm hK1
    obtain ⟨hP, hD⟩ := va_join (wr := [(o, .inl (cO, 1, .inr (.inl ov)))]) (w1 := [(h0, .inr (1, [.ref a, .ref b])), (a, .inl (cI, 256, .inl kf)), (b, .inl (cJ, 256, .inr (.inl vf)))]) hP hD [0, 1, 2] [3] rfl rfl (by decide) (by decide) hk1 hFc hP1 hD1
    have hK := (hK.sub (tys' := [(cO, .long)]) [2] rfl).app hK1
    generalize H1 = H at hP hS hce ⊢
    have hP : va_P (dC, dI) vwCl [(o, .inl (cO, 1, .inr (.inl ov))), (h0, .inr (1, [.ref a, .ref b])), (a, .inl (cI, 256, .inl kf)), (b, .inl (cJ, 256, .inr (.inl vf)))] H := hP
    have hD : va_D A [(o, .inl (cO, 1, .inr (.inl ov))), (h0, .inr (1, [.ref a, .ref b])), (a, .inl (cI, 256, .inl kf)), (b, .inl (cJ, 256, .inr (.inl vf)))] := hD
    have hK : va_K (dC, dI) vwCl [(cO, .long), (cI, .int), (cJ, .long)] s := hK
    refine vx_widen (k := 3) (n := 17) (Nat.le_of_ble_eq_true rfl) (Nat.le_of_ble_eq_true rfl) ?_
    rcases hex with ⟨hE9, hx9⟩ | ⟨hE9, hx9⟩
    · subst hE9
      refine vx_catch hown [] ⟨0, 9, 12, 15⟩ [⟨0, 9, 16, 37⟩] htb (fun z hz => absurd hz List.not_mem_nil) (by decide) (by decide) (hts (.classLink RL 15 IOB) kL_least_0) (va_Nw.use rfl (ev_ciob hE)) hce hcv hcl ?_
      refine lv_astore (lv' := [(4, .ref q9), (0, .ref h0), (1, .int f), (2, .int t), (3, .ref o)]) hx hb dL_least_12 hl (by decide) rfl (fun ls hl => ?_)
      refine lv_iconst (v := 1) hx hb dL_least_14 (by decide) ?_
      have hP9 := hP.sub (ws' := [(h0, .inr (1, [.ref a, .ref b])), (a, .inl (cI, 256, .inl kf)), (b, .inl (cJ, 256, .inr (.inl vf))), (o, .inl (cO, 1, .inr (.inl ov)))]) [1, 2, 3, 0] rfl
      have hD9 := hD.sub (ws' := [(h0, .inr (1, [.ref a, .ref b])), (a, .inl (cI, 256, .inl kf)), (b, .inl (cJ, 256, .inr (.inl vf))), (o, .inl (cO, 1, .inr (.inl ov)))]) [1, 2, 3, 0] (by decide) rfl
      have hK9 := hK.sub (tys' := [(cI, .int), (cJ, .long), (cO, .long)]) [1, 2, 0] rfl
      refine vx_ret ?_
      refine W.widen (k := 3) (n := 17) (Nat.le_of_ble_eq_true rfl) (Nat.le_of_ble_eq_true rfl) ?_
      exact W.iret (v := 1) hx hb hr (fun t9 ht hW => ⟨⟨1, ov, rfl, ⟨by first | (simp [le_c, hx9]; done) | (simp [le_c, hx9]; done) | grind [], by first | (simp [le_c, hx9]; done) | (simp [le_c, hx9]; done) | grind []⟩, by rw [ht]; exact hP9, va_K.moved hW.alike hK9, hD9⟩, hS.F ht⟩) hS.2.2 dL_least_15
    · subst hE9
      refine vx_catch hown [⟨0, 9, 12, 15⟩] ⟨0, 9, 16, 37⟩ [] htb (fun z hz => by rw [List.mem_singleton.mp hz]; exact Or.inr ⟨by decide, IOB, (hts (.classLink RL 15 IOB) kL_least_0), hE.2.2.2⟩) (by decide) (by decide) (hts (.classLink RL 37 UOE) kL_least_1) (va_Nw.use rfl (ev_cuoe hE)) hce hcv hcl ?_
      refine lv_astore (lv' := [(4, .ref q9), (0, .ref h0), (1, .int f), (2, .int t), (3, .ref o)]) hx hb dL_least_16 hl (by decide) rfl (fun ls hl => ?_)
      refine lv_iconst (v := 2) hx hb dL_least_18 (by decide) ?_
      have hP9 := hP.sub (ws' := [(h0, .inr (1, [.ref a, .ref b])), (a, .inl (cI, 256, .inl kf)), (b, .inl (cJ, 256, .inr (.inl vf))), (o, .inl (cO, 1, .inr (.inl ov)))]) [1, 2, 3, 0] rfl
      have hD9 := hD.sub (ws' := [(h0, .inr (1, [.ref a, .ref b])), (a, .inl (cI, 256, .inl kf)), (b, .inl (cJ, 256, .inr (.inl vf))), (o, .inl (cO, 1, .inr (.inl ov)))]) [1, 2, 3, 0] (by decide) rfl
      have hK9 := hK.sub (tys' := [(cI, .int), (cJ, .long), (cO, .long)]) [1, 2, 0] rfl
      refine vx_ret ?_
      refine W.widen (k := 3) (n := 17) (Nat.le_of_ble_eq_true rfl) (Nat.le_of_ble_eq_true rfl) ?_
      exact W.iret (v := 2) hx hb hr (fun t9 ht hW => ⟨⟨2, ov, rfl, ⟨by first | (simp [le_c, hx9]; done) | (simp [le_c, hx9]; done) | grind [], by first | (simp [le_c, hx9]; done) | (simp [le_c, hx9]; done) | grind []⟩, by rw [ht]; exact hP9, va_K.moved hW.alike hK9, hD9⟩, hS.F ht⟩) hS.2.2 dL_least_19
  · obtain ⟨hP1, hK1, hD1⟩ := hB
    rw [ht] at hP1
    have h_2 := hw
    have hK1 := va_K.moved hvm.symm hK1
    obtain ⟨hP, hD⟩ := va_join (wr := [(o, .inl (cO, 1, .inr (.inl ov)))]) (w1 := [(h0, .inr (1, [.ref a, .ref b])), (a, .inl (cI, 256, .inl kf)), (b, .inl (cJ, 256, .inr (.inl vf)))]) hP hD [0, 1, 2] [3] rfl rfl (by decide) (by decide) hk1 hFc hP1 hD1
    have hK := (hK.sub (tys' := [(cO, .long)]) [2] rfl).app hK1
    generalize H1 = H at hP hS ⊢
    have hP : va_P (dC, dI) vwCl [(o, .inl (cO, 1, .inr (.inl ov))), (h0, .inr (1, [.ref a, .ref b])), (a, .inl (cI, 256, .inl kf)), (b, .inl (cJ, 256, .inr (.inl vf)))] H := hP
    have hD : va_D A [(o, .inl (cO, 1, .inr (.inl ov))), (h0, .inr (1, [.ref a, .ref b])), (a, .inl (cI, 256, .inl kf)), (b, .inl (cJ, 256, .inr (.inl vf)))] := hD
    have hK : va_K (dC, dI) vwCl [(cO, .long), (cI, .int), (cJ, .long)] s := hK
    refine W.widen (k := 3) (n := 17) (Nat.le_of_ble_eq_true rfl) (Nat.le_of_ble_eq_true rfl) ?_
    refine va_last hx hb hK hP hD hS 0 0 rfl rfl in_01 dL_least_8 (fun H locs hP hD hS => ?_)
    have hP : va_P (dC, dI) vwCl [(o, .inl (cO, 1, .inr (.inl (vp_updL ov (0 : Int32).toNatClampNeg r_1)))), (h0, .inr (1, [.ref a, .ref b])), (a, .inl (cI, 256, .inl kf)), (b, .inl (cJ, 256, .inr (.inl vf)))] H := hP
    have hD : va_D A [(o, .inl (cO, 1, .inr (.inl (vp_updL ov (0 : Int32).toNatClampNeg r_1)))), (h0, .inr (1, [.ref a, .ref b])), (a, .inl (cI, 256, .inl kf)), (b, .inl (cJ, 256, .inr (.inl vf)))] := hD
    refine lv_goto (tgt := 20) hx hb dL_least_9 (by decide) ?_
    refine lv_iconst (v := 0) hx hb dL_least_20 (by decide) ?_
    have hP9 := hP.sub (ws' := [(h0, .inr (1, [.ref a, .ref b])), (a, .inl (cI, 256, .inl kf)), (b, .inl (cJ, 256, .inr (.inl vf))), (o, .inl (cO, 1, .inr (.inl (vp_updL ov (0 : Int32).toNatClampNeg r_1))))]) [1, 2, 3, 0] rfl
    have hD9 := hD.sub (ws' := [(h0, .inr (1, [.ref a, .ref b])), (a, .inl (cI, 256, .inl kf)), (b, .inl (cJ, 256, .inr (.inl vf))), (o, .inl (cO, 1, .inr (.inl (vp_updL ov (0 : Int32).toNatClampNeg r_1))))]) [1, 2, 3, 0] (by decide) rfl
    have hK9 := hK.sub (tys' := [(cI, .int), (cJ, .long), (cO, .long)]) [1, 2, 0] rfl
    refine vx_ret ?_
    refine W.widen (k := 3) (n := 17) (Nat.le_of_ble_eq_true rfl) (Nat.le_of_ble_eq_true rfl) ?_
    exact W.iret (v := 0) hx hb hr (fun t9 ht hW => ⟨⟨0, vp_updL ov (0 : Int32).toNatClampNeg r_1, rfl, ⟨by first | (simp [le_c, h_2]; done) | (simp [le_c, h_2]; done) | grind [], by first | (simp [le_c, h_2]; done) | (simp [le_c, h_2]; done) | grind []⟩, by rw [ht]; exact hP9, va_K.moved hW.alike hK9, hD9⟩, hS.F ht⟩) hS.2.2 dL_least_21

set_option maxRecDepth 20000 in
theorem kL_greatest_0 : (.classLink RL 15 IOB : Cond) ∈ wsL_greatest := by decide +kernel
set_option maxRecDepth 20000 in
theorem kL_greatest_1 : (.classLink RL 37 UOE : Cond) ∈ wsL_greatest := by decide +kernel
set_option maxHeartbeats 4000000 in
set_option maxRecDepth 100000 in
theorem qL_greatest (l : Launch) (hlt : l.stackTraces = false) (dC : Nat → ClassId) (dI : Nat → Nat → Nat) (sz : Nat) (h0 a b : Nat) (cI cJ : ClassId) (kf : Nat → Int32) (vf : Nat → Int64) (o : Nat) (cO : ClassId) (ov : Nat → Int64) (f t : Int32)  : vx_Met l yL_greatest wsL_greatest ({ frames := 8, cells := 3, slots := 17, locals := 160 }) (va_Pc [.ref h0, .int f, .int t, .ref o] (fun U => U.heap.size = sz ∧ va_P (dC, dI) vwCl [(h0, .inr (1, [.ref a, .ref b])), (a, .inl (cI, 256, .inl kf)), (b, .inl (cJ, 256, .inr (.inl vf))), (o, .inl (cO, 1, .inr (.inl ov)))] U.heap ∧ va_K (dC, dI) vwCl [(cI, .int), (cJ, .long), (cO, .long)] U ∧ va_D (fun _ => True) [(h0, .inr (1, [.ref a, .ref b])), (a, .inl (cI, 256, .inl kf)), (b, .inl (cJ, 256, .inr (.inl vf))), (o, .inl (cO, 1, .inr (.inl ov)))] ∧ ev U ∧ ez (va_A [(h0, .inr (1, [.ref a, .ref b])), (a, .inl (cI, 256, .inl kf)), (b, .inl (cJ, 256, .inr (.inl vf))), (o, .inl (cO, 1, .inr (.inl ov)))] sz) U U.heap)) (va_Qi (fun (r : Int32) (u : Nat → Int64) => (r = ge_c kf vf f t) ∧ u = (if okW f t ∧ ¬ (eW kf vf f t).2.2.2.1 = 0 then vp_updL ov (0 : Int32).toNatClampNeg (eW kf vf f t).2.2.2.2 else ov)) (fun (u : Nat → Int64) (t9 : State) => va_P (dC, dI) vwCl [(h0, .inr (1, [.ref a, .ref b])), (a, .inl (cI, 256, .inl kf)), (b, .inl (cJ, 256, .inr (.inl vf))), (o, .inl (cO, 1, .inr (.inl u)))] t9.heap ∧ va_K (dC, dI) vwCl [(cI, .int), (cJ, .long), (cO, .long)] t9 ∧ va_D (va_A [(h0, .inr (1, [.ref a, .ref b])), (a, .inl (cI, 256, .inl kf)), (b, .inl (cJ, 256, .inr (.inl vf))), (o, .inl (cO, 1, .inr (.inl ov)))] sz) [(h0, .inr (1, [.ref a, .ref b])), (a, .inl (cI, 256, .inl kf)), (b, .inl (cJ, 256, .inr (.inl vf))), (o, .inl (cO, 1, .inr (.inl u)))]) (va_A [(h0, .inr (1, [.ref a, .ref b])), (a, .inl (cI, 256, .inl kf)), (b, .inl (cJ, 256, .inr (.inl vf))), (o, .inl (cO, 1, .inr (.inl ov)))] sz)) (vx_X (fun _ : Unit => True) (fun (E : String) (_ : Unit) (t9 : State) => (False) ∧ va_P (dC, dI) vwCl [(h0, .inr (1, [.ref a, .ref b])), (a, .inl (cI, 256, .inl kf)), (b, .inl (cJ, 256, .inr (.inl vf))), (o, .inl (cO, 1, .inr (.inl ov)))] t9.heap ∧ va_K (dC, dI) vwCl [(cI, .int), (cJ, .long), (cO, .long)] t9 ∧ va_D (va_A [(h0, .inr (1, [.ref a, .ref b])), (a, .inl (cI, 256, .inl kf)), (b, .inl (cJ, 256, .inr (.inl vf))), (o, .inl (cO, 1, .inr (.inl ov)))] sz) [(h0, .inr (1, [.ref a, .ref b])), (a, .inl (cI, 256, .inl kf)), (b, .inl (cJ, 256, .inr (.inl vf))), (o, .inl (cO, 1, .inr (.inl ov)))]) (va_A [(h0, .inr (1, [.ref a, .ref b])), (a, .inl (cI, 256, .inl kf)), (b, .inl (cJ, 256, .inr (.inl vf))), (o, .inl (cO, 1, .inr (.inl ov)))] sz)) 3 17 (va_A [(h0, .inr (1, [.ref a, .ref b])), (a, .inl (cI, 256, .inl kf)), (b, .inl (cJ, 256, .inr (.inl vf))), (o, .inl (cO, 1, .inr (.inl ov)))] sz) := by
  refine vx_ofWH (cc := cL_greatest) (maxL := 5) (ret := (some .int)) (hh := [(0, 9, 12, 15), (0, 9, 16, 37)]) (by decide) rfl ?_
  intro p e s m args below meth c s₁ B hml hv
  obtain ⟨rfl, hsz, hP, hK, hD0, hE, hZ⟩ := hv
  have hx := B.exec
  have hb := B.bytes
  have hr := B.returns
  have hts := atoms_spec (ws := wsL_greatest) B.pre
  have hown : s.vm.findClass RL = some m.cls := findClass_of_methodNamed B.named
  have hlocks := B.notSynchronized
  have htb := vx_table (x := yL_greatest) B (hts _ List.mem_cons_self)
  subst hsz
  have hD := hD0.self (sz := s.heap.size)
  generalize hAe : va_A [(h0, .inr (1, [.ref a, .ref b])), (a, .inl (cI, 256, .inl kf)), (b, .inl (cJ, 256, .inr (.inl vf))), (o, .inl (cO, 1, .inr (.inl ov)))] s.heap.size = A at hD hZ ⊢
  have hA : ∀ q : Nat, s.heap.size ≤ q → A q := fun q h => by rw [← hAe]; exact Or.inr h
  have hS : va_S A s.heap s.heap [] := va_S.rf
  have hP : va_P (dC, dI) vwCl [(h0, .inr (1, [.ref a, .ref b])), (a, .inl (cI, 256, .inl kf)), (b, .inl (cJ, 256, .inr (.inl vf))), (o, .inl (cO, 1, .inr (.inl ov)))] s.heap := hP
  have hl := lv_entry ([.ref h0, .int f, .int t, .ref o]) (n := 5) (Nat.le_of_ble_eq_true rfl)
  rw [lg_entry_eq]
  generalize (lg_sl ([.ref h0, .int f, .int t, .ref o]) ++ List.replicate (5 - (lg_sl ([.ref h0, .int f, .int t, .ref o])).length) Slot.unset).toArray = ls at hl ⊢
  have hl : lv_has ls 5 [(0, .ref h0), (1, .int f), (2, .int t), (3, .ref o)] := hl
  refine lv_aload_n hx hb dL_greatest_0 rfl (lv_at hl 3 rfl) ?_
  refine lv_iconst (v := 0) hx hb dL_greatest_1 (by decide) ?_
  refine lv_aload_n hx hb dL_greatest_2 rfl (lv_at hl 0 rfl) ?_
  refine lv_iload_n hx hb dL_greatest_3 rfl (lv_at hl 1 rfl) ?_
  refine lv_iload_n hx hb dL_greatest_4 rfl (lv_at hl 2 rfl) ?_
  have hPc := hP.sub (ws' := [(h0, .inr (1, [.ref a, .ref b])), (a, .inl (cI, 256, .inl kf)), (b, .inl (cJ, 256, .inr (.inl vf)))]) [0, 1, 2] rfl
  have hDc := hD.sub (ws' := [(h0, .inr (1, [.ref a, .ref b])), (a, .inl (cI, 256, .inl kf)), (b, .inl (cJ, 256, .inr (.inl vf)))]) [0, 1, 2] (by decide) rfl
  have hKc := hK.sub (tys' := [(cI, .int), (cJ, .long)]) [0, 1] rfl
  have hFc := va_free (wc := [(h0, .inr (1, [.ref a, .ref b])), (a, .inl (cI, 256, .inl kf)), (b, .inl (cJ, 256, .inr (.inl vf)))]) hD hS hA [0, 1, 2] rfl
  refine vx_calll (vx_runV (As := [.int f, .int t]) (rest := [.int 0, .ref o]) ⟨hx, hb, hml, hown, hts⟩ (qX1_greatest l hlt dC dI s.heap.size h0 a b cI cJ kf vf f t) (cwV 2 hts gL_greatest_X1_greatest rfl rfl rfl (by decide +kernel) ⟨Nat.le_of_ble_eq_true rfl, Nat.le_of_ble_eq_true rfl⟩) ⟨fun a U g mk q => by obtain ⟨q0, q1, qP, qK, qD, qE, qZ⟩ := q; exact ⟨q0, q1, qP, va_K.moved (u := U) (U := U.calling g mk a) (Vm.Alike.refl U.vm) qK, qD, ev.same (u := U) rfl qE, ez.moved (U := U.calling g mk a) qZ (Vm.Alike.refl U.vm)⟩, va_recv hKc hPc (ci := 1) (q0 := 0) rfl rfl, fun U hU hW => ⟨rfl, by rw [hU], by rw [hU]; exact hPc, va_K.moved hW.alike hKc, hDc.weaken (fun _ _ _ _ => trivial), hE.warm hW, by rw [hU]; exact ((hZ.kept hS.2.1).narrow hFc).moved hW.alike⟩⟩ rfl rfl hl.1 rfl (lv_room (Nat.le_of_ble_eq_true rfl)) dL_greatest_5 ⟨Nat.le_of_ble_eq_true rfl, Nat.le_of_ble_eq_true rfl⟩) hS (fun q _ h => hFc q h) hFc (fun q _ h => hFc q h) (fun E ce q9 u t9 H1 locs ht hvm hw hB hz1 hk1 hS hce hcv hcl => ?_) (fun r_1 u t9 H1 locs ht hvm hw hB hz1 hk1 hS => ?_)
  · obtain ⟨hex, hP1, hK1, hD1⟩ := hB
    rw [ht] at hP1
    have hK1 := va_K.moved hvm.symm hK1
    obtain ⟨hP, hD⟩ := va_join (wr := [(o, .inl (cO, 1, .inr (.inl ov)))]) (w1 := [(h0, .inr (1, [.ref a, .ref b])), (a, .inl (cI, 256, .inl kf)), (b, .inl (cJ, 256, .inr (.inl vf)))]) hP hD [0, 1, 2] [3] rfl rfl (by decide) (by decide) hk1 hFc hP1 hD1
    have hK := (hK.sub (tys' := [(cO, .long)]) [2] rfl).app hK1
    generalize H1 = H at hP hS hce ⊢
    have hP : va_P (dC, dI) vwCl [(o, .inl (cO, 1, .inr (.inl ov))), (h0, .inr (1, [.ref a, .ref b])), (a, .inl (cI, 256, .inl kf)), (b, .inl (cJ, 256, .inr (.inl vf)))] H := hP
    have hD : va_D A [(o, .inl (cO, 1, .inr (.inl ov))), (h0, .inr (1, [.ref a, .ref b])), (a, .inl (cI, 256, .inl kf)), (b, .inl (cJ, 256, .inr (.inl vf)))] := hD
    have hK : va_K (dC, dI) vwCl [(cO, .long), (cI, .int), (cJ, .long)] s := hK
    refine vx_widen (k := 3) (n := 17) (Nat.le_of_ble_eq_true rfl) (Nat.le_of_ble_eq_true rfl) ?_
    rcases hex with ⟨hE9, hx9⟩ | ⟨hE9, hx9⟩
    · subst hE9
      refine vx_catch hown [] ⟨0, 9, 12, 15⟩ [⟨0, 9, 16, 37⟩] htb (fun z hz => absurd hz List.not_mem_nil) (by decide) (by decide) (hts (.classLink RL 15 IOB) kL_greatest_0) (va_Nw.use rfl (ev_ciob hE)) hce hcv hcl ?_
      refine lv_astore (lv' := [(4, .ref q9), (0, .ref h0), (1, .int f), (2, .int t), (3, .ref o)]) hx hb dL_greatest_12 hl (by decide) rfl (fun ls hl => ?_)
      refine lv_iconst (v := 1) hx hb dL_greatest_14 (by decide) ?_
      have hP9 := hP.sub (ws' := [(h0, .inr (1, [.ref a, .ref b])), (a, .inl (cI, 256, .inl kf)), (b, .inl (cJ, 256, .inr (.inl vf))), (o, .inl (cO, 1, .inr (.inl ov)))]) [1, 2, 3, 0] rfl
      have hD9 := hD.sub (ws' := [(h0, .inr (1, [.ref a, .ref b])), (a, .inl (cI, 256, .inl kf)), (b, .inl (cJ, 256, .inr (.inl vf))), (o, .inl (cO, 1, .inr (.inl ov)))]) [1, 2, 3, 0] (by decide) rfl
      have hK9 := hK.sub (tys' := [(cI, .int), (cJ, .long), (cO, .long)]) [1, 2, 0] rfl
      refine vx_ret ?_
      refine W.widen (k := 3) (n := 17) (Nat.le_of_ble_eq_true rfl) (Nat.le_of_ble_eq_true rfl) ?_
      exact W.iret (v := 1) hx hb hr (fun t9 ht hW => ⟨⟨1, ov, rfl, ⟨by first | (simp [ge_c, hx9]; done) | (simp [ge_c, hx9]; done) | grind [], by first | (simp [ge_c, hx9]; done) | (simp [ge_c, hx9]; done) | grind []⟩, by rw [ht]; exact hP9, va_K.moved hW.alike hK9, hD9⟩, hS.F ht⟩) hS.2.2 dL_greatest_15
    · subst hE9
      refine vx_catch hown [⟨0, 9, 12, 15⟩] ⟨0, 9, 16, 37⟩ [] htb (fun z hz => by rw [List.mem_singleton.mp hz]; exact Or.inr ⟨by decide, IOB, (hts (.classLink RL 15 IOB) kL_greatest_0), hE.2.2.2⟩) (by decide) (by decide) (hts (.classLink RL 37 UOE) kL_greatest_1) (va_Nw.use rfl (ev_cuoe hE)) hce hcv hcl ?_
      refine lv_astore (lv' := [(4, .ref q9), (0, .ref h0), (1, .int f), (2, .int t), (3, .ref o)]) hx hb dL_greatest_16 hl (by decide) rfl (fun ls hl => ?_)
      refine lv_iconst (v := 2) hx hb dL_greatest_18 (by decide) ?_
      have hP9 := hP.sub (ws' := [(h0, .inr (1, [.ref a, .ref b])), (a, .inl (cI, 256, .inl kf)), (b, .inl (cJ, 256, .inr (.inl vf))), (o, .inl (cO, 1, .inr (.inl ov)))]) [1, 2, 3, 0] rfl
      have hD9 := hD.sub (ws' := [(h0, .inr (1, [.ref a, .ref b])), (a, .inl (cI, 256, .inl kf)), (b, .inl (cJ, 256, .inr (.inl vf))), (o, .inl (cO, 1, .inr (.inl ov)))]) [1, 2, 3, 0] (by decide) rfl
      have hK9 := hK.sub (tys' := [(cI, .int), (cJ, .long), (cO, .long)]) [1, 2, 0] rfl
      refine vx_ret ?_
      refine W.widen (k := 3) (n := 17) (Nat.le_of_ble_eq_true rfl) (Nat.le_of_ble_eq_true rfl) ?_
      exact W.iret (v := 2) hx hb hr (fun t9 ht hW => ⟨⟨2, ov, rfl, ⟨by first | (simp [ge_c, hx9]; done) | (simp [ge_c, hx9]; done) | grind [], by first | (simp [ge_c, hx9]; done) | (simp [ge_c, hx9]; done) | grind []⟩, by rw [ht]; exact hP9, va_K.moved hW.alike hK9, hD9⟩, hS.F ht⟩) hS.2.2 dL_greatest_19
  · obtain ⟨hP1, hK1, hD1⟩ := hB
    rw [ht] at hP1
    have h_2 := hw
    have hK1 := va_K.moved hvm.symm hK1
    obtain ⟨hP, hD⟩ := va_join (wr := [(o, .inl (cO, 1, .inr (.inl ov)))]) (w1 := [(h0, .inr (1, [.ref a, .ref b])), (a, .inl (cI, 256, .inl kf)), (b, .inl (cJ, 256, .inr (.inl vf)))]) hP hD [0, 1, 2] [3] rfl rfl (by decide) (by decide) hk1 hFc hP1 hD1
    have hK := (hK.sub (tys' := [(cO, .long)]) [2] rfl).app hK1
    generalize H1 = H at hP hS ⊢
    have hP : va_P (dC, dI) vwCl [(o, .inl (cO, 1, .inr (.inl ov))), (h0, .inr (1, [.ref a, .ref b])), (a, .inl (cI, 256, .inl kf)), (b, .inl (cJ, 256, .inr (.inl vf)))] H := hP
    have hD : va_D A [(o, .inl (cO, 1, .inr (.inl ov))), (h0, .inr (1, [.ref a, .ref b])), (a, .inl (cI, 256, .inl kf)), (b, .inl (cJ, 256, .inr (.inl vf)))] := hD
    have hK : va_K (dC, dI) vwCl [(cO, .long), (cI, .int), (cJ, .long)] s := hK
    refine W.widen (k := 3) (n := 17) (Nat.le_of_ble_eq_true rfl) (Nat.le_of_ble_eq_true rfl) ?_
    refine va_last hx hb hK hP hD hS 0 0 rfl rfl in_01 dL_greatest_8 (fun H locs hP hD hS => ?_)
    have hP : va_P (dC, dI) vwCl [(o, .inl (cO, 1, .inr (.inl (vp_updL ov (0 : Int32).toNatClampNeg r_1)))), (h0, .inr (1, [.ref a, .ref b])), (a, .inl (cI, 256, .inl kf)), (b, .inl (cJ, 256, .inr (.inl vf)))] H := hP
    have hD : va_D A [(o, .inl (cO, 1, .inr (.inl (vp_updL ov (0 : Int32).toNatClampNeg r_1)))), (h0, .inr (1, [.ref a, .ref b])), (a, .inl (cI, 256, .inl kf)), (b, .inl (cJ, 256, .inr (.inl vf)))] := hD
    refine lv_goto (tgt := 20) hx hb dL_greatest_9 (by decide) ?_
    refine lv_iconst (v := 0) hx hb dL_greatest_20 (by decide) ?_
    have hP9 := hP.sub (ws' := [(h0, .inr (1, [.ref a, .ref b])), (a, .inl (cI, 256, .inl kf)), (b, .inl (cJ, 256, .inr (.inl vf))), (o, .inl (cO, 1, .inr (.inl (vp_updL ov (0 : Int32).toNatClampNeg r_1))))]) [1, 2, 3, 0] rfl
    have hD9 := hD.sub (ws' := [(h0, .inr (1, [.ref a, .ref b])), (a, .inl (cI, 256, .inl kf)), (b, .inl (cJ, 256, .inr (.inl vf))), (o, .inl (cO, 1, .inr (.inl (vp_updL ov (0 : Int32).toNatClampNeg r_1))))]) [1, 2, 3, 0] (by decide) rfl
    have hK9 := hK.sub (tys' := [(cI, .int), (cJ, .long), (cO, .long)]) [1, 2, 0] rfl
    refine vx_ret ?_
    refine W.widen (k := 3) (n := 17) (Nat.le_of_ble_eq_true rfl) (Nat.le_of_ble_eq_true rfl) ?_
    exact W.iret (v := 0) hx hb hr (fun t9 ht hW => ⟨⟨0, vp_updL ov (0 : Int32).toNatClampNeg r_1, rfl, ⟨by first | (simp [ge_c, h_2]; done) | (simp [ge_c, h_2]; done) | grind [], by first | (simp [ge_c, h_2]; done) | (simp [ge_c, h_2]; done) | grind []⟩, by rw [ht]; exact hP9, va_K.moved hW.alike hK9, hD9⟩, hS.F ht⟩) hS.2.2 dL_greatest_21

set_option maxRecDepth 20000 in
theorem kL_fixed_0 : (.classLink RL 15 IOB : Cond) ∈ wsL_fixed := by decide +kernel
set_option maxRecDepth 20000 in
theorem kL_fixed_1 : (.classLink RL 37 UOE : Cond) ∈ wsL_fixed := by decide +kernel
set_option maxHeartbeats 4000000 in
set_option maxRecDepth 100000 in
theorem qL_fixed (l : Launch) (hlt : l.stackTraces = false) (dC : Nat → ClassId) (dI : Nat → Nat → Nat) (sz : Nat) (h0 a b : Nat) (cI cJ : ClassId) (kf : Nat → Int32) (vf : Nat → Int64) (o : Nat) (cO : ClassId) (ov : Nat → Int64) (f t w : Int32) (hwb : w = 0 ∨ w = 1) : vx_Met l yL_fixed wsL_fixed ({ frames := 8, cells := 3, slots := 17, locals := 160 }) (va_Pc [.ref h0, .int f, .int t, .int w, .ref o] (fun U => U.heap.size = sz ∧ va_P (dC, dI) vwCl [(h0, .inr (1, [.ref a, .ref b])), (a, .inl (cI, 256, .inl kf)), (b, .inl (cJ, 256, .inr (.inl vf))), (o, .inl (cO, 1, .inr (.inl ov)))] U.heap ∧ va_K (dC, dI) vwCl [(cI, .int), (cJ, .long), (cO, .long)] U ∧ va_D (fun _ => True) [(h0, .inr (1, [.ref a, .ref b])), (a, .inl (cI, 256, .inl kf)), (b, .inl (cJ, 256, .inr (.inl vf))), (o, .inl (cO, 1, .inr (.inl ov)))] ∧ ev U ∧ ez (va_A [(h0, .inr (1, [.ref a, .ref b])), (a, .inl (cI, 256, .inl kf)), (b, .inl (cJ, 256, .inr (.inl vf))), (o, .inl (cO, 1, .inr (.inl ov)))] sz) U U.heap)) (va_Qi (fun (r : Int32) (u : Nat → Int64) => (r = fe_c kf vf f t w) ∧ u = (if okW f t ∧ ¬ e_fo (eW kf vf f t) w = 0 then vp_updL ov (0 : Int32).toNatClampNeg (e_fv (eW kf vf f t) w) else ov)) (fun (u : Nat → Int64) (t9 : State) => va_P (dC, dI) vwCl [(h0, .inr (1, [.ref a, .ref b])), (a, .inl (cI, 256, .inl kf)), (b, .inl (cJ, 256, .inr (.inl vf))), (o, .inl (cO, 1, .inr (.inl u)))] t9.heap ∧ va_K (dC, dI) vwCl [(cI, .int), (cJ, .long), (cO, .long)] t9 ∧ va_D (va_A [(h0, .inr (1, [.ref a, .ref b])), (a, .inl (cI, 256, .inl kf)), (b, .inl (cJ, 256, .inr (.inl vf))), (o, .inl (cO, 1, .inr (.inl ov)))] sz) [(h0, .inr (1, [.ref a, .ref b])), (a, .inl (cI, 256, .inl kf)), (b, .inl (cJ, 256, .inr (.inl vf))), (o, .inl (cO, 1, .inr (.inl u)))]) (va_A [(h0, .inr (1, [.ref a, .ref b])), (a, .inl (cI, 256, .inl kf)), (b, .inl (cJ, 256, .inr (.inl vf))), (o, .inl (cO, 1, .inr (.inl ov)))] sz)) (vx_X (fun _ : Unit => True) (fun (E : String) (_ : Unit) (t9 : State) => (False) ∧ va_P (dC, dI) vwCl [(h0, .inr (1, [.ref a, .ref b])), (a, .inl (cI, 256, .inl kf)), (b, .inl (cJ, 256, .inr (.inl vf))), (o, .inl (cO, 1, .inr (.inl ov)))] t9.heap ∧ va_K (dC, dI) vwCl [(cI, .int), (cJ, .long), (cO, .long)] t9 ∧ va_D (va_A [(h0, .inr (1, [.ref a, .ref b])), (a, .inl (cI, 256, .inl kf)), (b, .inl (cJ, 256, .inr (.inl vf))), (o, .inl (cO, 1, .inr (.inl ov)))] sz) [(h0, .inr (1, [.ref a, .ref b])), (a, .inl (cI, 256, .inl kf)), (b, .inl (cJ, 256, .inr (.inl vf))), (o, .inl (cO, 1, .inr (.inl ov)))]) (va_A [(h0, .inr (1, [.ref a, .ref b])), (a, .inl (cI, 256, .inl kf)), (b, .inl (cJ, 256, .inr (.inl vf))), (o, .inl (cO, 1, .inr (.inl ov)))] sz)) 3 17 (va_A [(h0, .inr (1, [.ref a, .ref b])), (a, .inl (cI, 256, .inl kf)), (b, .inl (cJ, 256, .inr (.inl vf))), (o, .inl (cO, 1, .inr (.inl ov)))] sz) := by
  refine vx_ofWH (cc := cL_fixed) (maxL := 6) (ret := (some .int)) (hh := [(0, 11, 14, 15), (0, 11, 18, 37)]) (by decide) rfl ?_
  intro p e s m args below meth c s₁ B hml hv
  obtain ⟨rfl, hsz, hP, hK, hD0, hE, hZ⟩ := hv
  have hx := B.exec
  have hb := B.bytes
  have hr := B.returns
  have hts := atoms_spec (ws := wsL_fixed) B.pre
  have hown : s.vm.findClass RL = some m.cls := findClass_of_methodNamed B.named
  have hlocks := B.notSynchronized
  have htb := vx_table (x := yL_fixed) B (hts _ List.mem_cons_self)
  subst hsz
  have hD := hD0.self (sz := s.heap.size)
  generalize hAe : va_A [(h0, .inr (1, [.ref a, .ref b])), (a, .inl (cI, 256, .inl kf)), (b, .inl (cJ, 256, .inr (.inl vf))), (o, .inl (cO, 1, .inr (.inl ov)))] s.heap.size = A at hD hZ ⊢
  have hA : ∀ q : Nat, s.heap.size ≤ q → A q := fun q h => by rw [← hAe]; exact Or.inr h
  have hS : va_S A s.heap s.heap [] := va_S.rf
  have hP : va_P (dC, dI) vwCl [(h0, .inr (1, [.ref a, .ref b])), (a, .inl (cI, 256, .inl kf)), (b, .inl (cJ, 256, .inr (.inl vf))), (o, .inl (cO, 1, .inr (.inl ov)))] s.heap := hP
  have hl := lv_entry ([.ref h0, .int f, .int t, .int w, .ref o]) (n := 6) (Nat.le_of_ble_eq_true rfl)
  rw [lg_entry_eq]
  generalize (lg_sl ([.ref h0, .int f, .int t, .int w, .ref o]) ++ List.replicate (6 - (lg_sl ([.ref h0, .int f, .int t, .int w, .ref o])).length) Slot.unset).toArray = ls at hl ⊢
  have hl : lv_has ls 6 [(0, .ref h0), (1, .int f), (2, .int t), (3, .int w), (4, .ref o)] := hl
  refine lv_aload hx hb dL_fixed_0 (lv_at hl 4 rfl) ?_
  refine lv_iconst (v := 0) hx hb dL_fixed_2 (by decide) ?_
  refine lv_aload_n hx hb dL_fixed_3 rfl (lv_at hl 0 rfl) ?_
  refine lv_iload_n hx hb dL_fixed_4 rfl (lv_at hl 1 rfl) ?_
  refine lv_iload_n hx hb dL_fixed_5 rfl (lv_at hl 2 rfl) ?_
  refine lv_iload_n hx hb dL_fixed_6 rfl (lv_at hl 3 rfl) ?_
  have hPc := hP.sub (ws' := [(h0, .inr (1, [.ref a, .ref b])), (a, .inl (cI, 256, .inl kf)), (b, .inl (cJ, 256, .inr (.inl vf)))]) [0, 1, 2] rfl
  have hDc := hD.sub (ws' := [(h0, .inr (1, [.ref a, .ref b])), (a, .inl (cI, 256, .inl kf)), (b, .inl (cJ, 256, .inr (.inl vf)))]) [0, 1, 2] (by decide) rfl
  have hKc := hK.sub (tys' := [(cI, .int), (cJ, .long)]) [0, 1] rfl
  have hFc := va_free (wc := [(h0, .inr (1, [.ref a, .ref b])), (a, .inl (cI, 256, .inl kf)), (b, .inl (cJ, 256, .inr (.inl vf)))]) hD hS hA [0, 1, 2] rfl
  refine vx_calll (vx_runV (As := [.int f, .int t, .int w]) (rest := [.int 0, .ref o]) ⟨hx, hb, hml, hown, hts⟩ (qX1_fixed l hlt dC dI s.heap.size h0 a b cI cJ kf vf f t w hwb) (cwV 3 hts gL_fixed_X1_fixed rfl rfl rfl (by decide +kernel) ⟨Nat.le_of_ble_eq_true rfl, Nat.le_of_ble_eq_true rfl⟩) ⟨fun a U g mk q => by obtain ⟨q0, q1, qP, qK, qD, qE, qZ⟩ := q; exact ⟨q0, q1, qP, va_K.moved (u := U) (U := U.calling g mk a) (Vm.Alike.refl U.vm) qK, qD, ev.same (u := U) rfl qE, ez.moved (U := U.calling g mk a) qZ (Vm.Alike.refl U.vm)⟩, va_recv hKc hPc (ci := 1) (q0 := 0) rfl rfl, fun U hU hW => ⟨rfl, by rw [hU], by rw [hU]; exact hPc, va_K.moved hW.alike hKc, hDc.weaken (fun _ _ _ _ => trivial), hE.warm hW, by rw [hU]; exact ((hZ.kept hS.2.1).narrow hFc).moved hW.alike⟩⟩ rfl rfl hl.1 rfl (lv_room (Nat.le_of_ble_eq_true rfl)) dL_fixed_7 ⟨Nat.le_of_ble_eq_true rfl, Nat.le_of_ble_eq_true rfl⟩) hS (fun q _ h => hFc q h) hFc (fun q _ h => hFc q h) (fun E ce q9 u t9 H1 locs ht hvm hw hB hz1 hk1 hS hce hcv hcl => ?_) (fun r_1 u t9 H1 locs ht hvm hw hB hz1 hk1 hS => ?_)
  · obtain ⟨hex, hP1, hK1, hD1⟩ := hB
    rw [ht] at hP1
    have hK1 := va_K.moved hvm.symm hK1
    obtain ⟨hP, hD⟩ := va_join (wr := [(o, .inl (cO, 1, .inr (.inl ov)))]) (w1 := [(h0, .inr (1, [.ref a, .ref b])), (a, .inl (cI, 256, .inl kf)), (b, .inl (cJ, 256, .inr (.inl vf)))]) hP hD [0, 1, 2] [3] rfl rfl (by decide) (by decide) hk1 hFc hP1 hD1
    have hK := (hK.sub (tys' := [(cO, .long)]) [2] rfl).app hK1
    generalize H1 = H at hP hS hce ⊢
    have hP : va_P (dC, dI) vwCl [(o, .inl (cO, 1, .inr (.inl ov))), (h0, .inr (1, [.ref a, .ref b])), (a, .inl (cI, 256, .inl kf)), (b, .inl (cJ, 256, .inr (.inl vf)))] H := hP
    have hD : va_D A [(o, .inl (cO, 1, .inr (.inl ov))), (h0, .inr (1, [.ref a, .ref b])), (a, .inl (cI, 256, .inl kf)), (b, .inl (cJ, 256, .inr (.inl vf)))] := hD
    have hK : va_K (dC, dI) vwCl [(cO, .long), (cI, .int), (cJ, .long)] s := hK
    refine vx_widen (k := 3) (n := 17) (Nat.le_of_ble_eq_true rfl) (Nat.le_of_ble_eq_true rfl) ?_
    rcases hex with ⟨hE9, hx9⟩ | ⟨hE9, hx9⟩
    · subst hE9
      refine vx_catch hown [] ⟨0, 11, 14, 15⟩ [⟨0, 11, 18, 37⟩] htb (fun z hz => absurd hz List.not_mem_nil) (by decide) (by decide) (hts (.classLink RL 15 IOB) kL_fixed_0) (va_Nw.use rfl (ev_ciob hE)) hce hcv hcl ?_
      refine lv_astore (lv' := [(5, .ref q9), (0, .ref h0), (1, .int f), (2, .int t), (3, .int w), (4, .ref o)]) hx hb dL_fixed_14 hl (by decide) rfl (fun ls hl => ?_)
      refine lv_iconst (v := 1) hx hb dL_fixed_16 (by decide) ?_
      have hP9 := hP.sub (ws' := [(h0, .inr (1, [.ref a, .ref b])), (a, .inl (cI, 256, .inl kf)), (b, .inl (cJ, 256, .inr (.inl vf))), (o, .inl (cO, 1, .inr (.inl ov)))]) [1, 2, 3, 0] rfl
      have hD9 := hD.sub (ws' := [(h0, .inr (1, [.ref a, .ref b])), (a, .inl (cI, 256, .inl kf)), (b, .inl (cJ, 256, .inr (.inl vf))), (o, .inl (cO, 1, .inr (.inl ov)))]) [1, 2, 3, 0] (by decide) rfl
      have hK9 := hK.sub (tys' := [(cI, .int), (cJ, .long), (cO, .long)]) [1, 2, 0] rfl
      refine vx_ret ?_
      refine W.widen (k := 3) (n := 17) (Nat.le_of_ble_eq_true rfl) (Nat.le_of_ble_eq_true rfl) ?_
      exact W.iret (v := 1) hx hb hr (fun t9 ht hW => ⟨⟨1, ov, rfl, ⟨by first | (simp [fe_c, hx9]; done) | (simp [fe_c, hx9]; done) | grind [], by first | (simp [fe_c, hx9]; done) | (simp [fe_c, hx9]; done) | grind []⟩, by rw [ht]; exact hP9, va_K.moved hW.alike hK9, hD9⟩, hS.F ht⟩) hS.2.2 dL_fixed_17
    · subst hE9
      refine vx_catch hown [⟨0, 11, 14, 15⟩] ⟨0, 11, 18, 37⟩ [] htb (fun z hz => by rw [List.mem_singleton.mp hz]; exact Or.inr ⟨by decide, IOB, (hts (.classLink RL 15 IOB) kL_fixed_0), hE.2.2.2⟩) (by decide) (by decide) (hts (.classLink RL 37 UOE) kL_fixed_1) (va_Nw.use rfl (ev_cuoe hE)) hce hcv hcl ?_
      refine lv_astore (lv' := [(5, .ref q9), (0, .ref h0), (1, .int f), (2, .int t), (3, .int w), (4, .ref o)]) hx hb dL_fixed_18 hl (by decide) rfl (fun ls hl => ?_)
      refine lv_iconst (v := 2) hx hb dL_fixed_20 (by decide) ?_
      have hP9 := hP.sub (ws' := [(h0, .inr (1, [.ref a, .ref b])), (a, .inl (cI, 256, .inl kf)), (b, .inl (cJ, 256, .inr (.inl vf))), (o, .inl (cO, 1, .inr (.inl ov)))]) [1, 2, 3, 0] rfl
      have hD9 := hD.sub (ws' := [(h0, .inr (1, [.ref a, .ref b])), (a, .inl (cI, 256, .inl kf)), (b, .inl (cJ, 256, .inr (.inl vf))), (o, .inl (cO, 1, .inr (.inl ov)))]) [1, 2, 3, 0] (by decide) rfl
      have hK9 := hK.sub (tys' := [(cI, .int), (cJ, .long), (cO, .long)]) [1, 2, 0] rfl
      refine vx_ret ?_
      refine W.widen (k := 3) (n := 17) (Nat.le_of_ble_eq_true rfl) (Nat.le_of_ble_eq_true rfl) ?_
      exact W.iret (v := 2) hx hb hr (fun t9 ht hW => ⟨⟨2, ov, rfl, ⟨by first | (simp [fe_c, hx9]; done) | (simp [fe_c, hx9]; done) | grind [], by first | (simp [fe_c, hx9]; done) | (simp [fe_c, hx9]; done) | grind []⟩, by rw [ht]; exact hP9, va_K.moved hW.alike hK9, hD9⟩, hS.F ht⟩) hS.2.2 dL_fixed_21
  · obtain ⟨hP1, hK1, hD1⟩ := hB
    rw [ht] at hP1
    have h_2 := hw
    have hK1 := va_K.moved hvm.symm hK1
    obtain ⟨hP, hD⟩ := va_join (wr := [(o, .inl (cO, 1, .inr (.inl ov)))]) (w1 := [(h0, .inr (1, [.ref a, .ref b])), (a, .inl (cI, 256, .inl kf)), (b, .inl (cJ, 256, .inr (.inl vf)))]) hP hD [0, 1, 2] [3] rfl rfl (by decide) (by decide) hk1 hFc hP1 hD1
    have hK := (hK.sub (tys' := [(cO, .long)]) [2] rfl).app hK1
    generalize H1 = H at hP hS ⊢
    have hP : va_P (dC, dI) vwCl [(o, .inl (cO, 1, .inr (.inl ov))), (h0, .inr (1, [.ref a, .ref b])), (a, .inl (cI, 256, .inl kf)), (b, .inl (cJ, 256, .inr (.inl vf)))] H := hP
    have hD : va_D A [(o, .inl (cO, 1, .inr (.inl ov))), (h0, .inr (1, [.ref a, .ref b])), (a, .inl (cI, 256, .inl kf)), (b, .inl (cJ, 256, .inr (.inl vf)))] := hD
    have hK : va_K (dC, dI) vwCl [(cO, .long), (cI, .int), (cJ, .long)] s := hK
    refine W.widen (k := 3) (n := 17) (Nat.le_of_ble_eq_true rfl) (Nat.le_of_ble_eq_true rfl) ?_
    refine va_last hx hb hK hP hD hS 0 0 rfl rfl in_01 dL_fixed_10 (fun H locs hP hD hS => ?_)
    have hP : va_P (dC, dI) vwCl [(o, .inl (cO, 1, .inr (.inl (vp_updL ov (0 : Int32).toNatClampNeg r_1)))), (h0, .inr (1, [.ref a, .ref b])), (a, .inl (cI, 256, .inl kf)), (b, .inl (cJ, 256, .inr (.inl vf)))] H := hP
    have hD : va_D A [(o, .inl (cO, 1, .inr (.inl (vp_updL ov (0 : Int32).toNatClampNeg r_1)))), (h0, .inr (1, [.ref a, .ref b])), (a, .inl (cI, 256, .inl kf)), (b, .inl (cJ, 256, .inr (.inl vf)))] := hD
    refine lv_goto (tgt := 22) hx hb dL_fixed_11 (by decide) ?_
    refine lv_iconst (v := 0) hx hb dL_fixed_22 (by decide) ?_
    have hP9 := hP.sub (ws' := [(h0, .inr (1, [.ref a, .ref b])), (a, .inl (cI, 256, .inl kf)), (b, .inl (cJ, 256, .inr (.inl vf))), (o, .inl (cO, 1, .inr (.inl (vp_updL ov (0 : Int32).toNatClampNeg r_1))))]) [1, 2, 3, 0] rfl
    have hD9 := hD.sub (ws' := [(h0, .inr (1, [.ref a, .ref b])), (a, .inl (cI, 256, .inl kf)), (b, .inl (cJ, 256, .inr (.inl vf))), (o, .inl (cO, 1, .inr (.inl (vp_updL ov (0 : Int32).toNatClampNeg r_1))))]) [1, 2, 3, 0] (by decide) rfl
    have hK9 := hK.sub (tys' := [(cI, .int), (cJ, .long), (cO, .long)]) [1, 2, 0] rfl
    refine vx_ret ?_
    refine W.widen (k := 3) (n := 17) (Nat.le_of_ble_eq_true rfl) (Nat.le_of_ble_eq_true rfl) ?_
    exact W.iret (v := 0) hx hb hr (fun t9 ht hW => ⟨⟨0, vp_updL ov (0 : Int32).toNatClampNeg r_1, rfl, ⟨by first | (simp [fe_c, h_2]; done) | (simp [fe_c, h_2]; done) | grind [], by first | (simp [fe_c, h_2]; done) | (simp [fe_c, h_2]; done) | grind []⟩, by rw [ht]; exact hP9, va_K.moved hW.alike hK9, hD9⟩, hS.F ht⟩) hS.2.2 dL_fixed_23

set_option maxRecDepth 20000 in
theorem kL_about_0 : (.classLink RL 13 IAE : Cond) ∈ wsL_about := by decide +kernel
set_option maxRecDepth 20000 in
theorem kL_about_1 : (.classLink RL 15 IOB : Cond) ∈ wsL_about := by decide +kernel
set_option maxHeartbeats 4000000 in
set_option maxRecDepth 100000 in
theorem qL_about (l : Launch) (hlt : l.stackTraces = false) (dC : Nat → ClassId) (dI : Nat → Nat → Nat) (sz : Nat) (h0 a b : Nat) (cI cJ : ClassId) (kf : Nat → Int32) (vf : Nat → Int64) (o : Nat) (cO : ClassId) (ov : Nat → Int64) (f t w : Int32)  : vx_Met l yL_about wsL_about ({ frames := 8, cells := 3, slots := 17, locals := 160 }) (va_Pc [.ref h0, .int f, .int t, .int w, .ref o] (fun U => U.heap.size = sz ∧ va_P (dC, dI) vwCl [(h0, .inr (1, [.ref a, .ref b])), (a, .inl (cI, 256, .inl kf)), (b, .inl (cJ, 256, .inr (.inl vf))), (o, .inl (cO, 1, .inr (.inl ov)))] U.heap ∧ va_K (dC, dI) vwCl [(cI, .int), (cJ, .long), (cO, .long)] U ∧ va_D (fun _ => True) [(h0, .inr (1, [.ref a, .ref b])), (a, .inl (cI, 256, .inl kf)), (b, .inl (cJ, 256, .inr (.inl vf))), (o, .inl (cO, 1, .inr (.inl ov)))] ∧ ev U ∧ ez (va_A [(h0, .inr (1, [.ref a, .ref b])), (a, .inl (cI, 256, .inl kf)), (b, .inl (cJ, 256, .inr (.inl vf))), (o, .inl (cO, 1, .inr (.inl ov)))] sz) U U.heap)) (va_Qi (fun (r : Int32) (u : Nat → Int64) => (r = b_c f t w) ∧ u = (if okQ w ∧ okW f t then vp_updL ov (0 : Int32).toNatClampNeg (e_ab kf vf f t w).toInt64 else ov)) (fun (u : Nat → Int64) (t9 : State) => va_P (dC, dI) vwCl [(h0, .inr (1, [.ref a, .ref b])), (a, .inl (cI, 256, .inl kf)), (b, .inl (cJ, 256, .inr (.inl vf))), (o, .inl (cO, 1, .inr (.inl u)))] t9.heap ∧ va_K (dC, dI) vwCl [(cI, .int), (cJ, .long), (cO, .long)] t9 ∧ va_D (va_A [(h0, .inr (1, [.ref a, .ref b])), (a, .inl (cI, 256, .inl kf)), (b, .inl (cJ, 256, .inr (.inl vf))), (o, .inl (cO, 1, .inr (.inl ov)))] sz) [(h0, .inr (1, [.ref a, .ref b])), (a, .inl (cI, 256, .inl kf)), (b, .inl (cJ, 256, .inr (.inl vf))), (o, .inl (cO, 1, .inr (.inl u)))]) (va_A [(h0, .inr (1, [.ref a, .ref b])), (a, .inl (cI, 256, .inl kf)), (b, .inl (cJ, 256, .inr (.inl vf))), (o, .inl (cO, 1, .inr (.inl ov)))] sz)) (vx_X (fun _ : Unit => True) (fun (E : String) (_ : Unit) (t9 : State) => (False) ∧ va_P (dC, dI) vwCl [(h0, .inr (1, [.ref a, .ref b])), (a, .inl (cI, 256, .inl kf)), (b, .inl (cJ, 256, .inr (.inl vf))), (o, .inl (cO, 1, .inr (.inl ov)))] t9.heap ∧ va_K (dC, dI) vwCl [(cI, .int), (cJ, .long), (cO, .long)] t9 ∧ va_D (va_A [(h0, .inr (1, [.ref a, .ref b])), (a, .inl (cI, 256, .inl kf)), (b, .inl (cJ, 256, .inr (.inl vf))), (o, .inl (cO, 1, .inr (.inl ov)))] sz) [(h0, .inr (1, [.ref a, .ref b])), (a, .inl (cI, 256, .inl kf)), (b, .inl (cJ, 256, .inr (.inl vf))), (o, .inl (cO, 1, .inr (.inl ov)))]) (va_A [(h0, .inr (1, [.ref a, .ref b])), (a, .inl (cI, 256, .inl kf)), (b, .inl (cJ, 256, .inr (.inl vf))), (o, .inl (cO, 1, .inr (.inl ov)))] sz)) 3 17 (va_A [(h0, .inr (1, [.ref a, .ref b])), (a, .inl (cI, 256, .inl kf)), (b, .inl (cJ, 256, .inr (.inl vf))), (o, .inl (cO, 1, .inr (.inl ov)))] sz) := by
  refine vx_ofWH (cc := cL_about) (maxL := 6) (ret := (some .int)) (hh := [(0, 12, 15, 13), (0, 12, 19, 15)]) (by decide) rfl ?_
  intro p e s m args below meth c s₁ B hml hv
  obtain ⟨rfl, hsz, hP, hK, hD0, hE, hZ⟩ := hv
  have hx := B.exec
  have hb := B.bytes
  have hr := B.returns
  have hts := atoms_spec (ws := wsL_about) B.pre
  have hown : s.vm.findClass RL = some m.cls := findClass_of_methodNamed B.named
  have hlocks := B.notSynchronized
  have htb := vx_table (x := yL_about) B (hts _ List.mem_cons_self)
  subst hsz
  have hD := hD0.self (sz := s.heap.size)
  generalize hAe : va_A [(h0, .inr (1, [.ref a, .ref b])), (a, .inl (cI, 256, .inl kf)), (b, .inl (cJ, 256, .inr (.inl vf))), (o, .inl (cO, 1, .inr (.inl ov)))] s.heap.size = A at hD hZ ⊢
  have hA : ∀ q : Nat, s.heap.size ≤ q → A q := fun q h => by rw [← hAe]; exact Or.inr h
  have hS : va_S A s.heap s.heap [] := va_S.rf
  have hP : va_P (dC, dI) vwCl [(h0, .inr (1, [.ref a, .ref b])), (a, .inl (cI, 256, .inl kf)), (b, .inl (cJ, 256, .inr (.inl vf))), (o, .inl (cO, 1, .inr (.inl ov)))] s.heap := hP
  have hl := lv_entry ([.ref h0, .int f, .int t, .int w, .ref o]) (n := 6) (Nat.le_of_ble_eq_true rfl)
  rw [lg_entry_eq]
  generalize (lg_sl ([.ref h0, .int f, .int t, .int w, .ref o]) ++ List.replicate (6 - (lg_sl ([.ref h0, .int f, .int t, .int w, .ref o])).length) Slot.unset).toArray = ls at hl ⊢
  have hl : lv_has ls 6 [(0, .ref h0), (1, .int f), (2, .int t), (3, .int w), (4, .ref o)] := hl
  refine lv_aload hx hb dL_about_0 (lv_at hl 4 rfl) ?_
  refine lv_iconst (v := 0) hx hb dL_about_2 (by decide) ?_
  refine lv_aload_n hx hb dL_about_3 rfl (lv_at hl 0 rfl) ?_
  refine lv_iload_n hx hb dL_about_4 rfl (lv_at hl 1 rfl) ?_
  refine lv_iload_n hx hb dL_about_5 rfl (lv_at hl 2 rfl) ?_
  refine lv_iload_n hx hb dL_about_6 rfl (lv_at hl 3 rfl) ?_
  have hPc := hP.sub (ws' := [(h0, .inr (1, [.ref a, .ref b])), (a, .inl (cI, 256, .inl kf)), (b, .inl (cJ, 256, .inr (.inl vf)))]) [0, 1, 2] rfl
  have hDc := hD.sub (ws' := [(h0, .inr (1, [.ref a, .ref b])), (a, .inl (cI, 256, .inl kf)), (b, .inl (cJ, 256, .inr (.inl vf)))]) [0, 1, 2] (by decide) rfl
  have hKc := hK.sub (tys' := [(cI, .int), (cJ, .long)]) [0, 1] rfl
  have hFc := va_free (wc := [(h0, .inr (1, [.ref a, .ref b])), (a, .inl (cI, 256, .inl kf)), (b, .inl (cJ, 256, .inr (.inl vf)))]) hD hS hA [0, 1, 2] rfl
  refine vx_calli (vx_runV (As := [.int f, .int t, .int w]) (rest := [.int 0, .ref o]) ⟨hx, hb, hml, hown, hts⟩ (qX1_about l hlt dC dI s.heap.size h0 a b cI cJ kf vf f t w) (cwV 3 hts gL_about_X1_about rfl rfl rfl (by decide +kernel) ⟨Nat.le_of_ble_eq_true rfl, Nat.le_of_ble_eq_true rfl⟩) ⟨fun a U g mk q => by obtain ⟨q0, q1, qP, qK, qD, qE, qZ⟩ := q; exact ⟨q0, q1, qP, va_K.moved (u := U) (U := U.calling g mk a) (Vm.Alike.refl U.vm) qK, qD, ev.same (u := U) rfl qE, ez.moved (U := U.calling g mk a) qZ (Vm.Alike.refl U.vm)⟩, va_recv hKc hPc (ci := 1) (q0 := 0) rfl rfl, fun U hU hW => ⟨rfl, by rw [hU], by rw [hU]; exact hPc, va_K.moved hW.alike hKc, hDc.weaken (fun _ _ _ _ => trivial), hE.warm hW, by rw [hU]; exact ((hZ.kept hS.2.1).narrow hFc).moved hW.alike⟩⟩ rfl rfl hl.1 rfl (lv_room (Nat.le_of_ble_eq_true rfl)) dL_about_7 ⟨Nat.le_of_ble_eq_true rfl, Nat.le_of_ble_eq_true rfl⟩) hS (fun q _ h => hFc q h) hFc (fun q _ h => hFc q h) (fun E ce q9 u t9 H1 locs ht hvm hw hB hz1 hk1 hS hce hcv hcl => ?_) (fun r_1 u t9 H1 locs ht hvm hw hB hz1 hk1 hS => ?_)
  · obtain ⟨hex, hP1, hK1, hD1⟩ := hB
    rw [ht] at hP1
    have hK1 := va_K.moved hvm.symm hK1
    obtain ⟨hP, hD⟩ := va_join (wr := [(o, .inl (cO, 1, .inr (.inl ov)))]) (w1 := [(h0, .inr (1, [.ref a, .ref b])), (a, .inl (cI, 256, .inl kf)), (b, .inl (cJ, 256, .inr (.inl vf)))]) hP hD [0, 1, 2] [3] rfl rfl (by decide) (by decide) hk1 hFc hP1 hD1
    have hK := (hK.sub (tys' := [(cO, .long)]) [2] rfl).app hK1
    generalize H1 = H at hP hS hce ⊢
    have hP : va_P (dC, dI) vwCl [(o, .inl (cO, 1, .inr (.inl ov))), (h0, .inr (1, [.ref a, .ref b])), (a, .inl (cI, 256, .inl kf)), (b, .inl (cJ, 256, .inr (.inl vf)))] H := hP
    have hD : va_D A [(o, .inl (cO, 1, .inr (.inl ov))), (h0, .inr (1, [.ref a, .ref b])), (a, .inl (cI, 256, .inl kf)), (b, .inl (cJ, 256, .inr (.inl vf)))] := hD
    have hK : va_K (dC, dI) vwCl [(cO, .long), (cI, .int), (cJ, .long)] s := hK
    refine vx_widen (k := 3) (n := 17) (Nat.le_of_ble_eq_true rfl) (Nat.le_of_ble_eq_true rfl) ?_
    rcases hex with ⟨hE9, hx9⟩ | ⟨hE9, hx9⟩
    · subst hE9
      refine vx_catch hown [] ⟨0, 12, 15, 13⟩ [⟨0, 12, 19, 15⟩] htb (fun z hz => absurd hz List.not_mem_nil) (by decide) (by decide) (hts (.classLink RL 13 IAE) kL_about_0) (va_Nw.use rfl (ev_ciae hE)) hce hcv hcl ?_
      refine lv_astore (lv' := [(5, .ref q9), (0, .ref h0), (1, .int f), (2, .int t), (3, .int w), (4, .ref o)]) hx hb dL_about_15 hl (by decide) rfl (fun ls hl => ?_)
      refine lv_iconst (v := 1) hx hb dL_about_17 (by decide) ?_
      have hP9 := hP.sub (ws' := [(h0, .inr (1, [.ref a, .ref b])), (a, .inl (cI, 256, .inl kf)), (b, .inl (cJ, 256, .inr (.inl vf))), (o, .inl (cO, 1, .inr (.inl ov)))]) [1, 2, 3, 0] rfl
      have hD9 := hD.sub (ws' := [(h0, .inr (1, [.ref a, .ref b])), (a, .inl (cI, 256, .inl kf)), (b, .inl (cJ, 256, .inr (.inl vf))), (o, .inl (cO, 1, .inr (.inl ov)))]) [1, 2, 3, 0] (by decide) rfl
      have hK9 := hK.sub (tys' := [(cI, .int), (cJ, .long), (cO, .long)]) [1, 2, 0] rfl
      refine vx_ret ?_
      refine W.widen (k := 3) (n := 17) (Nat.le_of_ble_eq_true rfl) (Nat.le_of_ble_eq_true rfl) ?_
      exact W.iret (v := 1) hx hb hr (fun t9 ht hW => ⟨⟨1, ov, rfl, ⟨by first | (simp [b_c, hx9]; done) | (simp [b_c, hx9]; done) | grind [b_c], by first | (simp [b_c, hx9]; done) | (simp [b_c, hx9]; done) | grind [b_c]⟩, by rw [ht]; exact hP9, va_K.moved hW.alike hK9, hD9⟩, hS.F ht⟩) hS.2.2 dL_about_18
    · subst hE9
      refine vx_catch hown [⟨0, 12, 15, 13⟩] ⟨0, 12, 19, 15⟩ [] htb (fun z hz => by rw [List.mem_singleton.mp hz]; exact Or.inr ⟨by decide, IAE, (hts (.classLink RL 13 IAE) kL_about_0), hE.2.2.1⟩) (by decide) (by decide) (hts (.classLink RL 15 IOB) kL_about_1) (va_Nw.use rfl (ev_ciob hE)) hce hcv hcl ?_
      refine lv_astore (lv' := [(5, .ref q9), (0, .ref h0), (1, .int f), (2, .int t), (3, .int w), (4, .ref o)]) hx hb dL_about_19 hl (by decide) rfl (fun ls hl => ?_)
      refine lv_iconst (v := 2) hx hb dL_about_21 (by decide) ?_
      have hP9 := hP.sub (ws' := [(h0, .inr (1, [.ref a, .ref b])), (a, .inl (cI, 256, .inl kf)), (b, .inl (cJ, 256, .inr (.inl vf))), (o, .inl (cO, 1, .inr (.inl ov)))]) [1, 2, 3, 0] rfl
      have hD9 := hD.sub (ws' := [(h0, .inr (1, [.ref a, .ref b])), (a, .inl (cI, 256, .inl kf)), (b, .inl (cJ, 256, .inr (.inl vf))), (o, .inl (cO, 1, .inr (.inl ov)))]) [1, 2, 3, 0] (by decide) rfl
      have hK9 := hK.sub (tys' := [(cI, .int), (cJ, .long), (cO, .long)]) [1, 2, 0] rfl
      refine vx_ret ?_
      refine W.widen (k := 3) (n := 17) (Nat.le_of_ble_eq_true rfl) (Nat.le_of_ble_eq_true rfl) ?_
      exact W.iret (v := 2) hx hb hr (fun t9 ht hW => ⟨⟨2, ov, rfl, ⟨by first | (simp [b_c, hx9]; done) | (simp [b_c, hx9]; done) | grind [b_c], by first | (simp [b_c, hx9]; done) | (simp [b_c, hx9]; done) | grind [b_c]⟩, by rw [ht]; exact hP9, va_K.moved hW.alike hK9, hD9⟩, hS.F ht⟩) hS.2.2 dL_about_22
  · obtain ⟨hP1, hK1, hD1⟩ := hB
    rw [ht] at hP1
    have h_2 := hw
    have hK1 := va_K.moved hvm.symm hK1
    obtain ⟨hP, hD⟩ := va_join (wr := [(o, .inl (cO, 1, .inr (.inl ov)))]) (w1 := [(h0, .inr (1, [.ref a, .ref b])), (a, .inl (cI, 256, .inl kf)), (b, .inl (cJ, 256, .inr (.inl vf)))]) hP hD [0, 1, 2] [3] rfl rfl (by decide) (by decide) hk1 hFc hP1 hD1
    have hK := (hK.sub (tys' := [(cO, .long)]) [2] rfl).app hK1
    generalize H1 = H at hP hS ⊢
    have hP : va_P (dC, dI) vwCl [(o, .inl (cO, 1, .inr (.inl ov))), (h0, .inr (1, [.ref a, .ref b])), (a, .inl (cI, 256, .inl kf)), (b, .inl (cJ, 256, .inr (.inl vf)))] H := hP
    have hD : va_D A [(o, .inl (cO, 1, .inr (.inl ov))), (h0, .inr (1, [.ref a, .ref b])), (a, .inl (cI, 256, .inl kf)), (b, .inl (cJ, 256, .inr (.inl vf)))] := hD
    have hK : va_K (dC, dI) vwCl [(cO, .long), (cI, .int), (cJ, .long)] s := hK
    refine W.widen (k := 3) (n := 17) (Nat.le_of_ble_eq_true rfl) (Nat.le_of_ble_eq_true rfl) ?_
    refine lv_i2l (v := r_1.toInt64) hx hb dL_about_10 rfl ?_
    refine va_last hx hb hK hP hD hS 0 0 rfl rfl in_01 dL_about_11 (fun H locs hP hD hS => ?_)
    have hP : va_P (dC, dI) vwCl [(o, .inl (cO, 1, .inr (.inl (vp_updL ov (0 : Int32).toNatClampNeg r_1.toInt64)))), (h0, .inr (1, [.ref a, .ref b])), (a, .inl (cI, 256, .inl kf)), (b, .inl (cJ, 256, .inr (.inl vf)))] H := hP
    have hD : va_D A [(o, .inl (cO, 1, .inr (.inl (vp_updL ov (0 : Int32).toNatClampNeg r_1.toInt64)))), (h0, .inr (1, [.ref a, .ref b])), (a, .inl (cI, 256, .inl kf)), (b, .inl (cJ, 256, .inr (.inl vf)))] := hD
    refine lv_goto (tgt := 23) hx hb dL_about_12 (by decide) ?_
    refine lv_iconst (v := 0) hx hb dL_about_23 (by decide) ?_
    have hP9 := hP.sub (ws' := [(h0, .inr (1, [.ref a, .ref b])), (a, .inl (cI, 256, .inl kf)), (b, .inl (cJ, 256, .inr (.inl vf))), (o, .inl (cO, 1, .inr (.inl (vp_updL ov (0 : Int32).toNatClampNeg r_1.toInt64))))]) [1, 2, 3, 0] rfl
    have hD9 := hD.sub (ws' := [(h0, .inr (1, [.ref a, .ref b])), (a, .inl (cI, 256, .inl kf)), (b, .inl (cJ, 256, .inr (.inl vf))), (o, .inl (cO, 1, .inr (.inl (vp_updL ov (0 : Int32).toNatClampNeg r_1.toInt64))))]) [1, 2, 3, 0] (by decide) rfl
    have hK9 := hK.sub (tys' := [(cI, .int), (cJ, .long), (cO, .long)]) [1, 2, 0] rfl
    refine vx_ret ?_
    refine W.widen (k := 3) (n := 17) (Nat.le_of_ble_eq_true rfl) (Nat.le_of_ble_eq_true rfl) ?_
    exact W.iret (v := 0) hx hb hr (fun t9 ht hW => ⟨⟨0, vp_updL ov (0 : Int32).toNatClampNeg r_1.toInt64, rfl, ⟨by first | (simp [b_c, h_2]; done) | (simp [b_c, h_2]; done) | grind [b_c], by first | (simp [b_c, h_2]; done) | (simp [b_c, h_2]; done) | grind [b_c]⟩, by rw [ht]; exact hP9, va_K.moved hW.alike hK9, hD9⟩, hS.F ht⟩) hS.2.2 dL_about_24
