/-! ===== the law: its words, its script, its comparisons ===== -/
/-! THE CLAIM OUT OF ONE WALK OF THE LAW'S BODY (out of the skeleton, with the launch's flag carried along) -/
def R_law : String := "FoldRowLaw"
def lw_P (b : Addr) (xs : List Int32) (args : Array Value) (s : State) : Prop := args = #[.ref b] ∧ s.IntsAt b xs ∧ xs.length ≤ 3072 ∧ (Jvm.Cond.and given_1 narrow_1).before args s = true
def lw_Q (_ : Array Value) (s : State) (o : Outcome) (t : State) : Prop := o = .returned (some (.int 1)) ∧ Framed s o t [] 601024 7293034
def lw_Z (below : List Frame) (a : Array Value) (s : State) : State → Prop := fun t => ∃ o, t.status = .running ∧ Ended t below o ∧ lw_Q a s o t
/-- what every stretch of the law may lean on -/
def lw_C (p : Program) (l : Launch) (s : State) (m : MethodId) (c : Code) (b L : Nat) (xs : Nat → Int32) (A : Nat → Prop) : Prop :=
  p.tables.exec = Jvm.exec ∧ c.code = code ∧ c.maxLocals = 8 ∧ s.vm.findClass RL = some m.cls ∧ (∀ w ∈ wsL_law, w.before #[Value.ref b] s = true) ∧ va_X b L xs s s.heap ∧ b < s.heap.size ∧ ¬ A b ∧ (∀ q : Nat, s.heap.size ≤ q → A q) ∧ l.stackTraces = false ∧ ev s ∧ ez A s s.heap ∧ L ≤ 3072
/-- a long out of two ints of the script -/
def lw_J (h w : Int32) : Int64 := (h.toInt64 <<< ((32 : Int32).toInt64 &&& 63)) ||| (w.toInt64 &&& 4294967295)
section LWS
variable {p : Program} {l : Launch} {e : Env} {R : Room} {s : State} {m : MethodId} {args : Array Value} {below : List Frame} {meth : Method} {c : Code} {H : Heap} {locs : List Loc} {cells slots : Nat} {Q : State → Prop}
variable {cc : ByteArray} {pc : Nat} {ls : Array Slot} {rest : List Value} {A : Nat → Prop} {H0 : Heap}
theorem lw_lJ {h w : Int32} (k : W p l e R s m args below meth c H locs cells slots Q (F0 m pc ls (.long (lw_J h w) :: rest))) : W p l e R s m args below meth c H locs cells slots Q (F0 m pc ls (.long ((h.toInt64 <<< ((32 : Int32).toInt64 &&& 63)) ||| (w.toInt64 &&& 4294967295)) :: rest)) := k
theorem lw_sld (hexec : p.tables.exec = Jvm.exec) (hb : c.code = cc) {b L : Nat} {xs : Nat → Int32} (hX : va_X b L xs s H0) (hbl : b < H0.size) (hbA : ¬ A b) (hS : va_S A H0 H locs) {n0 c9 : Nat} {y : Int32} (hc : nI c9 = y) (hn : n0 + c9 < L) (hL : L ≤ 3072) (hdg : decode cc pc = .ok (.iaload, 1))
    (kk : W p l e R s m args below meth c H locs cells slots Q (F0 m (pc + 1) ls (.int (xs (n0 + c9)) :: rest))) : W p l e R s m args below meth c H locs cells slots Q (F0 m pc ls (.int (nI n0 + y) :: .ref b :: rest)) := by
  subst hc
  refine va_sld hexec hb hX hbl hbA hS (by rw [nI_add]; exact vp_in_nI hn (by omega)) hdg ?_
  rw [nI_add, nI_clamp (by omega)]
  exact kk
theorem lw_sld0 (hexec : p.tables.exec = Jvm.exec) (hb : c.code = cc) {b L : Nat} {xs : Nat → Int32} (hX : va_X b L xs s H0) (hbl : b < H0.size) (hbA : ¬ A b) (hS : va_S A H0 H locs) {n0 : Nat} (hn : n0 < L) (hL : L ≤ 3072) (hdg : decode cc pc = .ok (.iaload, 1))
    (kk : W p l e R s m args below meth c H locs cells slots Q (F0 m (pc + 1) ls (.int (xs n0) :: rest))) : W p l e R s m args below meth c H locs cells slots Q (F0 m pc ls (.int (nI n0) :: .ref b :: rest)) := by
  refine va_sld hexec hb hX hbl hbA hS (vp_in_nI hn (by omega)) hdg ?_
  rw [nI_clamp (by omega)]
  exact kk
/-- a loop that counts up to N, with so many cells and slots a turn -/
theorem lp_lw {α : Type} {N c0 s0 dc ds : Nat} (I : Nat → α → Heap → List Loc → Array Slot → Prop)
    (hs : ∀ (j : Nat) (a : α) (H : Heap) (locs : List Loc) (ls : Array Slot), j ≤ N → I j a H locs ls → (j < N → ∀ (a' : α) (H' : Heap) (locs' : List Loc) (ls' : Array Slot), I (j + 1) a' H' locs' ls' → W p l e R s m args below meth c H' locs' (c0 + dc * (j + 1)) (s0 + ds * (j + 1)) Q (F0 m pc ls' [])) → W p l e R s m args below meth c H locs (c0 + dc * j) (s0 + ds * j) Q (F0 m pc ls []))
    (a : α) (H : Heap) (locs : List Loc) (ls : Array Slot) (h0 : I 0 a H locs ls) : W p l e R s m args below meth c H locs c0 s0 Q (F0 m pc ls []) := by
  have key : ∀ (d j : Nat) (a : α) (H : Heap) (locs : List Loc) (ls : Array Slot), N - j = d → j ≤ N → I j a H locs ls → W p l e R s m args below meth c H locs (c0 + dc * j) (s0 + ds * j) Q (F0 m pc ls []) := by
    intro d
    induction d with
    | zero => intro j a H locs ls hd hj hI; exact hs j a H locs ls hj hI (fun h => absurd h (by omega))
    | succ d ih => intro j a H locs ls hd hj hI; exact hs j a H locs ls hj hI (fun h a' H' locs' ls' hI' => ih (j + 1) a' H' locs' ls' (by omega) h hI')
  exact key N 0 a H locs ls (by omega) (Nat.zero_le N) h0
end LWS
theorem sw_0_8 {x : Int32} (h0 : ¬ x = 0) (h1 : ¬ x = 1) (h2 : ¬ x = 2) (h3 : ¬ x = 3) (h4 : ¬ x = 4) (h5 : ¬ x = 5) (h6 : ¬ x = 6) (h7 : ¬ x = 7) (h8 : ¬ x = 8) : x.toInt < 0 ∨ 8 < x.toInt := by
  have a0 := lv_neT h0 (a := 0) rfl
  have a1 := lv_neT h1 (a := 1) rfl
  have a2 := lv_neT h2 (a := 2) rfl
  have a3 := lv_neT h3 (a := 3) rfl
  have a4 := lv_neT h4 (a := 4) rfl
  have a5 := lv_neT h5 (a := 5) rfl
  have a6 := lv_neT h6 (a := 6) rfl
  have a7 := lv_neT h7 (a := 7) rfl
  have a8 := lv_neT h8 (a := 8) rfl
  omega
theorem lw_gt {L n : Nat} (hL : L ≤ 3072) (hn : n ≤ 3072) : Int32.ofNat L - 6 < nI n ↔ L < n + 6 := by
  rw [Int32.lt_iff_toInt_lt, show Int32.ofNat L - 6 = nI L - nI 6 from rfl, pk_sub_toInt (by omega) (by omega), nI_toInt (by omega)]; omega
/-! the rules stay right -/
theorem okA_0 : okA (fun _ => 0) (fun _ => 0) := fun _ _ => (by decide : okR 0 0)
theorem okP_lt {k : Int32} (h : okP k) : k.toNatClampNeg < 256 := by
  have h1 := vp_in_iff.mp (in_P h)
  have : (k.toNatClampNeg : Int) = k.toInt := Int.toNat_of_nonneg h1.1
  omega
theorem okA_set {kf : Nat → Int32} {vf : Nat → Int64} (h : okA kf vf) (k kd : Int32) (v : Int64) : okA (s_k kf k kd v) (s_v vf k kd v) := by
  intro j hj
  unfold s_k s_v
  by_cases q : okR kd v ∧ okP k
  · rw [if_pos q, if_pos q]
    by_cases e : j = k.toNatClampNeg
    · subst e; rw [pk_us, pk_uLs]; exact q.1
    · rw [pk_un e, pk_uLn e]; exact h j hj
  · rw [if_neg q, if_neg q]; exact h j hj
theorem okA_fill {kf : Nat → Int32} {vf : Nat → Int64} (h : okA kf vf) (f t kd : Int32) (v : Int64) : okA (f_k kf f t kd v) (f_v vf f t kd v) := by
  intro j hj
  unfold f_k f_v
  by_cases q : okR kd v ∧ okW f t
  · rw [if_pos q, if_pos q]
    unfold f_fi
    by_cases e : f.toNatClampNeg ≤ j ∧ j < f.toNatClampNeg + ln f t
    · rw [if_pos e, if_pos e]; exact q.1
    · rw [if_neg e, if_neg e]; exact h j hj
  · rw [if_neg q, if_neg q]; exact h j hj
theorem okA_swap {kf : Nat → Int32} {vf : Nat → Int64} (h : okA kf vf) (i k : Int32) : okA (w_k kf i k) (w_v vf i k) := by
  intro j hj
  unfold w_k w_v
  by_cases q : okP i ∧ okP k
  · rw [if_pos q, if_pos q]
    by_cases e : j = k.toNatClampNeg
    · subst e; rw [pk_us, pk_uLs]; exact h _ (okP_lt q.1)
    · rw [pk_un e, pk_uLn e]
      by_cases e2 : j = i.toNatClampNeg
      · subst e2; rw [pk_us, pk_uLs]; exact h _ (okP_lt q.2)
      · rw [pk_un e2, pk_uLn e2]; exact h j hj
  · rw [if_neg q, if_neg q]; exact h j hj
/-! where the law compares a number, it is the same one -/
theorem k_fold {kf : Nat → Int32} {vf ov : Nat → Int64} (hA : okA kf vf) {f t : Int32} {x : Int64} (h : o_c f t x = 0) : (if okX x ∧ okW f t then vp_updL ov (0 : Int32).toNatClampNeg (e_on (eW kf vf f t) x) else ov) (0 : Int32).toNatClampNeg = (if okX x ∧ okW f t then mW kf vf f t x else 0) := by
  have q : okX x ∧ okW f t := by
    unfold o_c at h
    by_cases q1 : okX x
    · by_cases q2 : okW f t
      · exact ⟨q1, q2⟩
      · rw [if_pos q1, if_neg q2] at h; exact absurd h (by decide)
    · rw [if_neg q1] at h; exact absurd h (by decide)
  rw [if_pos q, if_pos q, pk_uLs]
  exact j_fold hA q.2 q.1
theorem k_again {kf : Nat → Int32} {vf ov : Nat → Int64} (hA : okA kf vf) {f t : Int32} {x : Int64} {n : Int32} (h : a_c f t x n = 0) : (if (okX x ∧ okN n) ∧ okW f t then vp_updL ov (0 : Int32).toNatClampNeg (e_it (eW kf vf f t) x n.toNatClampNeg) else ov) (0 : Int32).toNatClampNeg = (if (okX x ∧ okN n) ∧ okW f t then m_it kf vf f.toNatClampNeg (ln f t) x n.toNatClampNeg else 0) := by
  have q : (okX x ∧ okN n) ∧ okW f t := by
    unfold a_c at h
    by_cases q1 : okX x ∧ okN n
    · by_cases q2 : okW f t
      · exact ⟨q1, q2⟩
      · rw [if_pos q1, if_neg q2] at h; exact absurd h (by decide)
    · rw [if_neg q1] at h; exact absurd h (by decide)
  rw [if_pos q, if_pos q, pk_uLs]
  obtain ⟨n8, h8, -, hc⟩ := okN_nat q.1.2
  rw [hc]
  exact (j_again hA q.2 q.1.1 n8 h8).1
theorem k_least {kf : Nat → Int32} {vf ov : Nat → Int64} (hA : okA kf vf) {f t : Int32} (h : le_c kf vf f t = 0) : (if okW f t ∧ ¬ (eW kf vf f t).2.1 = 0 then vp_updL ov (0 : Int32).toNatClampNeg (eW kf vf f t).2.2.1 else ov) (0 : Int32).toNatClampNeg = (if l_c kf vf f t (-1000000000000000) = 0 then mW kf vf f t (-1000000000000000) else 0) := by
  have q : okW f t ∧ ¬ (eW kf vf f t).2.1 = 0 := by
    have h := h; unfold le_c at h
    by_cases q1 : okW f t
    · by_cases q2 : (eW kf vf f t).2.1 = 0
      · rw [if_pos q1, if_pos q2] at h; exact absurd h (by decide)
      · exact ⟨q1, q2⟩
    · rw [if_neg q1] at h; exact absurd h (by decide)
  rw [if_pos q, if_pos ((j_least hA f t).1.symm.trans h), pk_uLs]
  exact (j_least hA f t).2 q
theorem k_greatest {kf : Nat → Int32} {vf ov : Nat → Int64} (hA : okA kf vf) {f t : Int32} (h : ge_c kf vf f t = 0) : (if okW f t ∧ ¬ (eW kf vf f t).2.2.2.1 = 0 then vp_updL ov (0 : Int32).toNatClampNeg (eW kf vf f t).2.2.2.2 else ov) (0 : Int32).toNatClampNeg = (if l_c kf vf f t 1000000000000000 = 0 then mW kf vf f t 1000000000000000 else 0) := by
  have q : okW f t ∧ ¬ (eW kf vf f t).2.2.2.1 = 0 := by
    have h := h; unfold ge_c at h
    by_cases q1 : okW f t
    · by_cases q2 : (eW kf vf f t).2.2.2.1 = 0
      · rw [if_pos q1, if_pos q2] at h; exact absurd h (by decide)
      · exact ⟨q1, q2⟩
    · rw [if_neg q1] at h; exact absurd h (by decide)
  rw [if_pos q, if_pos ((j_greatest hA f t).1.symm.trans h), pk_uLs]
  exact (j_greatest hA f t).2 q
theorem k_fixed {kf : Nat → Int32} {vf ov : Nat → Int64} (hA : okA kf vf) {f t w : Int32} (hw : w = 0 ∨ w = 1) (h : fe_c kf vf f t w = 0) : (if okW f t ∧ ¬ e_fo (eW kf vf f t) w = 0 then vp_updL ov (0 : Int32).toNatClampNeg (e_fv (eW kf vf f t) w) else ov) (0 : Int32).toNatClampNeg = (if x_c kf vf f t (x_f w) = 0 then x_v kf vf f t (x_f w) else 0) := by
  have q : okW f t ∧ ¬ e_fo (eW kf vf f t) w = 0 := by
    have h := h; unfold fe_c at h
    by_cases q1 : okW f t
    · by_cases q2 : e_fo (eW kf vf f t) w = 0
      · rw [if_pos q1, if_pos q2] at h; exact absurd h (by decide)
      · exact ⟨q1, q2⟩
    · rw [if_neg q1] at h; exact absurd h (by decide)
  rw [if_pos q, if_pos ((j_fixed hA f t w hw).1.symm.trans h), pk_uLs]
  exact (j_fixed hA f t w hw).2 q
theorem k_about {kf : Nat → Int32} {vf ov : Nat → Int64} (hA : okA kf vf) {f t w : Int32} (h : b_c f t w = 0) : (if okQ w ∧ okW f t then vp_updL ov (0 : Int32).toNatClampNeg (e_ab kf vf f t w).toInt64 else ov) (0 : Int32).toNatClampNeg = (if okQ w ∧ okW f t then b_v kf vf f t w else 0).toInt64 := by
  have q : okQ w ∧ okW f t := by
    unfold b_c at h
    by_cases q1 : okQ w
    · by_cases q2 : okW f t
      · exact ⟨q1, q2⟩
      · rw [if_pos q1, if_neg q2] at h; exact absurd h (by decide)
    · rw [if_neg q1] at h; exact absurd h (by decide)
  rw [if_pos q, if_pos q, pk_uLs, j_about hA q.2 q.1]
