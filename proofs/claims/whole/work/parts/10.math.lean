/-! ===== the class's sums and the reference's walk are the same numbers ===== -/
theorem z_add {a b : Int64} (h1 : -9000000000000000000 ≤ a.toInt + b.toInt) (h2 : a.toInt + b.toInt ≤ 9000000000000000000) : (a + b).toInt = a.toInt + b.toInt := by
  rw [Int64.toInt_add, Int.bmod_def]; omega
theorem z_mx (x y : Int64) : (e_mx x y).toInt = if y.toInt < x.toInt then x.toInt else y.toInt := by
  unfold e_mx; rw [apply_ite Int64.toInt]; simp only [Int64.lt_iff_toInt_lt]
theorem z_mn (x y : Int64) : (e_mn x y).toInt = if y.toInt < x.toInt then y.toInt else x.toInt := by
  unfold e_mn; rw [apply_ite Int64.toInt]; simp only [Int64.lt_iff_toInt_lt]
/-- a number between two bounds, each of which may be missing -/
def zc (hl hh : Int32) (L M y : Int) : Int := if ¬ hh = 0 ∧ M < (if ¬ hl = 0 ∧ y < L then L else y) then M else (if ¬ hl = 0 ∧ y < L then L else y)
theorem z_on (E : Ef) (x : Int64) (h1 : -9000000000000000000 ≤ x.toInt + E.1.toInt) (h2 : x.toInt + E.1.toInt ≤ 9000000000000000000) :
    (e_on E x).toInt = zc E.2.1 E.2.2.2.1 E.2.2.1.toInt E.2.2.2.2.toInt (x.toInt + E.1.toInt) := by
  unfold e_on e_cl zc
  simp only [apply_ite Int64.toInt, Int64.lt_iff_toInt_lt, z_add h1 h2]
def okE (B : Int) (E : Ef) : Prop := (-B ≤ E.1.toInt ∧ E.1.toInt ≤ B) ∧ (-B ≤ E.2.2.1.toInt ∧ E.2.2.1.toInt ≤ B) ∧ (-B ≤ E.2.2.2.2.toInt ∧ E.2.2.2.2.toInt ≤ B) ∧ (E.2.1 = 0 ∨ E.2.1 = 1) ∧ (E.2.2.2.1 = 0 ∨ E.2.2.2.1 = 1) ∧ (¬ E.2.1 = 0 → ¬ E.2.2.2.1 = 0 → E.2.2.1.toInt ≤ E.2.2.2.2.toInt)
theorem okE_0 : okE 1000000000 e_0 := by
  have z : (0 : Int64).toInt = 0 := rfl
  refine ⟨?_, ?_, ?_, Or.inl rfl, Or.inl rfl, fun h => absurd rfl h⟩ <;> simp only [e_0, z] <;> omega
theorem okR_z {k : Int32} {v : Int64} (h : okR k v) : -1000000000 ≤ v.toInt ∧ v.toInt ≤ 1000000000 := by
  obtain ⟨-, -, h3, h4⟩ := h
  rw [Int64.lt_iff_toInt_lt] at h3 h4
  have e1 : (-1000000000 : Int64).toInt = -1000000000 := rfl
  have e2 : (1000000000 : Int64).toInt = 1000000000 := rfl
  omega
theorem okR_k {k : Int32} {v : Int64} (h : okR k v) : k = 0 ∨ k = 1 ∨ k = 2 ∨ k = 3 ∨ k = 4 := by
  obtain ⟨h1, h2, -, -⟩ := h
  obtain ⟨a, ha, rfl⟩ := nI_of h1
  rw [show (4 : Int32) = nI 4 from rfl, nI_ltI (by omega) ha] at h2
  have : a = 0 ∨ a = 1 ∨ a = 2 ∨ a = 3 ∨ a = 4 := by omega
  rcases this with rfl | rfl | rfl | rfl | rfl
  · exact Or.inl rfl
  · exact Or.inr (Or.inl rfl)
  · exact Or.inr (Or.inr (Or.inl rfl))
  · exact Or.inr (Or.inr (Or.inr (Or.inl rfl)))
  · exact Or.inr (Or.inr (Or.inr (Or.inr rfl)))
theorem okE_add {B : Int} {E : Ef} {v : Int64} (h : okE B E) (hB : 1000000000 ≤ B) (hM : B ≤ 300000000000) (hv : -1000000000 ≤ v.toInt ∧ v.toInt ≤ 1000000000) : okE (B + 1000000000) (e_add v E) := by
  obtain ⟨h1, h2, h3, h4, h5, h6⟩ := h
  have a1 := z_add (a := E.1) (b := v) (by omega) (by omega)
  have a2 := z_add (a := E.2.2.1) (b := v) (by omega) (by omega)
  have a3 := z_add (a := E.2.2.2.2) (b := v) (by omega) (by omega)
  refine ⟨?_, ?_, ?_, h4, h5, ?_⟩ <;> simp only [e_add, a1, a2, a3]
  · omega
  · omega
  · omega
  · intro q1 q2; have := h6 q1 q2; omega
theorem okE_gr {B : Int} {E : Ef} {v : Int64} (h : okE B E) (hB : 1000000000 ≤ B) (hv : -1000000000 ≤ v.toInt ∧ v.toInt ≤ 1000000000) : okE B (e_gr v E) := by
  obtain ⟨h1, h2, h3, h4, h5, h6⟩ := h
  refine ⟨h1, ?_, ?_, Or.inr rfl, h5, ?_⟩ <;> simp only [e_gr, apply_ite Int64.toInt, z_mx]
  · by_cases q : E.2.1 = 0 <;> simp only [q, if_true, if_false] <;> (repeat' split) <;> omega
  · split <;> omega
  · intro q1 q2
    by_cases q : E.2.1 = 0
    · simp only [q, if_true]; split <;> omega
    · have := h6 q q2; simp only [q, if_false]; split <;> split <;> omega
theorem okE_ls {B : Int} {E : Ef} {v : Int64} (h : okE B E) (hB : 1000000000 ≤ B) (hv : -1000000000 ≤ v.toInt ∧ v.toInt ≤ 1000000000) : okE B (e_ls v E) := by
  obtain ⟨h1, h2, h3, h4, h5, h6⟩ := h
  refine ⟨h1, ?_, ?_, h4, Or.inr rfl, ?_⟩ <;> simp only [e_ls, apply_ite Int64.toInt, z_mn]
  · split <;> omega
  · by_cases q : E.2.2.2.1 = 0 <;> simp only [q, if_true, if_false] <;> (repeat' split) <;> omega
  · intro q1 q2
    by_cases q : E.2.2.2.1 = 0
    · simp only [q, if_true]; split <;> omega
    · have := h6 q1 q; simp only [q, if_false]; split <;> split <;> omega
theorem okE_up {B C : Int} {E : Ef} (h : okE B E) (hBC : B ≤ C) : okE C E := by
  obtain ⟨h1, h2, h3, h4, h5, h6⟩ := h
  exact ⟨by omega, by omega, by omega, h4, h5, h6⟩
/-- the numbers of the reference behind a rule -/
theorem z_step {B : Int} {E : Ef} {k : Int32} {v x : Int64} (h : okE B E) (hB : 1000000000 ≤ B) (hM : B ≤ 300000000000) (hr : okR k v) (hx : -4000000000000000 ≤ x.toInt ∧ x.toInt ≤ 4000000000000000) :
    okE (B + 1000000000) (e_th k v E) ∧ e_on (e_th k v E) x = m_ap k v (e_on E x) := by
  have hv := okR_z hr
  have h0 := z_on E x (by have := h.1; omega) (by have := h.1; omega)
  have hon : -9000000000000000 ≤ (e_on E x).toInt ∧ (e_on E x).toInt ≤ 9000000000000000 := by
    rw [h0]; obtain ⟨h1, h2, h3, h4, h5, h6⟩ := h; unfold zc
    by_cases q1 : E.2.1 = 0 <;> by_cases q2 : E.2.2.2.1 = 0 <;> simp only [q1, q2, not_true_eq_false, not_false_eq_true, false_and, true_and, if_false] <;> (repeat' split) <;> omega
  rcases okR_k hr with rfl | rfl | rfl | rfl | rfl
  · exact ⟨okE_up h (by omega), by simp [e_th, m_ap]⟩
  · refine ⟨by simpa [e_th] using okE_add h hB hM hv, ?_⟩
    have e1 : e_th 1 v E = e_add v E := by simp [e_th]
    have e2 : m_ap 1 v (e_on E x) = e_on E x + v := by simp [m_ap]
    rw [e1, e2]
    apply Int64.toInt_inj.mp
    obtain ⟨h1, h2, h3, h4, h5, h6⟩ := h
    have a1 := z_add (a := E.1) (b := v) (by omega) (by omega)
    have a2 := z_add (a := E.2.2.1) (b := v) (by omega) (by omega)
    have a3 := z_add (a := E.2.2.2.2) (b := v) (by omega) (by omega)
    have b1 : (e_add v E).1.toInt = E.1.toInt + v.toInt := a1
    have b2 : (e_add v E).2.2.1.toInt = E.2.2.1.toInt + v.toInt := a2
    have b3 : (e_add v E).2.2.2.2.toInt = E.2.2.2.2.toInt + v.toInt := a3
    have b4 : (e_add v E).2.1 = E.2.1 := rfl
    have b5 : (e_add v E).2.2.2.1 = E.2.2.2.1 := rfl
    rw [z_on _ _ (by rw [b1]; omega) (by rw [b1]; omega), z_add (by omega) (by omega), h0, b1, b2, b3, b4, b5]
    unfold zc
    by_cases q1 : E.2.1 = 0 <;> by_cases q2 : E.2.2.2.1 = 0 <;> simp only [q1, q2, not_true_eq_false, not_false_eq_true, false_and, true_and, if_false] <;> (repeat' split) <;> omega
  · have e1 : e_th 2 v E = e_ls v (e_gr v E) := by simp [e_th]
    have e2 : m_ap 2 v (e_on E x) = v := by simp [m_ap]
    rw [e1, e2]
    refine ⟨okE_up (okE_ls (okE_gr h hB hv) hB hv) (by omega), ?_⟩
    apply Int64.toInt_inj.mp
    obtain ⟨h1, h2, h3, h4, h5, h6⟩ := h
    have b1 : (e_ls v (e_gr v E)).1 = E.1 := rfl
    have b4 : (e_ls v (e_gr v E)).2.1 = 1 := rfl
    have b5 : (e_ls v (e_gr v E)).2.2.2.1 = 1 := rfl
    have b2 : (e_ls v (e_gr v E)).2.2.1.toInt = v.toInt := by
      simp only [e_ls, e_gr, z_mn, apply_ite Int64.toInt, z_mx]
      by_cases q1 : E.2.1 = 0 <;> simp only [q1, if_true, if_false] <;> (repeat' split) <;> omega
    have b3 : (e_ls v (e_gr v E)).2.2.2.2.toInt = v.toInt := by
      simp only [e_ls, e_gr, z_mn, apply_ite Int64.toInt, z_mx]
      by_cases q1 : E.2.2.2.1 = 0 <;> simp only [q1, if_true, if_false, z_mn, z_mx] <;> (repeat' split) <;> omega
    rw [z_on _ _ (by rw [b1]; omega) (by rw [b1]; omega), b1, b2, b3, b4, b5]
    unfold zc
    have n1 : ¬ (1 : Int32) = 0 := by decide
    simp only [n1, not_false_eq_true, true_and]
    (repeat' split) <;> omega
  · have e1 : e_th 3 v E = e_gr v E := by simp [e_th]
    have e2 : m_ap 3 v (e_on E x) = if e_on E x < v then v else e_on E x := by simp [m_ap]
    rw [e1, e2]
    refine ⟨okE_up (okE_gr h hB hv) (by omega), ?_⟩
    apply Int64.toInt_inj.mp
    obtain ⟨h1, h2, h3, h4, h5, h6⟩ := h
    have b1 : (e_gr v E).1 = E.1 := rfl
    have b4 : (e_gr v E).2.1 = 1 := rfl
    have b5 : (e_gr v E).2.2.2.1 = E.2.2.2.1 := rfl
    rw [z_on _ _ (by rw [b1]; omega) (by rw [b1]; omega), b1, b4, b5, apply_ite Int64.toInt]
    simp only [Int64.lt_iff_toInt_lt, h0]
    simp only [e_gr, z_mx, apply_ite Int64.toInt]
    unfold zc
    have n1 : ¬ (1 : Int32) = 0 := by decide
    by_cases q1 : E.2.1 = 0
    · by_cases q2 : E.2.2.2.1 = 0 <;> simp only [q1, q2, n1, not_true_eq_false, not_false_eq_true, false_and, true_and, if_false, if_true] <;> (repeat' split) <;> omega
    · by_cases q2 : E.2.2.2.1 = 0
      · simp only [q1, q2, n1, not_true_eq_false, not_false_eq_true, false_and, true_and, if_false, if_true] <;> (repeat' split) <;> omega
      · have := h6 q1 q2
        simp only [q1, q2, n1, not_true_eq_false, not_false_eq_true, false_and, true_and, if_false, if_true] <;> (repeat' split) <;> omega
  · have e1 : e_th 4 v E = e_ls v E := by simp [e_th]
    have e2 : m_ap 4 v (e_on E x) = if v < e_on E x then v else e_on E x := by simp [m_ap]
    rw [e1, e2]
    refine ⟨okE_up (okE_ls h hB hv) (by omega), ?_⟩
    apply Int64.toInt_inj.mp
    obtain ⟨h1, h2, h3, h4, h5, h6⟩ := h
    have b1 : (e_ls v E).1 = E.1 := rfl
    have b4 : (e_ls v E).2.1 = E.2.1 := rfl
    have b5 : (e_ls v E).2.2.2.1 = 1 := rfl
    rw [z_on _ _ (by rw [b1]; omega) (by rw [b1]; omega), b1, b4, b5, apply_ite Int64.toInt]
    simp only [Int64.lt_iff_toInt_lt, h0]
    simp only [e_ls, z_mn, apply_ite Int64.toInt]
    unfold zc
    have n1 : ¬ (1 : Int32) = 0 := by decide
    by_cases q1 : E.2.1 = 0
    · by_cases q2 : E.2.2.2.1 = 0 <;> simp only [q1, q2, n1, not_true_eq_false, not_false_eq_true, false_and, true_and, if_false, if_true] <;> (repeat' split) <;> omega
    · by_cases q2 : E.2.2.2.1 = 0
      · simp only [q1, q2, n1, not_true_eq_false, not_false_eq_true, false_and, true_and, if_false, if_true] <;> (repeat' split) <;> omega
      · have := h6 q1 q2
        simp only [q1, q2, n1, not_true_eq_false, not_false_eq_true, false_and, true_and, if_false, if_true] <;> (repeat' split) <;> omega
/-- the whole row of rules is right -/
def okA (kf : Nat → Int32) (vf : Nat → Int64) : Prop := ∀ j : Nat, j < 256 → okR (kf j) (vf j)
theorem z_of {kf : Nat → Int32} {vf : Nat → Int64} (hA : okA kf vf) (a : Nat) : ∀ n : Nat, a + n ≤ 256 → okE (1000000000 * ((n : Int) + 1)) (e_of kf vf a n) ∧ ∀ x : Int64, (-4000000000000000 ≤ x.toInt ∧ x.toInt ≤ 4000000000000000) → e_on (e_of kf vf a n) x = m_of kf vf a x n := by
  intro n
  induction n with
  | zero =>
    intro _
    refine ⟨okE_0, fun x _ => ?_⟩
    show e_on e_0 x = x
    simp [e_on, e_cl, e_0]
  | succ n ih =>
    intro hn
    obtain ⟨h1, h2⟩ := ih (by omega)
    have hr := hA (a + n) (by omega)
    refine ⟨?_, fun x hx => ?_⟩
    · have := (z_step (x := 0) h1 (by omega) (by omega) hr (by decide)).1
      have e : (1000000000 * (((n + 1 : Nat) : Int) + 1)) = 1000000000 * ((n : Int) + 1) + 1000000000 := by omega
      rw [e]; exact this
    · show e_on (e_th (kf (a + n)) (vf (a + n)) (e_of kf vf a n)) x = m_ap (kf (a + n)) (vf (a + n)) (m_of kf vf a x n)
      rw [(z_step h1 (by omega) (by omega) hr hx).2, h2 x hx]
/-- for a part: the class's sum E, and what the reference makes of a number, in whole numbers -/
theorem z_W {kf : Nat → Int32} {vf : Nat → Int64} (hA : okA kf vf) {f t : Int32} (hok : okW f t) : okE 257000000000 (eW kf vf f t) ∧ (∀ x : Int64, (-4000000000000000 ≤ x.toInt ∧ x.toInt ≤ 4000000000000000) → e_on (eW kf vf f t) x = mW kf vf f t x) ∧
    (∀ x : Int64, (-4000000000000000 ≤ x.toInt ∧ x.toInt ≤ 4000000000000000) → (mW kf vf f t x).toInt = zc (eW kf vf f t).2.1 (eW kf vf f t).2.2.2.1 (eW kf vf f t).2.2.1.toInt (eW kf vf f t).2.2.2.2.toInt (x.toInt + (eW kf vf f t).1.toInt)) := by
  obtain ⟨a, n, han, -, -, hfa, hln⟩ := okW_nat hok
  obtain ⟨h1, h2⟩ := z_of hA a n han
  have e1 : eW kf vf f t = e_of kf vf a n := by show e_of kf vf _ _ = _; rw [hfa, hln]
  have e2 : ∀ x, mW kf vf f t x = m_of kf vf a x n := fun x => by show m_of kf vf _ x _ = _; rw [hfa, hln]
  have h3 : okE 257000000000 (eW kf vf f t) := by rw [e1]; exact okE_up h1 (by omega)
  have h4 : ∀ x : Int64, (-4000000000000000 ≤ x.toInt ∧ x.toInt ≤ 4000000000000000) → e_on (eW kf vf f t) x = mW kf vf f t x := fun x hx => by rw [e1, e2]; exact h2 x hx
  refine ⟨h3, h4, fun x hx => ?_⟩
  rw [← h4 x hx]
  exact z_on _ _ (by have := h3.1; omega) (by have := h3.1; omega)
theorem okX_z {x : Int64} (h : okX x) : -1000000000000 ≤ x.toInt ∧ x.toInt ≤ 1000000000000 := by
  obtain ⟨h3, h4⟩ := h
  rw [Int64.lt_iff_toInt_lt] at h3 h4
  have e1 : (-1000000000000 : Int64).toInt = -1000000000000 := rfl
  have e2 : (1000000000000 : Int64).toInt = 1000000000000 := rfl
  omega
/-- fold -/
theorem j_fold {kf : Nat → Int32} {vf : Nat → Int64} (hA : okA kf vf) {f t : Int32} {x : Int64} (hok : okW f t) (hx : okX x) : e_on (eW kf vf f t) x = mW kf vf f t x :=
  (z_W hA hok).2.1 x (by have := okX_z hx; omega)
theorem zc_3 (hl hh : Int32) (L M y : Int) : zc hl hh L M y = M ∨ zc hl hh L M y = L ∨ zc hl hh L M y = y := by
  by_cases h : ¬ hh = 0 ∧ M < (if ¬ hl = 0 ∧ y < L then L else y)
  · exact Or.inl (if_pos h)
  · have e : zc hl hh L M y = (if ¬ hl = 0 ∧ y < L then L else y) := if_neg h
    rw [e]
    by_cases h2 : ¬ hl = 0 ∧ y < L
    · exact Or.inr (Or.inl (if_pos h2))
    · exact Or.inr (Or.inr (if_neg h2))
/-- again -/
theorem j_again {kf : Nat → Int32} {vf : Nat → Int64} (hA : okA kf vf) {f t : Int32} {x : Int64} (hok : okW f t) (hx : okX x) : ∀ n : Nat, n ≤ 1000 → e_it (eW kf vf f t) x n = m_it kf vf f.toNatClampNeg (ln f t) x n ∧ (-1000000000000 - 257000000000 * (n : Int) ≤ (e_it (eW kf vf f t) x n).toInt ∧ (e_it (eW kf vf f t) x n).toInt ≤ 1000000000000 + 257000000000 * (n : Int)) := by
  obtain ⟨hE, h1, h2⟩ := z_W hA hok
  intro n
  induction n with
  | zero => intro _; have := okX_z hx; exact ⟨rfl, by show _ ≤ x.toInt ∧ x.toInt ≤ _; omega⟩
  | succ n ih =>
    intro hn
    obtain ⟨i1, i2⟩ := ih (by omega)
    have hy : -4000000000000000 ≤ (e_it (eW kf vf f t) x n).toInt ∧ (e_it (eW kf vf f t) x n).toInt ≤ 4000000000000000 := by omega
    have e1 : e_it (eW kf vf f t) x (n + 1) = mW kf vf f t (e_it (eW kf vf f t) x n) := h1 _ hy
    refine ⟨by rw [e1, i1]; rfl, ?_⟩
    rw [e1, h2 _ hy]
    have := zc_3 (eW kf vf f t).2.1 (eW kf vf f t).2.2.2.1 (eW kf vf f t).2.2.1.toInt (eW kf vf f t).2.2.2.2.toInt ((e_it (eW kf vf f t) x n).toInt + (eW kf vf f t).1.toInt)
    have := hE.2.1
    have := hE.2.2.1
    have := hE.1
    omega
/-! in whole numbers: what bounds and a shift do far away -/
theorem zc_lo {hl hh : Int32} {L M y : Int} (h : ¬ hl = 0) (hy : y < L) (hLM : ¬ hh = 0 → L ≤ M) : zc hl hh L M y = L := by
  unfold zc
  by_cases q2 : hh = 0
  · simp [h, hy, q2]
  · have := hLM q2
    simp only [h, q2, hy, not_false_eq_true, and_self, true_and, if_true]
    rw [if_neg (by omega)]
theorem zc_no {hl hh : Int32} {L M y : Int} (h1 : ¬ hl = 0 → L ≤ y) (h2 : ¬ hh = 0 → y ≤ M) : zc hl hh L M y = y := by
  unfold zc
  have e : (if ¬ hl = 0 ∧ y < L then L else y) = y := if_neg (fun h => by have := h1 h.1; omega)
  rw [e]
  exact if_neg (fun h => by have := h2 h.1; omega)
theorem zc_hi {hl hh : Int32} {L M y : Int} (h : ¬ hh = 0) (hy : M < y) (hL : ¬ hl = 0 → L ≤ y) : zc hl hh L M y = M := by
  unfold zc
  have e : (if ¬ hl = 0 ∧ y < L then L else y) = y := if_neg (fun h => by have := hL h.1; omega)
  rw [e]
  exact if_pos ⟨h, hy⟩
theorem far_m : (-1000000000000000 : Int64).toInt = -1000000000000000 := rfl
theorem far_p : (1000000000000000 : Int64).toInt = 1000000000000000 := rfl
theorem far_2m : (2 * (-1000000000000000) : Int64).toInt = -2000000000000000 := rfl
theorem far_2p : (2 * 1000000000000000 : Int64).toInt = 2000000000000000 := rfl
/-- least: the reference's far number and twice it come to one number if and only if there is a low bound, and that's it -/
theorem j_lo {kf : Nat → Int32} {vf : Nat → Int64} (hA : okA kf vf) {f t : Int32} (hok : okW f t) :
    (¬ (eW kf vf f t).2.1 = 0 → m_en kf vf f t (-1000000000000000) ∧ mW kf vf f t (-1000000000000000) = (eW kf vf f t).2.2.1) ∧
    ((eW kf vf f t).2.1 = 0 → ¬ m_en kf vf f t (-1000000000000000) ∧ (mW kf vf f t (-1000000000000000)).toInt = -1000000000000000 + (eW kf vf f t).1.toInt) := by
  obtain ⟨⟨h1, h2, h3, h4, h5, h6⟩, -, g⟩ := z_W hA hok
  have g1 := g (-1000000000000000) (by rw [far_m]; omega)
  have g2 := g (2 * (-1000000000000000)) (by rw [far_2m]; omega)
  rw [far_m] at g1
  rw [far_2m] at g2
  refine ⟨fun q => ?_, fun q => ?_⟩
  · rw [zc_lo q (by omega) (h6 q)] at g1 g2
    exact ⟨Int64.toInt_inj.mp (g1.trans g2.symm), Int64.toInt_inj.mp g1⟩
  · rw [zc_no (fun z => absurd q z) (fun _ => by omega)] at g1 g2
    exact ⟨fun z => by have : (mW kf vf f t (-1000000000000000)).toInt = (mW kf vf f t (2 * (-1000000000000000))).toInt := by rw [z]
                       omega, g1⟩
theorem j_hi {kf : Nat → Int32} {vf : Nat → Int64} (hA : okA kf vf) {f t : Int32} (hok : okW f t) :
    (¬ (eW kf vf f t).2.2.2.1 = 0 → m_en kf vf f t 1000000000000000 ∧ mW kf vf f t 1000000000000000 = (eW kf vf f t).2.2.2.2) ∧
    ((eW kf vf f t).2.2.2.1 = 0 → ¬ m_en kf vf f t 1000000000000000 ∧ (mW kf vf f t 1000000000000000).toInt = 1000000000000000 + (eW kf vf f t).1.toInt) := by
  obtain ⟨⟨h1, h2, h3, h4, h5, h6⟩, -, g⟩ := z_W hA hok
  have g1 := g 1000000000000000 (by rw [far_p]; omega)
  have g2 := g (2 * 1000000000000000) (by rw [far_2p]; omega)
  rw [far_p] at g1
  rw [far_2p] at g2
  refine ⟨fun q => ?_, fun q => ?_⟩
  · rw [zc_hi q (by omega) (fun _ => by omega)] at g1 g2
    exact ⟨Int64.toInt_inj.mp (g1.trans g2.symm), Int64.toInt_inj.mp g1⟩
  · rw [zc_no (fun _ => by omega) (fun z => absurd q z)] at g1 g2
    exact ⟨fun z => by have : (mW kf vf f t 1000000000000000).toInt = (mW kf vf f t (2 * 1000000000000000)).toInt := by rw [z]
                       omega, g1⟩
theorem j_least {kf : Nat → Int32} {vf : Nat → Int64} (hA : okA kf vf) (f t : Int32) : le_c kf vf f t = l_c kf vf f t (-1000000000000000) ∧ (okW f t ∧ ¬ (eW kf vf f t).2.1 = 0 → (eW kf vf f t).2.2.1 = mW kf vf f t (-1000000000000000)) := by
  refine ⟨?_, fun h => ((j_lo hA h.1).1 h.2).2.symm⟩
  unfold le_c l_c
  by_cases hok : okW f t
  · rw [if_pos hok, if_pos hok]
    by_cases q : (eW kf vf f t).2.1 = 0
    · rw [if_pos q, if_neg ((j_lo hA hok).2 q).1]
    · rw [if_neg q, if_pos ((j_lo hA hok).1 q).1]
  · rw [if_neg hok, if_neg hok]
theorem j_greatest {kf : Nat → Int32} {vf : Nat → Int64} (hA : okA kf vf) (f t : Int32) : ge_c kf vf f t = l_c kf vf f t 1000000000000000 ∧ (okW f t ∧ ¬ (eW kf vf f t).2.2.2.1 = 0 → (eW kf vf f t).2.2.2.2 = mW kf vf f t 1000000000000000) := by
  refine ⟨?_, fun h => ((j_hi hA h.1).1 h.2).2.symm⟩
  unfold ge_c l_c
  by_cases hok : okW f t
  · rw [if_pos hok, if_pos hok]
    by_cases q : (eW kf vf f t).2.2.2.1 = 0
    · rw [if_pos q, if_neg ((j_hi hA hok).2 q).1]
    · rw [if_neg q, if_pos ((j_hi hA hok).1 q).1]
  · rw [if_neg hok, if_neg hok]
