/-! ===== the answers, as numbers; loops; places ===== -/
def m_f (is er co : Int32) : Int32 := if ¬ is = 0 ∧ er = 0 then co else er
def s_c (k kind : Int32) (v : Int64) : Int32 := if okR kind v then (if okP k then 0 else 2) else 1
def s_k (kf : Nat → Int32) (k kind : Int32) (v : Int64) : Nat → Int32 := if okR kind v ∧ okP k then upd kf k.toNatClampNeg kind else kf
def s_v (vf : Nat → Int64) (k kind : Int32) (v : Int64) : Nat → Int64 := if okR kind v ∧ okP k then vp_updL vf k.toNatClampNeg v else vf
def f_c (f t kind : Int32) (v : Int64) : Int32 := if okR kind v then (if okW f t then 0 else 2) else 1
def f_k (kf : Nat → Int32) (f t kind : Int32) (v : Int64) : Nat → Int32 := if okR kind v ∧ okW f t then f_fi kf f.toNatClampNeg (ln f t) kind else kf
def f_v (vf : Nat → Int64) (f t kind : Int32) (v : Int64) : Nat → Int64 := if okR kind v ∧ okW f t then f_fi vf f.toNatClampNeg (ln f t) v else vf
def w_c (j k : Int32) : Int32 := if okP j ∧ okP k then 0 else 1
def w_k (kf : Nat → Int32) (j k : Int32) : Nat → Int32 := if okP j ∧ okP k then upd (upd kf j.toNatClampNeg (kf k.toNatClampNeg)) k.toNatClampNeg (kf j.toNatClampNeg) else kf
def w_v (vf : Nat → Int64) (j k : Int32) : Nat → Int64 := if okP j ∧ okP k then vp_updL (vp_updL vf j.toNatClampNeg (vf k.toNatClampNeg)) k.toNatClampNeg (vf j.toNatClampNeg) else vf
def o_c (f t : Int32) (x : Int64) : Int32 := if okX x then (if okW f t then 0 else 2) else 1
def a_c (f t : Int32) (x : Int64) (n : Int32) : Int32 := if okX x ∧ okN n then (if okW f t then 0 else 2) else 1
abbrev FAR : Int64 := 1000000000000000
abbrev m_en (kf : Nat → Int32) (vf : Nat → Int64) (f t : Int32) (x : Int64) : Prop := mW kf vf f t x = mW kf vf f t (2 * x)
def l_c (kf : Nat → Int32) (vf : Nat → Int64) (f t : Int32) (x : Int64) : Int32 := if okW f t then (if m_en kf vf f t x then 0 else 2) else 1
abbrev x_t (kf : Nat → Int32) (vf : Nat → Int64) (f t : Int32) (x : Int64) : Prop := m_en kf vf f t x ∧ mW kf vf f t (mW kf vf f t x) = mW kf vf f t x
def x_c (kf : Nat → Int32) (vf : Nat → Int64) (f t : Int32) (x : Int64) : Int32 := if okW f t then (if mW kf vf f t x = x then 2 else if x_t kf vf f t x then 0 else if x_t kf vf f t (-x) then 0 else 2) else 1
def x_v (kf : Nat → Int32) (vf : Nat → Int64) (f t : Int32) (x : Int64) : Int64 := if x_t kf vf f t x then mW kf vf f t x else mW kf vf f t (-x)
def x_f (h : Int32) : Int64 := if h = 0 then -1000000000000000 else 1000000000000000
def b_c (f t w : Int32) : Int32 := if okQ w then (if okW f t then 0 else 2) else 1
def b_v (kf : Nat → Int32) (vf : Nat → Int64) (f t w : Int32) : Int32 := if w = 0 then (if mW kf vf f t (-1000000000000000) = mW kf vf f t 1000000000000000 then 1 else 0) else if w = 2 then (if mW kf vf f t (-1000000000000000) = -1000000000000000 ∧ mW kf vf f t 1000000000000000 = 1000000000000000 then 1 else 0) else c_of kf f.toNatClampNeg (ln f t)
theorem b01 {P : Prop} [Decidable P] : (if P then (1 : Int32) else 0) = 0 ↔ ¬ P := by by_cases h : P <;> simp [h]
theorem in_P {k : Int32} (h : okP k) : vp_in k 256 := by
  rw [vp_in_iff]
  obtain ⟨h1, h2⟩ := h
  rw [Int32.lt_iff_toInt_lt] at h1 h2
  have e0 : (0 : Int32).toInt = 0 := rfl
  have e1 : (256 : Int32).toInt = 256 := rfl
  omega
theorem w64 {a b : Int32} : a.toInt64 < b.toInt64 ↔ a < b := by rw [Int64.lt_iff_toInt_lt, Int32.lt_iff_toInt_lt, Int32.toInt_toInt64, Int32.toInt_toInt64]
theorem w64_0 {a : Int32} : a.toInt64 < 0 ↔ a < 0 := w64 (b := 0)
theorem w64_4 {a : Int32} : 4 < a.toInt64 ↔ 4 < a := w64 (a := 4)
theorem w64_255 {a : Int32} : 255 < a.toInt64 ↔ ¬ a < 256 := by
  rw [show (255 : Int64) = (255 : Int32).toInt64 from rfl, w64, Int32.lt_iff_toInt_lt, Int32.lt_iff_toInt_lt]
  have e0 : (255 : Int32).toInt = 255 := rfl
  have e1 : (256 : Int32).toInt = 256 := rfl
  omega
theorem w64_1000 {a : Int32} : 1000 < a.toInt64 ↔ 1000 < a := w64 (a := 1000)
theorem w64_2 {a : Int32} : 2 < a.toInt64 ↔ 2 < a := w64 (a := 2)
theorem okW_nat {f t : Int32} (h : okW f t) : ∃ a n : Nat, a + n ≤ 256 ∧ f = nI a ∧ t = nI (a + n) ∧ f.toNatClampNeg = a ∧ ln f t = n := by
  obtain ⟨h1, h2, h3⟩ := h
  obtain ⟨a, ha, rfl⟩ := nI_of h1
  have h4 : ¬ t < 0 := by
    rw [Int32.lt_iff_toInt_lt] at h1 h2 ⊢
    have e0 : (0 : Int32).toInt = 0 := rfl
    omega
  obtain ⟨b, hb, rfl⟩ := nI_of h4
  rw [nI_ltI hb ha] at h2
  rw [show (256 : Int32) = nI 256 from rfl, nI_ltI (by omega) hb] at h3
  refine ⟨a, b - a, by omega, rfl, by rw [show a + (b - a) = b by omega], nI_clamp ha, ?_⟩
  show (nI b).toNatClampNeg - (nI a).toNatClampNeg = b - a
  rw [nI_clamp ha, nI_clamp hb]
theorem lp_ge {a j n : Nat} (ha : a + n ≤ 256) (hj : j ≤ n) (h : nI (a + n) ≤ nI (a + j)) : j = n := by
  rw [nI_leI (by omega) (by omega)] at h; omega
theorem lp_lt {a j n : Nat} (ha : a + n ≤ 256) (hj : j ≤ n) (h : ¬ nI (a + n) ≤ nI (a + j)) : j < n := by
  rw [nI_leI (by omega) (by omega)] at h; omega
theorem f_fi0 {α : Type} (f : Nat → α) (a : Nat) (x : α) : f_fi f a 0 x = f := by
  funext j; unfold f_fi; rw [if_neg (by omega)]
theorem f_fiI (f : Nat → Int32) (a n : Nat) (x : Int32) : upd (f_fi f a n x) (a + n) x = f_fi f a (n + 1) x := by
  funext j
  by_cases h : j = a + n
  · subst h; rw [pk_us]; unfold f_fi; rw [if_pos (by omega)]
  · rw [pk_un h]; unfold f_fi
    by_cases h1 : a ≤ j ∧ j < a + n
    · rw [if_pos h1, if_pos (by omega)]
    · rw [if_neg h1, if_neg (by omega)]
theorem f_fiL (f : Nat → Int64) (a n : Nat) (x : Int64) : vp_updL (f_fi f a n x) (a + n) x = f_fi f a (n + 1) x := by
  funext j
  by_cases h : j = a + n
  · subst h; rw [pk_uLs]; unfold f_fi; rw [if_pos (by omega)]
  · rw [pk_uLn h]; unfold f_fi
    by_cases h1 : a ≤ j ∧ j < a + n
    · rw [if_pos h1, if_pos (by omega)]
    · rw [if_neg h1, if_neg (by omega)]
section LPW
variable {p : Program} {l : Launch} {e : Env} {R : Room} {s : State} {m : MethodId} {args : Array Value} {below : List Frame} {meth : Method} {c : Code} {cells slots : Nat} {Q : State → Prop}
/-- a loop that counts up to N -/
theorem lp_up {α : Type} {N pc : Nat} (I : Nat → α → Heap → List Loc → Array Slot → Prop)
    (hs : ∀ (j : Nat) (a : α) (H : Heap) (locs : List Loc) (ls : Array Slot), j ≤ N → I j a H locs ls → (j < N → ∀ (a' : α) (H' : Heap) (locs' : List Loc) (ls' : Array Slot), I (j + 1) a' H' locs' ls' → W p l e R s m args below meth c H' locs' cells slots Q (F0 m pc ls' [])) → W p l e R s m args below meth c H locs cells slots Q (F0 m pc ls []))
    (a : α) (H : Heap) (locs : List Loc) (ls : Array Slot) (h0 : I 0 a H locs ls) : W p l e R s m args below meth c H locs cells slots Q (F0 m pc ls []) := by
  have key : ∀ (d j : Nat) (a : α) (H : Heap) (locs : List Loc) (ls : Array Slot), N - j = d → j ≤ N → I j a H locs ls → W p l e R s m args below meth c H locs cells slots Q (F0 m pc ls []) := by
    intro d
    induction d with
    | zero => intro j a H locs ls hd hj hI; exact hs j a H locs ls hj hI (fun h => absurd h (by omega))
    | succ d ih => intro j a H locs ls hd hj hI; exact hs j a H locs ls hj hI (fun h a' H' locs' ls' hI' => ih (j + 1) a' H' locs' ls' (by omega) h hI')
  exact key N 0 a H locs ls (by omega) (Nat.zero_le N) h0
end LPW
theorem nn_256 : ¬ (256 : Int32) < 0 := by decide
theorem nc_256 : (256 : Int32).toNatClampNeg = 256 := by decide
theorem nn_1 : ¬ (1 : Int32) < 0 := by decide
theorem nc_1 : (1 : Int32).toNatClampNeg = 1 := by decide
theorem nb_int : 256 * componentBytes .int ≤ 536870912 := by decide
theorem nb_long : 256 * componentBytes .long ≤ 536870912 := by decide
theorem nb1_long : 1 * componentBytes .long ≤ 536870912 := by decide
theorem okN_nat {n : Int32} (h : okN n) : ∃ q : Nat, q ≤ 1000 ∧ n = nI q ∧ n.toNatClampNeg = q := by
  obtain ⟨h1, h2⟩ := h
  obtain ⟨a, ha, rfl⟩ := nI_of h1
  rw [show (1000 : Int32) = nI 1000 from rfl, nI_ltI (by omega) ha] at h2
  exact ⟨a, by omega, rfl, nI_clamp ha⟩
theorem lp_ge0 {j n : Nat} (hn : n ≤ 1000) (hj : j ≤ n) (h : nI n ≤ nI j) : j = n := by
  rw [nI_leI (by omega) (by omega)] at h; omega
theorem lp_lt0 {j n : Nat} (hn : n ≤ 1000) (hj : j ≤ n) (h : ¬ nI n ≤ nI j) : j < n := by
  rw [nI_leI (by omega) (by omega)] at h; omega
def e_fo (E : Ef) (w : Int32) : Int32 := if e_st E w = 0 then E.2.1 else E.2.2.2.1
def e_fv (E : Ef) (w : Int32) : Int64 := if e_st E w = 0 then E.2.2.1 else E.2.2.2.2
def e_ab (kf : Nat → Int32) (vf : Nat → Int64) (f t w : Int32) : Int32 := if w = 1 then c_of kf f.toNatClampNeg (ln f t) else if w = 0 then e_sa (eW kf vf f t) else e_id (eW kf vf f t)
