/-! ===== what the class and the reference are, as numbers and functions ===== -/
/-- an Effect: shift, hasLow, low, hasHigh, high -/
abbrev Ef : Type := Int64 × Int32 × Int64 × Int32 × Int64
def e_mx (x y : Int64) : Int64 := if y < x then x else y
def e_mn (x y : Int64) : Int64 := if y < x then y else x
def e_0 : Ef := (0, 0, 0, 0, 0)
def e_add (v : Int64) (E : Ef) : Ef := (E.1 + v, E.2.1, E.2.2.1 + v, E.2.2.2.1, E.2.2.2.2 + v)
def e_gr (v : Int64) (E : Ef) : Ef := (E.1, 1, if E.2.1 = 0 then v else e_mx E.2.2.1 v, E.2.2.2.1, e_mx E.2.2.2.2 v)
def e_ls (v : Int64) (E : Ef) : Ef := (E.1, E.2.1, e_mn E.2.2.1 v, 1, if E.2.2.2.1 = 0 then v else e_mn E.2.2.2.2 v)
def e_th (k : Int32) (v : Int64) (E : Ef) : Ef := if k = 1 then e_add v E else if k = 2 then e_ls v (e_gr v E) else if k = 3 then e_gr v E else if k = 4 then e_ls v E else E
def e_cl (E : Ef) (n : Int64) : Int64 := if ¬ E.2.1 = 0 ∧ n < E.2.2.1 then E.2.2.1 else n
def e_on (E : Ef) (x : Int64) : Int64 := if ¬ E.2.2.2.1 = 0 ∧ E.2.2.2.2 < e_cl E (x + E.1) then E.2.2.2.2 else e_cl E (x + E.1)
def e_of (kf : Nat → Int32) (vf : Nat → Int64) (a : Nat) : Nat → Ef
  | 0 => e_0
  | n + 1 => e_th (kf (a + n)) (vf (a + n)) (e_of kf vf a n)
def e_it (E : Ef) (x : Int64) : Nat → Int64
  | 0 => x
  | k + 1 => e_on E (e_it E x k)
/-- staysAtHigh, isSameOfAll, leavesEachItself -/
def e_st (E : Ef) (w : Int32) : Int32 := if E.1 = 0 then w else if 0 < E.1 then 1 else 0
def e_sa (E : Ef) : Int32 := if ¬ E.2.1 = 0 ∧ ¬ E.2.2.2.1 = 0 ∧ E.2.2.1 = E.2.2.2.2 then 1 else 0
def e_id (E : Ef) : Int32 := if E.1 = 0 ∧ E.2.1 = 0 ∧ E.2.2.2.1 = 0 then 1 else 0
/-- the reference -/
def m_ap (k : Int32) (v y : Int64) : Int64 := if k = 1 then y + v else if k = 2 then v else if k = 3 then (if y < v then v else y) else if k = 4 then (if v < y then v else y) else y
def m_of (kf : Nat → Int32) (vf : Nat → Int64) (a : Nat) (x : Int64) : Nat → Int64
  | 0 => x
  | n + 1 => m_ap (kf (a + n)) (vf (a + n)) (m_of kf vf a x n)
def m_it (kf : Nat → Int32) (vf : Nat → Int64) (a n : Nat) (x : Int64) : Nat → Int64
  | 0 => x
  | k + 1 => m_of kf vf a (m_it kf vf a n x k) n
/-- rules that are not of kind 0 -/
def c_of (kf : Nat → Int32) (a : Nat) : Nat → Int32
  | 0 => 0
  | n + 1 => if kf (a + n) = 0 then c_of kf a n else c_of kf a n + 1
def f_fi {α : Type} (f : Nat → α) (a n : Nat) (x : α) : Nat → α := fun j => if a ≤ j ∧ j < a + n then x else f j
/-- what is asked of the arguments -/
abbrev okR (k : Int32) (v : Int64) : Prop := ¬ k < 0 ∧ ¬ 4 < k ∧ ¬ v < -1000000000 ∧ ¬ 1000000000 < v
abbrev okP (k : Int32) : Prop := ¬ k < 0 ∧ k < 256
abbrev okW (f t : Int32) : Prop := ¬ f < 0 ∧ ¬ t < f ∧ ¬ 256 < t
abbrev okX (x : Int64) : Prop := ¬ x < -1000000000000 ∧ ¬ 1000000000000 < x
abbrev okN (n : Int32) : Prop := ¬ n < 0 ∧ ¬ 1000 < n
abbrev okQ (w : Int32) : Prop := ¬ w < 0 ∧ ¬ 2 < w
abbrev ln (f t : Int32) : Nat := t.toNatClampNeg - f.toNatClampNeg
abbrev eW (kf : Nat → Int32) (vf : Nat → Int64) (f t : Int32) : Ef := e_of kf vf f.toNatClampNeg (ln f t)
abbrev mW (kf : Nat → Int32) (vf : Nat → Int64) (f t : Int32) (x : Int64) : Int64 := m_of kf vf f.toNatClampNeg x (ln f t)
/-! ===== long compares ===== -/
theorem lq_lt {x y : Int64} : lg_cmp x y < 0 ↔ x < y := by
  unfold lg_cmp
  by_cases h1 : y < x
  · have : ¬ x < y := fun h => by have a := Int64.lt_iff_toInt_lt.mp h; have b := Int64.lt_iff_toInt_lt.mp h1; omega
    simp [h1, this]
  · by_cases h2 : x = y
    · subst h2; simp [h1]
    · have : x < y := by
        rw [Int64.lt_iff_toInt_lt] at h1 ⊢
        have : x.toInt ≠ y.toInt := fun h => h2 (Int64.toInt_inj.mp h)
        omega
      simp [h1, h2, this]
theorem lq_gt {x y : Int64} : 0 < lg_cmp x y ↔ y < x := by
  unfold lg_cmp
  by_cases h1 : y < x
  · simp [h1]
  · by_cases h2 : x = y
    · subst h2; simp [h1]
    · simp [h1, h2]
theorem lq_eq {x y : Int64} : lg_cmp x y = 0 ↔ x = y := by
  unfold lg_cmp
  by_cases h1 : y < x
  · have : ¬ x = y := fun h => by subst h; have a := Int64.lt_iff_toInt_lt.mp h1; omega
    simp [h1, this]
  · by_cases h2 : x = y
    · simp [h1, h2]
    · simp [h1, h2]
theorem lq_ne {x y : Int64} : lg_cmp x y = 0 ↔ x = y := lq_eq
theorem lq_i {a b : Int32} : a ≤ b ↔ ¬ b < a := by rw [Int32.le_iff_toInt_le, Int32.lt_iff_toInt_lt]; omega
theorem lq_ge {x y : Int64} : 0 ≤ lg_cmp x y ↔ ¬ x < y := by rw [lq_i, lq_lt]
theorem lq_le {x y : Int64} : lg_cmp x y ≤ 0 ↔ ¬ y < x := by rw [lq_i, lq_gt]
section MX
variable {p : Program} {l : Launch} {e : Env} {R : Room} {s : State} {m : MethodId} {args : Array Value} {below : List Frame} {meth : Method} {c : Code} {H : Heap} {locs : List Loc} {cells slots : Nat} {Q : State → Prop}
theorem lv_mx {pc : Nat} {ls : Array Slot} {rest : List Value} {x y : Int64} (k : W p l e R s m args below meth c H locs cells slots Q (F0 m pc ls (.long (e_mx x y) :: rest))) : W p l e R s m args below meth c H locs cells slots Q (F0 m pc ls (.long (if y < x then x else y) :: rest)) := k
theorem lv_mn {pc : Nat} {ls : Array Slot} {rest : List Value} {x y : Int64} (k : W p l e R s m args below meth c H locs cells slots Q (F0 m pc ls (.long (e_mn x y) :: rest))) : W p l e R s m args below meth c H locs cells slots Q (F0 m pc ls (.long (if y < x then y else x) :: rest)) := k
end MX
/-! ===== what every method of the class may lean on, beside its words ===== -/
abbrev IAE : String := "java/lang/IllegalArgumentException"
abbrev IOB : String := "java/lang/IndexOutOfBoundsException"
abbrev UOE : String := "java/lang/UnsupportedOperationException"
abbrev ups : List String := ["java/lang/RuntimeException", "java/lang/Exception"]
def yD (C : String) : MethodName := ⟨C, "<init>", "(Ljava/lang/String;)V"⟩
/-- words on the tables that are not carried by a method's list: nest mates, classes that can be cast -/
def ev_ws : List Cond := [.fieldLinkNest RX1 46 "FoldRow$Effect" "hasLow" "Z" "FoldRow", .fieldLinkNest RX1 57 "FoldRow$Effect" "low" "J" "FoldRow", .fieldLinkNest RX1 61 "FoldRow$Effect" "hasHigh" "Z" "FoldRow", .fieldLinkNest RX1 66 "FoldRow$Effect" "high" "J" "FoldRow", .methodLinkNest RX1 89 yX0_init "FoldRow", .castable IAE IAE, .castable IOB IOB, .castable UOE UOE, .declares (yD "java/lang/RuntimeException"), .declares (yD "java/lang/Exception"), .declares (yD "java/lang/Throwable")]
/-- the texts of the class, by their entries -/
def ev_tx : List (Nat × String) := [(52, "there are ever lesser numbers"), (64, "there are ever greater numbers"), (73, "no number stays, or there is no last one"), (95, "no such kind"), (102, "v is out of range"), (108, "x is out of range"), (110, "n is out of range"), (112, "no such question"), (116, "no such rule"), (119, "no such part")]
def ev (U : State) : Prop := (∀ w ∈ ev_ws, va_Nw w U) ∧ (∀ q ∈ ev_tx, ∃ a, vk_R RX1 q.1 q.2 a U) ∧ va_Nc IOB IAE U ∧ va_Nc UOE IOB U
theorem ev_tabs : ∀ w ∈ ev_ws, w.onTables = true := by decide +kernel
theorem ev.same {u U : State} (h : u.vm = U.vm) (hE : ev u) : ev U := by
  refine ⟨fun w hw => va_Nw.same (ev_tabs w hw) h (hE.1 w hw), fun q hq => ?_, ?_, ?_⟩
  · obtain ⟨a, ha⟩ := hE.2.1 q hq; exact ⟨a, vk_R.same h.symm ha⟩
  · exact va_Nc.moved (by rw [h]; exact Vm.Alike.refl _) hE.2.2.1
  · exact va_Nc.moved (by rw [h]; exact Vm.Alike.refl _) hE.2.2.2
theorem ev.warm {s U : State} (hE : ev s) (hW : s.WarmedH U.vm) : ev U := by
  refine ⟨?_, fun q hq => ?_, va_Nc.moved hW.alike hE.2.2.1, va_Nc.moved hW.alike hE.2.2.2⟩
  · have h := hE.1
    simp only [ev_ws, List.forall_mem_cons] at h ⊢
    obtain ⟨h1, h2, h3, h4, h5, h6, h7, h8, h9, h10, h11, -⟩ := h
    exact ⟨va_Nw.warmF hW h1, va_Nw.warmF hW h2, va_Nw.warmF hW h3, va_Nw.warmF hW h4, va_Nw.warmM hW h5, va_Nw.warmC hW h6, va_Nw.warmC hW h7, va_Nw.warmC hW h8, va_Nw.warmD hW h9, va_Nw.warmD hW h10, va_Nw.warmD hW h11, fun _ h => absurd h List.not_mem_nil⟩
  · obtain ⟨a, ha⟩ := hE.2.1 q hq; exact ⟨a, vk_R.warm hW ha⟩
theorem ev_n46 {U : State} (h : ev U) : va_Nw (.fieldLinkNest RX1 46 "FoldRow$Effect" "hasLow" "Z" "FoldRow") U := h.1 _ (by decide +kernel)
theorem ev_n57 {U : State} (h : ev U) : va_Nw (.fieldLinkNest RX1 57 "FoldRow$Effect" "low" "J" "FoldRow") U := h.1 _ (by decide +kernel)
theorem ev_n61 {U : State} (h : ev U) : va_Nw (.fieldLinkNest RX1 61 "FoldRow$Effect" "hasHigh" "Z" "FoldRow") U := h.1 _ (by decide +kernel)
theorem ev_n66 {U : State} (h : ev U) : va_Nw (.fieldLinkNest RX1 66 "FoldRow$Effect" "high" "J" "FoldRow") U := h.1 _ (by decide +kernel)
theorem ev_m89 {U : State} (h : ev U) : va_Nw (.methodLinkNest RX1 89 yX0_init "FoldRow") U := h.1 _ (by decide +kernel)
theorem ev_ciae {U : State} (h : ev U) : va_Nw (.castable IAE IAE) U := h.1 _ (by decide +kernel)
theorem ev_ciob {U : State} (h : ev U) : va_Nw (.castable IOB IOB) U := h.1 _ (by decide +kernel)
theorem ev_cuoe {U : State} (h : ev U) : va_Nw (.castable UOE UOE) U := h.1 _ (by decide +kernel)
theorem ev_s52 {U : State} (h : ev U) : ∃ a, vk_R RX1 52 "there are ever lesser numbers" a U := h.2.1 (52, "there are ever lesser numbers") (by decide +kernel)
theorem ev_s64 {U : State} (h : ev U) : ∃ a, vk_R RX1 64 "there are ever greater numbers" a U := h.2.1 (64, "there are ever greater numbers") (by decide +kernel)
theorem ev_s73 {U : State} (h : ev U) : ∃ a, vk_R RX1 73 "no number stays, or there is no last one" a U := h.2.1 (73, "no number stays, or there is no last one") (by decide +kernel)
theorem ev_s95 {U : State} (h : ev U) : ∃ a, vk_R RX1 95 "no such kind" a U := h.2.1 (95, "no such kind") (by decide +kernel)
theorem ev_s102 {U : State} (h : ev U) : ∃ a, vk_R RX1 102 "v is out of range" a U := h.2.1 (102, "v is out of range") (by decide +kernel)
theorem ev_s108 {U : State} (h : ev U) : ∃ a, vk_R RX1 108 "x is out of range" a U := h.2.1 (108, "x is out of range") (by decide +kernel)
theorem ev_s110 {U : State} (h : ev U) : ∃ a, vk_R RX1 110 "n is out of range" a U := h.2.1 (110, "n is out of range") (by decide +kernel)
theorem ev_s112 {U : State} (h : ev U) : ∃ a, vk_R RX1 112 "no such question" a U := h.2.1 (112, "no such question") (by decide +kernel)
theorem ev_s116 {U : State} (h : ev U) : ∃ a, vk_R RX1 116 "no such rule" a U := h.2.1 (116, "no such rule") (by decide +kernel)
theorem ev_s119 {U : State} (h : ev U) : ∃ a, vk_R RX1 119 "no such part" a U := h.2.1 (119, "no such part") (by decide +kernel)
theorem ev_at_iae {args : Array Value} {s : State} (h : ∀ w ∈ (vx_atS RX1 97 IAE ups).filter goodWord, w.before args s = true) (hE : ev s) : ∀ w ∈ vx_atS RX1 97 IAE ups, w.before args s = true := vx_hat (L := vx_atS RX1 97 IAE ups) (B := [.castable IAE IAE, .declares (yD "java/lang/RuntimeException"), .declares (yD "java/lang/Exception"), .declares (yD "java/lang/Throwable")]) h (by decide +kernel) (vx_c (va_Nw.use rfl (ev_ciae hE)) (vx_c (va_Nw.use rfl (hE.1 _ (by decide +kernel))) (vx_c (va_Nw.use rfl (hE.1 _ (by decide +kernel))) (vx_c (va_Nw.use rfl (hE.1 _ (by decide +kernel))) vx_n))))
theorem ev_at_iob {args : Array Value} {s : State} (h : ∀ w ∈ (vx_atS RX1 118 IOB ups).filter goodWord, w.before args s = true) (hE : ev s) : ∀ w ∈ vx_atS RX1 118 IOB ups, w.before args s = true := vx_hat (L := vx_atS RX1 118 IOB ups) (B := [.castable IOB IOB, .declares (yD "java/lang/RuntimeException"), .declares (yD "java/lang/Exception"), .declares (yD "java/lang/Throwable")]) h (by decide +kernel) (vx_c (va_Nw.use rfl (ev_ciob hE)) (vx_c (va_Nw.use rfl (hE.1 _ (by decide +kernel))) (vx_c (va_Nw.use rfl (hE.1 _ (by decide +kernel))) (vx_c (va_Nw.use rfl (hE.1 _ (by decide +kernel))) vx_n))))
theorem ev_at_uoe {args : Array Value} {s : State} (h : ∀ w ∈ (vx_atS RX1 54 UOE ups).filter goodWord, w.before args s = true) (hE : ev s) : ∀ w ∈ vx_atS RX1 54 UOE ups, w.before args s = true := vx_hat (L := vx_atS RX1 54 UOE ups) (B := [.castable UOE UOE, .declares (yD "java/lang/RuntimeException"), .declares (yD "java/lang/Exception"), .declares (yD "java/lang/Throwable")]) h (by decide +kernel) (vx_c (va_Nw.use rfl (ev_cuoe hE)) (vx_c (va_Nw.use rfl (hE.1 _ (by decide +kernel))) (vx_c (va_Nw.use rfl (hE.1 _ (by decide +kernel))) (vx_c (va_Nw.use rfl (hE.1 _ (by decide +kernel))) vx_n))))
theorem ev_ot_iae : ∀ w ∈ Cond.classLink RX1 93 IAE :: Cond.initialized IAE :: vx_atS RX1 97 IAE ups, vx_ot w = true := by decide +kernel
theorem ev_ot_iob : ∀ w ∈ Cond.classLink RX1 114 IOB :: Cond.initialized IOB :: vx_atS RX1 118 IOB ups, vx_ot w = true := by decide +kernel
theorem ev_ot_uoe : ∀ w ∈ Cond.classLink RX1 50 UOE :: Cond.initialized UOE :: vx_atS RX1 54 UOE ups, vx_ot w = true := by decide +kernel
/-- the two statics of Throwable that a throw reads -/
def ez (A : Nat → Prop) (U : State) (H : Heap) : Prop := vx_Zq Bundle.tN "UNASSIGNED_STACK" Bundle.steD A U H ∧ vx_Zq Bundle.tN "SUPPRESSED_SENTINEL" Bundle.listD A U H
theorem ez.moved {A : Nat → Prop} {u U : State} {H : Heap} (h : ez A u H) (hvm : u.vm.Alike U.vm) : ez A U H := ⟨vx_Zq.moved hvm h.1, vx_Zq.moved hvm h.2⟩
theorem ez.kept {A : Nat → Prop} {U : State} {H H1 : Heap} (h : ez A U H) (hq : ∀ a : Nat, a < H.size → ¬ A a → H1[a]? = H[a]?) : ez A U H1 := ⟨h.1.kept hq, h.2.kept hq⟩
theorem ez.narrow {A B : Nat → Prop} {U : State} {H : Heap} (h : ez A U H) (hAB : ∀ q, B q → A q) : ez B U H := ⟨h.1.narrow hAB, h.2.narrow hAB⟩
