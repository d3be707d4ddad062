/-! ===== fixed and about ===== -/
theorem x_sel {P A B C : Prop} [Decidable P] [Decidable A] [Decidable B] [Decidable C] {v p q : Int64} (h2 : P → A ∨ (¬ A ∧ ¬ B ∧ ¬ C)) (h0 : ¬ P → ¬ A ∧ ((B ∧ v = p) ∨ (¬ B ∧ C ∧ v = q))) :
    (if P then (2 : Int32) else 0) = (if A then 2 else if B then 0 else if C then 0 else 2) ∧ (¬ P → v = if B then p else q) := by
  by_cases hP : P
  · rw [if_pos hP]
    refine ⟨?_, fun h => absurd hP h⟩
    rcases h2 hP with a | ⟨a, b, c⟩
    · rw [if_pos a]
    · rw [if_neg a, if_neg b, if_neg c]
  · rw [if_neg hP]
    obtain ⟨a, b | ⟨b, c, d⟩⟩ := h0 hP
    · exact ⟨by rw [if_neg a, if_pos b.1], fun _ => by rw [if_pos b.1]; exact b.2⟩
    · exact ⟨by rw [if_neg a, if_neg b, if_pos c], fun _ => by rw [if_neg b]; exact d⟩
/-- in whole numbers, for E of a part: what the reference makes -/
theorem j_fix {kf : Nat → Int32} {vf : Nat → Int64} (hA : okA kf vf) {f t : Int32} (hok : okW f t) (w : Int32) (hw : w = 0 ∨ w = 1) :
    fe_c kf vf f t w = x_c kf vf f t (x_f w) ∧ (¬ e_fo (eW kf vf f t) w = 0 → e_fv (eW kf vf f t) w = x_v kf vf f t (x_f w)) := by
  obtain ⟨⟨h1, h2, h3, h4, h5, h6⟩, -, g⟩ := z_W hA hok
  have lo := j_lo hA hok
  have hi := j_hi hA hok
  have n1 : ¬ (1 : Int32) = 0 := by decide
  have z0 : (0 : Int64).toInt = 0 := rfl
  have nm : (-(-1000000000000000) : Int64) = 1000000000000000 := by decide
  -- the two candidates, and when they stay
  have sLo : ¬ (eW kf vf f t).2.1 = 0 → (x_t kf vf f t (-1000000000000000) ↔ zc (eW kf vf f t).2.1 (eW kf vf f t).2.2.2.1 (eW kf vf f t).2.2.1.toInt (eW kf vf f t).2.2.2.2.toInt ((eW kf vf f t).2.2.1.toInt + (eW kf vf f t).1.toInt) = (eW kf vf f t).2.2.1.toInt) := by
    intro q
    obtain ⟨e1, e2⟩ := lo.1 q
    have g1 := g (eW kf vf f t).2.2.1 (by omega)
    refine ⟨fun z => ?_, fun z => ⟨e1, ?_⟩⟩
    · have := z.2; rw [e2] at this; rw [← g1, this]
    · rw [e2]; exact Int64.toInt_inj.mp (g1.trans z)
  have sHi : ¬ (eW kf vf f t).2.2.2.1 = 0 → (x_t kf vf f t 1000000000000000 ↔ zc (eW kf vf f t).2.1 (eW kf vf f t).2.2.2.1 (eW kf vf f t).2.2.1.toInt (eW kf vf f t).2.2.2.2.toInt ((eW kf vf f t).2.2.2.2.toInt + (eW kf vf f t).1.toInt) = (eW kf vf f t).2.2.2.2.toInt) := by
    intro q
    obtain ⟨e1, e2⟩ := hi.1 q
    have g1 := g (eW kf vf f t).2.2.2.2 (by omega)
    refine ⟨fun z => ?_, fun z => ⟨e1, ?_⟩⟩
    · have := z.2; rw [e2] at this; rw [← g1, this]
    · rw [e2]; exact Int64.toInt_inj.mp (g1.trans z)
  have nLo : (eW kf vf f t).2.1 = 0 → ¬ x_t kf vf f t (-1000000000000000) := fun q z => (lo.2 q).1 z.1
  have nHi : (eW kf vf f t).2.2.2.1 = 0 → ¬ x_t kf vf f t 1000000000000000 := fun q z => (hi.2 q).1 z.1
  -- a far number never stays, but without a bound and a shift
  have fLo : mW kf vf f t (-1000000000000000) = -1000000000000000 ↔ (eW kf vf f t).2.1 = 0 ∧ (eW kf vf f t).1.toInt = 0 := by
    by_cases q : (eW kf vf f t).2.1 = 0
    · have := (lo.2 q).2
      refine ⟨fun z => ⟨q, ?_⟩, fun z => Int64.toInt_inj.mp ?_⟩
      · rw [z, far_m] at this; omega
      · rw [this, far_m]; omega
    · have := (lo.1 q).2
      refine ⟨fun z => ?_, fun z => absurd z.1 q⟩
      have e := congrArg Int64.toInt (this.symm.trans z); rw [far_m] at e; omega
  have fHi : mW kf vf f t 1000000000000000 = 1000000000000000 ↔ (eW kf vf f t).2.2.2.1 = 0 ∧ (eW kf vf f t).1.toInt = 0 := by
    by_cases q : (eW kf vf f t).2.2.2.1 = 0
    · have := (hi.2 q).2
      refine ⟨fun z => ⟨q, ?_⟩, fun z => Int64.toInt_inj.mp ?_⟩
      · rw [z, far_p] at this; omega
      · rw [this, far_p]; omega
    · have := (hi.1 q).2
      refine ⟨fun z => ?_, fun z => absurd z.1 q⟩
      have e := congrArg Int64.toInt (this.symm.trans z); rw [far_p] at e; omega
  have vLo : ¬ (eW kf vf f t).2.1 = 0 → mW kf vf f t (-1000000000000000) = (eW kf vf f t).2.2.1 := fun q => (lo.1 q).2
  have vHi : ¬ (eW kf vf f t).2.2.2.1 = 0 → mW kf vf f t 1000000000000000 = (eW kf vf f t).2.2.2.2 := fun q => (hi.1 q).2
  have s0 : (eW kf vf f t).1 = 0 ↔ (eW kf vf f t).1.toInt = 0 := by rw [← Int64.toInt_inj, z0]
  have s1 : 0 < (eW kf vf f t).1 ↔ 0 < (eW kf vf f t).1.toInt := by rw [Int64.lt_iff_toInt_lt, z0]
  have inj : ∀ a b : Int64, a.toInt = b.toInt → a = b := fun a b h => Int64.toInt_inj.mp h
  have nn : (eW kf vf f t).1.toInt = 0 ∨ 0 < (eW kf vf f t).1.toInt ∨ (eW kf vf f t).1.toInt < 0 := by omega
  unfold fe_c x_c x_v
  rw [if_pos hok, if_pos hok]
  rcases hw with rfl | rfl
  · -- the least one
    have xf : x_f 0 = -1000000000000000 := by simp [x_f]
    rw [xf, nm]
    rcases nn with q | q | q
    · have hst : e_st (eW kf vf f t) 0 = 0 := by unfold e_st; rw [if_pos (s0.mpr q)]
      have hfo : e_fo (eW kf vf f t) 0 = (eW kf vf f t).2.1 := by unfold e_fo; rw [hst, if_pos rfl]
      have hfv : e_fv (eW kf vf f t) 0 = (eW kf vf f t).2.2.1 := by unfold e_fv; rw [hst, if_pos rfl]
      rw [hfo, hfv]
      refine x_sel (fun p => Or.inl (fLo.mpr ⟨p, q⟩)) (fun p => ⟨fun z => p (fLo.mp z).1, Or.inl ⟨(sLo p).mpr ?_, (vLo p).symm⟩⟩)
      rw [zc_no (fun _ => by omega) (fun z => by have := h6 p z; omega)]; omega
    · have hst : e_st (eW kf vf f t) 0 = 1 := by unfold e_st; rw [if_neg (fun z => by have := s0.mp z; omega), if_pos (s1.mpr q)]
      have hfo : e_fo (eW kf vf f t) 0 = (eW kf vf f t).2.2.2.1 := by unfold e_fo; rw [hst, if_neg n1]
      have hfv : e_fv (eW kf vf f t) 0 = (eW kf vf f t).2.2.2.2 := by unfold e_fv; rw [hst, if_neg n1]
      rw [hfo, hfv]
      refine x_sel (fun p => Or.inr ⟨fun z => by have := (fLo.mp z).2; omega, fun z => ?_, nHi p⟩) (fun p => ⟨fun z => by have := (fLo.mp z).2; omega, ?_⟩)
      · by_cases u : (eW kf vf f t).2.1 = 0
        · exact nLo u z
        · have := (sLo u).mp z; rw [zc_no (fun _ => by omega) (fun y => absurd p y)] at this; omega
      · have tH : x_t kf vf f t 1000000000000000 := (sHi p).mpr (zc_hi p (by omega) (fun u => by have := h6 u p; omega))
        by_cases u : (eW kf vf f t).2.1 = 0
        · exact Or.inr ⟨nLo u, tH, (vHi p).symm⟩
        · have hLM := h6 u p
          by_cases y : (eW kf vf f t).2.2.1.toInt = (eW kf vf f t).2.2.2.2.toInt
          · refine Or.inl ⟨(sLo u).mpr ?_, ?_⟩
            · rw [zc_hi p (by omega) (fun _ => by omega)]; omega
            · rw [vLo u]; exact (inj _ _ y).symm
          · refine Or.inr ⟨fun z => ?_, tH, (vHi p).symm⟩
            have := (sLo u).mp z
            rcases Int.lt_or_le (eW kf vf f t).2.2.2.2.toInt ((eW kf vf f t).2.2.1.toInt + (eW kf vf f t).1.toInt) with r | r
            · rw [zc_hi p r (fun _ => by omega)] at this; omega
            · rw [zc_no (fun _ => by omega) (fun _ => r)] at this; omega
    · have hst : e_st (eW kf vf f t) 0 = 0 := by unfold e_st; rw [if_neg (fun z => by have := s0.mp z; omega), if_neg (fun z => by have := s1.mp z; omega)]
      have hfo : e_fo (eW kf vf f t) 0 = (eW kf vf f t).2.1 := by unfold e_fo; rw [hst, if_pos rfl]
      have hfv : e_fv (eW kf vf f t) 0 = (eW kf vf f t).2.2.1 := by unfold e_fv; rw [hst, if_pos rfl]
      rw [hfo, hfv]
      refine x_sel (fun p => Or.inr ⟨fun z => by have := (fLo.mp z).2; omega, nLo p, fun z => ?_⟩) (fun p => ⟨fun z => by have := (fLo.mp z).2; omega, Or.inl ⟨(sLo p).mpr (zc_lo p (by omega) (fun u => h6 p u)), (vLo p).symm⟩⟩)
      by_cases u : (eW kf vf f t).2.2.2.1 = 0
      · exact nHi u z
      · have := (sHi u).mp z; rw [zc_no (fun y => absurd p y) (fun _ => by omega)] at this; omega
  · -- the greatest one
    have xf : x_f 1 = 1000000000000000 := by simp [x_f]
    rw [xf]
    rcases nn with q | q | q
    · have hst : e_st (eW kf vf f t) 1 = 1 := by unfold e_st; rw [if_pos (s0.mpr q)]
      have hfo : e_fo (eW kf vf f t) 1 = (eW kf vf f t).2.2.2.1 := by unfold e_fo; rw [hst, if_neg n1]
      have hfv : e_fv (eW kf vf f t) 1 = (eW kf vf f t).2.2.2.2 := by unfold e_fv; rw [hst, if_neg n1]
      rw [hfo, hfv]
      refine x_sel (fun p => Or.inl (fHi.mpr ⟨p, q⟩)) (fun p => ⟨fun z => p (fHi.mp z).1, Or.inl ⟨(sHi p).mpr ?_, (vHi p).symm⟩⟩)
      rw [zc_no (fun z => by have := h6 z p; omega) (fun _ => by omega)]; omega
    · have hst : e_st (eW kf vf f t) 1 = 1 := by unfold e_st; rw [if_neg (fun z => by have := s0.mp z; omega), if_pos (s1.mpr q)]
      have hfo : e_fo (eW kf vf f t) 1 = (eW kf vf f t).2.2.2.1 := by unfold e_fo; rw [hst, if_neg n1]
      have hfv : e_fv (eW kf vf f t) 1 = (eW kf vf f t).2.2.2.2 := by unfold e_fv; rw [hst, if_neg n1]
      rw [hfo, hfv]
      refine x_sel (fun p => Or.inr ⟨fun z => by have := (fHi.mp z).2; omega, nHi p, fun z => ?_⟩) (fun p => ⟨fun z => by have := (fHi.mp z).2; omega, Or.inl ⟨(sHi p).mpr (zc_hi p (by omega) (fun u => by have := h6 u p; omega)), (vHi p).symm⟩⟩)
      by_cases u : (eW kf vf f t).2.1 = 0
      · exact nLo u z
      · have := (sLo u).mp z; rw [zc_no (fun _ => by omega) (fun y => absurd p y)] at this; omega
    · have hst : e_st (eW kf vf f t) 1 = 0 := by unfold e_st; rw [if_neg (fun z => by have := s0.mp z; omega), if_neg (fun z => by have := s1.mp z; omega)]
      have hfo : e_fo (eW kf vf f t) 1 = (eW kf vf f t).2.1 := by unfold e_fo; rw [hst, if_pos rfl]
      have hfv : e_fv (eW kf vf f t) 1 = (eW kf vf f t).2.2.1 := by unfold e_fv; rw [hst, if_pos rfl]
      rw [hfo, hfv]
      refine x_sel (fun p => Or.inr ⟨fun z => by have := (fHi.mp z).2; omega, fun z => ?_, nLo p⟩) (fun p => ⟨fun z => by have := (fHi.mp z).2; omega, ?_⟩)
      · by_cases u : (eW kf vf f t).2.2.2.1 = 0
        · exact nHi u z
        · have := (sHi u).mp z; rw [zc_no (fun y => absurd p y) (fun _ => by omega)] at this; omega
      · have tL : x_t kf vf f t (-1000000000000000) := (sLo p).mpr (zc_lo p (by omega) (fun u => h6 p u))
        by_cases u : (eW kf vf f t).2.2.2.1 = 0
        · exact Or.inr ⟨nHi u, tL, (vLo p).symm⟩
        · have hLM := h6 p u
          by_cases y : (eW kf vf f t).2.2.1.toInt = (eW kf vf f t).2.2.2.2.toInt
          · refine Or.inl ⟨(sHi u).mpr ?_, ?_⟩
            · rw [zc_lo p (by omega) (fun _ => hLM)]; omega
            · rw [vHi u]; exact inj _ _ y
          · refine Or.inr ⟨fun z => ?_, tL, (vLo p).symm⟩
            have := (sHi u).mp z
            rcases Int.lt_or_le ((eW kf vf f t).2.2.2.2.toInt + (eW kf vf f t).1.toInt) (eW kf vf f t).2.2.1.toInt with r | r
            · rw [zc_lo p r (fun _ => hLM)] at this; omega
            · rw [zc_no (fun _ => r) (fun _ => by omega)] at this; omega
theorem j_fixed {kf : Nat → Int32} {vf : Nat → Int64} (hA : okA kf vf) (f t w : Int32) (hw : w = 0 ∨ w = 1) : fe_c kf vf f t w = x_c kf vf f t (x_f w) ∧ (okW f t ∧ ¬ e_fo (eW kf vf f t) w = 0 → e_fv (eW kf vf f t) w = x_v kf vf f t (x_f w)) := by
  by_cases hok : okW f t
  · exact ⟨(j_fix hA hok w hw).1, fun h => (j_fix hA hok w hw).2 h.2⟩
  · exact ⟨by unfold fe_c x_c; rw [if_neg hok, if_neg hok], fun h => absurd h.1 hok⟩
theorem j_about {kf : Nat → Int32} {vf : Nat → Int64} (hA : okA kf vf) {f t w : Int32} (hok : okW f t) (hq : okQ w) : e_ab kf vf f t w = b_v kf vf f t w := by
  obtain ⟨⟨h1, h2, h3, h4, h5, h6⟩, -, g⟩ := z_W hA hok
  have lo := j_lo hA hok
  have hi := j_hi hA hok
  have z0 : (0 : Int64).toInt = 0 := rfl
  have hw : w = 0 ∨ w = 1 ∨ w = 2 := by
    obtain ⟨q1, q2⟩ := hq
    obtain ⟨a, ha, rfl⟩ := nI_of q1
    rw [show (2 : Int32) = nI 2 from rfl, nI_ltI (by omega) ha] at q2
    have : a = 0 ∨ a = 1 ∨ a = 2 := by omega
    rcases this with rfl | rfl | rfl
    · exact Or.inl rfl
    · exact Or.inr (Or.inl rfl)
    · exact Or.inr (Or.inr rfl)
  unfold e_ab b_v
  rcases hw with rfl | rfl | rfl
  · have e1 : ¬ (0 : Int32) = 1 := by decide
    simp only [e1, if_false, if_true]
    unfold e_sa
    have key : (¬ (eW kf vf f t).2.1 = 0 ∧ ¬ (eW kf vf f t).2.2.2.1 = 0 ∧ (eW kf vf f t).2.2.1 = (eW kf vf f t).2.2.2.2) ↔ mW kf vf f t (-1000000000000000) = mW kf vf f t 1000000000000000 := by
      by_cases q1 : (eW kf vf f t).2.1 = 0
      · refine ⟨fun z => absurd q1 z.1, fun z => ?_⟩
        have a := (lo.2 q1).2
        by_cases q2 : (eW kf vf f t).2.2.2.1 = 0
        · have b := (hi.2 q2).2; rw [z] at a; omega
        · have b := (hi.1 q2).2; rw [z, b] at a; omega
      · have a := (lo.1 q1).2
        by_cases q2 : (eW kf vf f t).2.2.2.1 = 0
        · refine ⟨fun z => absurd q2 z.2.1, fun z => ?_⟩
          have b := (hi.2 q2).2; rw [← z, a] at b; omega
        · have b := (hi.1 q2).2
          rw [a, b]
          exact ⟨fun z => z.2.2, fun z => ⟨q1, q2, z⟩⟩
    simp only [key]
  · have e1 : ¬ (1 : Int32) = 0 := by decide
    have e2 : ¬ (1 : Int32) = 2 := by decide
    simp only [e1, e2, if_false, if_true]
  · have e1 : ¬ (2 : Int32) = 1 := by decide
    have e2 : ¬ (2 : Int32) = 0 := by decide
    simp only [e1, e2, if_false, if_true]
    unfold e_id
    have s0 : (eW kf vf f t).1 = 0 ↔ (eW kf vf f t).1.toInt = 0 := by rw [← Int64.toInt_inj, z0]
    have key : ((eW kf vf f t).1 = 0 ∧ (eW kf vf f t).2.1 = 0 ∧ (eW kf vf f t).2.2.2.1 = 0) ↔ (mW kf vf f t (-1000000000000000) = -1000000000000000 ∧ mW kf vf f t 1000000000000000 = 1000000000000000) := by
      by_cases q1 : (eW kf vf f t).2.1 = 0
      · have a := (lo.2 q1).2
        by_cases q2 : (eW kf vf f t).2.2.2.1 = 0
        · have b := (hi.2 q2).2
          refine ⟨fun z => ⟨Int64.toInt_inj.mp ?_, Int64.toInt_inj.mp ?_⟩, fun z => ⟨s0.mpr ?_, q1, q2⟩⟩
          · have := s0.mp z.1; rw [a, far_m]; omega
          · have := s0.mp z.1; rw [b, far_p]; omega
          · rw [z.1, far_m] at a; omega
        · have b := (hi.1 q2).2
          refine ⟨fun z => absurd z.2.2 q2, fun z => ?_⟩
          have e := congrArg Int64.toInt (b.symm.trans z.2); rw [far_p] at e; omega
      · have a := (lo.1 q1).2
        refine ⟨fun z => absurd z.2.1 q1, fun z => ?_⟩
        have e := congrArg Int64.toInt (a.symm.trans z.1); rw [far_m] at e; omega
    simp only [key]
