/-! PURE: a FACT is looked up -/
theorem copy_vr {R : jM} (hR : Lay R) {s q : Nat} (hs : s < 1500) (hq : q < 1500) {v w : Int32} (hv : v.toInt = s) (hw : w.toInt = q) : ∃ R', f_X12_copy 2398 v w R = some R' ∧ Fr qV R R' ∧ (∀ z, z ≠ s → sS R R' z) ∧ ∀ n C a, VR n C a R q → VR n C a R' s := by
  obtain ⟨R', g1, g2, g3, g4, g5, g6⟩ := copy_ok hR hv hs hw hq
  refine ⟨R', g1, g2, fun z hz => ⟨by rw [g3, upd_if, if_neg hz], by rw [g4, upd_if, if_neg hz], fun j hj => ⟨by rw [g5, if_neg (by omega)], by rw [g6, if_neg (by omega)]⟩⟩, fun n C a h => ?_⟩
  obtain ⟨h1, h2, h3, h4⟩ := h
  refine ⟨by rw [g3, upd_if, if_pos rfl]; exact h1, by rw [g4, upd_if, if_pos rfl]; exact h2, h3, fun j hj => ?_⟩
  have hj12 : j < 12 := by have := vlen_le h3; omega
  have e1 := g5 (12 * s + j)
  have e2 := g6 (12 * s + j)
  rw [if_pos (by omega), show 12 * q + (12 * s + j - 12 * s) = 12 * q + j by omega] at e1 e2
  have := h4 j hj
  simp only [e1, e2]
  exact this
theorem q_known {C R : jM} (hC : Lay C) (hR : Lay R) (h : Rel C R) (m d a : Int32) : Sim (f_X11_known 0 m d a) (f_X12_known 2398 m d a) C R := by
  obtain ⟨w, C1, R1, t1, t2, h1, F1, G1⟩ := rel_name hC hR h
  have hC1 : Lay C1 := hC.frC F1
  have hR1 : Lay R1 := hR.frR G1
  have hN := h1.N
  unfold Sim f_X11_known f_X12_known
  rw [if_pos k_0, ly_72 hC, obt, if_pos k_608, t1, jbt, if_pos k_2398, t2, jbt]
  have mI : f_X11_isMember m = 0 ↔ ¬ (0 ≤ m.toInt ∧ m.toInt ≤ 9) := p_isMember
  have mI' : f_X12_in m.toInt64 0 9 = 0 ↔ ¬ (0 ≤ m.toInt ∧ m.toInt ≤ 9) := by rw [in0, i2l_toInt]; exact Iff.rfl
  have dI : f_X11_isDay d = 0 ↔ ¬ (0 ≤ d.toInt ∧ d.toInt ≤ 389) := p_isDay
  have dI' : (if 0 ≤ d.toInt ∧ d.toInt ≤ 389 then (1 : Int32) else 0) = 0 ↔ ¬ (0 ≤ d.toInt ∧ d.toInt ≤ 389) := t_if
  have aI : (if 0 ≤ a.toInt ∧ a.toInt ≤ (jI C1 82 0).toInt then (1 : Int32) else 0) = 0 ↔ ¬ (0 ≤ a.toInt ∧ a.toInt ≤ (jI C1 82 0).toInt) := t_if
  have aI' : f_X12_in a.toInt64 0 (jI R1 139 2398).toInt64 = 0 ↔ ¬ (0 ≤ a.toInt ∧ a.toInt ≤ (jI C1 82 0).toInt) := by rw [in0, i2l_toInt, i2l_toInt, ← hN.1]; exact Iff.rfl
  by_cases c1 : 0 ≤ m.toInt ∧ m.toInt ≤ 9
  · rw [if_neg (fun z => mI.mp z c1), if_neg (fun z => mI'.mp z c1), p_mDay, obt]
    by_cases c2 : 0 ≤ d.toInt ∧ d.toInt ≤ 389
    · rw [if_neg (fun z => dI.mp z c2), if_neg (fun z => dI'.mp z c2), p_isPast, obt]
      by_cases c3 : 0 ≤ a.toInt ∧ a.toInt ≤ (jI C1 82 0).toInt
      · rw [if_neg (fun z => aI.mp z c3), if_neg (fun z => aI'.mp z c3)]
        by_cases c4 : w = 0
        · rw [if_pos c4, if_pos c4]
          exact ⟨_, _, _, rfl, rfl, h1, F1, G1⟩
        · obtain ⟨x, x1, x2, x3⟩ := latest_ok hC1 hR1 h1.F m w d a
          rw [if_neg c4, if_neg c4, ly_69 hC1, obt, if_pos k_1, x1, obt, x2, obt]
          rcases x3 with x3 | ⟨i, i1, i2, i3⟩
          · have xn : x < 0 := by rw [x3]; decide
            rw [if_pos xn, obt, if_pos xn]
            exact ⟨_, _, _, rfl, rfl, h1, F1, G1⟩
          · subst i3
            have a4' : jA 4 17 (nI i) = true := jA_n k_4 (by rw [ln_4]; omega) (by omega)
            have hvr : VR (jI C1 31 1).toInt C1 (6 + 3 * i) R1 (1 + i) := by
              obtain ⟨-, -, -, g⟩ := h1.F
              obtain ⟨-, -, -, -, -, -, -, gv⟩ := g i i1
              exact gv
            obtain ⟨Cb, s1, s2, s3⟩ := setTo_vr hC1 k_605 (kf_factv i2) (by omega) hvr
            have hsl : (1 : Int32) + nI i = nI (1 + i) := nJ_add (a := 1) (b := i) (by omega)
            obtain ⟨Rb, u1, u2, u3, u4⟩ := copy_vr hR1 (s := 0) (q := 1 + i) (by omega) (by omega) (v := 0) (w := nI (1 + i)) rfl (nI_toInt (by omega))
            have xn : ¬ nI i < 0 := nI_neg (by omega)
            rw [if_neg xn, if_pos k_1, if_neg (by rw [i_le, nI_toInt (by omega)]; omega), ly_70 hC1, obt, obt, if_pos k_1, ly_35 hC1, obt, if_pos a4', nJ_cl (by omega), ly_bk hC1 i2, obt, if_pos (kf_fact i2), ly_fv hC1 (kf_fact i2), obt, if_pos k_605, show 5 + 3 * i + 1 = 6 + 3 * i by omega, s1, obt, obt, if_neg xn, hsl, u1, obt]
            have e31 : jI Cb 31 1 = jI C1 31 1 := s2.i (by unfold pV; omega)
            have hF : Fr pGa C1 Cb := s2.mono (fun t f a z => by unfold pV at z; unfold pGa; omega)
            have hG : Fr qGa R1 Rb := u2.mono (fun t f a z => by unfold qV at z; unfold qGa; omega)
            obtain ⟨r1, r2, r3⟩ := Rel.gen h1 hF hG (fun s h1 h2 => u3 s (by omega)) (by unfold rD; rw [e31]; exact u4 _ _ _ s3) (rS_f s2 u2 (fun t f a => by unfold cS pV; omega) (fun t f a => by unfold mS qV; omega) (fun s h1 h2 => u3 s (by omega)) h1.S)
            exact ⟨_, _, _, rfl, rfl, r1, F1.trans r2, G1.trans r3⟩
      · rw [if_pos (aI.mpr c3), if_pos (aI'.mpr c3)]
        exact ⟨_, _, _, rfl, rfl, h1, F1, G1⟩
    · rw [if_pos (dI.mpr c2), if_pos (dI'.mpr c2)]
      exact ⟨_, _, _, rfl, rfl, h1, F1, G1⟩
  · rw [if_pos (mI.mpr c1), if_pos (mI'.mpr c1)]
    exact ⟨_, _, _, rfl, rfl, h1, F1, G1⟩
