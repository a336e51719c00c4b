/-! PURE: figure: the call -/
theorem isT_txt {i : Nat} (h : i < 33) : isT (txt i) := by
  refine ⟨k_txt h, ?_⟩
  unfold txt
  split <;> omega
theorem q_figure {C R : jM} (hC : Lay C) (hR : Lay R) (h : Rel C R) (m s d a : Int32) : Sim (f_X11_figure 0 m s d a) (f_X12_figure 2398 m s d a) C R := by
  obtain ⟨w, C1, R1, t1, t2, h1, F1, G1⟩ := rel_name hC hR h
  have hC1 : Lay C1 := hC.frC F1
  have hR1 : Lay R1 := hR.frR G1
  have hFF : isF 2018 := .inl rfl
  have hN := h1.N
  obtain ⟨sg, hE⟩ := rE_iff.mp h1.E
  have mI : f_X11_isMember m = 0 ↔ ¬ (0 ≤ m.toInt ∧ m.toInt ≤ 9) := p_isMember
  have mI' : f_X12_in m.toInt64 0 9 = 0 ↔ ¬ (0 ≤ m.toInt ∧ m.toInt ≤ 9) := by rw [in0, i2l_toInt]; exact Iff.rfl
  have sI : f_X11_isScheme s = 0 ↔ ¬ (0 ≤ s.toInt ∧ s.toInt ≤ 3) := p_isScheme
  have sI' : f_X12_in s.toInt64 0 3 = 0 ↔ ¬ (0 ≤ s.toInt ∧ s.toInt ≤ 3) := by rw [in0, i2l_toInt]; exact Iff.rfl
  have dI : f_X11_isDay d = 0 ↔ ¬ (0 ≤ d.toInt ∧ d.toInt ≤ 389) := p_isDay
  have dI' : (if 0 ≤ d.toInt ∧ d.toInt ≤ 389 then (1 : Int32) else 0) = 0 ↔ ¬ (0 ≤ d.toInt ∧ d.toInt ≤ 389) := t_if
  have aI : (if 0 ≤ a.toInt ∧ a.toInt ≤ (jI C1 82 0).toInt then (1 : Int32) else 0) = 0 ↔ ¬ (0 ≤ a.toInt ∧ a.toInt ≤ (jI C1 82 0).toInt) := t_if
  have aI' : f_X12_in a.toInt64 0 (jI R1 139 2398).toInt64 = 0 ↔ ¬ (0 ≤ a.toInt ∧ a.toInt ≤ (jI C1 82 0).toInt) := by rw [in0, i2l_toInt, i2l_toInt, ← hN.1]; exact Iff.rfl
  have e90 : ∀ b, f_X12_figure_90 2398 m d a b (-1) R1 = some (-4, R1) := fun b => by
    unfold f_X12_figure_90
    rw [if_neg (by decide)]
  have e78 : ∀ b, f_X12_figure_78 2398 m d a b R1 = some (-4, R1) := fun b => e90 b
  unfold Sim f_X11_figure f_X12_figure
  rw [if_pos k_0, ly_72 hC, obt, if_pos k_608, t1, jbt, if_pos k_2398, t2, jbt]
  by_cases c1 : 0 ≤ m.toInt ∧ m.toInt ≤ 9
  · rw [if_neg (fun z => mI.mp z c1), if_neg (fun z => mI'.mp z c1)]
    by_cases cs : 0 ≤ s.toInt ∧ s.toInt ≤ 3
    · rw [if_neg (fun z => sI.mp z cs), if_neg (fun z => sI'.mp z cs), p_mDay, obt]
      by_cases c2 : 0 ≤ d.toInt ∧ d.toInt ≤ 389
      · rw [if_neg (fun z => dI.mp z c2), if_neg (fun z => dI'.mp z c2), p_isPast, obt]
        by_cases c3 : 0 ≤ a.toInt ∧ a.toInt ≤ (jI C1 82 0).toInt
        · rw [if_neg (fun z => aI.mp z c3), if_neg (fun z => aI'.mp z c3)]
          obtain ⟨o, b, g1, g2, g3⟩ := tif_ok hC1 hR1 hE (d := d) cs
          rw [g1, obt, g2, obt]
          rcases g3 with ⟨e1, e2⟩ | ⟨k, w1, w2, w3, w4⟩
          · subst e1 e2
            rw [if_pos (show (-1 : Int32) < 0 by decide), e78]
            by_cases c4 : w = 0
            · rw [if_pos c4]
              exact ⟨_, _, _, rfl, rfl, h1, F1, G1⟩
            · rw [if_neg c4, if_pos (show (none : Option Nat).isNone = true from rfl)]
              exact ⟨_, _, _, rfl, rfl, h1, F1, G1⟩
          · subst w4
            have hs4 : s.toInt.toNat < 4 := by omega
            have hb : b = nI (8 * s.toInt.toNat + k) := nI_is (by omega) (by omega)
            subst hb
            rw [if_neg (nI_neg (by omega))]
            by_cases c4 : w = 0
            · rw [if_pos c4, if_pos c4, e78]
              exact ⟨_, _, _, rfl, rfl, h1, F1, G1⟩
            · have ht : sg (8 * s.toInt.toNat + k) < 33 := hE.1 _ (by omega)
              have hT := isT_txt ht
              have hX : rX C1 (txt (sg (8 * s.toInt.toNat + k))) R1 (8 * s.toInt.toNat + k) := by
                obtain ⟨-, z⟩ := hE.2.2.2.2 s.toInt.toNat k hs4 w1
                rcases z with ⟨-, -, -, -, z⟩ | ⟨z, -⟩
                · exact z
                · exact absurd w2 (by omega)
              obtain ⟨r0, x1, x2, x3⟩ := work_ok hC1 hR1 hFF hT (show 8 * s.toInt.toNat + k < 33 by omega) hX h1.P h1.F w m d a
              generalize txt (sg (8 * s.toInt.toNat + k)) = T at *
              rw [if_neg c4, if_neg c4, if_neg (show ¬ (some T).isNone = true from fun z => absurd (show false = true from z) (by decide)), obt, if_pos hT.1, x1, obt, x2, obt]
              rcases x3 with ⟨x3, -⟩ | ⟨r, hr, x3, C2, R2, x, y1, y2, y3, y4, y5, y6⟩
              · rw [if_pos x3, x3, e90]
                exact ⟨_, _, _, rfl, rfl, h1, F1, G1⟩
              · have nm : ¬ r0 = -1 := fun z => by
                  rw [x3] at z
                  have := congrArg Int32.toInt z
                  rw [nI_toInt (by omega)] at this
                  exact absurd this (by have : (-1 : Int32).toInt = -1 := by decide
                                        omega)
                have hC2 : Lay C2 := hC1.frG (y3.mono (fun t f a z => pWk_G hFF z))
                have hR2 : Lay R2 := hR1.frqG (y4.mono (fun t f a z => qWk_G z))
                obtain ⟨y, C3, R3, v1, v2, v3, v4, v5⟩ := fig_end h1 hC2 hR2 y3 y4 y5 hr y6
                have h6 : jI C2 6 2018 = nI r := by obtain ⟨-, -, -, -, z, -⟩ := y6; exact z
                obtain ⟨l1, l2, l3, l4, l5⟩ := hC2.2.2.2.2.2.1 2018 hFF.k
                obtain ⟨q1, q2, q3, q4, q5⟩ := aC hFF hr
                have er : f_X12_figure_90 2398 m d a (nI (8 * s.toInt.toNat + k)) r0 R1 = some (y, R3) := by
                  unfold f_X12_figure_90
                  rw [if_pos (by rw [x3, i_le, t_0, nI_toInt (by omega)]; omega), if_pos k_2398, y2, jbt]
                  exact v2
                rw [if_neg nm, ly_74 hC1, obt, ly_75 hC1, obt, if_pos k_811, y1, obt, ly_75 hC2, obt, if_pos k_2018, er]
                refine ⟨y, C3, R3, ?_, rfl, v3, F1.trans v4, G1.trans v5⟩
                rw [← v1]
                by_cases c7 : jI C2 7 2018 = 0
                · rw [if_pos c7, if_pos c7, ly_70 hC2, obt, obt, if_pos k_2018, l4, obt, obt, if_pos k_2018, h6, if_pos q4, q5, l5 r hr, obt, if_pos k_605]
                · rw [if_neg c7, if_neg c7]
        · rw [if_pos (aI.mpr c3), if_pos (aI'.mpr c3)]
          exact ⟨_, _, _, rfl, rfl, h1, F1, G1⟩
      · rw [if_pos (dI.mpr c2), if_pos (dI'.mpr c2)]
        exact ⟨_, _, _, rfl, rfl, h1, F1, G1⟩
    · rw [if_pos (sI.mpr cs), if_pos (sI'.mpr cs)]
      exact ⟨_, _, _, rfl, rfl, h1, F1, G1⟩
  · rw [if_pos (mI.mpr c1), if_pos (mI'.mpr c1)]
    exact ⟨_, _, _, rfl, rfl, h1, F1, G1⟩
