/-! PURE: due: the call -/
theorem dues_s {fu : Nat} {v1 : Nat} {v3 v4 v7 : Int32} {v5 : Int64} {S : jM} : f_X11_dues_6 (fu + 1) 0 v1 v3 v4 v5 v7 S = if v3 < v7 then some (v5, S) else jlet (v7 * (30 : Int32)) (fun x2 => if jK 0 = 9 then (jR S 74 0).bind (fun r4 => (jR S 76 0).bind (fun r6 => if jK v1 = 0 then (f_X11_textInForce 0 (jI S 1 v1) x2 S).bind (fun x9 => if jK r4 = 8 then (f_X10_work r4 r6 x9 (6583653 : Int64) (jI S 0 v1) x2 v4 S).bind (fun S11 => (jR S11 76 0).bind (fun r14 => if jK r14 = 1 then (f_X1_cents r14 S11).bind (fun x16 => jlet (v5 + ((if (0 : Int32) < x16 then x16 else (0 : Int32)).toInt64)) (fun x19 => jlet (v7 + (1 : Int32)) (fun x20 => (f_X11_dues_6 fu) 0 v1 v3 v4 x19 x20 S11))) else none)) else none) else none)) else none) := by
  rw [f_X11_dues_6]
/-- a month of the class's loop -/
theorem dues_1 {C R : jM} (hC : Lay C) (hR : Lay R) (h : Rel C R) {i : Nat} (hi : (i : Int) < (jI C 79 0).toInt) {v3 mth day : Int32} (hm : -1 ≤ mth.toInt ∧ mth.toInt ≤ 12) (hle : mth.toInt ≤ v3.toInt) (v5 : Int64) (fu : Nat) : ∃ (x : Int32) (v : Int64) (C2 R2 : jM), f_X11_dues_6 (fu + 1) 0 (2178 + 3 * i) v3 day v5 mth C = f_X11_dues_6 fu 0 (2178 + 3 * i) v3 day (v5 + v) (mth + 1) C2 ∧ f_X1_cents 2071 C2 = some x ∧ f_X12_dueOf 2398 (nI i) mth day R = some (v, R2) ∧ v = (if (0 : Int32) < x then x else 0).toInt64 ∧ dueV x R2 ∧ Rel C2 R2 ∧ Fr pC C C2 ∧ Fr pR R R2 ∧ Fr (pWk 2071) C C2 ∧ Fr qGa R R2 := by
  obtain ⟨o, x, v, C2, R2, g1, g2, g3, g4, g5, g6, g7, g8, g9, g10, g11⟩ := due_ok hC hR h hi (mth := mth) (day := day) hm
  have hFF : isF 2071 := .inr (.inl rfl)
  obtain ⟨n1, n2, n3, -, -⟩ := h.A
  have hC2 : Lay C2 := hC.frC g8
  have ka : jK (2178 + 3 * i) = 0 := kf_award (show i < 6 by omega)
  refine ⟨x, v, C2, R2, ?_, g3, g4, g5, g6, g7, g8, g9, g10, g11⟩
  rw [dues_s, if_neg (by rw [i_lt]; omega), jlt, if_pos k_0, ly_74 hC, obt, ly_76 hC, obt, if_pos ka, g1, obt, if_pos k_811, g2, obt, ly_76 hC2, obt, if_pos k_2071, g3, obt, jlt, jlt, ← g5]
theorem q_due {C R : jM} (hC : Lay C) (hR : Lay R) (h : Rel C R) (v mth day : Int32) : Sim (f_X11_due 0 v mth day) (f_X12_due 2398 v mth day) C R := by
  obtain ⟨n1, n2, n3, -, -⟩ := h.A
  have hN := h.N
  have vA : f_X11_isAward 0 v C = some (if 0 ≤ v.toInt ∧ v.toInt < (jI C 79 0).toInt then 1 else 0) := by
    unfold f_X11_isAward
    by_cases c : 0 ≤ v.toInt ∧ v.toInt < (jI C 79 0).toInt
    · rw [if_pos c, if_neg (by rw [i_lt, t_0]; omega), if_pos k_0, if_neg (by rw [i_le]; omega)]
    · rw [if_neg c]
      by_cases c0 : v < 0
      · rw [if_pos c0]
      · rw [if_neg c0, if_pos k_0, if_pos (by rw [i_lt, t_0] at c0; rw [i_le]; omega)]
  have vI : (if 0 ≤ v.toInt ∧ v.toInt < (jI C 79 0).toInt then (1 : Int32) else 0) = 0 ↔ ¬ (0 ≤ v.toInt ∧ v.toInt < (jI C 79 0).toInt) := t_if
  have vI' : f_X12_in v.toInt64 0 (jI R 160 2398 - 1).toInt64 = 0 ↔ ¬ (0 ≤ v.toInt ∧ v.toInt < (jI C 79 0).toInt) := by
    rw [in0, i2l_toInt, i2l_toInt, i_sub1 (a := jI R 160 2398) (by rw [← n1]; omega), ← n1, t_l0]; omega
  have mI : f_X11_isMonth mth = 0 ↔ ¬ (0 ≤ mth.toInt ∧ mth.toInt ≤ 12) := p_isMonth
  have mI' : f_X12_in mth.toInt64 0 12 = 0 ↔ ¬ (0 ≤ mth.toInt ∧ mth.toInt ≤ 12) := by rw [in0, i2l_toInt]; exact Iff.rfl
  have aI : (if 0 ≤ day.toInt ∧ day.toInt ≤ (jI C 82 0).toInt then (1 : Int32) else 0) = 0 ↔ ¬ (0 ≤ day.toInt ∧ day.toInt ≤ (jI C 82 0).toInt) := t_if
  have aI' : f_X12_in day.toInt64 0 (jI R 139 2398).toInt64 = 0 ↔ ¬ (0 ≤ day.toInt ∧ day.toInt ≤ (jI C 82 0).toInt) := by rw [in0, i2l_toInt, i2l_toInt, ← hN.1]; exact Iff.rfl
  unfold Sim f_X11_due f_X12_due
  rw [if_pos k_0, vA, obt, if_pos k_2398]
  by_cases c1 : 0 ≤ v.toInt ∧ v.toInt < (jI C 79 0).toInt
  · rw [if_neg (fun z => vI.mp z c1), if_neg (fun z => vI'.mp z c1)]
    by_cases c2 : 0 ≤ mth.toInt ∧ mth.toInt ≤ 12
    · rw [if_neg (fun z => mI.mp z c2), if_neg (fun z => mI'.mp z c2), p_isPast, obt]
      by_cases c3 : 0 ≤ day.toInt ∧ day.toInt ≤ (jI C 82 0).toInt
      · rw [if_neg (fun z => aI.mp z c3), if_neg (fun z => aI'.mp z c3)]
        obtain ⟨i, hi'⟩ : ∃ i : Nat, v.toInt = i := ⟨v.toInt.toNat, by omega⟩
        have ev : v = nI i := nI_is hi' (by omega)
        subst ev
        obtain ⟨x, y, C2, R2, g1, g2, g3, g4, g5, g6, g7, g8, g9, g10⟩ := dues_1 hC hR h (i := i) (by omega) ⟨by omega, c2.2⟩ (v3 := mth) (day := day) (Int.le_refl _) 0 1099999
        have a77 : jA 2177 16 (nI i) = true := jA_n k_2177 (by rw [ln_2177]; omega) (by omega)
        have hm1 : (mth + 1).toInt = mth.toInt + 1 := by rw [i_add (by rw [show (1 : Int32).toInt = 1 from rfl]; omega) (by rw [show (1 : Int32).toInt = 1 from rfl]; omega), show (1 : Int32).toInt = 1 from rfl]
        have e1 : f_X11_dues 0 (2178 + 3 * i) mth mth day C = some (0 + y, C2) := by
          unfold f_X11_dues
          rw [show (1100000 : Nat) = 1099999 + 1 from rfl, g1, show (1099999 : Nat) = 1099998 + 1 from rfl, dues_s, if_pos (by rw [i_lt, hm1]; omega)]
        rw [ly_78 hC, obt, if_pos a77, nJ_cl (by omega), ly_aw hC (by omega), obt, e1, jbt, ly_76 (hC.frC g7), obt, if_pos k_2071, g2, obt, g3, jbt]
        rcases g5 with ⟨z1, z2⟩ | ⟨z1, z2, z3⟩
        · rw [if_neg (by rw [z2]; decide), z1]
          exact ⟨_, _, _, rfl, rfl, g6, g7, g8⟩
        · rw [if_pos z3]
          have e : y.toInt32 = x := by
            rw [g4, Int32.toInt32_toInt64]
            by_cases c : (0 : Int32) < x
            · rw [if_pos c]
            · rw [if_neg c]
              rw [i_lt, t_0] at c
              rw [i_eq, t_0]; omega
          rw [e]
          exact ⟨_, _, _, rfl, rfl, g6, g7, g8⟩
      · rw [if_pos (aI.mpr c3), if_pos (aI'.mpr c3)]
        exact ⟨_, _, _, rfl, rfl, h.fr_self⟩
    · rw [if_pos (mI.mpr c2), if_pos (mI'.mpr c2)]
      exact ⟨_, _, _, rfl, rfl, h.fr_self⟩
  · rw [if_pos (vI.mpr c1), if_pos (vI'.mpr c1)]
    exact ⟨_, _, _, rfl, rfl, h.fr_self⟩
