/-! PURE: balance -/
theorem bal_loop {v2 : Int32} {i : Nat} (hv : v2.toInt ≤ 12) : ∀ (m fuel fuel2 : Nat) (mth day : Int32) (acc accR : Int64) (C R : jM), Lay C → Lay R → Rel C R → (i : Int) < (jI C 79 0).toInt → 0 ≤ mth.toInt → mth.toInt ≤ 13 → (mth.toInt + m = v2.toInt + 1 ∨ (m = 0 ∧ v2.toInt < mth.toInt)) → m < fuel → m < fuel2 → day = jI C 82 0 →
    ∃ d C' R', f_X11_dues_6 fuel 0 (2178 + 3 * i) v2 day acc mth C = some (acc + d, C') ∧ f_X12_balance_45 fuel2 2398 (nI i) v2 accR mth R = some (accR + d, R') ∧ Rel C' R' ∧ Fr pC C C' ∧ Fr pR R R' ∧ Fr (pWk 2071) C C' ∧ Fr qGa R R' := by
  intro m
  induction m with
  | zero =>
    intro fuel fuel2 mth day acc accR C R hC hR h hi h0 h13 hm hf hf2 hd
    obtain ⟨fuel, rfl⟩ : ∃ z, fuel = z + 1 := ⟨fuel - 1, by omega⟩
    obtain ⟨fuel2, rfl⟩ : ∃ z, fuel2 = z + 1 := ⟨fuel2 - 1, by omega⟩
    have e : v2 < mth := by rw [i_lt]; omega
    refine ⟨0, C, R, ?_, ?_, h, Fr.refl, Fr.refl, Fr.refl, Fr.refl⟩
    · rw [dues_s, if_pos e, Int64.add_zero]
    · rw [f_X12_balance_45, if_pos e, Int64.add_zero]
  | succ m ih =>
    intro fuel fuel2 mth day acc accR C R hC hR h hi h0 h13 hm hf hf2 hd
    obtain ⟨fuel, rfl⟩ : ∃ z, fuel = z + 1 := ⟨fuel - 1, by omega⟩
    obtain ⟨fuel2, rfl⟩ : ∃ z, fuel2 = z + 1 := ⟨fuel2 - 1, by omega⟩
    obtain ⟨x, v, C2, R2, g1, g2, g3, g4, g5, g6, g7, g8, g9, g10⟩ := dues_1 hC hR h hi (mth := mth) (v3 := v2) (day := day) ⟨by omega, by omega⟩ (by omega) acc fuel
    have hm1 : (mth + 1).toInt = mth.toInt + 1 := by rw [i_add (by rw [show (1 : Int32).toInt = 1 from rfl]; omega) (by rw [show (1 : Int32).toInt = 1 from rfl]; omega), show (1 : Int32).toInt = 1 from rfl]
    have e79 : jI C2 79 0 = jI C 79 0 := g9.i (by unfold pWk pBg pW; omega)
    have e82 : jI C2 82 0 = jI C 82 0 := g9.i (by unfold pWk pBg pW; omega)
    have e139 : jI R 139 2398 = day := by rw [hd]; exact h.N.1.symm
    obtain ⟨d, C', R', k1, k2, k3, k4, k5, k6, k7⟩ := ih fuel fuel2 (mth + 1) day (acc + v) (accR + v) C2 R2 (hC.frC g7) (hR.frR g8) g6 (by rw [e79]; exact hi) (by omega) (by omega) (by omega) (by omega) (by omega) (by rw [e82]; exact hd)
    refine ⟨v + d, C', R', ?_, ?_, k3, g7.trans k4, g8.trans k5, g9.trans k6, g10.trans k7⟩
    · rw [g1, k1, Int64.add_assoc]
    · rw [f_X12_balance_45, if_neg (by rw [i_lt]; omega), if_pos k_2398, e139, g3, jbt, jlt, jlt, k2, Int64.add_assoc]
theorem q_balance {C R : jM} (hC : Lay C) (hR : Lay R) (h : Rel C R) (v mth : Int32) : Sim (f_X11_balance 0 v mth) (f_X12_balance 2398 v mth) C R := by
  obtain ⟨n1, n2, n3, hA, -⟩ := h.A
  have vI : (if 0 ≤ v.toInt ∧ v.toInt < (jI C 79 0).toInt then (1 : Int32) else 0) = 0 ↔ ¬ (0 ≤ v.toInt ∧ v.toInt < (jI C 79 0).toInt) := t_if
  have vI' : f_X12_in v.toInt64 0 (jI R 160 2398 - 1).toInt64 = 0 ↔ ¬ (0 ≤ v.toInt ∧ v.toInt < (jI C 79 0).toInt) := by
    rw [in0, i2l_toInt, i2l_toInt, i_sub1 (a := jI R 160 2398) (by rw [← n1]; omega), ← n1, t_l0]; omega
  have mI : f_X11_isMonth mth = 0 ↔ ¬ (0 ≤ mth.toInt ∧ mth.toInt ≤ 12) := p_isMonth
  have mI' : f_X12_in mth.toInt64 0 12 = 0 ↔ ¬ (0 ≤ mth.toInt ∧ mth.toInt ≤ 12) := by rw [in0, i2l_toInt]; exact Iff.rfl
  unfold Sim f_X11_balance f_X12_balance
  rw [if_pos k_0, p_isAward, obt, if_pos k_2398]
  by_cases c1 : 0 ≤ v.toInt ∧ v.toInt < (jI C 79 0).toInt
  · rw [if_neg (fun z => vI.mp z c1), if_neg (fun z => vI'.mp z c1)]
    by_cases c2 : 0 ≤ mth.toInt ∧ mth.toInt ≤ 12
    · rw [if_neg (fun z => mI.mp z c2), if_neg (fun z => mI'.mp z c2)]
      obtain ⟨i, hi'⟩ : ∃ i : Nat, v.toInt = i := ⟨v.toInt.toNat, by omega⟩
      have ev : v = nI i := nI_is hi' (by omega)
      subst ev
      obtain ⟨-, -, b3, -, -, -, b7, -⟩ := hA i (by omega)
      obtain ⟨x, x1, x2⟩ := paid_ok hC hR h.Y (nI i)
      obtain ⟨d', C'', R'', j1, j2, j3, j4, j5, j6, j7⟩ := bal_loop (v2 := mth) (i := i) c2.2 ((mth.toInt + 1 - (jI C 2 (2178 + 3 * i)).toInt).toNat) 1100000 1100000 (jI C 2 (2178 + 3 * i)) (jI C 82 0) 0 (-x) C R hC hR h (by omega) b7.1 (by omega) (by omega) (by omega) (by omega) rfl
      have hY : rY C'' R := rY_f j6 (Fr.refl (p := fun _ _ _ => False)) (fun t f a => by unfold cY pWk pBg pW; omega) (fun t f a _ z => z) h.Y
      obtain ⟨y, y1, y2⟩ := paid_ok (hC.frC j4) hR hY (nI i)
      have exy : y = x := by rw [x2] at y2; injection y2 with y2; exact y2.symm
      subst exy
      have a77 : jA 2177 16 (nI i) = true := jA_n k_2177 (by rw [ln_2177]; omega) (by omega)
      have a40 : jA 2440 13 (nI i) = true := jA_n k_2440 (by rw [ln_2440]; omega) (by omega)
      have ci : (nI i).toNatClampNeg = i := nJ_cl (by omega)
      have er : (0 + d' : Int64) - y = -y + d' := by rw [Int64.zero_add, Int64.sub_eq_add_neg, Int64.add_comm]
      have eC : f_X11_dues 0 (2178 + 3 * i) (jI C 2 (2178 + 3 * i)) mth (jI C 82 0) C = some (0 + d', C'') := j1
      refine ⟨-y + d', C'', R'', ?_, ?_, j3, j4, j5⟩
      · simp only [ly_78 hC, a77, ci, ly_aw hC (show i < 6 by omega), kf_award (show i < 6 by omega), eC, jbt, y1, er, true_and, and_true, and_false, false_and, and_self, if_true, if_false, ite_self, Nat.reduceEqDiff, reduceIte, obt, jlt, jbt, jbd_ite, bind_ite]
      · simp only [x2, ly_159 hR, a40, ci, ← b3, j2, true_and, and_true, and_false, false_and, and_self, if_true, if_false, ite_self, Nat.reduceEqDiff, reduceIte, obt, jlt, jbt, jbd_ite, bind_ite]
    · rw [if_pos (mI.mpr c2), if_pos (mI'.mpr c2)]
      exact ⟨_, _, _, rfl, rfl, h.fr_self⟩
  · rw [if_pos (vI.mpr c1), if_pos (vI'.mpr c1)]
    exact ⟨_, _, _, rfl, rfl, h.fr_self⟩
