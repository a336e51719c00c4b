/-! PURE: the desk is read -/
theorem q_read {C R : jM} (hC : Lay C) (hR : Lay R) (h : Rel C R) (v : Int32) : SimR (f_X11_read 0 v) (f_X12_read 2398 v) C R := by
  have hD : VR (jI C 31 1).toInt C 605 R 0 := h.D
  obtain ⟨e1, e2, e3⟩ := VR_so hD
  obtain ⟨f1, f2, f3, f4, f5⟩ := id e3
  have hlen : vlen (jI C 52 605) (jI C 53 605) = if 2 ≤ (jI C 52 605).toInt ∧ (jI C 52 605).toInt ≤ 7 then (jI C 53 605).toInt else 1 := rfl
  obtain ⟨-, -, -, hi⟩ := hD
  have a88 : jA 2399 13 0 = true := jA_n (i := 0) k_2399 (by rw [ln_2399]; omega) (by omega)
  have a89 : jA 2400 13 0 = true := jA_n (i := 0) k_2400 (by rw [ln_2400]; omega) (by omega)
  have a606 : ∀ i : Nat, i < 12 → jA 606 14 (nI i) = true := fun i hi => jA_n (kd_val k_605).1 (by rw [(kd_val k_605).2]; exact hi) (by omega)
  have rd : ∀ i : Nat, (i : Int) < vlen (jI C 52 605) (jI C 53 605) → i < 12 → f_X12_read_54 2398 (jI C 52 605) (nI i) R = some (jAL C 606 i) := fun i hv h12 => by
    have it := hi i hv
    unfold vitem at it
    simp only [Nat.mul_zero, Nat.zero_add] at it
    have a91 : jA 2402 12 (nI i) = true := jA_n k_2402 (by rw [ln_2402]; omega) (by omega)
    have a90 : jA 2401 14 (nI i) = true := jA_n k_2401 (by rw [ln_2401]; omega) (by omega)
    have ci : (nI i).toNatClampNeg = i := nJ_cl (by omega)
    have e65 : jAD R 2402 i = (jAL C 606 i).toUInt64 → vcan (jAL C 606 i) → f_X12_read_65 2398 (nI i) R = some (jAL C 606 i) := fun hx hc => by
      unfold f_X12_read_65
      rw [if_pos k_2398, ly_91 hR, obt, if_pos a91, ci, hx, bitsOf_ok hc, obt]
    unfold f_X12_read_54
    by_cases c1 : jI C 52 605 = 1
    · rw [if_pos (by rw [c1]; exact .inl rfl)] at it
      rw [if_pos c1]; exact e65 it.1 it.2
    · rw [if_neg c1]
      by_cases c4 : jI C 52 605 = 4
      · rw [if_pos (by rw [c4]; exact .inr rfl)] at it
        rw [if_pos c4]; exact e65 it.1 it.2
      · rw [if_neg (fun z => by
          rcases z with z | z
          · exact c1 (i_eq.mpr z)
          · exact c4 (i_eq.mpr z))] at it
        rw [if_neg c4, if_pos k_2398, ly_90 hR, obt, if_pos a90, ci]
        exact congrArg some it.1.symm
  have rI : f_X12_isRow (jI C 52 605) = 0 ↔ ¬ (2 ≤ (jI C 52 605).toInt ∧ (jI C 52 605).toInt ≤ 7) := p_isRow
  have vI : f_X12_in v.toInt64 0 (jI C 53 605 - 1).toInt64 = 0 ↔ ¬ (0 ≤ v.toInt ∧ v.toInt < (jI C 53 605).toInt) := by
    rw [in0, i2l_toInt, i2l_toInt, i_sub1 (a := jI C 53 605) (by omega), t_l0]; omega
  have lv : jR C 54 605 = some 606 := ly_v hC k_605
  have n10 : ((1 : Int32) = 0) = False := by simp only [show ¬ (1 : Int32) = 0 by decide]
  by_cases cr : 2 ≤ (jI C 52 605).toInt ∧ (jI C 52 605).toInt ≤ 7
  · have rn : (f_X12_isRow (jI C 52 605) = 0) = False := by simp only [show ¬ f_X12_isRow (jI C 52 605) = 0 from fun z => rI.mp z cr]
    by_cases c1 : v = -1
    · have hv : ¬ (0 ≤ v.toInt ∧ v.toInt < (jI C 53 605).toInt) := by rw [c1, t_m1]; omega
      have vp := vI.mpr hv
      refine ⟨0, ?_, ?_⟩
      · unfold f_X11_read
        simp only [c1, k_0, ly_70 hC, k_605, isRow_ok k_605, if_pos cr, n10, true_and, and_true, and_false, false_and, and_self, if_true, if_false, ite_self, Nat.reduceEqDiff, reduceIte, obt, jlt, jbt, jbd_ite, bind_ite]
      · unfold f_X12_read
        simp only [k_2398, ly_88 hR, a88, cl0, e1, rn, ly_89 hR, a89, e2, vp, true_and, and_true, and_false, false_and, and_self, if_true, if_false, ite_self, Nat.reduceEqDiff, reduceIte, obt, jlt, jbt, jbd_ite, bind_ite]
    · have c1' : (v = -1) = False := by simp only [c1]
      by_cases hv : 0 ≤ v.toInt ∧ v.toInt < (jI C 53 605).toInt
      · obtain ⟨i, hi'⟩ : ∃ i : Nat, v.toInt = i := ⟨v.toInt.toNat, by omega⟩
        have ev : v = nI i := nI_is hi' (by omega)
        have vn : (f_X12_in v.toInt64 0 (jI C 53 605 - 1).toInt64 = 0) = False := by simp only [show ¬ f_X12_in v.toInt64 0 (jI C 53 605 - 1).toInt64 = 0 from fun z => vI.mp z hv]
        have e := rd i (by rw [hlen, if_pos cr]; omega) (by omega)
        have hv64 : 0 ≤ v.toInt64.toInt ∧ v.toInt64.toInt < (jI C 53 605).toInt := by rw [i2l_toInt]; exact hv
        have ai := a606 i (by omega)
        have ci : v.toNatClampNeg = i := by rw [ev]; exact nJ_cl (by omega)
        have ai' : jA 606 14 v = true := by rw [ev]; exact ai
        refine ⟨jAL C 606 i, ?_, ?_⟩
        · unfold f_X11_read
          simp only [c1', k_0, ly_70 hC, k_605, hasItem_ok k_605 f4, if_pos hv64, n10, lv, ai', ci, true_and, and_true, and_false, false_and, and_self, if_true, if_false, ite_self, Nat.reduceEqDiff, reduceIte, obt, jlt, jbt, jbd_ite, bind_ite]
        · unfold f_X12_read f_X12_read_42
          simp only [k_2398, ly_88 hR, a88, cl0, e1, rn, ly_89 hR, a89, e2, vn, true_and, and_true, and_false, false_and, and_self, if_true, if_false, ite_self, Nat.reduceEqDiff, reduceIte, obt, jlt, jbt, jbd_ite, bind_ite]
          rw [ev]; exact e
      · have vp := vI.mpr hv
        have hv64 : ¬ (0 ≤ v.toInt64.toInt ∧ v.toInt64.toInt < (jI C 53 605).toInt) := by rw [i2l_toInt]; exact hv
        refine ⟨0, ?_, ?_⟩
        · unfold f_X11_read
          simp only [c1', k_0, ly_70 hC, k_605, hasItem_ok k_605 f4, if_neg hv64, true_and, and_true, and_false, false_and, and_self, if_true, if_false, ite_self, Nat.reduceEqDiff, reduceIte, obt, jlt, jbt, jbd_ite, bind_ite]
        · unfold f_X12_read
          simp only [k_2398, ly_88 hR, a88, cl0, e1, rn, ly_89 hR, a89, e2, vp, true_and, and_true, and_false, false_and, and_self, if_true, if_false, ite_self, Nat.reduceEqDiff, reduceIte, obt, jlt, jbt, jbd_ite, bind_ite]
  · have rp := rI.mpr cr
    have hs0 : (jI C 53 605).toInt = 0 := f5 (by omega)
    by_cases c1 : v = -1
    · have e := rd 0 (by rw [hlen, if_neg cr]; decide) (by omega)
      have a0 : jA 606 14 0 = true := a606 0 (by omega)
      refine ⟨jAL C 606 0, ?_, ?_⟩
      · unfold f_X11_read
        simp only [c1, k_0, ly_70 hC, k_605, isRow_ok k_605, if_neg cr, lv, a0, cl0, true_and, and_true, and_false, false_and, and_self, if_true, if_false, ite_self, Nat.reduceEqDiff, reduceIte, obt, jlt, jbt, jbd_ite, bind_ite]
      · unfold f_X12_read f_X12_read_42
        simp only [c1, k_2398, ly_88 hR, a88, cl0, e1, rp, true_and, and_true, and_false, false_and, and_self, if_true, if_false, ite_self, Nat.reduceEqDiff, reduceIte, obt, jlt, jbt, jbd_ite, bind_ite]
        exact e
    · have c1' : (v = -1) = False := by simp only [c1]
      have hv64 : ¬ (0 ≤ v.toInt64.toInt ∧ v.toInt64.toInt < (jI C 53 605).toInt) := by rw [i2l_toInt]; omega
      refine ⟨0, ?_, ?_⟩
      · unfold f_X11_read
        simp only [c1', k_0, ly_70 hC, k_605, hasItem_ok k_605 f4, if_neg hv64, true_and, and_true, and_false, false_and, and_self, if_true, if_false, ite_self, Nat.reduceEqDiff, reduceIte, obt, jlt, jbt, jbd_ite, bind_ite]
      · unfold f_X12_read
        simp only [c1', k_2398, ly_88 hR, a88, cl0, e1, rp, true_and, and_true, and_false, false_and, and_self, if_true, if_false, ite_self, Nat.reduceEqDiff, reduceIte, obt, jlt, jbt, jbd_ite, bind_ite]
