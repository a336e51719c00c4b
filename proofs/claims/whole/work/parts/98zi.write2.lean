/-! PURE: write: the call -/
theorem q_write {C R : jM} (hC : Lay C) (hR : Lay R) (h : Rel C R) (v : Int32) (b : Int64) : Sim (f_X11_write 0 v b) (f_X12_write 2398 v b) C R := by
  have hD : VR (jI C 31 1).toInt C 605 R 0 := h.D
  obtain ⟨e1, e2, f1, f2, f3, f4, f5⟩ := VR_so hD
  have a88 : jA 2399 13 0 = true := jA_n (i := 0) k_2399 (by rw [ln_2399]; omega) (by omega)
  have a89 : jA 2400 13 0 = true := jA_n (i := 0) k_2400 (by rw [ln_2400]; omega) (by omega)
  have n10 : ((1 : Int32) = 0) = False := by simp only [show ¬ (1 : Int32) = 0 by decide]
  have soI : f_X12_in (jI C 52 605).toInt64 2 4 = 0 ↔ ¬ (2 ≤ (jI C 52 605).toInt ∧ (jI C 52 605).toInt ≤ 4) := by rw [in0, i2l_toInt]; exact Iff.rfl
  have vI : f_X12_in v.toInt64 0 (jI C 53 605 - 1).toInt64 = 0 ↔ ¬ (0 ≤ v.toInt ∧ v.toInt < (jI C 53 605).toInt) := by
    rw [in0, i2l_toInt, i2l_toInt, i_sub1 (a := jI C 53 605) (by omega), t_l0]; omega
  unfold Sim
  by_cases c1 : v = -1
  · by_cases cn : 0 ≤ (jI C 52 605).toInt ∧ (jI C 52 605).toInt ≤ 1
    · have s0 : f_X9_setBits 605 0 b C = _ := set_wv hC (i := 0) (by omega) b
      have r0 : f_X12_write_76 2398 b (jI C 52 605) 0 R = _ := ref_wv hR (i := 0) (by omega) (jI C 52 605) b
      have le1 : jI C 52 605 ≤ 1 := by rw [i_le]; exact cn.2
      obtain ⟨w1, w2, w3⟩ := wr_rel h (i := 0) (by omega) b (by omega)
      refine ⟨1, _, _, ?_, ?_, w1, w2, w3⟩
      · unfold f_X11_write f_X11_write_31 f_X11_write_51 f_X11_write_65
        simp only [c1, k_0, ly_70 hC, k_605, isNumber_ok k_605, if_pos cn, n10, s0, true_and, and_true, and_false, false_and, and_self, if_true, if_false, ite_self, Nat.reduceEqDiff, reduceIte, obt, jlt, jbt, jbd_ite, bind_ite]
      · unfold f_X12_write f_X12_write_40 f_X12_write_66
        simp only [c1, k_2398, ly_88 hR, a88, cl0, e1, le1, r0, true_and, and_true, and_false, false_and, and_self, if_true, if_false, ite_self, Nat.reduceEqDiff, reduceIte, obt, jlt, jbt, jbd_ite, bind_ite]
    · have le1 : (jI C 52 605 ≤ 1) = False := by simp only [show ¬ jI C 52 605 ≤ 1 from by rw [i_le, show (1 : Int32).toInt = 1 from rfl]; omega]
      refine ⟨-4, C, R, ?_, ?_, h.fr_self⟩
      · unfold f_X11_write
        simp only [c1, k_0, ly_70 hC, k_605, isNumber_ok k_605, if_neg cn, true_and, and_true, and_false, false_and, and_self, if_true, if_false, ite_self, Nat.reduceEqDiff, reduceIte, obt, jlt, jbt, jbd_ite, bind_ite]
      · unfold f_X12_write
        simp only [c1, k_2398, ly_88 hR, a88, cl0, e1, le1, true_and, and_true, and_false, false_and, and_self, if_true, if_false, ite_self, Nat.reduceEqDiff, reduceIte, obt, jlt, jbt, jbd_ite, bind_ite]
  · have c1' : (v = -1) = False := by simp only [c1]
    by_cases cn : 2 ≤ (jI C 52 605).toInt ∧ (jI C 52 605).toInt ≤ 4
    · have sn : (f_X12_in (jI C 52 605).toInt64 2 4 = 0) = False := by simp only [show ¬ f_X12_in (jI C 52 605).toInt64 2 4 = 0 from fun z => soI.mp z cn]
      by_cases hv : 0 ≤ v.toInt ∧ v.toInt < (jI C 53 605).toInt
      · obtain ⟨i, hi'⟩ : ∃ i : Nat, v.toInt = i := ⟨v.toInt.toNat, by omega⟩
        have ev : v = nI i := nI_is hi' (by omega)
        have hv64 : 0 ≤ v.toInt64.toInt ∧ v.toInt64.toInt < (jI C 53 605).toInt := by rw [i2l_toInt]; exact hv
        have vn : (f_X12_in v.toInt64 0 (jI C 53 605 - 1).toInt64 = 0) = False := by simp only [show ¬ f_X12_in v.toInt64 0 (jI C 53 605 - 1).toInt64 = 0 from fun z => vI.mp z hv]
        have s0 := set_wv hC (i := i) (by omega) b
        rw [← ev] at s0
        have r0 := ref_wv hR (i := i) (by omega) (jI C 52 605) b
        rw [← ev] at r0
        obtain ⟨w1, w2, w3⟩ := wr_rel h (i := i) (by omega) b (by omega)
        refine ⟨1, _, _, ?_, ?_, w1, w2, w3⟩
        · unfold f_X11_write f_X11_write_31 f_X11_write_51 f_X11_write_65
          simp only [c1', k_0, ly_70 hC, k_605, isRowOfNumbers_ok k_605, hasItem_ok k_605 f4, if_pos cn, if_pos hv64, n10, s0, true_and, and_true, and_false, false_and, and_self, if_true, if_false, ite_self, Nat.reduceEqDiff, reduceIte, obt, jlt, jbt, jbd_ite, bind_ite]
        · unfold f_X12_write f_X12_write_40 f_X12_write_66
          simp only [c1', k_2398, ly_88 hR, a88, cl0, e1, sn, ly_89 hR, a89, e2, vn, r0, true_and, and_true, and_false, false_and, and_self, if_true, if_false, ite_self, Nat.reduceEqDiff, reduceIte, obt, jlt, jbt, jbd_ite, bind_ite]
      · have vp := vI.mpr hv
        have hv64 : ¬ (0 ≤ v.toInt64.toInt ∧ v.toInt64.toInt < (jI C 53 605).toInt) := by rw [i2l_toInt]; exact hv
        refine ⟨-3, C, R, ?_, ?_, h.fr_self⟩
        · unfold f_X11_write f_X11_write_31
          simp only [c1', k_0, ly_70 hC, k_605, isRowOfNumbers_ok k_605, hasItem_ok k_605 f4, if_pos cn, if_neg hv64, n10, true_and, and_true, and_false, false_and, and_self, if_true, if_false, ite_self, Nat.reduceEqDiff, reduceIte, obt, jlt, jbt, jbd_ite, bind_ite]
        · unfold f_X12_write f_X12_write_40
          simp only [c1', k_2398, ly_88 hR, a88, cl0, e1, sn, ly_89 hR, a89, e2, vp, true_and, and_true, and_false, false_and, and_self, if_true, if_false, ite_self, Nat.reduceEqDiff, reduceIte, obt, jlt, jbt, jbd_ite, bind_ite]
    · have sp := soI.mpr cn
      refine ⟨-4, C, R, ?_, ?_, h.fr_self⟩
      · unfold f_X11_write
        simp only [c1', k_0, ly_70 hC, k_605, isRowOfNumbers_ok k_605, if_neg cn, true_and, and_true, and_false, false_and, and_self, if_true, if_false, ite_self, Nat.reduceEqDiff, reduceIte, obt, jlt, jbt, jbd_ite, bind_ite]
      · unfold f_X12_write
        simp only [c1', k_2398, ly_88 hR, a88, cl0, e1, sp, true_and, and_true, and_false, false_and, and_self, if_true, if_false, ite_self, Nat.reduceEqDiff, reduceIte, obt, jlt, jbt, jbd_ite, bind_ite]
