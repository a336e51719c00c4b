/-! PURE: what was paid to an AWARD -/
theorem l64_eq {a b : Int32} : a.toInt64 = b.toInt64 ↔ a = b := by
  rw [l_eq, i2l_toInt, i2l_toInt, i_eq]
theorem paid_ok {C R : jM} (hC : Lay C) (hR : Lay R) (h : rY C R) (v : Int32) : ∃ x, f_X11_paidTo 0 v C = some x ∧ f_X12_paid 2398 v R = some x := by
  obtain ⟨n1, n2, n3, hk, -⟩ := h
  have key : ∀ (m fuel fuel2 k : Nat) (acc : Int64), (k : Int) + m = (jI C 81 0).toInt → m < fuel → m < fuel2 → ∃ x, f_X11_paidTo_5 fuel 0 v acc (nI k) C = some x ∧ f_X12_paid_5 fuel2 2398 v acc (nI k) R = some x := by
    intro m
    induction m with
    | zero =>
      intro fuel fuel2 k acc h1 h2 h3
      obtain ⟨fuel, rfl⟩ : ∃ z, fuel = z + 1 := ⟨fuel - 1, by omega⟩
      obtain ⟨fuel2, rfl⟩ : ∃ z, fuel2 = z + 1 := ⟨fuel2 - 1, by omega⟩
      have e : jI C 81 0 ≤ nI k := by rw [i_le, nI_toInt (by omega)]; omega
      refine ⟨acc, ?_, ?_⟩
      · rw [f_X11_paidTo_5, if_pos k_0, if_pos e]
      · rw [f_X12_paid_5, if_pos k_2398, ← n1, if_pos e]
    | succ m ih =>
      intro fuel fuel2 k acc h1 h2 h3
      obtain ⟨fuel, rfl⟩ : ∃ z, fuel = z + 1 := ⟨fuel - 1, by omega⟩
      obtain ⟨fuel2, rfl⟩ : ∃ z, fuel2 = z + 1 := ⟨fuel2 - 1, by omega⟩
      have hk200 : k < 200 := by omega
      have e : ¬ jI C 81 0 ≤ nI k := by rw [i_le, nI_toInt (by omega)]; omega
      obtain ⟨p1, p2, p3, p4, p5, -⟩ := hk k (by omega)
      have ck : (nI k).toNatClampNeg = k := nJ_cl (by omega)
      obtain ⟨kp, lp⟩ := kf_pay hk200
      rw [Nat.one_mul] at kp lp
      have aP : jA 2196 20 (nI k) = true := jA_n k_2196 (by rw [ln_2196]; omega) (by omega)
      have a0 : jA (2197 + k) 14 0 = true := jA_n (i := 0) kp (by rw [lp]; omega) (by omega)
      have a4 : jA (2197 + k) 14 4 = true := jA_n (i := 4) kp (by rw [lp]; omega) (by omega)
      have a6 : jA (2197 + k) 14 6 = true := jA_n (i := 6) kp (by rw [lp]; omega) (by omega)
      have c4 : ((4 : Int32)).toNatClampNeg = 4 := by decide
      have c6 : ((6 : Int32)).toNatClampNeg = 6 := by decide
      have b45 : jA 2445 13 (nI k) = true := jA_n k_2445 (by rw [ln_2445]; omega) (by omega)
      have b48 : jA 2448 15 (nI k) = true := jA_n k_2448 (by rw [ln_2448]; omega) (by omega)
      have ix : ((4 : Int32) * nI k) + (2 : Int32) = nI (4 * k + 2) := by
        have hm : (4 : Int32) * nI k = nI (4 * k) := by
          rw [i_eq, i_mul (by rw [nI_toInt (by omega), show (4 : Int32).toInt = 4 from rfl]; omega) (by rw [nI_toInt (by omega), show (4 : Int32).toInt = 4 from rfl]; omega), nI_toInt (by omega), nI_toInt (by omega), show (4 : Int32).toInt = 4 from rfl]; omega
        rw [hm]; exact nJ_add (a := 4 * k) (b := 2) (by omega)
      have b47 : jA 2447 14 (nI (4 * k + 2)) = true := jA_n k_2447 (by rw [ln_2447]; omega) (by omega)
      have c47 : (nI (4 * k + 2)).toNatClampNeg = 4 * k + 2 := nJ_cl (by omega)
      have s1 := nJ_1 (a := k) (by omega)
      have w0 : jAL C (2197 + k) 0 = v.toInt64 ↔ jAI R 2445 k = v := by rw [p1, l64_eq]
      have w6 : jAL C (2197 + k) 6 = 0 ↔ jAI R 2448 k = 0 := by
        rw [p4]
        have e0 : (0 : Int64) = ((0 : Int32)).toInt64 := by decide
        rw [e0, l64_eq]
      have w4 : jAL C (2197 + k) 4 = jAL R 2447 (4 * k + 2) := p3 2 (by omega)
      have n0 : acc + (0 : Int64) = acc := by rw [Int64.add_zero]
      have e' : (jI C 81 0 ≤ nI k) = False := by simp only [e]
      have eC : f_X11_paidTo_5 (fuel + 1) 0 v acc (nI k) C = if jAL C (2197 + k) 0 = v.toInt64 then (if jAL C (2197 + k) 6 = 0 then f_X11_paidTo_5 fuel 0 v (acc + jAL C (2197 + k) 4) (nI (k + 1)) C else f_X11_paidTo_5 fuel 0 v acc (nI (k + 1)) C) else f_X11_paidTo_5 fuel 0 v acc (nI (k + 1)) C := by
        rw [f_X11_paidTo_5]
        simp only [k_0, e', ly_80 hC, aP, ck, ly_py hC hk200, a0, a4, a6, cl0, c4, c6, f_X11_paidTo_56, s1, true_and, and_true, and_false, false_and, and_self, if_true, if_false, ite_self, Nat.reduceEqDiff, reduceIte, obt, jlt, jbt, jbd_ite, bind_ite]
      have eR : f_X12_paid_5 (fuel2 + 1) 2398 v acc (nI k) R = if jAI R 2445 k = v then (if jAI R 2448 k = 0 then f_X12_paid_5 fuel2 2398 v (acc + jAL R 2447 (4 * k + 2)) (nI (k + 1)) R else f_X12_paid_5 fuel2 2398 v acc (nI (k + 1)) R) else f_X12_paid_5 fuel2 2398 v acc (nI (k + 1)) R := by
        rw [f_X12_paid_5]
        simp only [k_2398, ← n1, e', ly_169 hR, ly_171 hR, ly_172 hR, b45, b47, b48, ck, c47, ix, f_X12_paid_50, f_X12_paid_51, s1, n0, true_and, and_true, and_false, false_and, and_self, if_true, if_false, ite_self, Nat.reduceEqDiff, reduceIte, obt, jlt, jbt, jbd_ite, bind_ite]
      rw [eC, eR]
      by_cases c1 : jAI R 2445 k = v
      · rw [if_pos (w0.mpr c1), if_pos c1]
        by_cases c2 : jAI R 2448 k = 0
        · rw [if_pos (w6.mpr c2), if_pos c2, w4]
          exact ih fuel fuel2 (k + 1) _ (by omega) (by omega) (by omega)
        · rw [if_neg (fun z => c2 (w6.mp z)), if_neg c2]
          exact ih fuel fuel2 (k + 1) _ (by omega) (by omega) (by omega)
      · rw [if_neg (fun z => c1 (w0.mp z)), if_neg c1]
        exact ih fuel fuel2 (k + 1) _ (by omega) (by omega) (by omega)
  exact key (jI C 81 0).toInt.toNat 1100000 1100000 0 0 (by omega) (by omega) (by omega)
