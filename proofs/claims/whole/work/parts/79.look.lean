/-! PURE: the parser: names of rules and of sums -/
theorem nJ_24 {t i : Nat} (ht : t < 33) (hi : i < 25) : ((24 : Int32) * nI t) + nI i = nI (24 * t + i) := by
  have hm : ((24 : Int32) * nI t) = nI (24 * t) := by
    rw [i_eq, nI_toInt (by omega), i_mul (by rw [nI_toInt (by omega), show (24 : Int32).toInt = 24 from rfl]; omega) (by rw [nI_toInt (by omega), show (24 : Int32).toInt = 24 from rfl]; omega), nI_toInt (by omega), show (24 : Int32).toInt = 24 from rfl]; omega
  rw [hm, nJ_add (by omega)]
theorem rule_lk {C R : jM} {T t nr : Nat} (hC : Lay C) (hR : Lay R) (hT : jK T = 6) (ht : t < 33) (hnr : nr ≤ 24) (h49 : jI C 49 T = nI nr) (h15 : jAI R 2415 t = nI nr) (hn : ∀ r, r < nr → jAL C (T + 4) r = jAL R 2416 (24 * t + r)) (v : Int64) : ∃ r : Int32, f_X8_ruleNamed T v C = some r ∧ f_X12_findRule 2398 (nI t) v R = some r ∧ (r = -1 ∨ ∃ i, i < nr ∧ r = nI i ∧ jAL C (T + 4) i = v) := by
  have kt := kd_text hT
  have hL := hC.2.2.2.1 T hT
  have a15 : jA 2415 13 (nI t) = true := jA_n k_2415 (by rw [ln_2415]; omega) (by omega)
  have c15 : (nI t).toNatClampNeg = t := nJ_cl (by omega)
  have key : ∀ m i n n', i + m = nr → m < n → m < n' → ∃ r : Int32, f_X8_ruleNamed_2 n T v (nI i) C = some r ∧ f_X12_findRule_3 n' 2398 (nI t) v (nI i) R = some r ∧ (r = -1 ∨ ∃ i, i < nr ∧ r = nI i ∧ jAL C (T + 4) i = v) := by
    intro m
    induction m with
    | zero =>
      intro i n n' him hn hn'
      obtain ⟨n, rfl⟩ : ∃ x, n = x + 1 := ⟨n - 1, by omega⟩
      obtain ⟨n', rfl⟩ : ∃ x, n' = x + 1 := ⟨n' - 1, by omega⟩
      have hle : nI nr ≤ nI i := by rw [nJ_le (by omega) (by omega)]; omega
      refine ⟨-1, ?_, ?_, .inl rfl⟩
      · rw [f_X8_ruleNamed_2, if_pos hT, h49, if_pos hle]
      · rw [f_X12_findRule_3, if_pos k_2398, ly_110 hR, obt, if_pos a15, c15, h15, if_pos hle]
    | succ m ih =>
      intro i n n' him hn1 hn1'
      obtain ⟨n, rfl⟩ : ∃ x, n = x + 1 := ⟨n - 1, by omega⟩
      obtain ⟨n', rfl⟩ : ∃ x, n' = x + 1 := ⟨n' - 1, by omega⟩
      have hle : ¬ nI nr ≤ nI i := by rw [nJ_le (by omega) (by omega)]; omega
      have a4 : jA (T + 4) 14 (nI i) = true := jA_n kt.2.2.2.1.1 (by rw [kt.2.2.2.1.2]; omega) (by omega)
      have c4 : (nI i).toNatClampNeg = i := nJ_cl (by omega)
      have a16 : jA 2416 14 (nI (24 * t + i)) = true := jA_n k_2416 (by rw [ln_2416]; omega) (by omega)
      have c16 : (nI (24 * t + i)).toNatClampNeg = 24 * t + i := nJ_cl (by omega)
      by_cases c : jAL C (T + 4) i = v
      · refine ⟨nI i, ?_, ?_, .inr ⟨i, by omega, rfl, c⟩⟩
        · rw [f_X8_ruleNamed_2, if_pos hT, h49, if_neg hle, hL.2.2.2.1, obt, if_pos a4, c4, if_pos c]
        · rw [f_X12_findRule_3, if_pos k_2398, ly_110 hR, obt, if_pos a15, c15, h15, if_neg hle, ly_111 hR, obt, nJ_24 ht (by omega), if_pos a16, c16, ← hn i (by omega), if_pos c]
      · obtain ⟨r, r1, r2, r3⟩ := ih (i + 1) n n' (by omega) (by omega) (by omega)
        refine ⟨r, ?_, ?_, r3⟩
        · rw [f_X8_ruleNamed_2, if_pos hT, h49, if_neg hle, hL.2.2.2.1, obt, if_pos a4, c4, if_neg c, jlt, nJ_1 (by omega)]; exact r1
        · rw [f_X12_findRule_3, if_pos k_2398, ly_110 hR, obt, if_pos a15, c15, h15, if_neg hle, ly_111 hR, obt, nJ_24 ht (by omega), if_pos a16, c16, ← hn i (by omega), if_neg c, jlt, nJ_1 (by omega)]; exact r2
  exact key nr 0 1100000 1100000 (by omega) (by omega) (by omega)
theorem sum_lk {C R : jM} {t cn : Nat} {A : Nat → Prop} (hC : Lay C) (hR : Lay R) (ht : t < 33) (hcn : cn ≤ 20) (h30 : jI C 30 607 = nI cn) (h117 : jI R 117 2398 = nI cn) (hs : ∀ i, i < cn → jAL C 616 i = jAL R 2418 i ∧ ∃ s, A s ∧ s < 300 ∧ jAI C 617 i = nI s ∧ jAI R 2419 i = nI (301 * t + s)) (v : Int64) :
    (f_X4_sumOf 607 v C = some (-1) ∧ f_X12_named_17 1100000 2398 v (jI R 117 2398 - 1) R = f_X12_named_38 2398 v (-1) R) ∨
    ∃ j s, j < cn ∧ A s ∧ s < 300 ∧ f_X4_sumOf 607 v C = some (nI s) ∧ jAI R 2419 j = nI (301 * t + s) ∧ f_X12_named_17 1100000 2398 v (jI R 117 2398 - 1) R = f_X12_named_38 2398 v (nI j) R := by
  have key : ∀ i, i ≤ cn → ∀ n n' (x : Int32), i < n → i < n' → x.toInt = (i : Int) - 1 → (f_X4_sumOf_7 n 607 v x C = some (-1) ∧ f_X12_named_17 n' 2398 v x R = f_X12_named_38 2398 v (-1) R) ∨
      ∃ j s, j < cn ∧ A s ∧ s < 300 ∧ f_X4_sumOf_7 n 607 v x C = some (nI s) ∧ jAI R 2419 j = nI (301 * t + s) ∧ f_X12_named_17 n' 2398 v x R = f_X12_named_38 2398 v (nI j) R := by
    intro i
    induction i with
    | zero =>
      intro _ n n' x hn hn' hx
      obtain ⟨n, rfl⟩ : ∃ x, n = x + 1 := ⟨n - 1, by omega⟩
      obtain ⟨n', rfl⟩ : ∃ x, n' = x + 1 := ⟨n' - 1, by omega⟩
      have hx1 : x = -1 := by rw [i_eq, hx]; rfl
      subst hx1
      exact .inl ⟨by rw [f_X4_sumOf_7, if_pos (by decide)], by rw [f_X12_named_17, if_pos (by decide)]⟩
    | succ i ih =>
      intro hic n n' x hn hn' hx
      obtain ⟨n, rfl⟩ : ∃ x, n = x + 1 := ⟨n - 1, by omega⟩
      obtain ⟨n', rfl⟩ : ∃ x, n' = x + 1 := ⟨n' - 1, by omega⟩
      have hx1 : x = nI i := nI_is (by omega) (by omega)
      subst hx1
      obtain ⟨h1, s, h2, h3, h4, h5⟩ := hs i (by omega)
      have n0 : ¬ nI i < 0 := nI_neg (by omega)
      have a16 : jA 616 14 (nI i) = true := jA_n k_616 (by rw [ln_616]; omega) (by omega)
      have a17 : jA 617 13 (nI i) = true := jA_n k_617 (by rw [ln_617]; omega) (by omega)
      have a18 : jA 2418 14 (nI i) = true := jA_n k_2418 (by rw [ln_2418]; omega) (by omega)
      have c16 : (nI i).toNatClampNeg = i := nJ_cl (by omega)
      by_cases c : jAL C 616 i = v
      · refine .inr ⟨i, s, by omega, h2, h3, ?_, h5, ?_⟩
        · rw [f_X4_sumOf_7, if_neg n0, if_pos k_607, ly_28 hC, obt, if_pos a16, c16, if_pos c, ly_29 hC, obt, if_pos a17, h4]
        · rw [f_X12_named_17, if_neg n0, if_pos k_2398, ly_115 hR, obt, if_pos a18, c16, ← h1, if_pos c]
      · have hm : (nI i + (-1 : Int32)).toInt = (i : Int) - 1 := by
          rw [i_add (by rw [nI_toInt (by omega), show (-1 : Int32).toInt = -1 from rfl]; omega) (by rw [nI_toInt (by omega), show (-1 : Int32).toInt = -1 from rfl]; omega), nI_toInt (by omega), show (-1 : Int32).toInt = -1 from rfl]; omega
        rw [f_X4_sumOf_7, if_neg n0, if_pos k_607, ly_28 hC, obt, if_pos a16, c16, if_neg c, jlt, f_X12_named_17, if_neg n0, if_pos k_2398, ly_115 hR, obt, if_pos a18, c16, ← h1, if_neg c, jlt]
        exact ih (by omega) n n' _ (by omega) (by omega) hm
  have hx : (nI cn - (1 : Int32)).toInt = (cn : Int) - 1 := by
    rw [i_sub (by rw [nI_toInt (by omega), show (1 : Int32).toInt = 1 from rfl]; omega) (by rw [nI_toInt (by omega), show (1 : Int32).toInt = 1 from rfl]; omega), nI_toInt (by omega), show (1 : Int32).toInt = 1 from rfl]
  have hk := key cn (Nat.le_refl _) 1100000 1100000 _ (by omega) (by omega) hx
  unfold f_X4_sumOf
  rw [if_pos k_607, h30, jlt, h117]
  exact hk
theorem tkv_4 {B : Nat → Int32} {e p : Nat} (h : (tkv B e p).1 = 4) : (tkv B e p).2.2.1 ≤ 6 := by
  unfold tkv at h ⊢
  by_cases c1 : p < e
  · rw [if_pos c1] at h ⊢
    by_cases c2 : f_X7_isLetter (B p) = 0
    · rw [if_pos c2] at h ⊢
      by_cases c3 : f_X7_isDigit (B p) = 0
      · rw [if_pos c3] at h ⊢
        by_cases c4 : B p = 60 ∧ p + 1 < e ∧ B (p + 1) = 61
        · rw [if_pos c4]; exact Nat.zero_le _
        · rw [if_neg c4]
          by_cases c5 : B p = 33 ∧ p + 1 < e ∧ B (p + 1) = 61
          · rw [if_pos c5]; exact Nat.zero_le _
          · rw [if_neg c5]; exact Nat.zero_le _
      · rw [if_neg c3] at h ⊢
        generalize diB B e (e - p) p 0 = w at h ⊢
        by_cases c4 : w.1 + 1 < e ∧ B w.1 = 46 ∧ ¬ f_X7_isDigit (B (w.1 + 1)) = 0
        · rw [if_pos c4] at h ⊢
          by_cases c5 : w.1 - p ≤ 9 ∧ (diB B e (e - (w.1 + 1)) (w.1 + 1) w.2).1 - (w.1 + 1) ≤ 6
          · exact c5.2
          · rw [if_neg c5] at h
            exact absurd h (show ¬ (1 : Int32) = 4 by decide)
        · rw [if_neg c4]; exact Nat.zero_le _
    · rw [if_neg c2]; exact Nat.zero_le _
  · rw [if_neg c1]; exact Nat.zero_le _
