/-! PURE: two VALUES alike -/
theorem nJ_12i {s j : Nat} (hs : s < 1500) (hj : j < 100) : ((12 : Int32) * nI s) + nI j = nI (12 * s + j) := by
  have hm : (12 : Int32) * nI s = nI (12 * s) := by
    rw [i_eq, i_mul (by rw [nI_toInt (by omega), show (12 : Int32).toInt = 12 from rfl]; omega) (by rw [nI_toInt (by omega), show (12 : Int32).toInt = 12 from rfl]; omega), nI_toInt (by omega), nI_toInt (by omega), show (12 : Int32).toInt = 12 from rfl]; omega
  rw [hm]; exact nJ_add (by omega)
theorem like_loop {n : Int} {C R : jM} (hC : Lay C) (hR : Lay R) {a b sa sb : Nat} (ka : jK a = 7) (kb : jK b = 7) (ha : VR n C a R sa) (hb : VR n C b R sb) (hsa : sa < 1500) (hsb : sb < 1500) (hso : jI C 52 a = jI C 52 b) {L : Nat} (hLa : (L : Int) ≤ vlen (jI C 52 a) (jI C 53 a)) (hLb : (L : Int) ≤ vlen (jI C 52 b) (jI C 53 b)) :
    ∀ (m fuel fuel2 j : Nat), j + m = L → m < fuel → m < fuel2 → ∃ x, f_X9_isLike_42 fuel a b (nI L) (nI j) C = some x ∧ f_X12_areAlike_58 fuel2 2398 (nI sa) (nI sb) (nI L) (nI j) R = some x ∧ (x = 0 ∨ x = 1) := by
  obtain ⟨ea1, ea2, ea3⟩ := VR_so ha
  have hL12 : L ≤ 12 := by have := vlen_le ea3; omega
  obtain ⟨pa1, -, pa3⟩ := apn hsa
  have la : jR C 54 a = some (a + 1) := ly_v hC ka
  have lb : jR C 54 b = some (b + 1) := ly_v hC kb
  intro m
  induction m with
  | zero =>
    intro fuel fuel2 j hj hf hf2
    obtain ⟨fuel, rfl⟩ : ∃ z, fuel = z + 1 := ⟨fuel - 1, by omega⟩
    obtain ⟨fuel2, rfl⟩ : ∃ z, fuel2 = z + 1 := ⟨fuel2 - 1, by omega⟩
    have e : nI L ≤ nI j := (nJ_le (by omega) (by omega)).mpr (by omega)
    exact ⟨1, by rw [f_X9_isLike_42, if_pos e], by rw [f_X12_areAlike_58, if_pos e], .inr rfl⟩
  | succ m ih =>
    intro fuel fuel2 j hj hf hf2
    obtain ⟨fuel, rfl⟩ : ∃ z, fuel = z + 1 := ⟨fuel - 1, by omega⟩
    obtain ⟨fuel2, rfl⟩ : ∃ z, fuel2 = z + 1 := ⟨fuel2 - 1, by omega⟩
    have e : ¬ nI L ≤ nI j := fun z => by have := (nJ_le (by omega) (by omega)).mp z; omega
    have e12 : ¬ (12 : Int32) ≤ nI j := by rw [i_le, nI_toInt (by omega), show (12 : Int32).toInt = 12 from rfl]; omega
    have cj : (nI j).toNatClampNeg = j := nJ_cl (by omega)
    have aa : jA (a + 1) 14 (nI j) = true := jA_n (kd_val ka).1 (by rw [(kd_val ka).2]; omega) (by omega)
    have ab : jA (b + 1) 14 (nI j) = true := jA_n (kd_val kb).1 (by rw [(kd_val kb).2]; omega) (by omega)
    have s1 := nJ_1 (a := j) (by omega)
    have ia := nJ_12i hsa (show j < 100 by omega)
    have ib := nJ_12i hsb (show j < 100 by omega)
    have ca : (nI (12 * sa + j)).toNatClampNeg = 12 * sa + j := nJ_cl (by omega)
    have cb : (nI (12 * sb + j)).toNatClampNeg = 12 * sb + j := nJ_cl (by omega)
    have q1 : jA 2401 14 (nI (12 * sa + j)) = true := jA_n k_2401 (by rw [ln_2401]; omega) (by omega)
    have q2 : jA 2401 14 (nI (12 * sb + j)) = true := jA_n k_2401 (by rw [ln_2401]; omega) (by omega)
    have q3 : jA 2402 12 (nI (12 * sa + j)) = true := jA_n k_2402 (by rw [ln_2402]; omega) (by omega)
    have q4 : jA 2402 12 (nI (12 * sb + j)) = true := jA_n k_2402 (by rw [ln_2402]; omega) (by omega)
    have ta := VR_it ha (j := j) (by omega)
    have tb := VR_it hb (j := j) (by omega)
    have eC : f_X9_isLike_42 (fuel + 1) a b (nI L) (nI j) C = if jAL C (a + 1) j = jAL C (b + 1) j then f_X9_isLike_42 fuel a b (nI L) (nI (j + 1)) C else some 0 := by
      rw [f_X9_isLike_42, if_neg e, if_neg e12, if_pos ka, la, obt, if_pos aa, if_pos kb, lb, obt, if_pos ab, cj, s1, jlt]
    have e89 : ∀ t0 : Int32, t0 = 0 → jAL C (a + 1) j = jAL R 2401 (12 * sa + j) → jAL C (b + 1) j = jAL R 2401 (12 * sb + j) → f_X12_areAlike_89 (f_X12_areAlike_58 fuel2) 2398 (nI sa) (nI sb) (nI L) (nI j) t0 R = if jAL C (a + 1) j = jAL C (b + 1) j then f_X12_areAlike_58 fuel2 2398 (nI sa) (nI sb) (nI L) (nI (j + 1)) R else some 0 := fun t0 ht za zb => by
      unfold f_X12_areAlike_89 f_X12_areAlike_163
      rw [if_pos ht, if_pos k_2398, ly_90 hR, obt, ia, if_pos q1, obt, ib, if_pos q2, ca, cb, za, zb, s1, jlt]
    have e84 : jAD R 2402 (12 * sa + j) = (jAL C (a + 1) j).toUInt64 → vcan (jAL C (a + 1) j) → jAD R 2402 (12 * sb + j) = (jAL C (b + 1) j).toUInt64 → vcan (jAL C (b + 1) j) → f_X12_areAlike_84 (f_X12_areAlike_58 fuel2) 2398 (nI sa) (nI sb) (nI L) (nI j) R = if jAL C (a + 1) j = jAL C (b + 1) j then f_X12_areAlike_58 fuel2 2398 (nI sa) (nI sb) (nI L) (nI (j + 1)) R else some 0 := fun za ya zb yb => by
      unfold f_X12_areAlike_84 f_X12_areAlike_89 f_X12_areAlike_163
      rw [if_neg (by decide), if_pos k_2398, ly_91 hR, obt, ia, if_pos q3, ca, za, bitsOf_ok ya, obt, obt, ib, if_pos q4, cb, zb, bitsOf_ok yb, obt, s1, jlt]
    have eR : f_X12_areAlike_58 (fuel2 + 1) 2398 (nI sa) (nI sb) (nI L) (nI j) R = if jAL C (a + 1) j = jAL C (b + 1) j then f_X12_areAlike_58 fuel2 2398 (nI sa) (nI sb) (nI L) (nI (j + 1)) R else some 0 := by
      rw [f_X12_areAlike_58, if_neg e, if_pos k_2398, ly_88 hR, obt, if_pos pa1, pa3, ea1]
      unfold vitem at ta tb
      by_cases c1 : jI C 52 a = 1
      · rw [if_pos (by rw [c1]; exact .inl rfl)] at ta
        rw [if_pos (by rw [← hso, c1]; exact .inl rfl)] at tb
        rw [if_pos c1]
        exact e84 ta.1 ta.2 tb.1 tb.2
      · rw [if_neg c1, obt, if_pos pa1, ea1]
        by_cases c4 : jI C 52 a = 4
        · rw [if_pos (by rw [c4]; exact .inr rfl)] at ta
          rw [if_pos (by rw [← hso, c4]; exact .inr rfl)] at tb
          rw [if_pos c4]
          exact e84 ta.1 ta.2 tb.1 tb.2
        · have hn : ¬ ((jI C 52 a).toInt = 1 ∨ (jI C 52 a).toInt = 4) := fun z => by
            rcases z with z | z
            · exact c1 (i_eq.mpr z)
            · exact c4 (i_eq.mpr z)
          rw [if_neg hn] at ta
          rw [if_neg (by rw [← hso]; exact hn)] at tb
          rw [if_neg c4]
          exact e89 0 rfl ta.1 tb.1
    rw [eC, eR]
    by_cases c : jAL C (a + 1) j = jAL C (b + 1) j
    · rw [if_pos c, if_pos c]
      exact ih fuel fuel2 (j + 1) (by omega) (by omega) (by omega)
    · rw [if_neg c, if_neg c]
      exact ⟨0, rfl, rfl, .inl rfl⟩
theorem like_ok {n : Int} {C R : jM} (hC : Lay C) (hR : Lay R) {a b sa sb : Nat} (ka : jK a = 7) (kb : jK b = 7) (ha : VR n C a R sa) (hb : VR n C b R sb) (hsa : sa < 1500) (hsb : sb < 1500) : ∃ x, f_X9_isLike a b C = some x ∧ f_X12_areAlike 2398 (nI sa) (nI sb) R = some x ∧ (x = 0 ∨ x = 1) := by
  obtain ⟨ea1, ea2, ea3⟩ := VR_so ha
  obtain ⟨eb1, eb2, eb3⟩ := VR_so hb
  obtain ⟨pa1, pa2, pa3⟩ := apn hsa
  obtain ⟨pb1, pb2, pb3⟩ := apn hsb
  unfold f_X9_isLike f_X12_areAlike
  rw [if_pos ka, if_pos kb, if_pos k_2398, ly_88 hR, obt, if_pos pa1, obt, if_pos pb1, pa3, pb3, ea1, eb1, ly_89 hR]
  by_cases c1 : jI C 52 a = jI C 52 b
  · rw [if_pos c1, if_pos c1, obt, if_pos pa2, obt, if_pos pb2, ea2, eb2]
    by_cases c2 : jI C 53 a = jI C 53 b
    · rw [if_pos c2, if_pos c2, obt, if_pos pa1, ea1]
      have n10 : ¬ (1 : Int32) = 0 := by decide
      obtain ⟨h0, h8, s0, s12, -⟩ := ea3
      have key : ∀ L : Nat, (L : Int) ≤ vlen (jI C 52 a) (jI C 53 a) → ∃ x, f_X9_isLike_42 1100000 a b (nI L) 0 C = some x ∧ f_X12_areAlike_58 1100000 2398 (nI sa) (nI sb) (nI L) 0 R = some x ∧ (x = 0 ∨ x = 1) := fun L hL => by
        have h12 : L ≤ 12 := by have := vlen_le (VR_so ha).2.2; omega
        exact like_loop hC hR ka kb ha hb hsa hsb c1 hL (by rw [← c1, ← c2]; exact hL) L 1100000 1100000 0 (by omega) (by omega) (by omega)
      have hv : vlen (jI C 52 a) (jI C 53 a) = if 2 ≤ (jI C 52 a).toInt ∧ (jI C 52 a).toInt ≤ 7 then (jI C 53 a).toInt else 1 := rfl
      by_cases cr : 2 ≤ (jI C 52 a).toInt ∧ (jI C 52 a).toInt ≤ 7
      · have r1 : f_X9_isRow a C = some 1 := by
          unfold f_X9_isRow
          rw [if_pos ka, if_neg (by rw [i_lt, show (2 : Int32).toInt = 2 from rfl]; omega), if_neg (by rw [i_lt, show (7 : Int32).toInt = 7 from rfl]; omega)]
        have r2 : f_X12_isRow (jI C 52 a) = 1 := by
          unfold f_X12_isRow
          rw [if_neg (by rw [i_lt, show (2 : Int32).toInt = 2 from rfl]; omega), if_neg (by rw [i_lt, show (7 : Int32).toInt = 7 from rfl]; omega)]
        rw [if_pos cr] at hv
        obtain ⟨L, hL⟩ : ∃ L : Nat, (jI C 53 a).toInt = L := ⟨(jI C 53 a).toInt.toNat, by omega⟩
        have eL : jI C 53 a = nI L := nI_is hL (by omega)
        rw [r1, obt, if_neg n10, r2, if_neg n10, obt, if_pos pa2, ea2, eL]
        unfold f_X9_isLike_39 f_X12_areAlike_54
        exact key L (by omega)
      · have r1 : f_X9_isRow a C = some 0 := by
          unfold f_X9_isRow
          rw [if_pos ka]
          by_cases c : jI C 52 a < 2
          · rw [if_pos c]
          · rw [if_neg c, if_pos (by rw [i_lt, show (2 : Int32).toInt = 2 from rfl] at c; rw [i_lt, show (7 : Int32).toInt = 7 from rfl]; omega)]
        have r2 : f_X12_isRow (jI C 52 a) = 0 := by
          unfold f_X12_isRow
          by_cases c : jI C 52 a < 2
          · rw [if_pos c]
          · rw [if_neg c, if_pos (by rw [i_lt, show (2 : Int32).toInt = 2 from rfl] at c; rw [i_lt, show (7 : Int32).toInt = 7 from rfl]; omega)]
        rw [if_neg cr] at hv
        rw [r1, obt, if_pos rfl, r2, if_pos rfl]
        unfold f_X9_isLike_39 f_X12_areAlike_54
        exact key 1 (by omega)
    · rw [if_neg c2, if_neg c2]
      exact ⟨0, rfl, rfl, .inl rfl⟩
  · rw [if_neg c1, if_neg c1]
    exact ⟨0, rfl, rfl, .inl rfl⟩
