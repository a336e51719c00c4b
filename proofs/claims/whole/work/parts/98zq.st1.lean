/-! PURE: the start: loops of constructors -/

theorem l_c {a : Nat} (hF1 : isF a) : ∀ (m fuel i : Nat) (S : jM), i + m = 24 → jn S = a + 4 + 1 + 2 * i → EI S → jR S 14 a = some (a + 4) → (∀ j, j < i → jAR S (a + 4) j = some (a + 4 + 1 + 2 * j)) → KR (a + 4 + 1) (a + 4 + 1 + 2 * i) S → ∃ S', f_X1_init_44 (a + 1) (fuel + m) a (nI i) S = f_X1_init_44 (a + 1) fuel a (nI 24) S' ∧ jn S' = a + 4 + 1 + 2 * 24 ∧ EI S' ∧ FB (a + 4) S S' ∧ (∀ j, j < 24 → jAR S' (a + 4) j = some (a + 4 + 1 + 2 * j)) ∧ KR (a + 4 + 1) (a + 4 + 1 + 2 * 24) S' := by
  intro m
  induction m with
  | zero =>
    intro fuel i S hi hn hE hF hAR hK
    have e : i = 24 := by omega
    subst e
    exact ⟨S, rfl, hn, hE, FB.refl, hAR, hK⟩
  | succ m ih =>
    intro fuel i S hi hn hE hF hAR hK
    have kv : jK a = 1 := hF1.k
    have kA : jK (a + 4) = 19 := (kd_case hF1.k).2.2.2.1
    have lA : jLen (a + 4) = 24 := (kd_case hF1.k).2.2.2.2
    have ke : jK (a + 4 + 1 + 2 * i) = 7 := hF1.fig (by omega)
    obtain ⟨S1, e1, b1, b2, b3, b4⟩ := i_v hE (by rw [hn]; exact ke)
    rw [hn] at e1 b1 b3 b4
    have ai : jA (a + 4) 19 (nI i) = true := jA_n kA (by rw [lA]; omega) (by omega)
    have ci : (nI i).toNatClampNeg = i := nJ_cl (by omega)
    have eN : ¬ (Int32.ofNat (jLen (a + 4))) ≤ nI i := by
      rw [lA]
      exact fun z => by have := (nJ_le (a := 24) (b := i) (by omega) (by omega)).mp z; omega
    obtain ⟨S2, e2, d1, d2, d3, d4, d5⟩ := ih fuel (i + 1) (jrR S1 (a + 4) (va_up (jAR S1 (a + 4)) i (some (a + 4 + 1 + 2 * i)))) (by omega) (show jn S1 = _ by rw [b1]; omega) (EI.rR b2) (by show jR S1 14 a = _; rw [(b3 a (by omega)).1]; exact hF) (fun j hj => by
      show (if (a + 4) = (a + 4) then va_up (jAR S1 (a + 4)) i (some (a + 4 + 1 + 2 * i)) else jAR S1 (a + 4)) j = _
      rw [if_pos rfl]
      show (if j = i then some (a + 4 + 1 + 2 * i) else jAR S1 (a + 4) j) = _
      by_cases ej : j = i
      · rw [if_pos ej, ej]
      · rw [if_neg ej, (b3 (a + 4) (by omega)).2.1]; exact hAR j (by omega)) (((hK.fb b3).cat (by rw [show a + 4 + 1 + 2 * (i + 1) = a + 4 + 1 + 2 * i + 2 from by omega]; exact b4)).rR (.inl (by omega)))
    refine ⟨S2, ?_, d1, d2, ((b3.le (by omega)).rR (by omega)).trans d3, d4, d5⟩
    rw [← e2, ← Nat.add_assoc, f_X1_init_44, hn, if_pos (by omega), if_pos kv, hF, obt, if_pos (by omega), if_pos kA, if_neg eN, if_pos (by omega), obt, if_pos ke, if_pos (by omega), jlt, jn_new, hn, if_pos (by omega), e1, obt, b1, if_pos (by omega), if_pos (by omega), if_pos (by omega), if_pos ai, if_pos ke, jlt, jlt, ci, nJ_1 (by omega)]

theorem l_f : ∀ (m fuel i : Nat) (S : jM), i + m = 200 → jn S = 5 + 3 * i → EI S → jR S 35 1 = some (4) → (∀ j, j < i → jAR S (4) j = some (5 + 3 * j)) → KR (5) (5 + 3 * i) S → ∃ S', f_X6_init_32 (2) (fuel + m) 1 (nI i) S = f_X6_init_32 (2) fuel 1 (nI 200) S' ∧ jn S' = 5 + 3 * 200 ∧ EI S' ∧ FB (4) S S' ∧ (∀ j, j < 200 → jAR S' (4) j = some (5 + 3 * j)) ∧ KR (5) (5 + 3 * 200) S' := by
  intro m
  induction m with
  | zero =>
    intro fuel i S hi hn hE hF hAR hK
    have e : i = 200 := by omega
    subst e
    exact ⟨S, rfl, hn, hE, FB.refl, hAR, hK⟩
  | succ m ih =>
    intro fuel i S hi hn hE hF hAR hK
    have kv : jK 1 = 4 := k_1
    have kA : jK (4) = 17 := k_4
    have lA : jLen (4) = 200 := ln_4
    have ke : jK (5 + 3 * i) = 2 := kf_fact (by omega)
    obtain ⟨S1, e1, b1, b2, b3, b4⟩ := i_f hE (by rw [hn]; exact ke)
    rw [hn] at e1 b1 b3 b4
    have ai : jA (4) 17 (nI i) = true := jA_n kA (by rw [lA]; omega) (by omega)
    have ci : (nI i).toNatClampNeg = i := nJ_cl (by omega)
    have eN : ¬ (Int32.ofNat (jLen (4))) ≤ nI i := by
      rw [lA]
      exact fun z => by have := (nJ_le (a := 200) (b := i) (by omega) (by omega)).mp z; omega
    obtain ⟨S2, e2, d1, d2, d3, d4, d5⟩ := ih fuel (i + 1) (jrR S1 (4) (va_up (jAR S1 (4)) i (some (5 + 3 * i)))) (by omega) (show jn S1 = _ by rw [b1]; omega) (EI.rR b2) (by show jR S1 35 1 = _; rw [(b3 1 (by omega)).1]; exact hF) (fun j hj => by
      show (if (4) = (4) then va_up (jAR S1 (4)) i (some (5 + 3 * i)) else jAR S1 (4)) j = _
      rw [if_pos rfl]
      show (if j = i then some (5 + 3 * i) else jAR S1 (4) j) = _
      by_cases ej : j = i
      · rw [if_pos ej, ej]
      · rw [if_neg ej, (b3 (4) (by omega)).2.1]; exact hAR j (by omega)) (((hK.fb b3).cat (by rw [show 5 + 3 * (i + 1) = 5 + 3 * i + 3 from by omega]; exact b4)).rR (.inl (by omega)))
    refine ⟨S2, ?_, d1, d2, ((b3.le (by omega)).rR (by omega)).trans d3, d4, d5⟩
    rw [← e2, ← Nat.add_assoc, f_X6_init_32, hn, if_pos (by omega), if_pos kv, hF, obt, if_pos (by omega), if_pos kA, if_neg eN, if_pos (by omega), obt, if_pos ke, if_pos (by omega), jlt, jn_new, hn, if_pos (by omega), e1, obt, b1, if_pos (by omega), if_pos (by omega), if_pos (by omega), if_pos ai, if_pos ke, jlt, jlt, ci, nJ_1 (by omega)]

theorem l_p : ∀ (m fuel i : Nat) (S : jM), i + m = 600 → jn S = 818 + 2 * i → EI S → jR S 61 811 = some (817) → (∀ j, j < i → jAR S (817) j = some (818 + 2 * j)) → KR (818) (818 + 2 * i) S → ∃ S', f_X10_init_66 (812) (fuel + m) 811 (nI i) S = f_X10_init_66 (812) fuel 811 (nI 600) S' ∧ jn S' = 818 + 2 * 600 ∧ EI S' ∧ FB (817) S S' ∧ (∀ j, j < 600 → jAR S' (817) j = some (818 + 2 * j)) ∧ KR (818) (818 + 2 * 600) S' := by
  intro m
  induction m with
  | zero =>
    intro fuel i S hi hn hE hF hAR hK
    have e : i = 600 := by omega
    subst e
    exact ⟨S, rfl, hn, hE, FB.refl, hAR, hK⟩
  | succ m ih =>
    intro fuel i S hi hn hE hF hAR hK
    have kv : jK 811 = 8 := k_811
    have kA : jK (817) = 19 := k_817
    have lA : jLen (817) = 600 := ln_817
    have ke : jK (818 + 2 * i) = 7 := kf_pile (by omega)
    obtain ⟨S1, e1, b1, b2, b3, b4⟩ := i_v hE (by rw [hn]; exact ke)
    rw [hn] at e1 b1 b3 b4
    have ai : jA (817) 19 (nI i) = true := jA_n kA (by rw [lA]; omega) (by omega)
    have ci : (nI i).toNatClampNeg = i := nJ_cl (by omega)
    have eN : ¬ (Int32.ofNat (jLen (817))) ≤ nI i := by
      rw [lA]
      exact fun z => by have := (nJ_le (a := 600) (b := i) (by omega) (by omega)).mp z; omega
    obtain ⟨S2, e2, d1, d2, d3, d4, d5⟩ := ih fuel (i + 1) (jrR S1 (817) (va_up (jAR S1 (817)) i (some (818 + 2 * i)))) (by omega) (show jn S1 = _ by rw [b1]; omega) (EI.rR b2) (by show jR S1 61 811 = _; rw [(b3 811 (by omega)).1]; exact hF) (fun j hj => by
      show (if (817) = (817) then va_up (jAR S1 (817)) i (some (818 + 2 * i)) else jAR S1 (817)) j = _
      rw [if_pos rfl]
      show (if j = i then some (818 + 2 * i) else jAR S1 (817) j) = _
      by_cases ej : j = i
      · rw [if_pos ej, ej]
      · rw [if_neg ej, (b3 (817) (by omega)).2.1]; exact hAR j (by omega)) (((hK.fb b3).cat (by rw [show 818 + 2 * (i + 1) = 818 + 2 * i + 2 from by omega]; exact b4)).rR (.inl (by omega)))
    refine ⟨S2, ?_, d1, d2, ((b3.le (by omega)).rR (by omega)).trans d3, d4, d5⟩
    rw [← e2, ← Nat.add_assoc, f_X10_init_66, hn, if_pos (by omega), if_pos kv, hF, obt, if_pos (by omega), if_pos kA, if_neg eN, if_pos (by omega), obt, if_pos ke, if_pos (by omega), jlt, jn_new, hn, if_pos (by omega), e1, obt, b1, if_pos (by omega), if_pos (by omega), if_pos (by omega), if_pos ai, if_pos ke, jlt, jlt, ci, nJ_1 (by omega)]

theorem l_t {g : Nat} : ∀ (m fuel i : Nat) (S : jM), i + m = 32 → jn S = 619 + 6 * i → EI S → jR S 73 0 = some (618) → (∀ j, j < i → jAR S (618) j = some (619 + 6 * j)) → KR (619) (619 + 6 * i) S → ∃ S', f_X11_init_61 (1) (fuel + m) 0 g (nI i) S = f_X11_init_61 (1) fuel 0 g (nI 32) S' ∧ jn S' = 619 + 6 * 32 ∧ EI S' ∧ FB (618) S S' ∧ (∀ j, j < 32 → jAR S' (618) j = some (619 + 6 * j)) ∧ KR (619) (619 + 6 * 32) S' := by
  intro m
  induction m with
  | zero =>
    intro fuel i S hi hn hE hF hAR hK
    have e : i = 32 := by omega
    subst e
    exact ⟨S, rfl, hn, hE, FB.refl, hAR, hK⟩
  | succ m ih =>
    intro fuel i S hi hn hE hF hAR hK
    have kv : jK 0 = 9 := k_0
    have kA : jK (618) = 18 := k_618
    have lA : jLen (618) = 32 := ln_618
    have ke : jK (619 + 6 * i) = 6 := kf_text (by omega)
    obtain ⟨S1, e1, b1, b2, b3, b4⟩ := i_t hE (by rw [hn]; exact ke)
    rw [hn] at e1 b1 b3 b4
    have ai : jA (618) 18 (nI i) = true := jA_n kA (by rw [lA]; omega) (by omega)
    have ci : (nI i).toNatClampNeg = i := nJ_cl (by omega)
    have eN : ¬ (Int32.ofNat (jLen (618))) ≤ nI i := by
      rw [lA]
      exact fun z => by have := (nJ_le (a := 32) (b := i) (by omega) (by omega)).mp z; omega
    obtain ⟨S2, e2, d1, d2, d3, d4, d5⟩ := ih fuel (i + 1) (jrR S1 (618) (va_up (jAR S1 (618)) i (some (619 + 6 * i)))) (by omega) (show jn S1 = _ by rw [b1]; omega) (EI.rR b2) (by show jR S1 73 0 = _; rw [(b3 0 (by omega)).1]; exact hF) (fun j hj => by
      show (if (618) = (618) then va_up (jAR S1 (618)) i (some (619 + 6 * i)) else jAR S1 (618)) j = _
      rw [if_pos rfl]
      show (if j = i then some (619 + 6 * i) else jAR S1 (618) j) = _
      by_cases ej : j = i
      · rw [if_pos ej, ej]
      · rw [if_neg ej, (b3 (618) (by omega)).2.1]; exact hAR j (by omega)) (((hK.fb b3).cat (by rw [show 619 + 6 * (i + 1) = 619 + 6 * i + 6 from by omega]; exact b4)).rR (.inl (by omega)))
    refine ⟨S2, ?_, d1, d2, ((b3.le (by omega)).rR (by omega)).trans d3, d4, d5⟩
    rw [← e2, ← Nat.add_assoc, f_X11_init_61, hn, if_pos (by omega), if_pos kv, hF, obt, if_pos (by omega), if_pos kA, if_neg eN, if_pos (by omega), obt, if_pos ke, if_pos (by omega), jlt, jn_new, hn, if_pos (by omega), e1, obt, b1, if_pos (by omega), if_pos (by omega), if_pos (by omega), if_pos ai, if_pos ke, jlt, jlt, ci, nJ_1 (by omega)]

theorem l_w : ∀ (m fuel i : Nat) (S : jM), i + m = 6 → jn S = 2178 + 3 * i → EI S → jR S 78 0 = some (2177) → (∀ j, j < i → jAR S (2177) j = some (2178 + 3 * j)) → KR (2178) (2178 + 3 * i) S → ∃ S', f_X11_init_145 (1) (fuel + m) 0 (nI i) S = f_X11_init_145 (1) fuel 0 (nI 6) S' ∧ jn S' = 2178 + 3 * 6 ∧ EI S' ∧ FB (2177) S S' ∧ (∀ j, j < 6 → jAR S' (2177) j = some (2178 + 3 * j)) ∧ KR (2178) (2178 + 3 * 6) S' := by
  intro m
  induction m with
  | zero =>
    intro fuel i S hi hn hE hF hAR hK
    have e : i = 6 := by omega
    subst e
    exact ⟨S, rfl, hn, hE, FB.refl, hAR, hK⟩
  | succ m ih =>
    intro fuel i S hi hn hE hF hAR hK
    have kv : jK 0 = 9 := k_0
    have kA : jK (2177) = 16 := k_2177
    have lA : jLen (2177) = 6 := ln_2177
    have ke : jK (2178 + 3 * i) = 0 := kf_award (by omega)
    obtain ⟨S1, e1, b1, b2, b3, b4⟩ := i_w hE (by rw [hn]; exact ke)
    rw [hn] at e1 b1 b3 b4
    have ai : jA (2177) 16 (nI i) = true := jA_n kA (by rw [lA]; omega) (by omega)
    have ci : (nI i).toNatClampNeg = i := nJ_cl (by omega)
    have eN : ¬ (Int32.ofNat (jLen (2177))) ≤ nI i := by
      rw [lA]
      exact fun z => by have := (nJ_le (a := 6) (b := i) (by omega) (by omega)).mp z; omega
    obtain ⟨S2, e2, d1, d2, d3, d4, d5⟩ := ih fuel (i + 1) (jrR S1 (2177) (va_up (jAR S1 (2177)) i (some (2178 + 3 * i)))) (by omega) (show jn S1 = _ by rw [b1]; omega) (EI.rR b2) (by show jR S1 78 0 = _; rw [(b3 0 (by omega)).1]; exact hF) (fun j hj => by
      show (if (2177) = (2177) then va_up (jAR S1 (2177)) i (some (2178 + 3 * i)) else jAR S1 (2177)) j = _
      rw [if_pos rfl]
      show (if j = i then some (2178 + 3 * i) else jAR S1 (2177) j) = _
      by_cases ej : j = i
      · rw [if_pos ej, ej]
      · rw [if_neg ej, (b3 (2177) (by omega)).2.1]; exact hAR j (by omega)) (((hK.fb b3).cat (by rw [show 2178 + 3 * (i + 1) = 2178 + 3 * i + 3 from by omega]; exact b4)).rR (.inl (by omega)))
    refine ⟨S2, ?_, d1, d2, ((b3.le (by omega)).rR (by omega)).trans d3, d4, d5⟩
    rw [← e2, ← Nat.add_assoc, f_X11_init_145, hn, if_pos (by omega), if_pos kv, hF, obt, if_pos (by omega), if_pos kA, if_neg eN, if_pos (by omega), obt, if_pos ke, if_pos (by omega), jlt, jn_new, hn, if_pos (by omega), e1, obt, b1, if_pos (by omega), if_pos (by omega), if_pos (by omega), if_pos ai, if_pos ke, jlt, jlt, ci, nJ_1 (by omega)]
