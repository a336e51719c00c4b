/-! PURE: acts on rows: best -/
noncomputable def bkey (d : Bool) (x : Int64) : Int := if d then (f_X5_order x).toInt else x.toInt
theorem bkey_inj {d : Bool} {x y : Int64} (h : bkey d x = bkey d y) : x = y := by
  unfold bkey at h
  cases d
  · exact l_eq.mpr h
  · rw [if_pos rfl, if_pos rfl, order_int, order_int] at h
    have hx := mg_sub (x := x)
    have hy := mg_sub (x := y)
    rw [ub_inj]
    cases h1 : dS x <;> cases h2 : dS y <;> rw [h1] at h hx <;> rw [h2] at h hy <;> simp at h hx hy <;> omega
def tkEnd (C : jM) (a k m : Nat) : jM := jrL (jrL C (a + 1) (vp_updL (jAL C (a + 1)) m (jAL C (a + 1) k))) (a + 1) (vp_updL (vp_updL (jAL C (a + 1)) m (jAL C (a + 1) k)) k (jAL C (a + 1) m))
theorem tk_loop {C : jM} (hC : Lay C) {a : Nat} (ka : jK a = 7) {Z k : Nat} (hZ : Z ≤ 12) (hs : jI C 53 a = nI Z) (hk : k < Z) {t : Int32} {d : Bool} (ht : t = if d then 1 else 0) : ∀ rem fuel m j : Nat, j + rem = Z → rem < fuel → k ≤ m → m < j → (∀ i, k ≤ i → i < j → bkey d (jAL C (a + 1) i) ≤ bkey d (jAL C (a + 1) m)) → ∃ m', k ≤ m' ∧ m' < Z ∧ (∀ i, k ≤ i → i < Z → bkey d (jAL C (a + 1) i) ≤ bkey d (jAL C (a + 1) m')) ∧ f_X3_takeGreatest_21 fuel a (nI k) t (nI m) (nI j) C = some (jAL C (a + 1) m', tkEnd C a k m') := by
  have kl := kd_val ka
  have A : ∀ i, i < Z → jA (a + 1) 14 (nI i) = true := fun i hi => jA_n kl.1 (by rw [kl.2]; omega) (by omega)
  intro rem
  induction rem with
  | zero =>
    intro fuel m j h1 h2 h3 h4 h5
    obtain ⟨f, rfl⟩ : ∃ f, fuel = f + 1 := ⟨fuel - 1, by omega⟩
    have hj : j = Z := by omega
    refine ⟨m, h3, by omega, fun i hi hi2 => h5 i hi (by omega), ?_⟩
    have hle : nI Z ≤ nI j := by rw [nJ_le (by omega) (by omega)]; omega
    rw [f_X3_takeGreatest_21]
    simp only [ka, ly_v hC ka, hs, hle, A m (by omega), A k hk, nJ_cl (show m < 2147483648 by omega), nJ_cl (show k < 2147483648 by omega), m_I_sI, m_L_sI, m_R_sI, m_AI_sI, m_AL_sI, m_AD_sI, m_AR_sI, m_n_sI, m_I_sL, m_L_sL, m_R_sL, m_AI_sL, m_AL_sL, m_AD_sL, m_AR_sL, m_n_sL, m_I_sR, m_L_sR, m_R_sR, m_AI_sR, m_AL_sR, m_AD_sR, m_AR_sR, m_n_sR, m_I_rI, m_L_rI, m_R_rI, m_AI_rI, m_AL_rI, m_AD_rI, m_AR_rI, m_n_rI, m_I_rL, m_L_rL, m_R_rL, m_AI_rL, m_AL_rL, m_AD_rL, m_AR_rL, m_n_rL, m_I_rD, m_L_rD, m_R_rD, m_AI_rD, m_AL_rD, m_AD_rD, m_AR_rD, m_n_rD, m_I_rR, m_L_rR, m_R_rR, m_AI_rR, m_AL_rR, m_AD_rR, m_AR_rR, m_n_rR, true_and, and_true, and_false, false_and, and_self, if_true, if_false, ite_self, Nat.reduceEqDiff, reduceIte, obt, jlt, jbt, jbd_ite, bind_ite]
    unfold tkEnd
    rfl
  | succ rem ih =>
    intro fuel m j h1 h2 h3 h4 h5
    obtain ⟨f, rfl⟩ : ∃ f, fuel = f + 1 := ⟨fuel - 1, by omega⟩
    have hle : ¬ nI Z ≤ nI j := by rw [nJ_le (by omega) (by omega)]; omega
    have keep : bkey d (jAL C (a + 1) j) ≤ bkey d (jAL C (a + 1) m) → ∃ m', k ≤ m' ∧ m' < Z ∧ (∀ i, k ≤ i → i < Z → bkey d (jAL C (a + 1) i) ≤ bkey d (jAL C (a + 1) m')) ∧ f_X3_takeGreatest_21 f a (nI k) t (nI m) (nI (j + 1)) C = some (jAL C (a + 1) m', tkEnd C a k m') := fun hh =>
      ih f m (j + 1) (by omega) (by omega) h3 (by omega) (fun i hi hi2 => by
        by_cases c : i = j
        · rw [c]; exact hh
        · exact h5 i hi (by omega))
    have move : ¬ bkey d (jAL C (a + 1) j) ≤ bkey d (jAL C (a + 1) m) → ∃ m', k ≤ m' ∧ m' < Z ∧ (∀ i, k ≤ i → i < Z → bkey d (jAL C (a + 1) i) ≤ bkey d (jAL C (a + 1) m')) ∧ f_X3_takeGreatest_21 f a (nI k) t (nI j) (nI (j + 1)) C = some (jAL C (a + 1) m', tkEnd C a k m') := fun hh =>
      ih f j (j + 1) (by omega) (by omega) (by omega) (by omega) (fun i hi hi2 => by
        by_cases c : i = j
        · rw [c]; exact Int.le_refl _
        · have := h5 i hi (by omega); omega)
    rw [f_X3_takeGreatest_21]
    unfold f_X3_takeGreatest_76 f_X3_takeGreatest_79
    simp only [ka, ly_v hC ka, hs, hle, A m (by omega), A j (by omega), nJ_cl (show m < 2147483648 by omega), nJ_cl (show j < 2147483648 by omega), nJ_1 (show j + 1 < 2147483648 by omega), true_and, and_true, and_false, false_and, and_self, if_true, if_false, ite_self, Nat.reduceEqDiff, reduceIte, obt, jlt, jbt, jbd_ite, bind_ite]
    cases d
    · have t0 : t = 0 := ht
      rw [if_pos t0]
      by_cases c : jAL C (a + 1) j ≤ jAL C (a + 1) m
      · rw [if_pos c]; exact keep (l_le.mp c)
      · rw [if_neg c]; exact move (fun z => c (l_le.mpr z))
    · have t1 : t = 1 := ht
      rw [if_neg (by rw [t1]; decide)]
      by_cases c : f_X5_order (jAL C (a + 1) j) ≤ f_X5_order (jAL C (a + 1) m)
      · rw [if_pos c]; exact keep (l_le.mp c)
      · rw [if_neg c]; exact move (fun z => c (l_le.mpr z))
theorem tk_ok {C : jM} (hC : Lay C) {a : Nat} (ka : jK a = 7) {Z k : Nat} (hZ : Z ≤ 12) (hs : jI C 53 a = nI Z) (hk : k < Z) {d : Bool} (hd : d = decide (jI C 52 a = 4)) : ∃ m, k ≤ m ∧ m < Z ∧ (∀ i, k ≤ i → i < Z → bkey d (jAL C (a + 1) i) ≤ bkey d (jAL C (a + 1) m)) ∧ f_X3_takeGreatest a (nI k) C = some (jAL C (a + 1) m, tkEnd C a k m) := by
  unfold f_X3_takeGreatest f_X3_takeGreatest_13
  rw [if_pos ka]
  simp only [nJ_1 (show k + 1 < 2147483648 by omega), jlt]
  have hi : ∀ i, k ≤ i → i < k + 1 → bkey d (jAL C (a + 1) i) ≤ bkey d (jAL C (a + 1) k) := fun i h1 h2 => by rw [show i = k by omega]; exact Int.le_refl _
  by_cases c : jI C 52 a = 4
  · rw [if_pos c]
    exact tk_loop hC ka hZ hs hk (d := d) (by rw [hd, decide_eq_true c]; rfl) (Z - (k + 1)) 1100000 k (k + 1) (by omega) (by omega) (by omega) (by omega) hi
  · rw [if_neg c]
    exact tk_loop hC ka hZ hs hk (d := d) (by rw [hd, decide_eq_false c]; rfl) (Z - (k + 1)) 1100000 k (k + 1) (by omega) (by omega) (by omega) (by omega) hi
/-- the reference's search -/
def bI : Option Nat → Int32 | none => -1 | some b => nI b
noncomputable def scE (k112 : Nat → Int32 → Int64 → Int64 → UInt64 → Int32 → jM → Option (Int32 × jM)) (sa : Nat) (x v5 : Int64) (v7 : UInt64) (v9 : Int32) (b : Nat) (R : jM) : Option (Int32 × jM) :=
  if jAI R 2399 sa = 4 then f_X12_best_310 k112 2398 (nI sa) x v7 v9 (nI b) (v5 + jAL R 2401 (12 * sa + b)) (jrI R 2426 (upd (jAI R 2426) b 1))
  else if (0 : Int64) ≤ ((v5 ^^^ (v5 + jAL R 2401 (12 * sa + b))) &&& (jAL R 2401 (12 * sa + b) ^^^ (v5 + jAL R 2401 (12 * sa + b)))) then f_X12_best_310 k112 2398 (nI sa) x v7 v9 (nI b) (v5 + jAL R 2401 (12 * sa + b)) (jrI R 2426 (upd (jAI R 2426) b 1))
  else f_X12_failing 2398 6 (jrI R 2426 (upd (jAI R 2426) b 1))
def bQ (d : Bool) (U : Nat → Bool) (g : Nat → Int64) (j : Nat) : Option Nat → Prop
  | none => ∀ i, i < j → U i = true
  | some b => b < j ∧ U b = false ∧ ∀ i, i < j → U i = false → bkey d (g i) ≤ bkey d (g b)
theorem nI_neg {b : Nat} (h : b < 2147483648) : ¬ nI b < 0 := by rw [i_lt, t_0, nI_toInt h]; omega
theorem sc_loop {k112 : Nat → Int32 → Int64 → Int64 → UInt64 → Int32 → jM → Option (Int32 × jM)} {R : jM} (hR : Lay R) {sa Z : Nat} (hsa : sa < 1500) (hZ : Z ≤ 12) {x v5 : Int64} {v7 : UInt64} {v9 : Int32} {g : Nat → Int64} {U : Nat → Bool} {d : Bool} (hd : d = decide (jAI R 2399 sa = 4)) (hz : jAI R 2400 sa = nI Z)
    (hv1 : d = true → ∀ i, i < Z → jAD R 2402 (12 * sa + i) = (g i).toUInt64 ∧ vcan (g i)) (hv0 : d = false → ∀ i, i < Z → jAL R 2401 (12 * sa + i) = g i) (hu : ∀ i, i < Z → jAI R 2426 i = if U i = true then 1 else 0) (hex : ∃ i, i < Z ∧ U i = false) : ∀ rem fuel j : Nat, ∀ B : Option Nat, j + rem = Z → rem < fuel → bQ d U g j B → ∃ b, b < Z ∧ U b = false ∧ (∀ i, i < Z → U i = false → bkey d (g i) ≤ bkey d (g b)) ∧ f_X12_best_126 k112 fuel 2398 (nI sa) x v5 v7 v9 (bI B) (nI j) R = scE k112 sa x v5 v7 v9 b R := by
  obtain ⟨pa1, pa2, pa3⟩ := apn hsa
  have hx : ∀ i, i < 12 → (((12 : Int32) * nI sa) + nI i).toInt = 12 * sa + i := fun i hi => i12 (nI_toInt (by omega)) hsa (nI_toInt (by omega)) hi
  have xc : ∀ i, i < 12 → (((12 : Int32) * nI sa) + nI i).toNatClampNeg = 12 * sa + i := fun i hi => by rw [i_cl, hx i hi]; omega
  have x1 : ∀ i, i < 12 → jA 2401 14 (((12 : Int32) * nI sa) + nI i) = true := fun i hi => jA_iff.mpr ⟨k_2401, by have := hx i hi; omega, by have := hx i hi; rw [ln_2401]; omega⟩
  have x2 : ∀ i, i < 12 → jA 2402 12 (((12 : Int32) * nI sa) + nI i) = true := fun i hi => jA_iff.mpr ⟨k_2402, by have := hx i hi; omega, by have := hx i hi; rw [ln_2402]; omega⟩
  have y1 : ∀ i, i < 12 → jA 2426 15 (nI i) = true := fun i hi => jA_n k_2426 (by rw [ln_2426]; exact hi) (by omega)
  have nar : vp_nar .boolean (1 : Int32) = 1 := by decide
  intro rem
  induction rem with
  | zero =>
    intro fuel j B h1 h2 h3
    obtain ⟨f, rfl⟩ : ∃ f, fuel = f + 1 := ⟨fuel - 1, by omega⟩
    have hj : j = Z := by omega
    rw [hj] at h3 ⊢
    cases B with
    | none =>
      obtain ⟨i, hi1, hi2⟩ := hex
      exact absurd (h3 i hi1) (by rw [hi2]; decide)
    | some b =>
      obtain ⟨q1, q2, q3⟩ := h3
      refine ⟨b, q1, q2, q3, ?_⟩
      have hle : nI Z ≤ nI Z := by rw [nJ_le (by omega) (by omega)]; exact Nat.le_refl _
      have hb12 : b < 12 := by omega
      rw [f_X12_best_126]
      show _ = scE k112 sa x v5 v7 v9 b R
      unfold scE bI
      simp only [k_2398, ly_88 hR, ly_89 hR, ly_90 hR, ly_135 hR, pa1, pa2, pa3, hz, hle, y1 b hb12, x1 b hb12, xc b hb12, nJ_cl (show b < 2147483648 by omega), nar, m_I_sI, m_L_sI, m_R_sI, m_AI_sI, m_AL_sI, m_AD_sI, m_AR_sI, m_n_sI, m_I_sL, m_L_sL, m_R_sL, m_AI_sL, m_AL_sL, m_AD_sL, m_AR_sL, m_n_sL, m_I_sR, m_L_sR, m_R_sR, m_AI_sR, m_AL_sR, m_AD_sR, m_AR_sR, m_n_sR, m_I_rI, m_L_rI, m_R_rI, m_AI_rI, m_AL_rI, m_AD_rI, m_AR_rI, m_n_rI, m_I_rL, m_L_rL, m_R_rL, m_AI_rL, m_AL_rL, m_AD_rL, m_AR_rL, m_n_rL, m_I_rD, m_L_rD, m_R_rD, m_AI_rD, m_AL_rD, m_AD_rD, m_AR_rD, m_n_rD, m_I_rR, m_L_rR, m_R_rR, m_AI_rR, m_AL_rR, m_AD_rR, m_AR_rR, m_n_rR, jid, true_and, and_true, and_false, false_and, and_self, if_true, if_false, ite_self, Nat.reduceEqDiff, reduceIte, obt, jlt, jbt, jbd_ite, bind_ite]
      rfl
  | succ rem ih =>
    intro fuel j B h1 h2 h3
    obtain ⟨f, rfl⟩ : ∃ f, fuel = f + 1 := ⟨fuel - 1, by omega⟩
    have hle : ¬ nI Z ≤ nI j := by rw [nJ_le (by omega) (by omega)]; omega
    have hj12 : j < 12 := by omega
    have huj := hu j (by omega)
    have uc : (jAI R 2426 j = 0) ↔ U j = false := by
      rw [huj]; cases U j <;> decide
    have keep : bQ d U g (j + 1) B → ∃ b, b < Z ∧ U b = false ∧ (∀ i, i < Z → U i = false → bkey d (g i) ≤ bkey d (g b)) ∧ f_X12_best_126 k112 f 2398 (nI sa) x v5 v7 v9 (bI B) (nI (j + 1)) R = scE k112 sa x v5 v7 v9 b R := fun hh => ih f (j + 1) B (by omega) (by omega) hh
    have move : bQ d U g (j + 1) (some j) → ∃ b, b < Z ∧ U b = false ∧ (∀ i, i < Z → U i = false → bkey d (g i) ≤ bkey d (g b)) ∧ f_X12_best_126 k112 f 2398 (nI sa) x v5 v7 v9 (nI j) (nI (j + 1)) R = scE k112 sa x v5 v7 v9 b R := fun hh => ih f (j + 1) (some j) (by omega) (by omega) hh
    have e216 : ∀ (t0 v10 : Int32), f_X12_best_216 k112 (f_X12_best_126 k112 f) 2398 (nI sa) x v5 v7 v9 v10 (nI j) t0 R = if U j = false then (if t0 = 0 then f_X12_best_126 k112 f 2398 (nI sa) x v5 v7 v9 v10 (nI (j + 1)) R else f_X12_best_126 k112 f 2398 (nI sa) x v5 v7 v9 (nI j) (nI (j + 1)) R) else f_X12_best_126 k112 f 2398 (nI sa) x v5 v7 v9 v10 (nI (j + 1)) R := by
      intro t0 v10
      unfold f_X12_best_216 f_X12_best_238 f_X12_best_240
      simp only [k_2398, ly_135 hR, y1 j hj12, nJ_cl (show j < 2147483648 by omega), nJ_1 (show j + 1 < 2147483648 by omega), uc, true_and, and_true, and_false, false_and, and_self, if_true, if_false, ite_self, Nat.reduceEqDiff, reduceIte, obt, jlt, jbt, jbd_ite, bind_ite]
    cases B with
    | none =>
      have e : f_X12_best_126 k112 (f + 1) 2398 (nI sa) x v5 v7 v9 (bI none) (nI j) R = f_X12_best_216 k112 (f_X12_best_126 k112 f) 2398 (nI sa) x v5 v7 v9 (-1) (nI j) 1 R := by
        rw [f_X12_best_126]
        show _ = _
        unfold bI f_X12_best_211
        simp only [k_2398, ly_89 hR, pa2, pa3, hz, hle, show ((-1 : Int32) < 0) = True from by decide, true_and, and_true, and_false, false_and, and_self, if_true, if_false, ite_self, Nat.reduceEqDiff, reduceIte, obt, jlt, jbt, jbd_ite, bind_ite]
      rw [e, e216, if_neg (show ¬ (1 : Int32) = 0 by decide)]
      by_cases c : U j = false
      · rw [if_pos c]
        refine move ⟨by omega, c, fun i hi hu => ?_⟩
        by_cases ci : i = j
        · rw [ci]; exact Int.le_refl _
        · exact absurd (h3 i (by omega)) (by rw [hu]; decide)
      · rw [if_neg c]
        refine keep (fun i hi => ?_)
        by_cases ci : i = j
        · rw [ci]; cases h : U j
          · exact absurd h c
          · rfl
        · exact h3 i (by omega)
    | some b =>
      obtain ⟨q1, q2, q3⟩ := h3
      have hb12 : b < 12 := by omega
      have e : f_X12_best_126 k112 (f + 1) 2398 (nI sa) x v5 v7 v9 (bI (some b)) (nI j) R = if bkey d (g j) ≤ bkey d (g b) then f_X12_best_216 k112 (f_X12_best_126 k112 f) 2398 (nI sa) x v5 v7 v9 (nI b) (nI j) 0 R else f_X12_best_216 k112 (f_X12_best_126 k112 f) 2398 (nI sa) x v5 v7 v9 (nI b) (nI j) 1 R := by
        rw [f_X12_best_126]
        show _ = _
        unfold bI f_X12_best_211 f_X12_best_215
        simp only [k_2398, ly_88 hR, ly_89 hR, ly_90 hR, ly_91 hR, pa1, pa2, pa3, hz, hle, nI_neg (show b < 2147483648 by omega), x1 b hb12, x1 j hj12, x2 b hb12, x2 j hj12, xc b hb12, xc j hj12, true_and, and_true, and_false, false_and, and_self, if_true, if_false, ite_self, Nat.reduceEqDiff, reduceIte, obt, jlt, jbt, jbd_ite, bind_ite]
        by_cases c : jAI R 2399 sa = 4
        · have d1 : d = true := by rw [hd, decide_eq_true c]
          obtain ⟨gj, cj⟩ := hv1 d1 j (by omega)
          obtain ⟨gb, cb⟩ := hv1 d1 b (by omega)
          rw [if_pos c, gj, gb, above_ok cj cb, obt]
          have hk : bkey d (g j) ≤ bkey d (g b) ↔ ¬ f_X5_order (g b) < f_X5_order (g j) := by
            unfold bkey; rw [d1, if_pos rfl, if_pos rfl, l_lt]; omega
          simp only [hk]
          by_cases c2 : f_X5_order (g b) < f_X5_order (g j)
          · rw [if_pos c2, if_neg (by decide), if_neg (fun z => z c2)]
          · rw [if_neg c2, if_pos rfl, if_pos c2]
        · have d0 : d = false := by rw [hd, decide_eq_false c]
          have hk : bkey d (g j) ≤ bkey d (g b) ↔ g j ≤ g b := by
            unfold bkey; rw [d0, if_neg (by decide), if_neg (by decide), l_le]
          rw [if_neg c, hv0 d0 j (by omega), hv0 d0 b (by omega)]
          simp only [hk]
      rw [e]
      by_cases c1 : bkey d (g j) ≤ bkey d (g b)
      · rw [if_pos c1, e216, if_pos rfl, ite_self]
        refine keep ⟨by omega, q2, fun i hi hu => ?_⟩
        by_cases ci : i = j
        · rw [ci]; exact c1
        · exact q3 i (by omega) hu
      · rw [if_neg c1, e216, if_neg (show ¬ (1 : Int32) = 0 by decide)]
        by_cases c : U j = false
        · rw [if_pos c]
          refine move ⟨by omega, c, fun i hi hu => ?_⟩
          by_cases ci : i = j
          · rw [ci]; exact Int.le_refl _
          · have := q3 i (by omega) hu; omega
        · rw [if_neg c]
          refine keep ⟨by omega, q2, fun i hi hu => ?_⟩
          by_cases ci : i = j
          · rw [ci] at hu; exact absurd hu c
          · exact q3 i (by omega) hu

def sw (x y z : Nat) : Nat := if z = x then y else if z = y then x else z
theorem sw_sw (x y z : Nat) : sw x y (sw x y z) = z := by
  unfold sw
  by_cases h1 : z = x
  · rw [if_pos h1]
    by_cases h2 : y = x
    · rw [if_pos h2, h2, h1]
    · rw [if_neg h2, if_pos rfl, h1]
  · rw [if_neg h1]
    by_cases h2 : z = y
    · rw [if_pos h2, if_pos rfl, h2]
    · rw [if_neg h2, if_neg h1, if_neg h2]
theorem sw_lt {x y z Z : Nat} (hx : x < Z) (hy : y < Z) (hz : z < Z) : sw x y z < Z := by
  unfold sw
  split
  · exact hy
  · split
    · exact hx
    · exact hz
theorem sw_same {α : Type} {g : Nat → α} {x y z : Nat} (h : g x = g y) : g (sw x y z) = g z := by
  unfold sw
  by_cases h1 : z = x
  · rw [if_pos h1, h1, h]
  · rw [if_neg h1]
    by_cases h2 : z = y
    · rw [if_pos h2, h2, h]
    · rw [if_neg h2]
def q26 (t f a : Nat) : Prop := t = 3 ∧ f = f ∧ a = 2426
theorem q26_K {t f a : Nat} (h : q26 t f a) : qK t f a := by unfold q26 at h; unfold qK; omega
theorem q26_s {R0 R : jM} (hG : Fr q26 R0 R) : jAI R 2399 = jAI R0 2399 ∧ jAI R 2400 = jAI R0 2400 ∧ jAL R 2401 = jAL R0 2401 ∧ jAD R 2402 = jAD R0 2402 :=
  ⟨(hG.2.2.2.1 2399 (by unfold q26; omega)).1, (hG.2.2.2.1 2400 (by unfold q26; omega)).1, (hG.2.2.2.1 2401 (by unfold q26; omega)).2.1, (hG.2.2.2.1 2402 (by unfold q26; omega)).2.2.1⟩
theorem opr_pre {n : Int} {C0 C C' R0 R R' : jM} {v p : Nat} {fl x : Int32} (hF : Fr (pV v) C0 C) (hG : Fr q26 R0 R) (h : OpR n C C' v R R' p fl x) : OpR n C0 C' v R0 R' p fl x := by
  obtain ⟨h1, h2, h3, h4⟩ := h
  obtain ⟨g1, g2, g3, g4⟩ := q26_s hG
  refine ⟨hF.trans h1, (hG.mono (fun _ _ _ => q26_K)).trans h2, fun s hs => ?_, ?_⟩
  · obtain ⟨s1, s2, s3⟩ := h3 s hs
    rw [g1] at s1
    rw [g2] at s2
    rw [g3, g4] at s3
    exact ⟨s1, s2, s3⟩
  · rw [hG.i (by unfold q26; omega), hG.i (by unfold q26; omega), hG.i (by unfold q26; omega)] at h4
    exact h4
theorem bs_loop {n : Int} {C0 R0 : jM} (hC0 : Lay C0) (hR0 : Lay R0) {a b sa p Z X : Nat} (ka : jK a = 7) (kb : jK b = 7) (hab : b ≠ a) (hsa : sa < 1500) (hp : jI R0 92 2398 = nI p) (hp2 : p < 1500) (hZ : Z ≤ 12) {so : Int32} {d : Bool} (hd : d = decide (so = 4)) {t : Int32} (ht : t = if d then 1 else 0) {g : Nat → Int64} (hm1 : jAI R0 2399 sa = so) (hm2 : jAI R0 2400 sa = nI Z)
    (hv1 : d = true → ∀ i, i < Z → jAD R0 2402 (12 * sa + i) = (g i).toUInt64 ∧ vcan (g i)) (hv0 : d = false → ∀ i, i < Z → jAL R0 2401 (12 * sa + i) = g i) {x : Int64} (hx : jAL C0 (b + 1) 0 = x) (hxX : x.toInt = X) (hXZ : X ≤ Z) :
    ∀ (rem fc fr k : Nat) (C R : jM) (v v5 : Int64) (v7 : UInt64) (σ τ : Nat → Nat), k + rem = X → rem < fc → rem < fr → Fr (pV a) C0 C → jI C 52 a = so → jI C 53 a = nI Z → Fr q26 R0 R → (∀ j, j < Z → jAL C (a + 1) j = g (σ j)) → (∀ i, i < Z → jAI R 2426 i = if τ i < k then 1 else 0) → (∀ j, j < Z → σ j < Z ∧ τ (σ j) = j) → (∀ i, i < Z → τ i < Z ∧ σ (τ i) = i) → (d = true → v7 = v.toUInt64 ∧ vcan v) → (d = false → v5 = v) →
    ∃ fl y C' R', f_X3_best_65 fc a b t v (nI k) C = some (fl, C') ∧ f_X12_best_112 fr 2398 (nI sa) x v5 v7 (nI k) R = some (y, R') ∧ OpR n C0 C' a R0 R' p fl y := by
  obtain ⟨pa1, pa2, pa3⟩ := apn hsa
  have kla := kd_val ka
  have klb := kd_val kb
  have A2 : jA (b + 1) 14 (0 : Int32) = true := jAz klb.1 (by rw [klb.2]; decide)
  have hsx : sa < 1500 := hsa
  intro rem
  induction rem with
  | zero =>
    intro fc fr k C R v v5 v7 σ τ h1 h2 h3 hF c52 c53 hG hrow hus hσ hτ w1 w0
    obtain ⟨fc, rfl⟩ : ∃ f, fc = f + 1 := ⟨fc - 1, by omega⟩
    obtain ⟨fr, rfl⟩ : ∃ f, fr = f + 1 := ⟨fr - 1, by omega⟩
    have hC : Lay C := hC0.frW ka hF
    have hR : Lay R := hR0.frK (hG.mono (fun _ _ _ => q26_K))
    have hk : x ≤ (nI k).toInt64 := by rw [l_le, i2l_toInt, nI_toInt (by omega), hxX]; omega
    have hbx : jAL C (b + 1) 0 = x := by rw [(hF.2.2.2.1 (b + 1) (by unfold pV; omega)).2.1]; exact hx
    obtain ⟨q1, q2, q3, q4⟩ := q26_s hG
    have hpR : jI R 92 2398 = nI p := by rw [hG.i (by unfold q26; omega)]; exact hp
    rw [f_X3_best_65, f_X12_best_112]
    unfold f_X3_best_135 f_X3_best_145
    simp only [ka, kb, ly_v hC kb, A2, cl0, hbx, hk, k_2398, ly_88 hR, pa1, pa3, q1, hm1, jid, true_and, and_true, and_false, false_and, and_self, if_true, if_false, ite_self, Nat.reduceEqDiff, reduceIte, obt, jlt, jbt, jbd_ite, bind_ite]
    cases d
    · have t0 : t = 0 := ht
      rw [if_pos t0, if_neg (of_decide_eq_false hd.symm), w0 rfl]
      obtain ⟨C', R', e1, e2, e3⟩ := whole_done (n := n) hC hR ka hpR hp2 v
      exact ⟨_, _, C', R', e1, e2, opr_pre hF hG e3⟩
    · have t1 : t = 1 := ht
      obtain ⟨w2, w3⟩ := w1 rfl
      rw [if_neg (by rw [t1]; decide), if_pos (of_decide_eq_true hd.symm), w2]
      obtain ⟨C', R', e1, e2, e3⟩ := real_done (n := n) hC hR ka hpR hp2 w3
      exact ⟨_, _, C', R', e1, e2, opr_pre hF hG e3⟩
  | succ rem ih =>
    intro fc fr k C R v v5 v7 σ τ h1 h2 h3 hF c52 c53 hG hrow hus hσ hτ w1 w0
    obtain ⟨fc, rfl⟩ : ∃ f, fc = f + 1 := ⟨fc - 1, by omega⟩
    obtain ⟨fr, rfl⟩ : ∃ f, fr = f + 1 := ⟨fr - 1, by omega⟩
    have hC : Lay C := hC0.frW ka hF
    have hR : Lay R := hR0.frK (hG.mono (fun _ _ _ => q26_K))
    have hk : ¬ x ≤ (nI k).toInt64 := by rw [l_le, i2l_toInt, nI_toInt (by omega), hxX]; omega
    have hk12 : ¬ (12 : Int32) ≤ nI k := by rw [show (12 : Int32) = nI 12 from rfl, nJ_le (by omega) (by omega)]; omega
    have hbx : jAL C (b + 1) 0 = x := by rw [(hF.2.2.2.1 (b + 1) (by unfold pV; omega)).2.1]; exact hx
    obtain ⟨q1, q2, q3, q4⟩ := q26_s hG
    have hpR : jI R 92 2398 = nI p := by rw [hG.i (by unfold q26; omega)]; exact hp
    obtain ⟨m, m1, m2, m3, m4⟩ := tk_ok hC ka hZ c53 (k := k) (by omega) (d := d) (by rw [c52]; exact hd)
    have hus2 : ∀ z, z < Z → jAI R 2426 z = if decide (τ z < k) = true then 1 else 0 := fun z hz => by
      rw [hus z hz]
      by_cases c : τ z < k
      · rw [if_pos c, if_pos (decide_eq_true c)]
      · rw [if_neg c, if_neg (by rw [decide_eq_false c]; decide)]
    obtain ⟨i, i1, i2, i3, i4⟩ := sc_loop (k112 := f_X12_best_112 fr) hR hsa hZ (x := x) (v5 := v5) (v7 := v7) (v9 := nI k) (g := g) (U := fun z => decide (τ z < k)) (d := d) (by rw [q1, hm1]; exact hd) (by rw [q2]; exact hm2) (by rw [q4]; exact hv1) (by rw [q3]; exact hv0) hus2 ⟨σ m, (hσ m m2).1, decide_eq_false (by rw [(hσ m m2).2]; omega)⟩ Z 1100000 0 none (by omega) (by omega) (fun z hz => by omega)
    have i2 : ¬ τ i < k := of_decide_eq_false i2
    have hgm : jAL C (a + 1) m = g (σ m) := hrow m m2
    have hsame : g (σ m) = g i := by
      refine bkey_inj (d := d) (Int.le_antisymm (i3 (σ m) (hσ m m2).1 (decide_eq_false (by rw [(hσ m m2).2]; omega))) ?_)
      have := m3 (τ i) (by omega) (hτ i i1).1
      rw [hrow _ (hτ i i1).1, (hτ i i1).2, hgm] at this
      exact this
    have hFt : Fr (pV a) C (tkEnd C a k m) := (frL (C := C) (v := a)).rL (by unfold pV; omega)
    have hGt : Fr q26 R (jrI R 2426 (upd (jAI R 2426) i 1)) := (Fr.refl).rI (by unfold q26; omega)
    have hC2 : Lay (tkEnd C a k m) := hC.frW ka hFt
    have hR2 : Lay (jrI R 2426 (upd (jAI R 2426) i 1)) := hR.frK (hGt.mono (fun _ _ _ => q26_K))
    have hi12 : i < 12 := by omega
    -- the next round
    have next : ∀ (v' v5' : Int64) (v7' : UInt64), (d = true → v7' = v'.toUInt64 ∧ vcan v') → (d = false → v5' = v') → ∃ fl y C' R', f_X3_best_65 fc a b t v' (nI (k + 1)) (tkEnd C a k m) = some (fl, C') ∧ f_X12_best_112 fr 2398 (nI sa) x v5' v7' (nI (k + 1)) (jrI R 2426 (upd (jAI R 2426) i 1)) = some (y, R') ∧ OpR n C0 C' a R0 R' p fl y := by
      intro v' v5' v7' z1 z0
      refine ih fc fr (k + 1) _ _ v' v5' v7' (fun j => sw i (σ m) (σ (sw k m j))) (fun z => sw k m (τ (sw i (σ m) z))) (by omega) (by omega) (by omega) (hF.trans hFt) (by unfold tkEnd; simp only [m_I_sI, m_L_sI, m_R_sI, m_AI_sI, m_AL_sI, m_AD_sI, m_AR_sI, m_n_sI, m_I_sL, m_L_sL, m_R_sL, m_AI_sL, m_AL_sL, m_AD_sL, m_AR_sL, m_n_sL, m_I_sR, m_L_sR, m_R_sR, m_AI_sR, m_AL_sR, m_AD_sR, m_AR_sR, m_n_sR, m_I_rI, m_L_rI, m_R_rI, m_AI_rI, m_AL_rI, m_AD_rI, m_AR_rI, m_n_rI, m_I_rL, m_L_rL, m_R_rL, m_AI_rL, m_AL_rL, m_AD_rL, m_AR_rL, m_n_rL, m_I_rD, m_L_rD, m_R_rD, m_AI_rD, m_AL_rD, m_AD_rD, m_AR_rD, m_n_rD, m_I_rR, m_L_rR, m_R_rR, m_AI_rR, m_AL_rR, m_AD_rR, m_AR_rR, m_n_rR]; exact c52) (by unfold tkEnd; simp only [m_I_sI, m_L_sI, m_R_sI, m_AI_sI, m_AL_sI, m_AD_sI, m_AR_sI, m_n_sI, m_I_sL, m_L_sL, m_R_sL, m_AI_sL, m_AL_sL, m_AD_sL, m_AR_sL, m_n_sL, m_I_sR, m_L_sR, m_R_sR, m_AI_sR, m_AL_sR, m_AD_sR, m_AR_sR, m_n_sR, m_I_rI, m_L_rI, m_R_rI, m_AI_rI, m_AL_rI, m_AD_rI, m_AR_rI, m_n_rI, m_I_rL, m_L_rL, m_R_rL, m_AI_rL, m_AL_rL, m_AD_rL, m_AR_rL, m_n_rL, m_I_rD, m_L_rD, m_R_rD, m_AI_rD, m_AL_rD, m_AD_rD, m_AR_rD, m_n_rD, m_I_rR, m_L_rR, m_R_rR, m_AI_rR, m_AL_rR, m_AD_rR, m_AR_rR, m_n_rR]; exact c53) (hG.trans hGt) (fun j hj => ?_) (fun z hz => ?_) (fun j hj => ?_) (fun z hz => ?_) z1 z0
      · have hsj := sw_lt (show k < Z by omega) m2 hj
        show _ = g (sw i (σ m) (σ (sw k m j)))
        rw [sw_same hsame.symm, ← hrow _ hsj]
        unfold tkEnd sw
        simp only [m_I_sI, m_L_sI, m_R_sI, m_AI_sI, m_AL_sI, m_AD_sI, m_AR_sI, m_n_sI, m_I_sL, m_L_sL, m_R_sL, m_AI_sL, m_AL_sL, m_AD_sL, m_AR_sL, m_n_sL, m_I_sR, m_L_sR, m_R_sR, m_AI_sR, m_AL_sR, m_AD_sR, m_AR_sR, m_n_sR, m_I_rI, m_L_rI, m_R_rI, m_AI_rI, m_AL_rI, m_AD_rI, m_AR_rI, m_n_rI, m_I_rL, m_L_rL, m_R_rL, m_AI_rL, m_AL_rL, m_AD_rL, m_AR_rL, m_n_rL, m_I_rD, m_L_rD, m_R_rD, m_AI_rD, m_AL_rD, m_AD_rD, m_AR_rD, m_n_rD, m_I_rR, m_L_rR, m_R_rR, m_AI_rR, m_AL_rR, m_AD_rR, m_AR_rR, m_n_rR, true_and, and_true, and_false, false_and, and_self, if_true, if_false, ite_self, Nat.reduceEqDiff, reduceIte, obt, jlt, jbt, jbd_ite, bind_ite]
        rw [updL_if, updL_if]
        by_cases c1 : j = k
        · rw [if_pos c1, if_pos c1]
        · rw [if_neg c1, if_neg c1]
          by_cases c2 : j = m
          · rw [if_pos c2, if_pos c2]
          · rw [if_neg c2, if_neg c2]
      · show _ = if sw k m (τ (sw i (σ m) z)) < k + 1 then 1 else 0
        simp only [m_I_sI, m_L_sI, m_R_sI, m_AI_sI, m_AL_sI, m_AD_sI, m_AR_sI, m_n_sI, m_I_sL, m_L_sL, m_R_sL, m_AI_sL, m_AL_sL, m_AD_sL, m_AR_sL, m_n_sL, m_I_sR, m_L_sR, m_R_sR, m_AI_sR, m_AL_sR, m_AD_sR, m_AR_sR, m_n_sR, m_I_rI, m_L_rI, m_R_rI, m_AI_rI, m_AL_rI, m_AD_rI, m_AR_rI, m_n_rI, m_I_rL, m_L_rL, m_R_rL, m_AI_rL, m_AL_rL, m_AD_rL, m_AR_rL, m_n_rL, m_I_rD, m_L_rD, m_R_rD, m_AI_rD, m_AL_rD, m_AD_rD, m_AR_rD, m_n_rD, m_I_rR, m_L_rR, m_R_rR, m_AI_rR, m_AL_rR, m_AD_rR, m_AR_rR, m_n_rR, true_and, and_true, and_false, false_and, and_self, if_true, if_false, ite_self, Nat.reduceEqDiff, reduceIte, obt, jlt, jbt, jbd_ite, bind_ite]
        rw [upd_if, hus z hz]
        by_cases c1 : z = i
        · rw [if_pos c1, c1, show sw i (σ m) i = σ m from if_pos rfl, (hσ m m2).2]
          have : sw k m m = k := by
            unfold sw
            by_cases c : m = k
            · rw [if_pos c, c]
            · rw [if_neg c, if_pos rfl]
          rw [this, if_pos (by omega)]
        · rw [if_neg c1]
          by_cases c2 : z = σ m
          · have e1 : sw i (σ m) z = i := by unfold sw; rw [if_neg c1, if_pos c2]
            have e2 : τ i ≠ m := fun w => c1 (by rw [c2, ← w]; exact (hτ i i1).2)
            rw [e1, c2, (hσ m m2).2, if_neg (by omega), if_neg]
            unfold sw
            by_cases c3 : τ i = k
            · rw [if_pos c3]; omega
            · rw [if_neg c3, if_neg e2]; omega
          · have e1 : sw i (σ m) z = z := by unfold sw; rw [if_neg c1, if_neg c2]
            have e2 : τ z ≠ m := fun w => c2 (by rw [← w]; exact (hτ z hz).2.symm)
            rw [e1]
            unfold sw
            by_cases c3 : τ z = k
            · rw [if_pos c3, if_neg (by omega), if_neg (by omega)]
            · rw [if_neg c3, if_neg e2]
              by_cases c4 : τ z < k
              · rw [if_pos c4, if_pos (by omega)]
              · rw [if_neg c4, if_neg (by omega)]
      · have hsj := sw_lt (show k < Z by omega) m2 hj
        refine ⟨sw_lt i1 (hσ m m2).1 (hσ _ hsj).1, ?_⟩
        show sw k m (τ (sw i (σ m) (sw i (σ m) (σ (sw k m j))))) = j
        rw [sw_sw, (hσ _ hsj).2, sw_sw]
      · have hsz := sw_lt i1 (hσ m m2).1 hz
        refine ⟨sw_lt (show k < Z by omega) m2 (hτ _ hsz).1, ?_⟩
        show sw i (σ m) (σ (sw k m (sw k m (τ (sw i (σ m) z))))) = z
        rw [sw_sw, (hτ _ hsz).2, sw_sw]
    have e1 : f_X3_best_65 (fc + 1) a b t v (nI k) C = if t = 0 then (if (0 : Int64) ≤ ((v ^^^ (v + g i)) &&& (g i ^^^ (v + g i))) then f_X3_best_65 fc a b t (v + g i) (nI (k + 1)) (tkEnd C a k m) else some (6, tkEnd C a k m)) else (f_X5_plus v (g i)).bind (fun x7 => f_X3_best_65 fc a b t x7 (nI (k + 1)) (tkEnd C a k m)) := by
      rw [f_X3_best_65]
      unfold f_X3_best_111 f_X3_best_128 f_X3_isBeyond
      simp only [kb, ly_v hC kb, A2, cl0, hbx, hk, hk12, m4, nJ_1 (show k + 1 < 2147483648 by omega), hgm, hsame, show ((43 : Int32) = 42) = False from by decide, show ((43 : Int32) = 43) = True from by decide, true_and, and_true, and_false, false_and, and_self, if_true, if_false, ite_self, Nat.reduceEqDiff, reduceIte, obt, jlt, jbt, jbd_ite, bind_ite]
      by_cases c : t = 0
      · rw [if_pos c, if_pos c]
        by_cases c2 : (0 : Int64) ≤ ((v ^^^ (v + g i)) &&& (g i ^^^ (v + g i)))
        · rw [if_pos c2, if_pos c2, if_pos c]
        · rw [if_neg c2, if_neg c2, if_neg (show ¬ (1 : Int32) = 0 by decide), if_pos c]
      · rw [if_neg c, if_neg c, if_neg c]
    have e310 : ∀ y, f_X12_best_310 (f_X12_best_112 fr) 2398 (nI sa) x v7 (nI k) (nI i) y (jrI R 2426 (upd (jAI R 2426) i 1)) = (f_X12_plus v7 (jAD R0 2402 (12 * sa + i))).bind (fun x5 => f_X12_best_112 fr 2398 (nI sa) x y x5 (nI (k + 1)) (jrI R 2426 (upd (jAI R 2426) i 1))) := by
      intro y
      have hxi : (((12 : Int32) * nI sa) + nI i).toInt = 12 * sa + i := i12 (nI_toInt (by omega)) hsa (nI_toInt (by omega)) hi12
      have xc : (((12 : Int32) * nI sa) + nI i).toNatClampNeg = 12 * sa + i := by rw [i_cl, hxi]; omega
      have x2 : jA 2402 12 (((12 : Int32) * nI sa) + nI i) = true := jA_iff.mpr ⟨k_2402, by omega, by rw [ln_2402]; omega⟩
      unfold f_X12_best_310
      simp only [k_2398, ly_91 hR2, x2, xc, nJ_1 (show k + 1 < 2147483648 by omega), q4, m_I_sI, m_L_sI, m_R_sI, m_AI_sI, m_AL_sI, m_AD_sI, m_AR_sI, m_n_sI, m_I_sL, m_L_sL, m_R_sL, m_AI_sL, m_AL_sL, m_AD_sL, m_AR_sL, m_n_sL, m_I_sR, m_L_sR, m_R_sR, m_AI_sR, m_AL_sR, m_AD_sR, m_AR_sR, m_n_sR, m_I_rI, m_L_rI, m_R_rI, m_AI_rI, m_AL_rI, m_AD_rI, m_AR_rI, m_n_rI, m_I_rL, m_L_rL, m_R_rL, m_AI_rL, m_AL_rL, m_AD_rL, m_AR_rL, m_n_rL, m_I_rD, m_L_rD, m_R_rD, m_AI_rD, m_AL_rD, m_AD_rD, m_AR_rD, m_n_rD, m_I_rR, m_L_rR, m_R_rR, m_AI_rR, m_AL_rR, m_AD_rR, m_AR_rR, m_n_rR, true_and, and_true, and_false, false_and, and_self, if_true, if_false, ite_self, Nat.reduceEqDiff, reduceIte, obt, jlt, jbt, jbd_ite, bind_ite]
    have e2 : f_X12_best_112 (fr + 1) 2398 (nI sa) x v5 v7 (nI k) R = scE (f_X12_best_112 fr) sa x v5 v7 (nI k) i R := by
      rw [f_X12_best_112]
      simp only [hk, true_and, and_true, and_false, false_and, and_self, if_true, if_false, ite_self, Nat.reduceEqDiff, reduceIte, obt, jlt, jbt, jbd_ite, bind_ite]
      exact i4
    rw [e1, e2]
    unfold scE
    rw [q1, hm1, e310, q3]
    cases d
    · have t0 : t = 0 := ht
      obtain ⟨r, -, hr, -⟩ := o_plus v7.toInt64 (jAD R0 2402 (12 * sa + i)).toInt64
      have uu : ∀ u : UInt64, u.toInt64.toUInt64 = u := fun u => by simp
      rw [uu, uu] at hr
      rw [if_pos t0, if_neg (of_decide_eq_false hd.symm), hv0 rfl i i1, w0 rfl, hr, obt]
      by_cases c : (0 : Int64) ≤ ((v ^^^ (v + g i)) &&& (g i ^^^ (v + g i)))
      · rw [if_pos c, if_pos c]
        exact next _ _ _ (fun z => absurd z (by decide)) (fun _ => rfl)
      · rw [if_neg c, if_neg c]
        refine ⟨6, -1, _, _, rfl, failing_ok _ 6, ?_⟩
        exact opr_pre (C := C) hF (hG.trans hGt) (opr_fail hFt (by decide) (by simp only [m_I_sI, m_L_sI, m_R_sI, m_AI_sI, m_AL_sI, m_AD_sI, m_AR_sI, m_n_sI, m_I_sL, m_L_sL, m_R_sL, m_AI_sL, m_AL_sL, m_AD_sL, m_AR_sL, m_n_sL, m_I_sR, m_L_sR, m_R_sR, m_AI_sR, m_AL_sR, m_AD_sR, m_AR_sR, m_n_sR, m_I_rI, m_L_rI, m_R_rI, m_AI_rI, m_AL_rI, m_AD_rI, m_AR_rI, m_n_rI, m_I_rL, m_L_rL, m_R_rL, m_AI_rL, m_AL_rL, m_AD_rL, m_AR_rL, m_n_rL, m_I_rD, m_L_rD, m_R_rD, m_AI_rD, m_AL_rD, m_AD_rD, m_AR_rD, m_n_rD, m_I_rR, m_L_rR, m_R_rR, m_AI_rR, m_AL_rR, m_AD_rR, m_AR_rR, m_n_rR]; exact hpR))
    · have t1 : t = 1 := ht
      obtain ⟨w2, w3⟩ := w1 rfl
      obtain ⟨g1, g2⟩ := hv1 rfl i i1
      obtain ⟨r, r1, r2, r3⟩ := o_plus v (g i)
      rw [if_neg (by rw [t1]; decide), if_pos (of_decide_eq_true hd.symm), g1, w2, r1, r2, obt, obt]
      exact next _ _ _ (fun _ => ⟨rfl, r3⟩) (fun z => absurd z (by decide))
theorem bs_init {R0 : jM} (hR0 : Lay R0) {sa : Nat} {x : Int64} : ∀ (rem fr k : Nat) (R : jM), k + rem = 12 → rem < fr → Fr q26 R0 R → (∀ i, i < k → jAI R 2426 i = 0) → ∃ R', Fr q26 R0 R' ∧ (∀ i, i < 12 → jAI R' 2426 i = 0) ∧ f_X12_best_82 fr 2398 (nI sa) x (nI k) R = f_X12_best_112 1100000 2398 (nI sa) x 0 FP.dconst0 0 R' := by
  intro rem
  induction rem with
  | zero =>
    intro fr k R h1 h2 hG hu
    obtain ⟨fr, rfl⟩ : ∃ f, fr = f + 1 := ⟨fr - 1, by omega⟩
    have hle : (12 : Int32) ≤ nI k := by rw [show (12 : Int32) = nI 12 from rfl, nJ_le (by omega) (by omega)]; omega
    refine ⟨R, hG, fun i hi => hu i (by omega), ?_⟩
    rw [f_X12_best_82]
    simp only [hle, true_and, and_true, and_false, false_and, and_self, if_true, if_false, ite_self, Nat.reduceEqDiff, reduceIte, obt, jlt, jbt, jbd_ite, bind_ite]
  | succ rem ih =>
    intro fr k R h1 h2 hG hu
    obtain ⟨fr, rfl⟩ : ∃ f, fr = f + 1 := ⟨fr - 1, by omega⟩
    have hle : ¬ (12 : Int32) ≤ nI k := by rw [show (12 : Int32) = nI 12 from rfl, nJ_le (by omega) (by omega)]; omega
    have hR : Lay R := hR0.frK (hG.mono (fun _ _ _ => q26_K))
    have y1 : jA 2426 15 (nI k) = true := jA_n k_2426 (by rw [ln_2426]; omega) (by omega)
    obtain ⟨R', g1, g2, g3⟩ := ih fr (k + 1) (jrI R 2426 (upd (jAI R 2426) k 0)) (by omega) (by omega) (hG.trans ((Fr.refl).rI (by unfold q26; omega))) (fun i hi => by
      simp only [m_I_sI, m_L_sI, m_R_sI, m_AI_sI, m_AL_sI, m_AD_sI, m_AR_sI, m_n_sI, m_I_sL, m_L_sL, m_R_sL, m_AI_sL, m_AL_sL, m_AD_sL, m_AR_sL, m_n_sL, m_I_sR, m_L_sR, m_R_sR, m_AI_sR, m_AL_sR, m_AD_sR, m_AR_sR, m_n_sR, m_I_rI, m_L_rI, m_R_rI, m_AI_rI, m_AL_rI, m_AD_rI, m_AR_rI, m_n_rI, m_I_rL, m_L_rL, m_R_rL, m_AI_rL, m_AL_rL, m_AD_rL, m_AR_rL, m_n_rL, m_I_rD, m_L_rD, m_R_rD, m_AI_rD, m_AL_rD, m_AD_rD, m_AR_rD, m_n_rD, m_I_rR, m_L_rR, m_R_rR, m_AI_rR, m_AL_rR, m_AD_rR, m_AR_rR, m_n_rR, true_and, and_true, and_false, false_and, and_self, if_true, if_false, ite_self, Nat.reduceEqDiff, reduceIte, obt, jlt, jbt, jbd_ite, bind_ite]
      rw [upd_if]
      by_cases c : i = k
      · rw [if_pos c]
      · rw [if_neg c]; exact hu i (by omega))
    refine ⟨R', g1, g2, ?_⟩
    rw [f_X12_best_82]
    simp only [hle, k_2398, ly_135 hR, y1, nJ_cl (show k < 2147483648 by omega), nJ_1 (show k + 1 < 2147483648 by omega), show vp_nar .boolean (0 : Int32) = 0 from by decide, true_and, and_true, and_false, false_and, and_self, if_true, if_false, ite_self, Nat.reduceEqDiff, reduceIte, obt, jlt, jbt, jbd_ite, bind_ite]
    exact g3
theorem a_best {n : Int} {C R : jM} {a b sa sb p : Nat} (hC : Lay C) (hR : Lay R) (ka : jK a = 7) (kb : jK b = 7) (ha : VR n C a R sa) (hb : VR n C b R sb) (hp : jI R 92 2398 = nI p) (hp2 : p < 1500) (hsa : sa < p) (hsb : sb < p) : ∃ fl x C' R', f_X3_best a b C = some (fl, C') ∧ f_X12_best 2398 (nI sa) (nI sb) R = some (x, R') ∧ OpR n C C' a R R' p fl x := by
  obtain ⟨ea1, ea2, ea3⟩ := VR_so ha
  obtain ⟨pa1, pa2, pa3⟩ := apn (show sa < 1500 by omega)
  have A1 : jA (a + 1) 14 (0 : Int32) = true := jAz (kd_val ka).1 (by rw [(kd_val ka).2]; decide)
  have qa := a12p (show sa < 1500 by omega)
  have za := c12p (show sa < 1500 by omega)
  have ia : (nI sa).toInt = sa := nI_toInt (by omega)
  obtain ⟨eb1, eb2, eb3⟩ := VR_so hb
  obtain ⟨pb1, pb2, pb3⟩ := apn (show sb < 1500 by omega)
  have A2 : jA (b + 1) 14 (0 : Int32) = true := jAz (kd_val kb).1 (by rw [(kd_val kb).2]; decide)
  have qb := a12p (show sb < 1500 by omega)
  have zb := c12p (show sb < 1500 by omega)
  have ib : (nI sb).toInt = sb := nI_toInt (by omega)
  have fail : ∀ fl : Int32, 1 ≤ fl.toInt ∧ fl.toInt ≤ 6 → ∃ fl' x C' R', some (fl, C) = some (fl', C') ∧ f_X12_failing 2398 fl R = some (x, R') ∧ OpR n C C' a R R' p fl' x := by
    intro fl hfl
    obtain ⟨R', d1, d2⟩ := fail_done (n := n) (C := C) (a := a) (fl := fl) hp hfl
    exact ⟨_, _, _, R', rfl, d1, d2⟩
  by_cases ca : 2 ≤ (jI C 52 a).toInt ∧ (jI C 52 a).toInt ≤ 4
  · have hra : f_X12_isRow (jI C 52 a) = 1 := by rw [m_isR, if_pos (by omega)]
    have hka : f_X12_isKin (jI C 52 a) = 0 := by rw [m_isK, if_neg (by omega)]
    have hrn : f_X9_isRowOfNumbers a C = some 1 := by rw [isRowOfNumbers_ok ka, if_pos ca]
    by_cases cb : jI C 52 b = 0
    · have hw := VR_num0 hb cb
      obtain ⟨Z, hZ, hZe⟩ := sz_n ea3
      by_cases c0 : (0 : Int64) ≤ jAL C (b + 1) 0
      · by_cases c1 : jAL C (b + 1) 0 ≤ (jI C 53 a).toInt64
        · have hab : b ≠ a := fun z => by rw [z] at cb; rw [cb] at ca; revert ca; decide
          obtain ⟨X, hX⟩ : ∃ X : Nat, (jAL C (b + 1) 0).toInt = X := ⟨(jAL C (b + 1) 0).toInt.toNat, by rw [l_le, t_l0] at c0; omega⟩
          have hXZ : X ≤ Z := by rw [l_le, i2l_toInt, hZe, nI_toInt (by omega)] at c1; omega
          obtain ⟨R1, g1, g2, g3⟩ := bs_init hR (sa := sa) (x := jAL C (b + 1) 0) 12 1100000 0 R (by omega) (by omega) Fr.refl (fun i hi => by omega)
          have hit : ∀ i, i < Z → vitem n (jI C 52 a) (jAL C (a + 1) i) (jAL R 2401 (12 * sa + i)) (jAD R 2402 (12 * sa + i)) := fun i hi => VR_it ha (by unfold vlen; rw [if_pos (by omega), hZe, nI_toInt (by omega)]; omega)
          obtain ⟨fl, y, C', R', z1, z2, z3⟩ := bs_loop (n := n) (sa := sa) hC hR ka kb hab (by omega) hp hp2 hZ (so := jI C 52 a) (d := decide (jI C 52 a = 4)) rfl (t := if decide (jI C 52 a = 4) = true then 1 else 0) rfl (g := jAL C (a + 1)) (by rw [ea1]) (by rw [ea2]; exact hZe)
            (fun hd i hi => by
              have h := hit i hi
              unfold vitem at h
              rw [if_pos (.inr (by rw [of_decide_eq_true hd]; rfl))] at h
              exact h)
            (fun hd i hi => by
              have h := hit i hi
              unfold vitem at h
              have hd := of_decide_eq_false hd
              rw [i_eq, show (4 : Int32).toInt = 4 from rfl] at hd
              rw [if_neg (by omega)] at h
              exact h.1.symm)
            rfl hX hXZ X 1100000 1100000 0 C R1 0 0 FP.dconst0 id id (by omega) (by omega) (by omega) Fr.refl rfl hZe g1 (fun j _ => rfl) (fun i hi => by rw [g2 i (by omega), if_neg (by omega)]) (fun j hj => ⟨hj, rfl⟩) (fun j hj => ⟨hj, rfl⟩) (fun _ => ⟨d0_u, by rw [vcan_iff]; exact fun z => absurd nN_0 z⟩) (fun _ => rfl)
          rw [n0] at z1 z2 g3
          refine ⟨fl, y, C', R', ?_, ?_, z3⟩
          · rw [← z1]
            unfold f_X3_best f_X3_best_59
            simp only [ka, k_2398, ly_v hC ka, A1, cl0, ly_88 hR, ly_89 hR, ly_90 hR, ly_91 hR, pa1, pa2, pa3, ea1, ea2, qa.1, qa.2, za, jid, i10, kb, ly_v hC kb, A2, pb1, pb2, pb3, eb1, eb2, qb.1, qb.2, zb, hrn, cb, c0, c1, decide_eq_true_eq, true_and, and_true, and_false, false_and, and_self, if_true, if_false, ite_self, Nat.reduceEqDiff, reduceIte, obt, jlt, jbt, jbd_ite, bind_ite]
            by_cases c4 : jI C 52 a = 4
            · rw [if_pos c4, if_pos c4]
            · rw [if_neg c4, if_neg c4]
          · rw [← z2, ← g3]
            unfold f_X12_best
            simp only [ka, k_2398, ly_v hC ka, A1, cl0, ly_88 hR, ly_89 hR, ly_90 hR, ly_91 hR, pa1, pa2, pa3, ea1, ea2, qa.1, qa.2, za, jid, i10, kb, ly_v hC kb, A2, pb1, pb2, pb3, eb1, eb2, qb.1, qb.2, zb, hra, hka, cb, ← hw, c0, c1, true_and, and_true, and_false, false_and, and_self, if_true, if_false, ite_self, Nat.reduceEqDiff, reduceIte, obt, jlt, jbt, jbd_ite, bind_ite]
        · have e1 : f_X3_best a b C = some (3, C) := by
            unfold f_X3_best
            simp only [ka, k_2398, ly_v hC ka, A1, cl0, ly_88 hR, ly_89 hR, ly_90 hR, ly_91 hR, pa1, pa2, pa3, ea1, ea2, qa.1, qa.2, za, jid, i10, kb, ly_v hC kb, A2, pb1, pb2, pb3, eb1, eb2, qb.1, qb.2, zb, hrn, cb, c0, c1, true_and, and_true, and_false, false_and, and_self, if_true, if_false, ite_self, Nat.reduceEqDiff, reduceIte, obt, jlt, jbt, jbd_ite, bind_ite]
          have e2 : f_X12_best 2398 (nI sa) (nI sb) R = f_X12_failing 2398 3 R := by
            unfold f_X12_best
            simp only [ka, k_2398, ly_v hC ka, A1, cl0, ly_88 hR, ly_89 hR, ly_90 hR, ly_91 hR, pa1, pa2, pa3, ea1, ea2, qa.1, qa.2, za, jid, i10, kb, ly_v hC kb, A2, pb1, pb2, pb3, eb1, eb2, qb.1, qb.2, zb, hra, hka, cb, ← hw, c0, c1, jid, true_and, and_true, and_false, false_and, and_self, if_true, if_false, ite_self, Nat.reduceEqDiff, reduceIte, obt, jlt, jbt, jbd_ite, bind_ite]
          rw [e1, e2]; exact fail 3 (by decide)
      · have e1 : f_X3_best a b C = some (4, C) := by
          unfold f_X3_best
          simp only [ka, k_2398, ly_v hC ka, A1, cl0, ly_88 hR, ly_89 hR, ly_90 hR, ly_91 hR, pa1, pa2, pa3, ea1, ea2, qa.1, qa.2, za, jid, i10, kb, ly_v hC kb, A2, pb1, pb2, pb3, eb1, eb2, qb.1, qb.2, zb, hrn, cb, c0, true_and, and_true, and_false, false_and, and_self, if_true, if_false, ite_self, Nat.reduceEqDiff, reduceIte, obt, jlt, jbt, jbd_ite, bind_ite]
        have e2 : f_X12_best 2398 (nI sa) (nI sb) R = f_X12_failing 2398 4 R := by
          unfold f_X12_best
          simp only [ka, k_2398, ly_v hC ka, A1, cl0, ly_88 hR, ly_89 hR, ly_90 hR, ly_91 hR, pa1, pa2, pa3, ea1, ea2, qa.1, qa.2, za, jid, i10, kb, ly_v hC kb, A2, pb1, pb2, pb3, eb1, eb2, qb.1, qb.2, zb, hra, hka, cb, ← hw, c0, jid, true_and, and_true, and_false, false_and, and_self, if_true, if_false, ite_self, Nat.reduceEqDiff, reduceIte, obt, jlt, jbt, jbd_ite, bind_ite]
        rw [e1, e2]; exact fail 4 (by decide)
    · have e1 : f_X3_best a b C = some (2, C) := by
        unfold f_X3_best
        simp only [ka, k_2398, ly_v hC ka, A1, cl0, ly_88 hR, ly_89 hR, ly_90 hR, ly_91 hR, pa1, pa2, pa3, ea1, ea2, qa.1, qa.2, za, jid, i10, kb, ly_v hC kb, A2, pb1, pb2, pb3, eb1, eb2, qb.1, qb.2, zb, hrn, cb, true_and, and_true, and_false, false_and, and_self, if_true, if_false, ite_self, Nat.reduceEqDiff, reduceIte, obt, jlt, jbt, jbd_ite, bind_ite]
      have e2 : f_X12_best 2398 (nI sa) (nI sb) R = f_X12_failing 2398 2 R := by
        unfold f_X12_best f_X12_best_33
        simp only [ka, k_2398, ly_v hC ka, A1, cl0, ly_88 hR, ly_89 hR, ly_90 hR, ly_91 hR, pa1, pa2, pa3, ea1, ea2, qa.1, qa.2, za, jid, i10, kb, ly_v hC kb, A2, pb1, pb2, pb3, eb1, eb2, qb.1, qb.2, zb, hra, hka, cb, jid, true_and, and_true, and_false, false_and, and_self, if_true, if_false, ite_self, Nat.reduceEqDiff, reduceIte, obt, jlt, jbt, jbd_ite, bind_ite]
      rw [e1, e2]; exact fail 2 (by decide)
  · have hrn : f_X9_isRowOfNumbers a C = some 0 := by rw [isRowOfNumbers_ok ka, if_neg ca]
    have e1 : f_X3_best a b C = some (2, C) := by
      unfold f_X3_best
      simp only [ka, k_2398, ly_v hC ka, A1, cl0, ly_88 hR, ly_89 hR, ly_90 hR, ly_91 hR, pa1, pa2, pa3, ea1, ea2, qa.1, qa.2, za, jid, i10, kb, ly_v hC kb, A2, pb1, pb2, pb3, eb1, eb2, qb.1, qb.2, zb, hrn, true_and, and_true, and_false, false_and, and_self, if_true, if_false, ite_self, Nat.reduceEqDiff, reduceIte, obt, jlt, jbt, jbd_ite, bind_ite]
    have e2 : f_X12_best 2398 (nI sa) (nI sb) R = f_X12_failing 2398 2 R := by
      unfold f_X12_best f_X12_best_33
      by_cases c : 2 ≤ (jI C 52 a).toInt ∧ (jI C 52 a).toInt ≤ 7
      · have hra : f_X12_isRow (jI C 52 a) = 1 := by rw [m_isR, if_pos c]
        have hka : f_X12_isKin (jI C 52 a) = 1 := by rw [m_isK, if_pos (by omega)]
        simp only [ka, k_2398, ly_v hC ka, A1, cl0, ly_88 hR, ly_89 hR, ly_90 hR, ly_91 hR, pa1, pa2, pa3, ea1, ea2, qa.1, qa.2, za, jid, i10, kb, ly_v hC kb, A2, pb1, pb2, pb3, eb1, eb2, qb.1, qb.2, zb, hra, hka, jid, true_and, and_true, and_false, false_and, and_self, if_true, if_false, ite_self, Nat.reduceEqDiff, reduceIte, obt, jlt, jbt, jbd_ite, bind_ite]
      · have hra : f_X12_isRow (jI C 52 a) = 0 := by rw [m_isR, if_neg c]
        simp only [ka, k_2398, ly_v hC ka, A1, cl0, ly_88 hR, ly_89 hR, ly_90 hR, ly_91 hR, pa1, pa2, pa3, ea1, ea2, qa.1, qa.2, za, jid, i10, kb, ly_v hC kb, A2, pb1, pb2, pb3, eb1, eb2, qb.1, qb.2, zb, hra, jid, true_and, and_true, and_false, false_and, and_self, if_true, if_false, ite_self, Nat.reduceEqDiff, reduceIte, obt, jlt, jbt, jbd_ite, bind_ite]
    rw [e1, e2]; exact fail 2 (by decide)
