/-! PURE: what is taken from a payment -/
theorem jrL_2 {S : jM} {a : Nat} {u w : Nat → Int64} : jrL (jrL S a u) a w = jrL S a w := by
  unfold jrL
  simp only [Prod.mk.injEq, true_and, and_true]
  funext b
  by_cases e : b = a
  · rw [if_pos e, if_pos e]
  · rw [if_neg e, if_neg e, if_neg e]
theorem jrI_2 {S : jM} {a : Nat} {u w : Nat → Int32} : jrI (jrI S a u) a w = jrI S a w := by
  unfold jrI
  simp only [Prod.mk.injEq, true_and, and_true]
  funext b
  by_cases e : b = a
  · rw [if_pos e, if_pos e]
  · rw [if_neg e, if_neg e, if_neg e]
theorem jrI_id {S : jM} {a : Nat} : jrI S a (jAI S a) = S := by
  unfold jrI jAI
  obtain ⟨s1, s2, s3, s4, s5, s6⟩ := S
  simp only [Prod.mk.injEq, true_and, and_true]
  funext b
  by_cases e : b = a
  · rw [if_pos e, e]
  · rw [if_neg e]
def TKr (k : Nat) (u0 : Nat → Int64) (w0 : Nat → Int32) (u : Nat → Int64) (w : Nat → Int32) : Prop := (∀ j : Nat, j < 6 → (u (8 + j)).toInt32 = w (6 * k + j)) ∧ (∀ j : Nat, j < 8 → u j = u0 j) ∧ ∀ q : Nat, ¬ (6 * k ≤ q ∧ q < 6 * k + 6) → w q = w0 q
theorem TKr.set {k : Nat} {u0 : Nat → Int64} {w0 : Nat → Int32} {u : Nat → Int64} {w : Nat → Int32} (h : TKr k u0 w0 u w) {j : Nat} (hj : j < 6) (x : Int64) : TKr k u0 w0 (vp_updL u (8 + j) x) (upd w (6 * k + j) x.toInt32) := by
  obtain ⟨h1, h2, h3⟩ := h
  refine ⟨fun q hq => ?_, fun q hq => ?_, fun q hq => ?_⟩
  · rw [updL_if, upd_if]
    by_cases e : q = j
    · rw [if_pos (by omega), if_pos (by omega)]
    · rw [if_neg (by omega), if_neg (by omega)]; exact h1 q hq
  · rw [updL_if, if_neg (by omega)]; exact h2 q hq
  · rw [upd_if, if_neg (by omega)]; exact h3 q hq
theorem nJ_6 {k j : Nat} (hk : k < 1000) (hj : j < 100) : ((6 : Int32) * nI k) + nI j = nI (6 * k + j) := by
  have hm : (6 : Int32) * nI k = nI (6 * k) := by
    rw [i_eq, i_mul (by rw [nI_toInt (by omega), show (6 : Int32).toInt = 6 from rfl]; omega) (by rw [nI_toInt (by omega), show (6 : Int32).toInt = 6 from rfl]; omega), nI_toInt (by omega), nI_toInt (by omega), show (6 : Int32).toInt = 6 from rfl]; omega
  rw [hm]; exact nJ_add (by omega)
theorem min_ab (a b : Int64) : (if a ≤ b then a else b) = if a < b then a else b := by
  by_cases c : a < b
  · rw [if_pos c, if_pos (by rw [l_le]; rw [l_lt] at c; omega)]
  · rw [if_neg c]
    by_cases d : a ≤ b
    · rw [if_pos d]
      rw [l_lt] at c; rw [l_le] at d
      rw [l_eq]; omega
    · rw [if_neg d]
theorem take_in {C R : jM} (hC : Lay C) (hR : Lay R) (h : rA C R) {i k : Nat} (hi : (i : Int) < (jI C 79 0).toInt) (hk : k < 200) {u0 : Nat → Int64} {w0 : Nat → Int32} (k6 : Nat → Nat → Int32 → Int64 → Int32 → jM → Option (Int64 × jM)) (k202 : Nat → Int32 → Int32 → Int64 → Int32 → jM → Option jM) (rank : Int32) :
    ∀ (m fuel fuel2 j : Nat) (left : Int64) (u : Nat → Int64) (w : Nat → Int32), (j : Int) + m = (jI C 3 (2178 + 3 * i)).toInt → m < fuel → m < fuel2 → TKr k u0 w0 u w →
    ∃ left' u' w', TKr k u0 w0 u' w' ∧ f_X0_takeFrom_16 k6 fuel (2178 + 3 * i) (2197 + k) 8 left rank (nI j) (jrL C (2197 + k) u) = k6 (2178 + 3 * i) (2197 + k) 8 left' (rank + 1) (jrL C (2197 + k) u') ∧
      f_X12_pay_212 k202 fuel2 2398 (nI i) (nI k) left rank (nI j) (jrI R 2450 w) = k202 2398 (nI i) (nI k) left' (rank + 1) (jrI R 2450 w') := by
  obtain ⟨n1, n2, n3, hA, -⟩ := h
  obtain ⟨-, -, -, b4, -, -, -, b8, b9⟩ := hA i hi
  have hi6 : i < 6 := by omega
  have ka : jK (2178 + 3 * i) = 0 := kf_award hi6
  obtain ⟨kp, lp⟩ := kf_pay hk
  rw [Nat.one_mul] at kp lp
  obtain ⟨⟨kc, lc⟩, kr, lr⟩ := kA i hi6
  have e4 : jR C 4 (2178 + 3 * i) = some (2179 + 3 * i) := by rw [ly_a4 hC ka, show 2178 + 3 * i + 1 = 2179 + 3 * i from by omega]
  have e5 : jR C 5 (2178 + 3 * i) = some (2180 + 3 * i) := by rw [ly_a5 hC ka, show 2178 + 3 * i + 2 = 2180 + 3 * i from by omega]
  have a43 : jA 2443 13 (nI i) = true := jA_n k_2443 (by rw [ln_2443]; omega) (by omega)
  have ci : (nI i).toNatClampNeg = i := nJ_cl (by omega)
  intro m
  induction m with
  | zero =>
    intro fuel fuel2 j left u w h1 h2 h3 ht
    obtain ⟨fuel, rfl⟩ : ∃ z, fuel = z + 1 := ⟨fuel - 1, by omega⟩
    obtain ⟨fuel2, rfl⟩ : ∃ z, fuel2 = z + 1 := ⟨fuel2 - 1, by omega⟩
    have e : jI C 3 (2178 + 3 * i) ≤ nI j := by rw [i_le, nI_toInt (by omega)]; omega
    refine ⟨left, u, w, ht, ?_, ?_⟩
    · rw [f_X0_takeFrom_16, if_pos ka, m_I_rL, if_pos e]
      unfold f_X0_takeFrom_84
      rw [jlt]
    · rw [f_X12_pay_212, if_pos k_2398]
      have e' : (jAI R 2443 i ≤ nI j) = True := by rw [← b4]; simp only [e]
      simp only [m_I_sI, m_L_sI, m_R_sI, m_AI_sI, m_AL_sI, m_AD_sI, m_AR_sI, m_n_sI, m_I_sL, m_L_sL, m_R_sL, m_AI_sL, m_AL_sL, m_AD_sL, m_AR_sL, m_n_sL, m_I_sR, m_L_sR, m_R_sR, m_AI_sR, m_AL_sR, m_AD_sR, m_AR_sR, m_n_sR, m_I_rI, m_L_rI, m_R_rI, m_AI_rI, m_AL_rI, m_AD_rI, m_AR_rI, m_n_rI, m_I_rL, m_L_rL, m_R_rL, m_AI_rL, m_AL_rL, m_AD_rL, m_AR_rL, m_n_rL, m_I_rD, m_L_rD, m_R_rD, m_AI_rD, m_AL_rD, m_AD_rD, m_AR_rD, m_n_rD, m_I_rR, m_L_rR, m_R_rR, m_AI_rR, m_AL_rR, m_AD_rR, m_AR_rR, m_n_rR, ly_163 hR, a43, ci, e', true_and, and_true, and_false, false_and, and_self, if_true, if_false, ite_self, Nat.reduceEqDiff, reduceIte, obt, jlt, jbt, jbd_ite, bind_ite]
  | succ m ih =>
    intro fuel fuel2 j left u w h1 h2 h3 ht
    obtain ⟨fuel, rfl⟩ : ∃ z, fuel = z + 1 := ⟨fuel - 1, by omega⟩
    obtain ⟨fuel2, rfl⟩ : ∃ z, fuel2 = z + 1 := ⟨fuel2 - 1, by omega⟩
    have hj6 : j < 6 := by omega
    have e : (jI C 3 (2178 + 3 * i) ≤ nI j) = False := by simp only [i_le, nI_toInt (show j < 2147483648 by omega)]; simp only [eq_iff_iff, iff_false]; omega
    have e' : (jAI R 2443 i ≤ nI j) = False := by rw [← b4]; exact e
    have c8 : (8 : Int32) + nI j = nI (8 + j) := nJ_add (a := 8) (b := j) (by omega)
    have e14 : ((Int32.ofNat (jLen (2197 + k))) ≤ nI (8 + j)) = False := by
      rw [lp]
      have : (Int32.ofNat 14).toInt = 14 := by decide
      simp only [i_le, nI_toInt (show 8 + j < 2147483648 by omega), this]; simp only [eq_iff_iff, iff_false]; omega
    have aR : jA (2180 + 3 * i) 13 (nI j) = true := jA_n kr (by rw [lr]; omega) (by omega)
    have aC : jA (2179 + 3 * i) 13 (nI j) = true := jA_n kc (by rw [lc]; omega) (by omega)
    have aP : jA (2197 + k) 14 (nI (8 + j)) = true := jA_n kp (by rw [lp]; omega) (by omega)
    have cj : (nI j).toNatClampNeg = j := nJ_cl (by omega)
    have c8j : (nI (8 + j)).toNatClampNeg = 8 + j := nJ_cl (by omega)
    have s1 := nJ_1 (a := j) (by omega)
    have ij := nJ_6 (k := i) (j := j) (by omega) (by omega)
    have kj := nJ_6 (k := k) (j := j) (by omega) (by omega)
    have cij : (nI (6 * i + j)).toNatClampNeg = 6 * i + j := nJ_cl (by omega)
    have ckj : (nI (6 * k + j)).toNatClampNeg = 6 * k + j := nJ_cl (by omega)
    have a42 : jA 2442 13 (nI (6 * i + j)) = true := jA_n k_2442 (by rw [ln_2442]; omega) (by omega)
    have a41 : jA 2441 13 (nI (6 * i + j)) = true := jA_n k_2441 (by rw [ln_2441]; omega) (by omega)
    have a50 : jA 2450 13 (nI (6 * k + j)) = true := jA_n k_2450 (by rw [ln_2450]; omega) (by omega)
    obtain ⟨d1, d2⟩ := b9 j (by omega)
    have eC : f_X0_takeFrom_16 k6 (fuel + 1) (2178 + 3 * i) (2197 + k) 8 left rank (nI j) (jrL C (2197 + k) u) = if jAI C (2180 + 3 * i) j = rank then f_X0_takeFrom_16 k6 fuel (2178 + 3 * i) (2197 + k) 8 (left - if (jAI C (2179 + 3 * i) j).toInt64 < left then (jAI C (2179 + 3 * i) j).toInt64 else left) rank (nI (j + 1)) (jrL C (2197 + k) (vp_updL u (8 + j) (if (jAI C (2179 + 3 * i) j).toInt64 < left then (jAI C (2179 + 3 * i) j).toInt64 else left))) else f_X0_takeFrom_16 k6 fuel (2178 + 3 * i) (2197 + k) 8 left rank (nI (j + 1)) (jrL C (2197 + k) u) := by
      rw [f_X0_takeFrom_16]
      simp only [ka, kp, m_I_sI, m_L_sI, m_R_sI, m_AI_sI, m_AL_sI, m_AD_sI, m_AR_sI, m_n_sI, m_I_sL, m_L_sL, m_R_sL, m_AI_sL, m_AL_sL, m_AD_sL, m_AR_sL, m_n_sL, m_I_sR, m_L_sR, m_R_sR, m_AI_sR, m_AL_sR, m_AD_sR, m_AR_sR, m_n_sR, m_I_rI, m_L_rI, m_R_rI, m_AI_rI, m_AL_rI, m_AD_rI, m_AR_rI, m_n_rI, m_I_rL, m_L_rL, m_R_rL, m_AI_rL, m_AL_rL, m_AD_rL, m_AR_rL, m_n_rL, m_I_rD, m_L_rD, m_R_rD, m_AI_rD, m_AL_rD, m_AD_rD, m_AR_rD, m_n_rD, m_I_rR, m_L_rR, m_R_rR, m_AI_rR, m_AL_rR, m_AD_rR, m_AR_rR, m_n_rR, e, c8, e14, e4, e5, aR, aC, aP, cj, c8j, f_X0_takeFrom_78, s1, jrL_2, true_and, and_true, and_false, false_and, and_self, if_true, if_false, ite_self, Nat.reduceEqDiff, reduceIte, obt, jlt, jbt, jbd_ite, bind_ite]
    have eR : f_X12_pay_212 k202 (fuel2 + 1) 2398 (nI i) (nI k) left rank (nI j) (jrI R 2450 w) = if jAI R 2442 (6 * i + j) = rank then f_X12_pay_212 k202 fuel2 2398 (nI i) (nI k) (left - if (jAI R 2441 (6 * i + j)).toInt64 ≤ left then (jAI R 2441 (6 * i + j)).toInt64 else left) rank (nI (j + 1)) (jrI R 2450 (upd w (6 * k + j) (if (jAI R 2441 (6 * i + j)).toInt64 ≤ left then (jAI R 2441 (6 * i + j)).toInt64 else left).toInt32)) else f_X12_pay_212 k202 fuel2 2398 (nI i) (nI k) left rank (nI (j + 1)) (jrI R 2450 w) := by
      rw [f_X12_pay_212]
      by_cases cc : (jAI R 2441 (6 * i + j)).toInt64 ≤ left
      · simp only [k_2398, m_I_sI, m_L_sI, m_R_sI, m_AI_sI, m_AL_sI, m_AD_sI, m_AR_sI, m_n_sI, m_I_sL, m_L_sL, m_R_sL, m_AI_sL, m_AL_sL, m_AD_sL, m_AR_sL, m_n_sL, m_I_sR, m_L_sR, m_R_sR, m_AI_sR, m_AL_sR, m_AD_sR, m_AR_sR, m_n_sR, m_I_rI, m_L_rI, m_R_rI, m_AI_rI, m_AL_rI, m_AD_rI, m_AR_rI, m_n_rI, m_I_rL, m_L_rL, m_R_rL, m_AI_rL, m_AL_rL, m_AD_rL, m_AR_rL, m_n_rL, m_I_rD, m_L_rD, m_R_rD, m_AI_rD, m_AL_rD, m_AD_rD, m_AR_rD, m_n_rD, m_I_rR, m_L_rR, m_R_rR, m_AI_rR, m_AL_rR, m_AD_rR, m_AR_rR, m_n_rR, e', ly_161 hR, ly_162 hR, ly_163 hR, ly_174 hR, a43, a42, a41, a50, ci, ij, kj, cij, ckj, cc, f_X12_pay_277, f_X12_pay_302, s1, jrI_2, true_and, and_true, and_false, false_and, and_self, if_true, if_false, ite_self, Nat.reduceEqDiff, reduceIte, obt, jlt, jbt, jbd_ite, bind_ite]
      · simp only [k_2398, m_I_sI, m_L_sI, m_R_sI, m_AI_sI, m_AL_sI, m_AD_sI, m_AR_sI, m_n_sI, m_I_sL, m_L_sL, m_R_sL, m_AI_sL, m_AL_sL, m_AD_sL, m_AR_sL, m_n_sL, m_I_sR, m_L_sR, m_R_sR, m_AI_sR, m_AL_sR, m_AD_sR, m_AR_sR, m_n_sR, m_I_rI, m_L_rI, m_R_rI, m_AI_rI, m_AL_rI, m_AD_rI, m_AR_rI, m_n_rI, m_I_rL, m_L_rL, m_R_rL, m_AI_rL, m_AL_rL, m_AD_rL, m_AR_rL, m_n_rL, m_I_rD, m_L_rD, m_R_rD, m_AI_rD, m_AL_rD, m_AD_rD, m_AR_rD, m_n_rD, m_I_rR, m_L_rR, m_R_rR, m_AI_rR, m_AL_rR, m_AD_rR, m_AR_rR, m_n_rR, e', ly_161 hR, ly_162 hR, ly_163 hR, ly_174 hR, a43, a42, a41, a50, ci, ij, kj, cij, ckj, cc, f_X12_pay_277, f_X12_pay_302, s1, jrI_2, true_and, and_true, and_false, false_and, and_self, if_true, if_false, ite_self, Nat.reduceEqDiff, reduceIte, obt, jlt, jbt, jbd_ite, bind_ite]
    rw [eC, eR, ← d1, ← d2, min_ab]
    by_cases c : jAI C (2180 + 3 * i) j = rank
    · rw [if_pos c, if_pos c]
      exact ih fuel fuel2 (j + 1) _ _ _ (by omega) (by omega) (by omega) (ht.set hj6 _)
    · rw [if_neg c, if_neg c]
      exact ih fuel fuel2 (j + 1) _ _ _ (by omega) (by omega) (by omega) ht
theorem take_out {C R : jM} (hC : Lay C) (hR : Lay R) (h : rA C R) {i k : Nat} (hi : (i : Int) < (jI C 79 0).toInt) (hk : k < 200) {u0 : Nat → Int64} {w0 : Nat → Int32} :
    ∀ (m fuel fuel2 rank : Nat) (left : Int64) (u : Nat → Int64) (w : Nat → Int32), rank + m = 10 → m < fuel → m < fuel2 → TKr k u0 w0 u w →
    ∃ left' u' w', TKr k u0 w0 u' w' ∧ f_X0_takeFrom_6 fuel (2178 + 3 * i) (2197 + k) 8 left (nI rank) (jrL C (2197 + k) u) = some (left', jrL C (2197 + k) u') ∧
      f_X12_pay_202 fuel2 2398 (nI i) (nI k) left (nI rank) (jrI R 2450 w) = some (jrL (jrI R 2450 w') 2447 (vp_updL (jAL R 2447) (4 * k + 3) left')) := by
  obtain ⟨n1, n2, n3, hA, -⟩ := id h
  obtain ⟨-, -, -, -, -, -, -, b8, -⟩ := hA i hi
  intro m
  induction m with
  | zero =>
    intro fuel fuel2 rank left u w h1 h2 h3 ht
    obtain ⟨fuel, rfl⟩ : ∃ z, fuel = z + 1 := ⟨fuel - 1, by omega⟩
    obtain ⟨fuel2, rfl⟩ : ∃ z, fuel2 = z + 1 := ⟨fuel2 - 1, by omega⟩
    have hr : rank = 10 := by omega
    subst hr
    refine ⟨left, u, w, ht, ?_, ?_⟩
    · rw [f_X0_takeFrom_6, if_pos (by decide)]
    · have ix : ((4 : Int32) * nI k) + (3 : Int32) = nI (4 * k + 3) := by
        have hm : (4 : Int32) * nI k = nI (4 * k) := by
          rw [i_eq, i_mul (by rw [nI_toInt (by omega), show (4 : Int32).toInt = 4 from rfl]; omega) (by rw [nI_toInt (by omega), show (4 : Int32).toInt = 4 from rfl]; omega), nI_toInt (by omega), nI_toInt (by omega), show (4 : Int32).toInt = 4 from rfl]; omega
        rw [hm]; exact nJ_add (a := 4 * k) (b := 3) (by omega)
      have b47 : jA 2447 14 (nI (4 * k + 3)) = true := jA_n k_2447 (by rw [ln_2447]; omega) (by omega)
      have c47 : (nI (4 * k + 3)).toNatClampNeg = 4 * k + 3 := nJ_cl (by omega)
      rw [f_X12_pay_202, if_pos (by decide)]
      simp only [k_2398, m_I_sI, m_L_sI, m_R_sI, m_AI_sI, m_AL_sI, m_AD_sI, m_AR_sI, m_n_sI, m_I_sL, m_L_sL, m_R_sL, m_AI_sL, m_AL_sL, m_AD_sL, m_AR_sL, m_n_sL, m_I_sR, m_L_sR, m_R_sR, m_AI_sR, m_AL_sR, m_AD_sR, m_AR_sR, m_n_sR, m_I_rI, m_L_rI, m_R_rI, m_AI_rI, m_AL_rI, m_AD_rI, m_AR_rI, m_n_rI, m_I_rL, m_L_rL, m_R_rL, m_AI_rL, m_AL_rL, m_AD_rL, m_AR_rL, m_n_rL, m_I_rD, m_L_rD, m_R_rD, m_AI_rD, m_AL_rD, m_AD_rD, m_AR_rD, m_n_rD, m_I_rR, m_L_rR, m_R_rR, m_AI_rR, m_AL_rR, m_AD_rR, m_AR_rR, m_n_rR, ly_171 hR, ix, b47, c47, true_and, and_true, and_false, false_and, and_self, if_true, if_false, ite_self, Nat.reduceEqDiff, reduceIte, obt, jlt, jbt, jbd_ite, bind_ite]
  | succ m ih =>
    intro fuel fuel2 rank left u w h1 h2 h3 ht
    obtain ⟨fuel, rfl⟩ : ∃ z, fuel = z + 1 := ⟨fuel - 1, by omega⟩
    obtain ⟨fuel2, rfl⟩ : ∃ z, fuel2 = z + 1 := ⟨fuel2 - 1, by omega⟩
    obtain ⟨l1, u1, w1, t1, g1, g2⟩ := take_in hC hR h hi hk (f_X0_takeFrom_6 fuel) (f_X12_pay_202 fuel2) (nI rank) (jI C 3 (2178 + 3 * i)).toInt.toNat 1100000 1100000 0 left u w (by omega) (by omega) (by omega) ht
    obtain ⟨l2, u2, w2, t2, g3, g4⟩ := ih fuel fuel2 (rank + 1) l1 u1 w1 (by omega) (by omega) (by omega) t1
    have z0 : (0 : Int32) = nI 0 := rfl
    refine ⟨l2, u2, w2, t2, ?_, ?_⟩
    · rw [f_X0_takeFrom_6, if_neg (by rw [i_lt, nI_toInt (by omega), show (9 : Int32).toInt = 9 from rfl]; omega), z0, g1, nJ_1 (by omega), g3]
    · rw [f_X12_pay_202, if_neg (by rw [i_le, nI_toInt (by omega), show (10 : Int32).toInt = 10 from rfl]; omega), z0, g2, nJ_1 (by omega), g4]
