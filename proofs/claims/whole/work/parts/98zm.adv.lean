/-! PURE: advance -/
theorem pay_loop {v2 : Int32} {i : Nat} : ∀ (m fuel fuel2 : Nat) (mth day : Int32) (acc accR : Int64) (C R : jM), Lay C → Lay R → Rel C R → (i : Int) < (jI C 79 0).toInt → 0 ≤ mth.toInt → mth.toInt ≤ 13 → (jI R 165 2398).toInt ≤ 12 → v2.toInt = (jI R 165 2398).toInt - 1 → (mth.toInt + m = v2.toInt + 1 ∨ (m = 0 ∧ v2.toInt < mth.toInt)) → m < fuel → day = jI C 82 0 →
    ∃ d C' R' mth', f_X11_dues_6 fuel 0 (2178 + 3 * i) v2 day acc mth C = some (acc + d, C') ∧ f_X12_pay_15 (fuel2 + m) 2398 (nI i) accR mth R = f_X12_pay_15 fuel2 2398 (nI i) (accR + d) mth' R' ∧ jI R 165 2398 ≤ mth' ∧ Rel C' R' ∧ Fr pC C C' ∧ Fr pR R R' ∧ Fr (pWk 2071) C C' ∧ Fr qGa R R' := by
  intro m
  induction m with
  | zero =>
    intro fuel fuel2 mth day acc accR C R hC hR h hi h0 h13 h165 hv hm hf hd
    obtain ⟨fuel, rfl⟩ : ∃ z, fuel = z + 1 := ⟨fuel - 1, by omega⟩
    have e : v2 < mth := by rw [i_lt]; omega
    refine ⟨0, C, R, mth, ?_, ?_, by rw [i_le]; omega, h, Fr.refl, Fr.refl, Fr.refl, Fr.refl⟩
    · rw [dues_s, if_pos e, Int64.add_zero]
    · rw [Nat.add_zero, Int64.add_zero]
  | succ m ih =>
    intro fuel fuel2 mth day acc accR C R hC hR h hi h0 h13 h165 hv hm hf hd
    obtain ⟨fuel, rfl⟩ : ∃ z, fuel = z + 1 := ⟨fuel - 1, by omega⟩
    obtain ⟨x, v, C2, R2, g1, g2, g3, g4, g5, g6, g7, g8, g9, g10⟩ := dues_1 hC hR h hi (mth := mth) (v3 := v2) (day := day) ⟨by omega, by omega⟩ (by omega) acc fuel
    have hm1 : (mth + 1).toInt = mth.toInt + 1 := by rw [i_add (by rw [show (1 : Int32).toInt = 1 from rfl]; omega) (by rw [show (1 : Int32).toInt = 1 from rfl]; omega), show (1 : Int32).toInt = 1 from rfl]
    have e79 : jI C2 79 0 = jI C 79 0 := g9.i (by unfold pWk pBg pW; omega)
    have e82 : jI C2 82 0 = jI C 82 0 := g9.i (by unfold pWk pBg pW; omega)
    have e165 : jI R2 165 2398 = jI R 165 2398 := g10.i (by unfold qGa; omega)
    have e139 : jI R 139 2398 = day := by rw [hd]; exact h.N.1.symm
    obtain ⟨d, C', R', mth', k1, k2, k2', k3, k4, k5, k6, k7⟩ := ih fuel fuel2 (mth + 1) day (acc + v) (accR + v) C2 R2 (hC.frC g7) (hR.frR g8) g6 (by rw [e79]; exact hi) (by omega) (by omega) (by rw [e165]; exact h165) (by rw [e165]; exact hv) (by omega) (by omega) (by rw [e82]; exact hd)
    refine ⟨v + d, C', R', mth', ?_, ?_, by rw [e165] at k2'; exact k2', k3, g7.trans k4, g8.trans k5, g9.trans k6, g10.trans k7⟩
    · rw [g1, k1, Int64.add_assoc]
    · rw [← Nat.add_assoc, f_X12_pay_15, if_pos k_2398, if_neg (by rw [i_le]; omega), e139, g3, jbt, jlt, jlt, k2, Int64.add_assoc]
/-- what is paid: both alike -/
def paySum (due behind : Int64) (pc : Int32) : Int64 := if (0 : Int64) ≤ behind then due + behind else due - (if ((due * pc.toInt64) / (100 : Int64)) < (-behind) then ((due * pc.toInt64) / (100 : Int64)) else (-behind))
theorem pay_c {C : jM} {v : Int32} {due behind : Int64} : f_X11_pay 0 v due behind C = f_X11_pay_34 0 v due behind (paySum due behind (jI C 83 0)) C := by
  unfold f_X11_pay paySum
  rw [jlt]
  by_cases c : (0 : Int64) ≤ behind
  · rw [if_pos c, if_pos c]
  · rw [if_neg c, if_neg c, if_pos k_0, jlt]
theorem pay_r {R : jM} {v : Int32} {due behind : Int64} : (if (0 : Int64) ≤ behind then f_X12_pay_105 2398 v behind due (due + behind) R else if ((due * ((jI R 164 2398).toInt64)) / (100 : Int64)) ≤ (-behind) then f_X12_pay_102 2398 v behind due due ((due * ((jI R 164 2398).toInt64)) / (100 : Int64)) R else f_X12_pay_102 2398 v behind due due (-behind) R) = f_X12_pay_105 2398 v behind due (paySum due behind (jI R 164 2398)) R := by
  unfold paySum f_X12_pay_102
  by_cases c : (0 : Int64) ≤ behind
  · rw [if_pos c, if_pos c]
  · rw [if_neg c, if_neg c, ← min_ab]
    by_cases c2 : ((due * ((jI R 164 2398).toInt64)) / (100 : Int64)) ≤ (-behind)
    · rw [if_pos c2, if_pos c2, jlt]
    · rw [if_neg c2, if_neg c2, jlt]
theorem adv_1 {C R : jM} (hC : Lay C) (hR : Lay R) (h : Rel C R) (h87 : (jI C 87 0).toInt < (jI C 86 0).toInt) {v1 v2 : Int32} (hv : v2.toInt < v1.toInt) (fu fu2 : Nat) : ∃ C' R', f_X11_advance_30 (fu + 1) 0 v1 v2 C = f_X11_advance_30 fu 0 v1 (v2 + 1) C' ∧ f_X12_advance_31 (fu2 + 1) 2398 v1 v2 R = f_X12_advance_31 fu2 2398 v1 (v2 + 1) R' ∧ Rel C' R' ∧ Fr pC C C' ∧ Fr pR R R' ∧ (jI C' 87 0).toInt = (jI C 87 0).toInt + 1 ∧ jI C' 86 0 = jI C 86 0 := by
  obtain ⟨n1, n2, n3, hA, -⟩ := h.A
  obtain ⟨y1, y2, y3, -, -⟩ := h.Y
  obtain ⟨r1, r2, r3, r4, r5, r6, r7, r8, r9, r10, r11⟩ := h.R
  obtain ⟨j, hj⟩ : ∃ j : Nat, (jI C 87 0).toInt = j := ⟨(jI C 87 0).toInt.toNat, by omega⟩
  have ej : jI C 87 0 = nI j := nI_is hj (by omega)
  have cj : (nI j).toNatClampNeg = j := nJ_cl (by omega)
  obtain ⟨w1, w2, w3⟩ := r11 j (by omega)
  obtain ⟨i, hi⟩ : ∃ i : Nat, (jAI C 2397 j).toInt = i := ⟨(jAI C 2397 j).toInt.toNat, by omega⟩
  have ei : jAI C 2397 j = nI i := nI_is hi (by omega)
  have eiR : jAI R 2444 j = nI i := by rw [← w1]; exact ei
  have hi79 : (i : Int) < (jI C 79 0).toInt := by omega
  have hi6 : i < 6 := by omega
  have ci : (nI i).toNatClampNeg = i := nJ_cl (by omega)
  have ka : jK (2178 + 3 * i) = 0 := kf_award hi6
  obtain ⟨-, -, b3, -, -, -, b7, -⟩ := hA i hi79
  have t1 : (1 : Int32).toInt = 1 := rfl
  have hm1 : (jI C 84 0 - 1).toInt = (jI C 84 0).toInt - 1 := i_sub1 (by omega)
  obtain ⟨x, x1, x2⟩ := paid_ok hC hR h.Y (nI i)
  obtain ⟨m, hm⟩ : ∃ m : Nat, m = ((jI C 84 0).toInt - (jI C 2 (2178 + 3 * i)).toInt).toNat := ⟨_, rfl⟩
  -- what was due before
  obtain ⟨d, C1, R1, mth', p1, p2, p2', p3, p4, p5, p6, p7⟩ := pay_loop (v2 := jI C 84 0 - 1) (i := i) m 1100000 (1099999 - m + 1) (jI C 2 (2178 + 3 * i)) (jI C 82 0) 0 (-x) C R hC hR h hi79 b7.1 (by omega) (by rw [← r3]; omega) (by rw [hm1, ← r3]) (by omega) (by omega) rfl
  have hC1 : Lay C1 := hC.frC p4
  have hR1 : Lay R1 := hR.frR p5
  have hY1 : rY C1 R := rY_f p6 (Fr.refl (p := fun _ _ _ => False)) (fun t f a => by unfold cY pWk pBg pW; omega) (fun t f a _ z => z) h.Y
  obtain ⟨y, yy1, yy2⟩ := paid_ok hC1 hR hY1 (nI i)
  have exy : y = x := by rw [x2] at yy2; injection yy2 with yy2; exact yy2.symm
  subst exy
  have e79 : jI C1 79 0 = jI C 79 0 := p6.i (by unfold pWk pBg pW; omega)
  have e81 : jI C1 81 0 = jI C 81 0 := p6.i (by unfold pWk pBg pW; omega)
  have e82 : jI C1 82 0 = jI C 82 0 := p6.i (by unfold pWk pBg pW; omega)
  have e84 : jI C1 84 0 = jI C 84 0 := p6.i (by unfold pWk pBg pW; omega)
  have e86 : jI C1 86 0 = jI C 86 0 := p6.i (by unfold pWk pBg pW; omega)
  have e87 : jI C1 87 0 = jI C 87 0 := p6.i (by unfold pWk pBg pW; omega)
  have e165 : jI R1 165 2398 = jI R 165 2398 := p7.i (by unfold qGa; omega)
  have e139 : jI R1 139 2398 = jI R 139 2398 := p7.i (by unfold qGa; omega)
  -- the month's own
  obtain ⟨xx, dv, C2, R2, q1, q2, q3, q4, q5, q6, q7, q8, q9, q10⟩ := dues_1 hC1 hR1 p3 (i := i) (by rw [e79]; exact hi79) (mth := jI C 84 0) (v3 := jI C 84 0) (day := jI C 82 0) ⟨by omega, by omega⟩ (Int.le_refl _) 0 1099999
  have hm2 : (jI C 84 0 + 1).toInt = (jI C 84 0).toInt + 1 := i_add1 (by omega)
  have eD1 : f_X11_dues 0 (2178 + 3 * i) (jI C 2 (2178 + 3 * i)) (jI C 84 0 - 1) (jI C 82 0) C = some (0 + d, C1) := p1
  have eD2 : f_X11_dues 0 (2178 + 3 * i) (jI C 84 0) (jI C 84 0) (jI C 82 0) C1 = some (dv, C2) := by
    unfold f_X11_dues
    rw [show (1100000 : Nat) = 1099999 + 1 from rfl, q1, show (1099999 : Nat) = 1099998 + 1 from rfl, dues_s, if_pos (by rw [i_lt, hm2]; omega), Int64.zero_add]
  have hC2 : Lay C2 := hC1.frC q7
  have hR2 : Lay R2 := hR1.frR q8
  have f79 : jI C2 79 0 = jI C 79 0 := (q9.i (by unfold pWk pBg pW; omega)).trans e79
  have f81 : jI C2 81 0 = jI C 81 0 := (q9.i (by unfold pWk pBg pW; omega)).trans e81
  have f86 : jI C2 86 0 = jI C 86 0 := (q9.i (by unfold pWk pBg pW; omega)).trans e86
  have f87 : jI C2 87 0 = jI C 87 0 := (q9.i (by unfold pWk pBg pW; omega)).trans e87
  obtain ⟨k, hk⟩ : ∃ k : Nat, (jI C 81 0).toInt = k := ⟨(jI C 81 0).toInt.toNat, by omega⟩
  have ek : jI C 81 0 = nI k := nI_is hk (by omega)
  have hk2 : k < 200 := by omega
  obtain ⟨s1, s2, s3, s4, s5, s6, s7, s8, s9, s10, s11⟩ := q6.R
  obtain ⟨C3, R3, u1, u2, u3, u4, u5, u6⟩ := pay2_ok hC2 hR2 q6.A q6.Y s3 (i := i) (k := k) (by rw [f79]; exact hi79) (f81.trans ek) hk2 dv (-y + d) (paySum dv (-y + d) (jI C2 83 0)) q2 q5
  have er : (0 + d : Int64) - y = -y + d := by rw [Int64.zero_add, Int64.sub_eq_add_neg, Int64.add_comm]
  have eP : f_X11_pay 0 (nI i) dv (-y + d) C2 = some C3 := pay_c.trans u1
  have a40 : jA 2440 13 (nI i) = true := jA_n k_2440 (by rw [ln_2440]; omega) (by omega)
  have eQ : f_X12_pay 2398 (nI i) R = some R3 := by
    unfold f_X12_pay
    rw [if_pos k_2398, x2, obt, jlt, ly_159 hR, obt, if_pos a40, ci, jlt, ← b3, show (1100000 : Nat) = 1099999 - m + 1 + m from by omega, p2, f_X12_pay_15, if_pos k_2398, e165, if_pos p2', e139, ← r3, ← h.N.1, q3, jbt, jlt, jlt, pay_r, ← s1]
    exact u2
  have g87 : jI C3 87 0 = nI j := (u4.i (by unfold pPy; omega)).trans (f87.trans ej)
  have g86 : jI C3 86 0 = jI C 86 0 := (u4.i (by unfold pPy; omega)).trans f86
  have g168 : jI R3 168 2398 = nI j := (u5.i (by unfold qPy; omega)).trans (s6.symm.trans (f87.trans ej))
  have j1 := nJ_1 (a := j) (by omega)
  have fC : Fr (fun t f a => pPy k t f a ∨ (t = 0 ∧ f = 87 ∧ a = 0)) C2 (jsI C3 87 0 (nI (j + 1))) := (u4.mono (fun _ _ _ z => .inl z)).sI (.inr ⟨rfl, rfl, rfl⟩)
  have fR : Fr (fun t f a => qPy t f a ∨ (t = 0 ∧ f = 168 ∧ a = 2398)) R2 (jsI R3 168 2398 (nI (j + 1))) := (u5.mono (fun _ _ _ z => .inl z)).sI (.inr ⟨rfl, rfl, rfl⟩)
  have hs : ∀ s, s < 225 → sS R2 (jsI R3 168 2398 (nI (j + 1))) s := fun s _ => fR.sS (fun a _ _ => by unfold qPy; omega) s
  have hx : ∀ t, t < 33 → sX R2 (jsI R3 168 2398 (nI (j + 1))) t := fun t _ => fR.sX (fun a _ _ => by unfold qPy; omega) t
  have hYF : rY (jsI C3 87 0 (nI (j + 1))) (jsI R3 168 2398 (nI (j + 1))) := rY_f (p := fun t f a => t = 0 ∧ f = 87 ∧ a = 0) (q := fun t f a => t = 0 ∧ f = 168 ∧ a = 2398) ((Fr.refl).sI ⟨rfl, rfl, rfl⟩) ((Fr.refl).sI ⟨rfl, rfl, rfl⟩) (fun t f a => by unfold cY; omega) (fun t f a => by unfold mY; omega) u3
  have hk1 : (nI (k + 1)).toInt = k + 1 := nI_toInt (by omega)
  have hj1 : (nI (j + 1)).toInt = j + 1 := nI_toInt (by omega)
  have w83 : jI (jsI C3 87 0 (nI (j + 1))) 83 0 = jI C2 83 0 := fC.i (by unfold pPy; omega)
  have w84 : jI (jsI C3 87 0 (nI (j + 1))) 84 0 = jI C2 84 0 := fC.i (by unfold pPy; omega)
  have w86 : jI (jsI C3 87 0 (nI (j + 1))) 86 0 = jI C2 86 0 := fC.i (by unfold pPy; omega)
  have w79 : jI (jsI C3 87 0 (nI (j + 1))) 79 0 = jI C2 79 0 := fC.i (by unfold pPy; omega)
  have w97 : jAI (jsI C3 87 0 (nI (j + 1))) 2397 = jAI C2 2397 := fC.ai (by unfold pPy; omega)
  have w81 : jI (jsI C3 87 0 (nI (j + 1))) 81 0 = nI (k + 1) := by simp only [m_I_sI, m_L_sI, m_R_sI, m_AI_sI, m_AL_sI, m_AD_sI, m_AR_sI, m_n_sI, m_I_sL, m_L_sL, m_R_sL, m_AI_sL, m_AL_sL, m_AD_sL, m_AR_sL, m_n_sL, m_I_sR, m_L_sR, m_R_sR, m_AI_sR, m_AL_sR, m_AD_sR, m_AR_sR, m_n_sR, m_I_rI, m_L_rI, m_R_rI, m_AI_rI, m_AL_rI, m_AD_rI, m_AR_rI, m_n_rI, m_I_rL, m_L_rL, m_R_rL, m_AI_rL, m_AL_rL, m_AD_rL, m_AR_rL, m_n_rL, m_I_rD, m_L_rD, m_R_rD, m_AI_rD, m_AL_rD, m_AD_rD, m_AR_rD, m_n_rD, m_I_rR, m_L_rR, m_R_rR, m_AI_rR, m_AL_rR, m_AD_rR, m_AR_rR, m_n_rR, u6, true_and, and_true, and_false, false_and, and_self, if_true, if_false, ite_self, Nat.reduceEqDiff, reduceIte, obt, jlt, jbt, jbd_ite, bind_ite]
  have w87 : jI (jsI C3 87 0 (nI (j + 1))) 87 0 = nI (j + 1) := by simp only [m_I_sI, m_L_sI, m_R_sI, m_AI_sI, m_AL_sI, m_AD_sI, m_AR_sI, m_n_sI, m_I_sL, m_L_sL, m_R_sL, m_AI_sL, m_AL_sL, m_AD_sL, m_AR_sL, m_n_sL, m_I_sR, m_L_sR, m_R_sR, m_AI_sR, m_AL_sR, m_AD_sR, m_AR_sR, m_n_sR, m_I_rI, m_L_rI, m_R_rI, m_AI_rI, m_AL_rI, m_AD_rI, m_AR_rI, m_n_rI, m_I_rL, m_L_rL, m_R_rL, m_AI_rL, m_AL_rL, m_AD_rL, m_AR_rL, m_n_rL, m_I_rD, m_L_rD, m_R_rD, m_AI_rD, m_AL_rD, m_AD_rD, m_AR_rD, m_n_rD, m_I_rR, m_L_rR, m_R_rR, m_AI_rR, m_AL_rR, m_AD_rR, m_AR_rR, m_n_rR, true_and, and_true, and_false, false_and, and_self, if_true, if_false, ite_self, Nat.reduceEqDiff, reduceIte, obt, jlt, jbt, jbd_ite, bind_ite]
  have x164 : jI (jsI R3 168 2398 (nI (j + 1))) 164 2398 = jI R2 164 2398 := fR.i (by unfold qPy; omega)
  have x165 : jI (jsI R3 168 2398 (nI (j + 1))) 165 2398 = jI R2 165 2398 := fR.i (by unfold qPy; omega)
  have x167 : jI (jsI R3 168 2398 (nI (j + 1))) 167 2398 = jI R2 167 2398 := fR.i (by unfold qPy; omega)
  have x44 : jAI (jsI R3 168 2398 (nI (j + 1))) 2444 = jAI R2 2444 := fR.ai (by unfold qPy; omega)
  have x168 : jI (jsI R3 168 2398 (nI (j + 1))) 168 2398 = nI (j + 1) := by simp only [m_I_sI, m_L_sI, m_R_sI, m_AI_sI, m_AL_sI, m_AD_sI, m_AR_sI, m_n_sI, m_I_sL, m_L_sL, m_R_sL, m_AI_sL, m_AL_sL, m_AD_sL, m_AR_sL, m_n_sL, m_I_sR, m_L_sR, m_R_sR, m_AI_sR, m_AL_sR, m_AD_sR, m_AR_sR, m_n_sR, m_I_rI, m_L_rI, m_R_rI, m_AI_rI, m_AL_rI, m_AD_rI, m_AR_rI, m_n_rI, m_I_rL, m_L_rL, m_R_rL, m_AI_rL, m_AL_rL, m_AD_rL, m_AR_rL, m_n_rL, m_I_rD, m_L_rD, m_R_rD, m_AI_rD, m_AL_rD, m_AD_rD, m_AR_rD, m_n_rD, m_I_rR, m_L_rR, m_R_rR, m_AI_rR, m_AL_rR, m_AD_rR, m_AR_rR, m_n_rR, true_and, and_true, and_false, false_and, and_self, if_true, if_false, ite_self, Nat.reduceEqDiff, reduceIte, obt, jlt, jbt, jbd_ite, bind_ite]
  have hRR : rR (jsI C3 87 0 (nI (j + 1))) (jsI R3 168 2398 (nI (j + 1))) := by
    unfold rR
    rw [w83, w84, w86, w79, w97, w81, w87, x164, x165, x167, x44, x168]
    exact ⟨s1, s2, s3, s4, s5, rfl, by omega, by rw [f86]; omega, s9, by rw [f86]; omega, s11⟩
  have hRel : Rel (jsI C3 87 0 (nI (j + 1))) (jsI R3 168 2398 (nI (j + 1))) :=
    ⟨rT_f fC fR (fun t f a => by unfold cT pPy; omega) (fun t f a => by unfold mT qPy; omega) q6.T,
      rN_f fC fR (fun t f a => by unfold cN pPy; omega) (fun t f a => by unfold mN qPy; omega) q6.N,
      rP_f fC fR (fun t f a => by unfold cP pPy; omega) (fun t f a => by unfold mP qPy; omega) q6.P,
      rD_f fC fR (fun t f a => by unfold cD pPy; omega) (fun _ _ _ z => z.elim) (hs 0 (by omega)) q6.D,
      rF_f fC fR (fun t f a => by unfold cF pPy; omega) (fun t f a => by unfold mF qPy; omega) (fun s _ _ => hs s (by omega)) q6.F,
      rU_f fC fR (fun t f a => by unfold cU pPy; omega) (fun t f a => by unfold mU qPy; omega) q6.U,
      rA_f fC fR (fun t f a => by unfold cA pPy; omega) (fun t f a => by unfold mA qPy; omega) q6.A,
      hYF, hRR,
      rS_f fC fR (fun t f a => by unfold cS pPy; omega) (fun t f a => by unfold mS qPy; omega) (fun s _ _ => hs s (by omega)) q6.S,
      rE_f fC fR (fun t f a => by unfold cE pPy; omega) (fun t f a => by unfold mE qPy; omega) (fun t _ => hx t (by omega)) q6.E⟩
  have gC : Fr pC C2 (jsI C3 87 0 (nI (j + 1))) := fC.mono (fun t f a z => by
    have := k16 a
    unfold pPy at z
    unfold pC
    rcases z with (z | z) | z
    · omega
    · have := (kf_pay hk2).1
      rw [Nat.one_mul] at this
      rw [z.2, this]
      omega
    · omega)
  have gR : Fr pR R2 (jsI R3 168 2398 (nI (j + 1))) := fR.mono (fun t f a z => by have := k16r a; unfold qPy at z; unfold pR; omega)
  refine ⟨jsI C3 87 0 (nI (j + 1)), jsI R3 168 2398 (nI (j + 1)), ?_, ?_, hRel, p4.trans (q7.trans gC), p5.trans (q8.trans gR), by rw [w87]; omega, w86.trans f86⟩
  · have a97 : jA 2397 13 (nI j) = true := jA_n k_2397 (by rw [ln_2397]; omega) (by omega)
    have a77 : jA 2177 16 (nI i) = true := jA_n k_2177 (by rw [ln_2177]; omega) (by omega)
    rw [f_X11_advance_30, if_neg (by rw [i_le]; omega), if_pos k_0, if_neg (by rw [i_le]; omega), ly_85 hC, obt, if_pos k_2397, if_neg (by rw [i_le, ln_2397, show (Int32.ofNat 6).toInt = 6 from rfl]; omega), if_neg (by rw [i_le, show (200 : Int32).toInt = 200 from rfl]; omega), obt, ej, if_pos a97, cj, ei, jlt, ly_78 hC, obt, if_pos a77, ci, ly_aw hC hi6, obt, obt, if_pos a77, ly_aw hC hi6, obt, if_pos ka, eD1, jbt, yy1, obt, jlt, ly_78 hC1, obt, if_pos a77, ly_aw hC1 hi6, obt, e84, e82, eD2, jbt, er, eP, obt, jlt, g87, j1, jlt]
  · have a44 : jA 2444 13 (nI j) = true := jA_n k_2444 (by rw [ln_2444]; omega) (by omega)
    rw [f_X12_advance_31, if_neg (by rw [i_le]; omega), if_pos k_2398, if_neg (by rw [← r5, ← r6, i_le]; omega), ly_166 hR, obt, ← r6, ej, if_pos a44, cj, eiR, eQ, obt, jlt, g168, j1, jlt]
theorem adv_loop {v1 : Int32} (hv1 : v1.toInt ≤ 6) : ∀ (m fu fu2 : Nat) (v2 : Int32) (C R : jM), Lay C → Lay R → Rel C R → (jI C 86 0).toInt = (jI C 87 0).toInt + m → m < fu → m < fu2 → ∃ x C' R', f_X11_advance_30 fu 0 v1 v2 C = some (x, C') ∧ f_X12_advance_31 fu2 2398 v1 v2 R = some (x, R') ∧ Rel C' R' ∧ Fr pC C C' ∧ Fr pR R R' := by
  intro m
  induction m with
  | zero =>
    intro fu fu2 v2 C R hC hR h hm hf hf2
    obtain ⟨fu, rfl⟩ : ∃ z, fu = z + 1 := ⟨fu - 1, by omega⟩
    obtain ⟨fu2, rfl⟩ : ∃ z, fu2 = z + 1 := ⟨fu2 - 1, by omega⟩
    obtain ⟨r1, r2, r3, r4, r5, r6, -⟩ := h.R
    rw [f_X11_advance_30, f_X12_advance_31]
    by_cases c : v1 ≤ v2
    · rw [if_pos c, if_pos c]
      exact ⟨_, _, _, rfl, rfl, h.fr_self⟩
    · rw [if_neg c, if_neg c, if_pos k_0, if_pos (by rw [i_le]; omega), if_pos k_2398, if_pos (by rw [← r5, ← r6, i_le]; omega)]
      exact ⟨_, _, _, rfl, rfl, h.fr_self⟩
  | succ m ih =>
    intro fu fu2 v2 C R hC hR h hm hf hf2
    obtain ⟨fu, rfl⟩ : ∃ z, fu = z + 1 := ⟨fu - 1, by omega⟩
    obtain ⟨fu2, rfl⟩ : ∃ z, fu2 = z + 1 := ⟨fu2 - 1, by omega⟩
    by_cases c : v1 ≤ v2
    · rw [f_X11_advance_30, f_X12_advance_31, if_pos c, if_pos c]
      exact ⟨_, _, _, rfl, rfl, h.fr_self⟩
    · rw [i_le] at c
      obtain ⟨C1, R1, g1, g2, g3, g4, g5, g6, g7⟩ := adv_1 hC hR h (by omega) (v1 := v1) (v2 := v2) (by omega) fu fu2
      rw [g1, g2]
      obtain ⟨x, C', R', k1, k2, k3, k4, k5⟩ := ih fu fu2 (v2 + 1) C1 R1 (hC.frC g4) (hR.frR g5) g3 (by rw [g6, g7]; omega) (by omega) (by omega)
      exact ⟨x, C', R', k1, k2, k3, g4.trans k4, g5.trans k5⟩
theorem q_advance {C R : jM} (hC : Lay C) (hR : Lay R) (h : Rel C R) (v : Int32) : Sim (f_X11_advance 0 v) (f_X12_advance 2398 v) C R := by
  obtain ⟨r1, r2, r3, r4, r5, r6, r7, r8, r9, -⟩ := h.R
  have t1 : (1 : Int32).toInt = 1 := rfl
  have t6 : (6 : Int32).toInt = 6 := rfl
  have mI : f_X12_in v.toInt64 1 6 = 0 ↔ ¬ (1 ≤ v.toInt ∧ v.toInt ≤ 6) := by rw [in0, i2l_toInt]; exact Iff.rfl
  unfold Sim f_X11_advance f_X12_advance
  by_cases c1 : 1 ≤ v.toInt ∧ v.toInt ≤ 6
  · rw [if_neg (by rw [i_lt]; omega), if_pos (by rw [i_le]; omega), if_pos k_0, if_neg (fun z => mI.mp z c1), if_pos k_2398]
    by_cases c2 : (jI C 87 0).toInt < (jI C 86 0).toInt
    · rw [if_pos (by rw [i_lt]; exact c2), if_neg (by rw [← r5, ← r6, i_eq]; omega)]
      exact adv_loop c1.2 ((jI C 86 0).toInt - (jI C 87 0).toInt).toNat 1100000 1100000 0 C R hC hR h (by omega) (by omega) (by omega)
    · rw [if_neg (by rw [i_lt]; exact c2), if_pos (by rw [← r5, ← r6, i_eq]; omega)]
      exact ⟨_, _, _, rfl, rfl, h.fr_self⟩
  · rw [if_pos (mI.mpr c1)]
    by_cases c0 : v < 1
    · rw [if_pos c0]
      exact ⟨_, _, _, rfl, rfl, h.fr_self⟩
    · rw [if_neg c0, if_neg (by rw [i_lt] at c0; rw [i_le]; omega)]
      exact ⟨_, _, _, rfl, rfl, h.fr_self⟩
