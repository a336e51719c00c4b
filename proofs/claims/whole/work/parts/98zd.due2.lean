/-! PURE: one month's due: the two alike -/
theorem clamp_ok (b : Int64) : ∃ x : Int32, ((if (if b < (0 : Int64) then (0 : Int64) else b) < (1000000000 : Int64) then (if b < (0 : Int64) then (0 : Int64) else b) else (1000000000 : Int64)).toInt32) = x ∧ 0 ≤ x.toInt ∧ x.toInt ≤ 1000000000 ∧ (if (0 : Int64) ≤ b then if b ≤ (1000000000 : Int64) then b else (1000000000 : Int64) else (0 : Int64)) = (if (0 : Int32) < x then x else 0).toInt64 := by
  refine ⟨_, rfl, ?_⟩
  have e0 : (0 : Int64).toInt = 0 := by decide
  have e9 : (1000000000 : Int64).toInt = 1000000000 := by decide
  by_cases c1 : b < 0
  · rw [if_pos c1, if_pos (by decide), if_neg (by rw [l_le]; rw [l_lt] at c1; omega)]
    decide
  · rw [if_neg c1]
    rw [l_lt, e0] at c1
    rw [if_pos (show (0 : Int64) ≤ b by rw [l_le, e0]; omega)]
    by_cases c2 : b < 1000000000
    · have c2' := c2
      rw [l_lt, e9] at c2'
      have ex : b.toInt32.toInt = b.toInt := by
        rw [Int64.toInt_toInt32]
        exact Int.bmod_eq_of_le (by omega) (by omega)
      rw [if_pos c2, if_pos (by rw [l_le, e9]; omega)]
      refine ⟨by omega, by omega, ?_⟩
      rw [l_eq]
      by_cases c3 : (0 : Int32) < b.toInt32
      · rw [if_pos c3, i2l_toInt]; exact ex.symm
      · rw [if_neg c3]
        rw [i_lt, t_0] at c3
        have : ((0 : Int32).toInt64).toInt = 0 := by decide
        rw [this]; omega
    · rw [if_neg c2]
      rw [l_lt, e9] at c2
      refine ⟨by decide, by decide, ?_⟩
      have e : (if (0 : Int32) < (1000000000 : Int64).toInt32 then (1000000000 : Int64).toInt32 else 0).toInt64 = 1000000000 := by decide
      rw [e]
      by_cases c3 : b ≤ 1000000000
      · rw [if_pos c3]
        rw [l_le, e9] at c3
        rw [l_eq, e9]; omega
      · rw [if_neg c3]
theorem cents_f {C : jM} (h : jI C 7 2071 ≠ 0) : f_X1_cents 2071 C = some (-1) := by
  unfold f_X1_cents
  rw [if_pos k_2071, if_neg h]
theorem due_ok {C R : jM} (hC : Lay C) (hR : Lay R) (h : Rel C R) {i : Nat} (hi : (i : Int) < (jI C 79 0).toInt) {mth day : Int32} (hm : -1 ≤ mth.toInt ∧ mth.toInt ≤ 12) : ∃ (o : Option Nat) (x : Int32) (v : Int64) (C2 R2 : jM), f_X11_textInForce 0 (jI C 1 (2178 + 3 * i)) (mth * (30 : Int32)) C = some o ∧ f_X10_work 811 2071 o 6583653 (jI C 0 (2178 + 3 * i)) (mth * (30 : Int32)) day C = some C2 ∧ f_X1_cents 2071 C2 = some x ∧ f_X12_dueOf 2398 (nI i) mth day R = some (v, R2) ∧ v = (if (0 : Int32) < x then x else 0).toInt64 ∧ dueV x R2 ∧ Rel C2 R2 ∧ Fr pC C C2 ∧ Fr pR R R2 ∧ Fr (pWk 2071) C C2 ∧ Fr qGa R R2 := by
  have hFF : isF 2071 := .inr (.inl rfl)
  obtain ⟨n1, n2, n3, hA, -⟩ := h.A
  have hi6 : i < 6 := by omega
  obtain ⟨b1, b2, -, -, -, b6, -⟩ := hA i hi
  obtain ⟨sg, hE⟩ := rE_iff.mp h.E
  have ci : (nI i).toNatClampNeg = i := nJ_cl (by omega)
  have a38 : jA 2438 13 (nI i) = true := jA_n k_2438 (by rw [ln_2438]; omega) (by omega)
  have a39 : jA 2439 13 (nI i) = true := jA_n k_2439 (by rw [ln_2439]; omega) (by omega)
  have h30 : (30 : Int32) * mth = mth * (30 : Int32) := by
    rw [i_eq, i_mul (by rw [show (30 : Int32).toInt = 30 from rfl]; omega) (by rw [show (30 : Int32).toInt = 30 from rfl]; omega), i_mul (by rw [show (30 : Int32).toInt = 30 from rfl]; omega) (by rw [show (30 : Int32).toInt = 30 from rfl]; omega)]
    exact Int.mul_comm _ _
  obtain ⟨o, b, g1, g2, g3⟩ := tif_ok hC hR hE (v := jI C 1 (2178 + 3 * i)) (d := mth * (30 : Int32)) b6
  have cl : ∀ (C2 Ra : jM) (t : Int32), Fr (pWk 2071) C C2 → Fr qGa R Ra → (∀ f, 150 ≤ f → f ≤ 155 → jI Ra f 2398 = jI R f 2398) → jAI Ra 2437 = jAI R 2437 → (∀ s, s < 225 → sS R Ra s) → Rel C2 (jsI Ra 176 2398 t) ∧ Fr pC C C2 ∧ Fr pR R (jsI Ra 176 2398 t) ∧ Fr (pWk 2071) C C2 ∧ Fr qGa R (jsI Ra 176 2398 t) := fun C2 Ra t q1 q2 q3 q4 q5 => by
    have e : Fr (fun t f a => t = 0 ∧ f = 176 ∧ a = 2398) Ra (jsI Ra 176 2398 t) := (Fr.refl).sI (by omega)
    have e2 : Fr qGa R (jsI Ra 176 2398 t) := q2.trans (e.mono (fun t f a z => by unfold qGa; omega))
    obtain ⟨r1, r2, r3⟩ := Rel.case h hFF (by decide) q1 e2 (fun f z1 z2 => by rw [e.i (by omega)]; exact q3 f z1 z2) (by rw [e.ai (by omega)]; exact q4) (fun s hs => (q5 s hs).trans (e.sS (fun a h1 h2 => by omega) s))
    exact ⟨r1, r2, r3, q1, e2⟩
  have v176 : ∀ Ra t, jI (jsI Ra 176 2398 t) 176 2398 = t := fun Ra t => by simp only [m_I_sI, m_L_sI, m_R_sI, m_AI_sI, m_AL_sI, m_AD_sI, m_AR_sI, m_n_sI, m_I_sL, m_L_sL, m_R_sL, m_AI_sL, m_AL_sL, m_AD_sL, m_AR_sL, m_n_sL, m_I_sR, m_L_sR, m_R_sR, m_AI_sR, m_AL_sR, m_AD_sR, m_AR_sR, m_n_sR, m_I_rI, m_L_rI, m_R_rI, m_AI_rI, m_AL_rI, m_AD_rI, m_AR_rI, m_n_rI, m_I_rL, m_L_rL, m_R_rL, m_AI_rL, m_AL_rL, m_AD_rL, m_AR_rL, m_n_rL, m_I_rD, m_L_rD, m_R_rD, m_AI_rD, m_AL_rD, m_AD_rD, m_AR_rD, m_n_rD, m_I_rR, m_L_rR, m_R_rR, m_AI_rR, m_AL_rR, m_AD_rR, m_AR_rR, m_n_rR, true_and, and_true, and_false, false_and, and_self, if_true, if_false, ite_self, Nat.reduceEqDiff, reduceIte, obt, jlt, jbt, jbd_ite, bind_ite]
  have er : ∀ b, f_X12_inForceAt 2398 (jI C 1 (2178 + 3 * i)) (mth * (30 : Int32)) R = some b → f_X12_dueOf 2398 (nI i) mth day R = jbd (f_X12_workDue 2398 b (jI C 0 (2178 + 3 * i)) (mth * (30 : Int32)) day R) (fun x21 S22 => if x21 = 0 then (jR S22 88 2398).bind (fun r25 => if jA r25 13 (jI S22 156 2398) = true then if (jAI S22 r25 (jI S22 156 2398).toNatClampNeg) = 0 then f_X12_dueOf_54 2398 2398 (0 : Int32) S22 else f_X12_dueOf_49 2398 2398 S22 else none) else f_X12_dueOf_49 2398 2398 S22) := fun b hb => by
    unfold f_X12_dueOf
    rw [if_pos k_2398, ly_158 hR, obt, if_pos a39, ci, ← b2, h30, hb, obt, ly_157 hR, obt, if_pos a38, ← b1]
  rw [er b g2]
  -- no rule to work
  have none_case : ∀ C2, f_X10_work 811 2071 o 6583653 (jI C 0 (2178 + 3 * i)) (mth * (30 : Int32)) day C = some C2 → Fr (pBg 2071) C C2 → jI C2 7 2071 = 1 → f_X12_workDue 2398 b (jI C 0 (2178 + 3 * i)) (mth * (30 : Int32)) day R = some (1, R) → ∃ (o : Option Nat) (x : Int32) (v : Int64) (C2 R2 : jM), f_X11_textInForce 0 (jI C 1 (2178 + 3 * i)) (mth * (30 : Int32)) C = some o ∧ f_X10_work 811 2071 o 6583653 (jI C 0 (2178 + 3 * i)) (mth * (30 : Int32)) day C = some C2 ∧ f_X1_cents 2071 C2 = some x ∧ jbd (f_X12_workDue 2398 b (jI C 0 (2178 + 3 * i)) (mth * (30 : Int32)) day R) (fun x21 S22 => if x21 = 0 then (jR S22 88 2398).bind (fun r25 => if jA r25 13 (jI S22 156 2398) = true then if (jAI S22 r25 (jI S22 156 2398).toNatClampNeg) = 0 then f_X12_dueOf_54 2398 2398 (0 : Int32) S22 else f_X12_dueOf_49 2398 2398 S22 else none) else f_X12_dueOf_49 2398 2398 S22) = some (v, R2) ∧ v = (if (0 : Int32) < x then x else 0).toInt64 ∧ dueV x R2 ∧ Rel C2 R2 ∧ Fr pC C C2 ∧ Fr pR R R2 ∧ Fr (pWk 2071) C C2 ∧ Fr qGa R R2 := fun C2 w1 w2 w3 w4 => by
    obtain ⟨r1, r2, r3, r4, r5⟩ := cl C2 R 1 (w2.mono (fun _ _ _ z => .inl z)) Fr.refl (fun _ _ _ => rfl) rfl (fun _ _ => sS.refl)
    refine ⟨o, -1, 0, C2, _, g1, w1, cents_f (by rw [w3]; decide), ?_, by decide, .inl ⟨rfl, v176 _ _⟩, r1, r2, r3, r4, r5⟩
    rw [w4, jbt, if_neg (by decide), due_49]
  rcases g3 with ⟨e1, e2⟩ | ⟨k, w1, w2, w3, w4⟩
  · subst e1 e2
    obtain ⟨C2, q1, q2, q3⟩ := work_no hC hFF 6583653 (jI C 0 (2178 + 3 * i)) (mth * (30 : Int32)) day
    refine none_case C2 q1 q2 q3 ?_
    unfold f_X12_workDue f_X12_workDue_16
    rw [if_neg (by decide), if_neg (by decide)]
  · subst w4
    have hs4 : (jI C 1 (2178 + 3 * i)).toInt.toNat < 4 := by omega
    have hb : b = nI (8 * (jI C 1 (2178 + 3 * i)).toInt.toNat + k) := nI_is (by omega) (by omega)
    have ht : sg (8 * (jI C 1 (2178 + 3 * i)).toInt.toNat + k) < 33 := hE.1 _ (by omega)
    have hT := isT_txt ht
    have hX : rX C (txt (sg (8 * (jI C 1 (2178 + 3 * i)).toInt.toNat + k))) R (8 * (jI C 1 (2178 + 3 * i)).toInt.toNat + k) := by
      obtain ⟨-, z⟩ := hE.2.2.2.2 (jI C 1 (2178 + 3 * i)).toInt.toNat k hs4 w1
      rcases z with ⟨-, -, -, -, z⟩ | ⟨z, -⟩
      · exact z
      · exact absurd w2 (by omega)
    obtain ⟨r0, x1, x2, x3⟩ := work_ok hC hR hFF hT (show 8 * (jI C 1 (2178 + 3 * i)).toInt.toNat + k < 33 by omega) hX h.P h.F 6583653 (jI C 0 (2178 + 3 * i)) (mth * (30 : Int32)) day
    have ewd : f_X12_workDue 2398 b (jI C 0 (2178 + 3 * i)) (mth * (30 : Int32)) day R = f_X12_workDue_16 2398 b (jI C 0 (2178 + 3 * i)) (mth * (30 : Int32)) day r0 R := by
      unfold f_X12_workDue
      rw [hb, if_pos (by rw [i_le, t_0, nI_toInt (by omega)]; omega), if_pos k_2398, x2, obt]
    rcases x3 with ⟨x3, C2, q1, q2, q3⟩ | ⟨r, hr, x3, C2, Ra, x, y1, y2, y3, y4, y5, y6⟩
    · refine none_case C2 q1 q2 q3 ?_
      rw [ewd, x3]
      unfold f_X12_workDue_16
      rw [if_neg (by decide)]
    · have hC2 : Lay C2 := hC.frG (y3.mono (fun t f a z => pWk_G hFF z))
      have e156 : Fr (fun t f a => t = 0 ∧ f = 156 ∧ a = 2398) Ra (jsI Ra 156 2398 x) := (Fr.refl).sI (by omega)
      have hGa : Fr qGa R (jsI Ra 156 2398 x) := (y4.mono (fun t f a z => qWk_G z)).trans (e156.mono (fun t f a z => by unfold qGa; omega))
      have hLa : Lay (jsI Ra 156 2398 x) := hR.frqG hGa
      have v156 : jI (jsI Ra 156 2398 x) 156 2398 = x := by simp only [m_I_sI, m_L_sI, m_R_sI, m_AI_sI, m_AL_sI, m_AD_sI, m_AR_sI, m_n_sI, m_I_sL, m_L_sL, m_R_sL, m_AI_sL, m_AL_sL, m_AD_sL, m_AR_sL, m_n_sL, m_I_sR, m_L_sR, m_R_sR, m_AI_sR, m_AL_sR, m_AD_sR, m_AR_sR, m_n_sR, m_I_rI, m_L_rI, m_R_rI, m_AI_rI, m_AL_rI, m_AD_rI, m_AR_rI, m_n_rI, m_I_rL, m_L_rL, m_R_rL, m_AI_rL, m_AL_rL, m_AD_rL, m_AR_rL, m_n_rL, m_I_rD, m_L_rD, m_R_rD, m_AI_rD, m_AL_rD, m_AD_rD, m_AR_rD, m_n_rD, m_I_rR, m_L_rR, m_R_rR, m_AI_rR, m_AL_rR, m_AD_rR, m_AR_rR, m_n_rR, true_and, and_true, and_false, false_and, and_self, if_true, if_false, ite_self, Nat.reduceEqDiff, reduceIte, obt, jlt, jbt, jbd_ite, bind_ite]
      have cl2 : ∀ t, Rel C2 (jsI (jsI Ra 156 2398 x) 176 2398 t) ∧ Fr pC C C2 ∧ Fr pR R (jsI (jsI Ra 156 2398 x) 176 2398 t) ∧ Fr (pWk 2071) C C2 ∧ Fr qGa R (jsI (jsI Ra 156 2398 x) 176 2398 t) := fun t => cl C2 (jsI Ra 156 2398 x) t y3 hGa (fun f z1 z2 => by rw [e156.i (by omega), y4.i (by unfold qWk qBg qW; omega)]) (by rw [e156.ai (by omega), y4.ai (by unfold qWk qBg qW; omega)]) (fun s hs => (y5 s (by omega)).trans (e156.sS (fun a h1 h2 => by omega) s))
      have ew2 : f_X12_workDue 2398 b (jI C 0 (2178 + 3 * i)) (mth * (30 : Int32)) day R = if 0 ≤ x then some (0, jsI Ra 156 2398 x) else some (jI (jsI Ra 156 2398 x) 126 2398, jsI Ra 156 2398 x) := by
        rw [ewd]
        unfold f_X12_workDue_16
        rw [if_pos (by rw [x3, i_le, t_0, nI_toInt (by omega)]; omega), if_pos k_2398, hb, y2, jbt, jlt, v156]
      obtain ⟨l1, l2, l3, l4, l5⟩ := hC2.2.2.2.2.2.1 2071 hFF.k
      obtain ⟨q1, q2, q3, q4, q5⟩ := aC hFF hr
      obtain ⟨w, p, sc, hEd, h6, hcw⟩ := y6
      have p226 := hEd.2.2.2.1
      have h400 := hEd.1.2.2
      rw [ew2]
      rcases hcw with ⟨ok, s, s2, s3, s4⟩ | ⟨z1, c, z2⟩
      · subst s3
        have hs15 : s < 1500 := by omega
        obtain ⟨pa1, pa2, pa3⟩ := apn hs15
        have qa := (a12p hs15).1
        have za := c12p hs15
        have s4' : VR (jI C 31 1).toInt C2 (2076 + 2 * r) (jsI Ra 156 2398 (nI s)) s := s4.c sP.refl sP.refl (e156.sS (fun a h1 h2 => by omega) s)
        obtain ⟨es1, -, -⟩ := VR_so s4'
        have kf : jK (2076 + 2 * r) = 7 := hFF.fig hr
        have kz : jA (2076 + 2 * r + 1) 14 0 = true := jAz (kd_val kf).1 (by rw [(kd_val kf).2]; decide)
        have lv : jR C2 54 (2076 + 2 * r) = some (2076 + 2 * r + 1) := ly_v hC2 kf
        have l5' : jAR C2 2075 r = some (2076 + 2 * r) := l5 r hr
        have ec : f_X1_cents 2071 C2 = if jI C2 52 (2076 + 2 * r) = 0 then some ((if (if jAL C2 (2076 + 2 * r + 1) 0 < (0 : Int64) then (0 : Int64) else jAL C2 (2076 + 2 * r + 1) 0) < (1000000000 : Int64) then (if jAL C2 (2076 + 2 * r + 1) 0 < (0 : Int64) then (0 : Int64) else jAL C2 (2076 + 2 * r + 1) 0) else (1000000000 : Int64)).toInt32) else some (-1 : Int32) := by
          unfold f_X1_cents
          rw [if_pos k_2071, if_pos ok.1, l4, obt, h6, if_pos q4, q5, l5', obt, if_pos kf]
          by_cases c0 : jI C2 52 (2076 + 2 * r) = 0
          · rw [if_pos c0, if_pos c0, obt, if_pos q4, l5', obt, if_pos kf, lv, obt, if_pos kz, cl0]
          · rw [if_neg c0, if_neg c0]
        rw [if_pos (by rw [i_le, t_0, nI_toInt (by omega)]; omega), jbt, if_pos rfl, ly_88 hLa, obt, v156, if_pos pa1, pa3, es1]
        by_cases c0 : jI C2 52 (2076 + 2 * r) = 0
        · have ev := VR_num0 s4' c0
          obtain ⟨r1, r2, r3, r4, r5⟩ := cl2 0
          obtain ⟨xx, f1, f2, f3, f4⟩ := clamp_ok (jAL C2 (2076 + 2 * r + 1) 0)
          rw [if_pos c0] at ec
          refine ⟨_, xx, _, C2, jsI (jsI Ra 156 2398 (nI s)) 176 2398 0, g1, y1, by rw [ec, f1], ?_, rfl, .inr ⟨f2, f3, v176 _ _⟩, r1, r2, r3, r4, r5⟩
          have l90 : jR (jsI (jsI Ra 156 2398 (nI s)) 176 2398 0) 90 2398 = some 2401 := ly_90 hLa
          have v156' : jI (jsI (jsI Ra 156 2398 (nI s)) 176 2398 0) 156 2398 = nI s := v156
          have e01 : jAL (jsI (jsI Ra 156 2398 (nI s)) 176 2398 0) 2401 (12 * s) = jAL C2 (2076 + 2 * r + 1) 0 := ev.symm
          rw [if_pos c0, ← f4]
          unfold f_X12_dueOf_54
          rw [if_pos k_2398, if_pos (by decide), jlt, if_pos k_2398, v176, if_pos rfl, l90, obt, v156', if_pos qa, za, e01, jlt]
          by_cases d1 : (0 : Int64) ≤ jAL C2 (2076 + 2 * r + 1) 0
          · rw [if_pos d1, if_pos d1]
            by_cases d2 : jAL C2 (2076 + 2 * r + 1) 0 ≤ 1000000000
            · rw [if_pos d2, if_pos d2]
            · rw [if_neg d2, if_neg d2]
          · rw [if_neg d1, if_neg d1]
        · obtain ⟨r1, r2, r3, r4, r5⟩ := cl2 1
          rw [if_neg c0] at ec
          refine ⟨_, -1, 0, C2, _, g1, y1, ec, ?_, by decide, .inl ⟨rfl, v176 _ _⟩, r1, r2, r3, r4, r5⟩
          rw [if_neg c0, due_49]
      · subst z1
        obtain ⟨fc1, fc2, fc3, fc4⟩ := z2
        have hc0 : ¬ c = 0 := fun z => by rw [z, t_0] at fc1; omega
        obtain ⟨r1, r2, r3, r4, r5⟩ := cl2 1
        have v126 : jI (jsI Ra 156 2398 (-1)) 126 2398 = c := by rw [e156.i (by omega)]; exact fc3
        refine ⟨_, -1, 0, C2, _, g1, y1, cents_f (by rw [fc2]; exact hc0), ?_, by decide, .inl ⟨rfl, v176 _ _⟩, r1, r2, r3, r4, r5⟩
        rw [if_neg (by decide), jbt, v126, if_neg hc0, due_49]
