/-! PURE: operators on numbers: both answers -/
theorem jid {o : Option (Int32 × jM)} : jbd o (fun x S => some (x, S)) = o := by cases o <;> rfl
theorem i10 : ((1 : Int32) = 0) = False := by decide
theorem c_isn1 {C : jM} {v : Nat} (hk : jK v = 7) (h0 : 0 ≤ (jI C 52 v).toInt) (h : (jI C 52 v).toInt < 2) : f_X9_isNumber v C = some 1 := by rw [isNumber_ok hk, if_pos (by omega)]
theorem c_isn0 {C : jM} {v : Nat} (hk : jK v = 7) (h : ¬ (jI C 52 v).toInt < 2) : f_X9_isNumber v C = some 0 := by rw [isNumber_ok hk, if_neg (by omega)]
theorem m_isn1 {so : Int32} (h : so.toInt < 2) : f_X12_isNumber so = 1 := by unfold f_X12_isNumber; rw [if_neg (by rw [i_le, show (2 : Int32).toInt = 2 from rfl]; omega)]
theorem m_isn0 {so : Int32} (h : ¬ so.toInt < 2) : f_X12_isNumber so = 0 := by unfold f_X12_isNumber; rw [if_pos (by rw [i_le, show (2 : Int32).toInt = 2 from rfl]; omega)]
theorem frL {C : jM} {v : Nat} {r : Nat → Int64} : Fr (pV v) C (jrL C (v + 1) r) := (Fr.refl).rL (by unfold pV; omega)
theorem cset {C : jM} {v : Nat} {b : Int64} (h1 : jI C 52 v = 0) (h2 : jI C 53 v = 0) : jI (jrL C (v + 1) (vp_updL (jAL C (v + 1)) 0 b)) 52 v = 0 ∧ jI (jrL C (v + 1) (vp_updL (jAL C (v + 1)) 0 b)) 53 v = 0 ∧ jAL (jrL C (v + 1) (vp_updL (jAL C (v + 1)) 0 b)) (v + 1) 0 = b := by
  simp only [m_I_sI, m_L_sI, m_R_sI, m_AI_sI, m_AL_sI, m_AD_sI, m_AR_sI, m_n_sI, m_I_sL, m_L_sL, m_R_sL, m_AI_sL, m_AL_sL, m_AD_sL, m_AR_sL, m_n_sL, m_I_sR, m_L_sR, m_R_sR, m_AI_sR, m_AL_sR, m_AD_sR, m_AR_sR, m_n_sR, m_I_rI, m_L_rI, m_R_rI, m_AI_rI, m_AL_rI, m_AD_rI, m_AR_rI, m_n_rI, m_I_rL, m_L_rL, m_R_rL, m_AI_rL, m_AL_rL, m_AD_rL, m_AR_rL, m_n_rL, m_I_rD, m_L_rD, m_R_rD, m_AI_rD, m_AL_rD, m_AD_rD, m_AR_rD, m_n_rD, m_I_rR, m_L_rR, m_R_rR, m_AI_rR, m_AL_rR, m_AD_rR, m_AR_rR, m_n_rR, true_and, and_true, and_false, false_and, and_self, if_true, if_false, ite_self, Nat.reduceEqDiff, reduceIte, obt, jlt, jbt, jbd_ite, bind_ite, updL_if]
  exact ⟨h1, h2⟩
theorem num_sz {so sz : Int32} (h : vshape so sz) (h2 : so.toInt < 2) : sz = 0 := by rw [i_eq, t_0]; exact h.2.2.2.2 (.inl h2)
theorem real_op {k k' : Int32} (hk : (k = 43 ∧ k' = 143) ∨ (k = 45 ∧ k' = 145) ∨ (k = 42 ∧ k' = 142) ∨ (k = 47 ∧ k' = 147) ∨ (k = 37 ∧ k' = 137)) {C R : jM} {a : Nat} (ka : jK a = 7) (x y : Int64) :
    ∃ r, vcan r ∧ f_X3_arithmetic_108 k a x y C = (f_X9_setNumber a 1 r C).bind (fun S => some ((0 : Int32), S)) ∧ (if k' = (143 : Int32) then (f_X12_plus x.toUInt64 y.toUInt64).bind (fun x22 => f_X12_arithmetic_140 2398 x22 R) else if k' = (145 : Int32) then (f_X12_minus x.toUInt64 y.toUInt64).bind (fun x20 => f_X12_arithmetic_140 2398 x20 R) else if k' = (142 : Int32) then (f_X12_times x.toUInt64 y.toUInt64).bind (fun x18 => f_X12_arithmetic_140 2398 x18 R) else if k' = (147 : Int32) then (f_X12_by x.toUInt64 y.toUInt64).bind (fun x16 => f_X12_arithmetic_140 2398 x16 R) else (f_X12_rest x.toUInt64 y.toUInt64).bind (fun x14 => f_X12_arithmetic_140 2398 x14 R)) = f_X12_ofReal 2398 r.toUInt64 R := by
  unfold f_X3_arithmetic_108 f_X12_arithmetic_140
  rcases hk with ⟨rfl, rfl⟩ | ⟨rfl, rfl⟩ | ⟨rfl, rfl⟩ | ⟨rfl, rfl⟩ | ⟨rfl, rfl⟩
  · obtain ⟨r, g1, g2, g3⟩ := o_plus x y
    refine ⟨r, g3, ?_, ?_⟩
    · rw [if_neg (by decide), if_pos rfl, g1, obt, if_pos ka]
    · rw [if_pos rfl, g2, obt, if_pos k_2398, jid]
  · obtain ⟨r, g1, g2, g3⟩ := o_minus x y
    refine ⟨r, g3, ?_, ?_⟩
    · rw [if_neg (by decide), if_neg (by decide), if_pos rfl, g1, obt, if_pos ka]
    · rw [if_neg (by decide), if_pos rfl, g2, obt, if_pos k_2398, jid]
  · obtain ⟨r, g1, g2, g3⟩ := o_times x y
    refine ⟨r, g3, ?_, ?_⟩
    · rw [if_pos rfl, g1, obt, if_pos ka]
    · rw [if_neg (by decide), if_neg (by decide), if_pos rfl, g2, obt, if_pos k_2398, jid]
  · obtain ⟨r, g1, g2, g3⟩ := o_over x y
    refine ⟨r, g3, ?_, ?_⟩
    · rw [if_neg (by decide), if_neg (by decide), if_neg (by decide), if_pos rfl, g1, obt, if_pos ka]
    · rw [if_neg (by decide), if_neg (by decide), if_neg (by decide), if_pos rfl, g2, obt, if_pos k_2398, jid]
  · obtain ⟨r, g1, g2, g3⟩ := o_rem x y
    refine ⟨r, g3, ?_, ?_⟩
    · rw [if_neg (by decide), if_neg (by decide), if_neg (by decide), if_neg (by decide), g1, obt, if_pos ka]
    · rw [if_neg (by decide), if_neg (by decide), if_neg (by decide), if_neg (by decide), g2, obt, if_pos k_2398, jid]
/-- both operands as doubles -/
theorem asR2 {n : Int} {C R : jM} {a b sa sb p : Nat} (hC : Lay C) (hR : Lay R) (ka : jK a = 7) (kb : jK b = 7) (ha : VR n C a R sa) (hb : VR n C b R sb) (hp : jI R 92 2398 = nI p) (hp2 : p < 1500) (hsa : sa < p) (hsb : sb < p) (ca : (jI C 52 a).toInt < 2) (cb : (jI C 52 b).toInt < 2) : ∃ x y, vcan x ∧ vcan y ∧ f_X12_asReal 2398 (nI sa) R = some x.toUInt64 ∧ f_X12_asReal 2398 (nI sb) R = some y.toUInt64 ∧ (if jI C 52 a = 1 then some (jAL C (a + 1) 0) else f_X5_nearest (jAL C (a + 1) 0)) = some x ∧ (if jI C 52 b = 1 then some (jAL C (b + 1) 0) else f_X5_nearest (jAL C (b + 1) 0)) = some y := by
  obtain ⟨x, x1, x2, x3⟩ := asR hR ha (by omega) ca
  obtain ⟨y, y1, y2, y3⟩ := asR hR hb (by omega) cb
  exact ⟨x, y, x3, y3, x2, y2, x1, y1⟩
theorem bind_num {α : Type} {so : Int32} {b x : Int64} {f : Int64 → Option α} (h : (if so = 1 then some b else f_X5_nearest b) = some x) : (if so = 1 then f b else (f_X5_nearest b).bind f) = f x := by
  by_cases c : so = 1
  · rw [if_pos c] at h ⊢; injection h with h; rw [h]
  · rw [if_neg c] at h ⊢; rw [h, obt]
theorem real_done {n : Int} {C R : jM} (hC : Lay C) (hR : Lay R) {a p : Nat} (ka : jK a = 7) (hp : jI R 92 2398 = nI p) (hp2 : p < 1500) {r : Int64} (hr : vcan r) : ∃ C' R', (f_X9_setNumber a 1 r C).bind (fun S => some ((0 : Int32), S)) = some (0, C') ∧ f_X12_ofReal 2398 r.toUInt64 R = some (nI p, R') ∧ OpR n C C' a R R' p 0 (nI p) := by
  rw [setNumber_ok hC ka, obt]
  obtain ⟨h1, h2, h3⟩ := cnum (C := C) (v := a) (so := 1) (b := r)
  obtain ⟨R', g1, g2⟩ := opr_real (n := n) hR setNumber_fr h1 h2 h3 hr hp hp2
  exact ⟨_, R', rfl, g1, g2⟩
theorem whole_done {n : Int} {C R : jM} (hC : Lay C) (hR : Lay R) {a p : Nat} (ka : jK a = 7) (hp : jI R 92 2398 = nI p) (hp2 : p < 1500) (w : Int64) : ∃ C' R', (f_X9_setNumber a 0 w C).bind (fun S => some ((0 : Int32), S)) = some (0, C') ∧ f_X12_ofWhole 2398 w R = some (nI p, R') ∧ OpR n C C' a R R' p 0 (nI p) := by
  rw [setNumber_ok hC ka, obt]
  obtain ⟨h1, h2, h3⟩ := cnum (C := C) (v := a) (so := 0) (b := w)
  obtain ⟨R', g1, g2⟩ := opr_whole (n := n) hR setNumber_fr h1 h2 h3 hp hp2
  exact ⟨_, R', rfl, g1, g2⟩
theorem fail_done {n : Int} {C R : jM} {a p : Nat} (hp : jI R 92 2398 = nI p) {fl : Int32} (h : 1 ≤ fl.toInt ∧ fl.toInt ≤ 6) : ∃ R', f_X12_failing 2398 fl R = some (-1, R') ∧ OpR n C C a R R' p fl (-1) := ⟨_, failing_ok R fl, opr_fail Fr.refl h hp⟩
theorem a_arith {n : Int} {C R : jM} {a b sa sb p : Nat} (hC : Lay C) (hR : Lay R) (ka : jK a = 7) (kb : jK b = 7) (ha : VR n C a R sa) (hb : VR n C b R sb) (hp : jI R 92 2398 = nI p) (hp2 : p < 1500) (hsa : sa < p) (hsb : sb < p) {k k' : Int32} (hk : (k = 43 ∧ k' = 143) ∨ (k = 45 ∧ k' = 145) ∨ (k = 42 ∧ k' = 142) ∨ (k = 47 ∧ k' = 147) ∨ (k = 37 ∧ k' = 137)) :
    ∃ fl x C' R', f_X3_arithmetic k a b C = some (fl, C') ∧ f_X12_arithmetic 2398 k' (nI sa) (nI sb) R = some (x, R') ∧ OpR n C C' a R R' p fl x := by
  obtain ⟨ea1, ea2, ea3⟩ := VR_so ha
  obtain ⟨pa1, pa2, pa3⟩ := apn (show sa < 1500 by omega)
  have A1 : jA (a + 1) 14 (0 : Int32) = true := jAz (kd_val ka).1 (by rw [(kd_val ka).2]; decide)
  have qa := a12p (show sa < 1500 by omega)
  have za := c12p (show sa < 1500 by omega)
  have ia : (nI sa).toInt = sa := nI_toInt (by omega)
  obtain ⟨eb1, eb2, eb3⟩ := VR_so hb
  obtain ⟨pb1, pb2, pb3⟩ := apn (show sb < 1500 by omega)
  have A2 : jA (b + 1) 14 (0 : Int32) = true := jAz (kd_val kb).1 (by rw [(kd_val kb).2]; decide)
  have qb := a12p (show sb < 1500 by omega)
  have zb := c12p (show sb < 1500 by omega)
  have ib : (nI sb).toInt = sb := nI_toInt (by omega)
  by_cases ca : (jI C 52 a).toInt < 2
  · by_cases cb : (jI C 52 b).toInt < 2
    · have real_case : ¬ (jI C 52 a = 0 ∧ jI C 52 b = 0) → ∃ fl x C' R', f_X3_arithmetic k a b C = some (fl, C') ∧ f_X12_arithmetic 2398 k' (nI sa) (nI sb) R = some (x, R') ∧ OpR n C C' a R R' p fl x := by
        intro hz
        obtain ⟨x, y, x1, y1, x2, y2, x3, y3⟩ := asR2 hC hR ka kb ha hb hp hp2 hsa hsb ca cb
        obtain ⟨r, r1, r2, r3⟩ := real_op hk (C := C) (R := R) ka x y
        obtain ⟨C', R', d1, d2, d3⟩ := real_done (n := n) hC hR ka hp hp2 r1
        have f1 : f_X3_arithmetic k a b C = f_X3_arithmetic_108 k a x y C := by
          have e89 : ∀ t, f_X3_arithmetic_89 k a b (jAL C (b + 1) 0) t C = f_X3_arithmetic_108 k a t y C := fun t => by
            unfold f_X3_arithmetic_89
            rw [if_pos kb]
            exact bind_num (f := fun z => f_X3_arithmetic_108 k a t z C) y3
          have e73 : f_X3_arithmetic_73 k a b (jAL C (a + 1) 0) (jAL C (b + 1) 0) C = f_X3_arithmetic_108 k a x y C := by
            unfold f_X3_arithmetic_73
            rw [if_pos ka]
            exact (bind_num (f := fun z => f_X3_arithmetic_89 k a b (jAL C (b + 1) 0) z C) x3).trans (e89 x)
          unfold f_X3_arithmetic
          simp only [ka, k_2398, ly_v hC ka, A1, cl0, ly_88 hR, ly_89 hR, ly_90 hR, ly_91 hR, pa1, pa2, pa3, ea1, ea2, qa.1, qa.2, za, jid, i10, kb, ly_v hC kb, A2, pb1, pb2, pb3, eb1, eb2, qb.1, qb.2, zb, c_isn1 ka ea3.1 ca, c_isn1 kb eb3.1 cb, e73, true_and, and_true, and_false, false_and, and_self, if_true, if_false, ite_self, Nat.reduceEqDiff, reduceIte, obt, jlt, jbt, jbd_ite, bind_ite]
          by_cases c1 : jI C 52 a = 0
          · rw [if_pos c1, if_neg (fun z => hz ⟨c1, z⟩)]
          · rw [if_neg c1]
        have f2 : f_X12_arithmetic 2398 k' (nI sa) (nI sb) R = f_X12_arithmetic_50 2398 k' (nI sa) (nI sb) R := by
          unfold f_X12_arithmetic
          simp only [ka, k_2398, ly_v hC ka, A1, cl0, ly_88 hR, ly_89 hR, ly_90 hR, ly_91 hR, pa1, pa2, pa3, ea1, ea2, qa.1, qa.2, za, jid, i10, kb, ly_v hC kb, A2, pb1, pb2, pb3, eb1, eb2, qb.1, qb.2, zb, m_isn1 ca, m_isn1 cb, true_and, and_true, and_false, false_and, and_self, if_true, if_false, ite_self, Nat.reduceEqDiff, reduceIte, obt, jlt, jbt, jbd_ite, bind_ite]
          by_cases c1 : jI C 52 a = 1
          · rw [if_pos c1]
          · rw [if_neg c1, if_pos]
            rcases so01 ea3.1 ca with z | z
            · rcases so01 eb3.1 cb with w | w
              · exact absurd ⟨z, w⟩ hz
              · exact w
            · exact absurd z c1
        refine ⟨_, _, C', R', by rw [f1, r2]; exact d1, ?_, d3⟩
        rw [f2]
        unfold f_X12_arithmetic_50
        rw [if_pos k_2398, x2, obt, y2, obt, r3, d2]
      rcases so01 ea3.1 ca with c1 | c1
      · rcases so01 eb3.1 cb with c2 | c2
        · have f1 : f_X3_arithmetic k a b C = (f_X3_isBeyond k (jAL C (a + 1) 0) (jAL C (b + 1) 0)).bind (fun x56 => if x56 = 0 then (f_X3_wholeArithmetic k (jAL C (a + 1) 0) (jAL C (b + 1) 0)).bind (fun x61 => some ((0 : Int32), jrL C (a + 1) (vp_updL (jAL C (a + 1)) 0 x61))) else some ((6 : Int32), C)) := by
            unfold f_X3_arithmetic
            simp only [ka, k_2398, ly_v hC ka, A1, cl0, ly_88 hR, ly_89 hR, ly_90 hR, ly_91 hR, pa1, pa2, pa3, ea1, ea2, qa.1, qa.2, za, jid, i10, kb, ly_v hC kb, A2, pb1, pb2, pb3, eb1, eb2, qb.1, qb.2, zb, c_isn1 ka ea3.1 ca, c_isn1 kb eb3.1 cb, c1, c2, true_and, and_true, and_false, false_and, and_self, if_true, if_false, ite_self, Nat.reduceEqDiff, reduceIte, obt, jlt, jbt, jbd_ite, bind_ite]
          have f2 : f_X12_arithmetic 2398 k' (nI sa) (nI sb) R = f_X12_whole 2398 k' (jAL C (a + 1) 0) (jAL C (b + 1) 0) R := by
            unfold f_X12_arithmetic
            simp only [ka, k_2398, ly_v hC ka, A1, cl0, ly_88 hR, ly_89 hR, ly_90 hR, ly_91 hR, pa1, pa2, pa3, ea1, ea2, qa.1, qa.2, za, jid, i10, kb, ly_v hC kb, A2, pb1, pb2, pb3, eb1, eb2, qb.1, qb.2, zb, m_isn1 ca, m_isn1 cb, true_and, and_true, and_false, false_and, and_self, if_true, if_false, ite_self, Nat.reduceEqDiff, reduceIte, obt, jlt, jbt, jbd_ite, bind_ite]
            rw [if_neg (by rw [c1]; decide), if_neg (by rw [c2]; decide), ← VR_num0 ha c1, ← VR_num0 hb c2]
          rw [f1, f2]
          rcases whole_eq hk (jAL C (a + 1) 0) (jAL C (b + 1) 0) R with ⟨w1, w2⟩ | ⟨w1, w, w2, w3⟩
          · obtain ⟨R', d1, d2⟩ := fail_done (n := n) (C := C) (a := a) (fl := 6) hp (by decide)
            rw [w1, w2, obt, if_neg (by decide)]
            exact ⟨_, _, _, R', rfl, d1, d2⟩
          · obtain ⟨h1, h2, h3⟩ := cset (C := C) (v := a) (b := w) c1 (num_sz ea3 ca)
            obtain ⟨R', g1, g2⟩ := opr_whole (n := n) hR frL h1 h2 h3 hp hp2
            rw [w1, obt, if_pos rfl, w2, obt, w3]
            exact ⟨_, _, _, R', rfl, g1, g2⟩
        · exact real_case (fun z => by rw [z.2] at c2; revert c2; decide)
      · exact real_case (fun z => by rw [z.1] at c1; revert c1; decide)
    · obtain ⟨R', d1, d2⟩ := fail_done (n := n) (C := C) (a := a) (fl := 2) hp (by decide)
      refine ⟨_, _, _, R', ?_, ?_, d2⟩
      · unfold f_X3_arithmetic
        simp only [ka, k_2398, ly_v hC ka, A1, cl0, ly_88 hR, ly_89 hR, ly_90 hR, ly_91 hR, pa1, pa2, pa3, ea1, ea2, qa.1, qa.2, za, jid, i10, kb, ly_v hC kb, A2, pb1, pb2, pb3, eb1, eb2, qb.1, qb.2, zb, c_isn1 ka ea3.1 ca, c_isn0 kb cb, true_and, and_true, and_false, false_and, and_self, if_true, if_false, ite_self, Nat.reduceEqDiff, reduceIte, obt, jlt, jbt, jbd_ite, bind_ite]
      · unfold f_X12_arithmetic f_X12_arithmetic_24
        simp only [ka, k_2398, ly_v hC ka, A1, cl0, ly_88 hR, ly_89 hR, ly_90 hR, ly_91 hR, pa1, pa2, pa3, ea1, ea2, qa.1, qa.2, za, jid, i10, kb, ly_v hC kb, A2, pb1, pb2, pb3, eb1, eb2, qb.1, qb.2, zb, m_isn1 ca, m_isn0 cb, true_and, and_true, and_false, false_and, and_self, if_true, if_false, ite_self, Nat.reduceEqDiff, reduceIte, obt, jlt, jbt, jbd_ite, bind_ite]
        exact d1
  · obtain ⟨R', d1, d2⟩ := fail_done (n := n) (C := C) (a := a) (fl := 2) hp (by decide)
    refine ⟨_, _, _, R', ?_, ?_, d2⟩
    · unfold f_X3_arithmetic
      simp only [ka, k_2398, ly_v hC ka, A1, cl0, ly_88 hR, ly_89 hR, ly_90 hR, ly_91 hR, pa1, pa2, pa3, ea1, ea2, qa.1, qa.2, za, jid, i10, kb, ly_v hC kb, A2, pb1, pb2, pb3, eb1, eb2, qb.1, qb.2, zb, c_isn0 ka ca, true_and, and_true, and_false, false_and, and_self, if_true, if_false, ite_self, Nat.reduceEqDiff, reduceIte, obt, jlt, jbt, jbd_ite, bind_ite]
    · unfold f_X12_arithmetic f_X12_arithmetic_24
      simp only [ka, k_2398, ly_v hC ka, A1, cl0, ly_88 hR, ly_89 hR, ly_90 hR, ly_91 hR, pa1, pa2, pa3, ea1, ea2, qa.1, qa.2, za, jid, i10, kb, ly_v hC kb, A2, pb1, pb2, pb3, eb1, eb2, qb.1, qb.2, zb, m_isn0 ca, true_and, and_true, and_false, false_and, and_self, if_true, if_false, ite_self, Nat.reduceEqDiff, reduceIte, obt, jlt, jbt, jbd_ite, bind_ite]
      exact d1
