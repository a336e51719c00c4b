/-! PURE: the parser: P -/
theorem nI_64 {s : Nat} (h : s < 2147483648) : (nI s).toInt64 = Int64.ofNat s := by
  rw [← Int64.toInt_inj, Int32.toInt_toInt64, nI_toInt h, Int64.toInt_ofNat_of_lt (by omega)]
def namR (t p : Nat) (w : Int32) (v : Int64) (R : jM) : jM := jrL (jrI R 2409 (upd (jAI R 2409) (301 * t + p) w)) 2412 (vp_updL (jAL R 2412) (301 * t + p) v)
theorem namR_fr {t p : Nat} {v : Int64} {w : Int32} {R : jM} : Fr pNr R (namR t p w v R) := ((Fr.refl).rI (by unfold pNr; omega)).rL (by unfold pNr; omega)
theorem namR_at {t p : Nat} {v : Int64} {w : Int32} {R : jM} (z : Nat) : jAI (namR t p w v R) 2408 z = jAI R 2408 z ∧ jAI (namR t p w v R) 2409 z = (if z = 301 * t + p then w else jAI R 2409 z) ∧ jAI (namR t p w v R) 2410 z = jAI R 2410 z ∧ jAI (namR t p w v R) 2411 z = jAI R 2411 z ∧ jAL (namR t p w v R) 2412 z = (if z = 301 * t + p then v else jAL R 2412 z) ∧ jAI (namR t p w v R) 2413 z = jAI R 2413 z := by
  unfold namR
  simp only [m_I_sI, m_L_sI, m_R_sI, m_AI_sI, m_AL_sI, m_AD_sI, m_AR_sI, m_n_sI, m_I_sL, m_L_sL, m_R_sL, m_AI_sL, m_AL_sL, m_AD_sL, m_AR_sL, m_n_sL, m_I_sR, m_L_sR, m_R_sR, m_AI_sR, m_AL_sR, m_AD_sR, m_AR_sR, m_n_sR, m_I_rI, m_L_rI, m_R_rI, m_AI_rI, m_AL_rI, m_AD_rI, m_AR_rI, m_n_rI, m_I_rL, m_L_rL, m_R_rL, m_AI_rL, m_AL_rL, m_AD_rL, m_AR_rL, m_n_rL, m_I_rD, m_L_rD, m_R_rD, m_AI_rD, m_AL_rD, m_AD_rD, m_AR_rD, m_n_rD, m_I_rR, m_L_rR, m_R_rR, m_AI_rR, m_AL_rR, m_AD_rR, m_AR_rR, m_n_rR, upd_if, updL_if, true_and, and_true, and_false, false_and, and_self, if_true, if_false, ite_self, Nat.reduceEqDiff, reduceIte, obt, jlt, jbt, jbd_ite, bind_ite]
theorem LayNR {t np : Nat} {km w : Int32} {R : jM} (hR : Lay R) : Lay (nR t np km (jsI R 114 2398 w)) := hR.fr (p := pPR) ((((((((Fr.refl).sI (by unfold pPR; omega)).rI (by unfold pPR; omega)).rI (by unfold pPR; omega)).rI (by unfold pPR; omega)).rI (by unfold pPR; omega)).rI (by unfold pPR; omega)).rL (by unfold pPR; omega)) (fun f a z => by unfold pPR at z; omega) (fun a z => by have := k16r a; unfold pPR at z; omega)
/-- the reference's name, as it is found -/
theorem nam_r {t np q : Nat} {R : jM} (hR : Lay R) (ht : t < 33) (hp : np < 300) (hq : jI R 100 2398 = nI q) (hq2 : q < 1602) (h113 : jI R 113 2398 = nI t) {v : Int64} {r y : Int32} (hr : f_X12_findRule 2398 (nI t) v (jsI R 114 2398 (nI (np + 1))) = some r) {km w : Int32} (hn : f_X12_node 2398 km (jsI R 114 2398 (nI (np + 1))) = some (nI (301 * t + np), nR t np km (jsI R 114 2398 (nI (np + 1)))))
    (hy : (y = -1 ∧ w = r ∧ ((r < 0 ∧ km = 50) ∨ (¬ r < 0 ∧ km = 49))) ∨ ∃ j, j < 24 ∧ y = nI j ∧ w = jAI R 2419 j ∧ km = 48) :
    f_X12_named_38 2398 v y (jsI R 114 2398 (nI (np + 1))) = some (nI (301 * t + np), namR t np w v (jsI (nR t np km (jsI R 114 2398 (nI (np + 1)))) 100 2398 (nI (q + 1)))) := by
  obtain ⟨a1, a2, a3, a4, a5, a6, a7, a8⟩ := nA ht (show np < 301 by omega)
  have h113' : jI (jsI R 114 2398 (nI (np + 1))) 113 2398 = nI t := by simp only [m_I_sI, m_L_sI, m_R_sI, m_AI_sI, m_AL_sI, m_AD_sI, m_AR_sI, m_n_sI, m_I_sL, m_L_sL, m_R_sL, m_AI_sL, m_AL_sL, m_AD_sL, m_AR_sL, m_n_sL, m_I_sR, m_L_sR, m_R_sR, m_AI_sR, m_AL_sR, m_AD_sR, m_AR_sR, m_n_sR, m_I_rI, m_L_rI, m_R_rI, m_AI_rI, m_AL_rI, m_AD_rI, m_AR_rI, m_n_rI, m_I_rL, m_L_rL, m_R_rL, m_AI_rL, m_AL_rL, m_AD_rL, m_AR_rL, m_n_rL, m_I_rD, m_L_rD, m_R_rD, m_AI_rD, m_AL_rD, m_AD_rD, m_AR_rD, m_n_rD, m_I_rR, m_L_rR, m_R_rR, m_AI_rR, m_AL_rR, m_AD_rR, m_AR_rR, m_n_rR, true_and, and_true, and_false, false_and, and_self, if_true, if_false, ite_self, Nat.reduceEqDiff, reduceIte, obt, jlt, jbt, jbd_ite, bind_ite]; exact h113
  have n97 : ∀ km w, f_X12_named_97 2398 v (nI (301 * t + np)) 2409 (nI (301 * t + np)) w (nR t np km (jsI R 114 2398 (nI (np + 1)))) = some (nI (301 * t + np), namR t np w v (jsI (nR t np km (jsI R 114 2398 (nI (np + 1)))) 100 2398 (nI (q + 1)))) := fun km w => by
    have e100 : jI (nR t np km (jsI R 114 2398 (nI (np + 1)))) 100 2398 = nI q := by unfold nR; simp only [m_I_sI, m_L_sI, m_R_sI, m_AI_sI, m_AL_sI, m_AD_sI, m_AR_sI, m_n_sI, m_I_sL, m_L_sL, m_R_sL, m_AI_sL, m_AL_sL, m_AD_sL, m_AR_sL, m_n_sL, m_I_sR, m_L_sR, m_R_sR, m_AI_sR, m_AL_sR, m_AD_sR, m_AR_sR, m_n_sR, m_I_rI, m_L_rI, m_R_rI, m_AI_rI, m_AL_rI, m_AD_rI, m_AR_rI, m_n_rI, m_I_rL, m_L_rL, m_R_rL, m_AI_rL, m_AL_rL, m_AD_rL, m_AR_rL, m_n_rL, m_I_rD, m_L_rD, m_R_rD, m_AI_rD, m_AL_rD, m_AD_rD, m_AR_rD, m_n_rD, m_I_rR, m_L_rR, m_R_rR, m_AI_rR, m_AL_rR, m_AD_rR, m_AR_rR, m_n_rR, true_and, and_true, and_false, false_and, and_self, if_true, if_false, ite_self, Nat.reduceEqDiff, reduceIte, obt, jlt, jbt, jbd_ite, bind_ite]; exact hq
    unfold f_X12_named_97
    rw [if_pos a3, jlt, if_pos k_2398, a8]
    simp only [m_R_rI, m_I_rL, m_I_rI, m_AL_rI, ly_107 (LayNR hR), e100, a6, a8, obt, jlt, if_true, nJ_1 (show q + 1 < 2147483648 by omega)]
    rfl
  have e2419 : ∀ km, jAI (nR t np km (jsI R 114 2398 (nI (np + 1)))) 2419 = jAI R 2419 := fun km => by unfold nR; simp only [m_I_sI, m_L_sI, m_R_sI, m_AI_sI, m_AL_sI, m_AD_sI, m_AR_sI, m_n_sI, m_I_sL, m_L_sL, m_R_sL, m_AI_sL, m_AL_sL, m_AD_sL, m_AR_sL, m_n_sL, m_I_sR, m_L_sR, m_R_sR, m_AI_sR, m_AL_sR, m_AD_sR, m_AR_sR, m_n_sR, m_I_rI, m_L_rI, m_R_rI, m_AI_rI, m_AL_rI, m_AD_rI, m_AR_rI, m_n_rI, m_I_rL, m_L_rL, m_R_rL, m_AI_rL, m_AL_rL, m_AD_rL, m_AR_rL, m_n_rL, m_I_rD, m_L_rD, m_R_rD, m_AI_rD, m_AL_rD, m_AD_rD, m_AR_rD, m_n_rD, m_I_rR, m_L_rR, m_R_rR, m_AI_rR, m_AL_rR, m_AD_rR, m_AR_rR, m_n_rR, true_and, and_true, and_false, false_and, and_self, if_true, if_false, ite_self, Nat.reduceEqDiff, reduceIte, obt, jlt, jbt, jbd_ite, bind_ite]
  unfold f_X12_named_38
  rw [if_pos k_2398, h113', hr, obt]
  rcases hy with ⟨rfl, rfl, ⟨c, rfl⟩ | ⟨c, rfl⟩⟩ | ⟨j, j1, rfl, rfl, rfl⟩
  · rw [if_pos (by decide), if_pos c]
    unfold f_X12_named_71
    rw [if_pos k_2398, hn, jbt, if_pos k_2398, ly_104 (LayNR hR), obt, if_pos (by decide), n97]
  · rw [if_pos (by decide), if_neg c]
    unfold f_X12_named_71
    rw [if_pos k_2398, hn, jbt, if_pos k_2398, ly_104 (LayNR hR), obt, if_pos (by decide), n97]
  · rw [if_neg (nI_neg (by omega))]
    unfold f_X12_named_71
    rw [if_pos k_2398, hn, jbt, if_pos k_2398, ly_104 (LayNR hR), obt, if_neg (nI_neg (by omega)), ly_116 (LayNR hR), obt, if_pos (jA_n k_2419 (by rw [ln_2419]; omega) (by omega)), nJ_cl (by omega), e2419, n97]
theorem rK_leaf {C R : jM} {T t p : Nat} {kd : Int32} (h1 : jAI C (T + 1) p = kd) (h2 : jAI R 2408 (301 * t + p) = kmap kd) (h0 : tar kd = 0) (h10 : jAI R 2410 (301 * t + p) = -1) (h11 : jAI R 2411 (301 * t + p) = -1) (h9 : kd ≠ 6 → kd ≠ 7 → kd ≠ 8 → jAI R 2409 (301 * t + p) = -1)
    (c3 : kd = 3 ∨ kd = 8 → jAL C (T + 2) p = jAL R 2412 (301 * t + p)) (c4 : kd = 4 → f_X5_decimal (jAL R 2412 (301 * t + p)) (jAI R 2413 (301 * t + p)) = some (jAL C (T + 2) p) ∧ 0 ≤ (jAI R 2413 (301 * t + p)).toInt ∧ (jAI R 2413 (301 * t + p)).toInt ≤ 6) (c6 : kd = 6 → (jAI R 2409 (301 * t + p)).toInt = 301 * t + (jAL C (T + 2) p).toInt) (c7 : kd = 7 → (jAI R 2409 (301 * t + p)).toInt = (jAL C (T + 2) p).toInt) : rK C T R t p := by
  unfold rK
  rw [h1, h0, h10, h11, if_neg (by decide), if_neg (by decide), if_neg (by decide)]
  exact ⟨h2, c3, c4, c6, c7, fun x y z => by rw [h9 x y z]; rfl, rfl, rfl⟩
theorem P_ok {B : Nat → Int32} {e N T t : Nat} {ru : Nat → Nat × Nat × Nat} {rs nr k : Nat} {rcC rcR : Nat → Nat → Int32 → Int32 → jM → Option (Int32 × jM)} (hk : k < 20) (hru : ∀ r, r < nr → (ru r).1 ≤ rs ∧ (ru r).2.2 ≤ rs)
    (hE : LK B e N T t ru rs nr (rcC 0 607 (nI (k + 1)) 0) (rcR 0 2398 (nI (k + 1)) 0) (k + 1))
    (hSu : ∀ (A : Nat → Prop) (np cn : Nat) (C R : jM), rs ≤ np → cn ≤ k → PS B e N T t A np nr cn 0 C R → jI C 40 608 = 146 → LC B e N T t ru rs nr A np cn 0 C R (rcC 6 607 (nI k) 0 C) (jbd (f_X12_part 2398 R) (fun x20 S21 => if x20 = 0 then some ((-1 : Int32), S21) else rcR 7 2398 (nI k) 0 S21)))
    (hFu : ∀ (A : Nat → Prop) (np cn : Nat) (C R : jM), rs ≤ np → cn ≤ k → PS B e N T t A np nr cn 0 C R → ¬ f_X7_arity (jI C 40 608) ≤ 0 → LC B e N T t ru rs nr A np cn 0 C R (rcC 7 607 (nI k) 0 C) (f_X12_primary rcR 2398 (nI k) R)) :
    ∀ (A : Nat → Prop) (np cn : Nat) (C R : jM), rs ≤ np → cn ≤ k → PS B e N T t A np nr cn 0 C R → bU (jI C 40 608) ≠ 0 → jI C 40 608 ≠ 45 → LC B e N T t ru rs nr A np cn 0 C R (f_X4_readP rcC 607 (nI k) C) (f_X12_primary rcR 2398 (nI k) R) := by
  intro A np cn C R hrs hcn h hb h45
  have hh := h
  have hT := h.pt
  have hid : ∀ o : Option (Int32 × jM), jbd o (fun x S => some (x, S)) = o := fun o => by cases o <;> rfl
  have s1 : (nI k : Int32) + 1 = nI (k + 1) := nJ_1 (by omega)
  obtain ⟨q, q1, q2, q3, q4, q5, q6, q7, q8, q9, q10, q11⟩ := h.tk
  obtain ⟨a1, a2, a3, a4, a5⟩ := qA q2
  have eK : (tkv B e (tps B e q)).1 = jI C 40 608 := q4.2.1.symm
  have htk := h.tks
  have ec0 : f_X4_readP rcC 607 (nI k) C = if jI C 40 608 = 2 then (f_X4_sumOf 607 (jL C 42 608) C).bind (fun x9 => (f_X8_ruleNamed T (jL C 42 608) C).bind (fun x16 => if x9 = (-1 : Int32) then if x16 = (-1 : Int32) then f_X4_part 607 (8 : Int32) (jL C 42 608) C else f_X4_part 607 (7 : Int32) (x16.toInt64) C else f_X4_part 607 (6 : Int32) (x9.toInt64) C)) else if jI C 40 608 = 3 then f_X4_part 607 (3 : Int32) (jL C 42 608) C else if jI C 40 608 = 4 then (f_X5_decimal (jL C 42 608) (jI C 43 608)).bind (fun x47 => f_X4_part 607 (4 : Int32) x47 C) else if jI C 40 608 = 40 then (f_X4_take 607 (40 : Int32) C).bind (fun S53 => jbd (rcC 0 607 (nI (k + 1)) 0 S53) (fun x55 S56 => (f_X4_take 607 (41 : Int32) S56).bind (fun S58 => some (x55, S58)))) else if jI C 40 608 = 131 then f_X4_part 607 (131 : Int32) (0 : Int64) C else if jI C 40 608 = 146 then rcC 6 607 (nI k) 0 C else rcC 7 607 (nI k) 0 C := by
    unfold f_X4_readP
    simp only [k_607, k_608, ly_24 hT.1, hT.2.2.2.2.2.1, hT.2.2.1, hid, s1, obt, jlt, if_true]
  have hK := h.tk
  by_cases c40 : jI C 40 608 = 40
  · -- ( E )
    rw [ec0, if_neg (by rw [c40]; decide), if_neg (by rw [c40]; decide), if_neg (by rw [c40]; decide), if_pos c40]
    obtain ⟨C1, n1, n2, n3⟩ := h.adv q3 q2 (by rw [eK, c40]; decide) (by rw [eK, c40]; decide)
    have hS1 : St T t np cn C R C1 (jsI R 100 2398 (nI (q + 1))) := St.adv n2
    have et : f_X4_take 607 40 C = some C1 := by
      unfold f_X4_take
      simp only [k_607, h.fr0.1, ly_24 hT.1, k_608, c40, n1, obt, if_true]
    obtain ⟨x, y, C2, R2, np2, fl2, e1, e2, e3, e4, e5, e6⟩ := hE A np cn 0 C1 _ hrs (by omega) n3
    obtain ⟨C3, R3, fl3, t1, t2, t3, t4, t5⟩ := take_ok e4 (K := 41) (km := 141) (by decide) (by decide) (by decide) (by decide)
    have er : f_X12_primary rcR 2398 (nI k) R = some (y, R3) := by
      unfold f_X12_primary
      rw [if_pos k_2398, h.fr0.2, if_pos (by decide), now_r h q3 q2 q5, obt, eK, c40, if_pos (by decide), q3, nJ_1 (by omega), jlt, s1, e2, jbt, t2, obt]
    rw [et, obt, e1, jbt, t1, obt, er]
    refine ⟨x, y, C3, R3, np2, fl3, rfl, rfl, e3, t3, (hS1.trans e5 (Nat.le_refl _) (Nat.le_refl _)).trans t4 e3 (Nat.le_refl _), fun z => ?_⟩
    obtain ⟨f0, i, i1, i2, i3, i4, i5⟩ := e6 (t5 z)
    exact ⟨rfl, i, i1, i2, i3, i4.o t4 (Nat.le_refl _), i5.o t4.2.2.1 (Nat.le_refl _) (Nat.le_refl _) (Nat.le_refl _) (Nat.le_refl _)⟩
  have n40 : tm (tkv B e (tps B e q)).1 ≠ 140 := fun z => c40 (by rw [← eK]; exact tm_inj _ q7 40 (by decide) (z.trans (by decide)))
  by_cases c146 : jI C 40 608 = 146
  · rw [ec0, if_neg (by rw [c146]; decide), if_neg (by rw [c146]; decide), if_neg (by rw [c146]; decide), if_neg c40, if_neg (by rw [c146]; decide), if_pos c146]
    have := hSu A np cn C R hrs hcn h c146
    rw [prim_r h q3 q2 q5 rcR (nI k) n40]
    rcases part_ok h q3 q2 (by rw [eK, c146]; decide) (by rw [eK, c146]; decide) 146 0 with ⟨p300, C1, R1, fl1, p1, p2, p3, p4, p5⟩ | ⟨p300, C1, p1, p2, p3, p4⟩
    · rw [p2, jbt, if_pos rfl] at this ⊢
      exact this
    · have p3' : f_X12_now 2398 (jsI R 114 2398 (nI (np + 1))) = some 19 := by
        rcases BS.new (ru := ru) (rs := rs) h St.refl (Nat.le_refl _) (fun k a b => absurd b (by omega)) q3 q2 (by rw [eK, c146]; decide) (by rw [eK, c146]; decide) 146 19 0 (by decide) with ⟨C1', R1', fl1, g1, g2, g3, g4, g5⟩ | ⟨C1', R1', R2, R3, g1, g2, g3, g4, g5, b1, -, -, g6, -⟩
        · rw [p2] at g2
          injection g2 with g2
          exact absurd (show (1 : Int32) = 0 from congrArg Prod.fst g2) (by decide)
        · rw [← g6, g3, eK, c146]; rfl
      rw [p2, jbt, if_neg (by decide)] at this ⊢
      rw [p3', obt, if_pos rfl, hid]
      exact this
  have n19 : tm (tkv B e (tps B e q)).1 ≠ 19 := fun z => c146 (by rw [← eK]; exact tm_inj _ q7 146 (by decide) (z.trans (by decide)))
  by_cases c2 : jI C 40 608 = 2
  · -- a NAME
    have eN : jL C 42 608 = jAL R 2406 q := by rw [q4.2.2.2.1 (.inl (by rw [eK]; exact c2)), q5.2.1 (.inl (by rw [eK]; exact c2))]
    rw [ec0, if_pos c2, eN]
    have hR1 : Lay (jsI R 114 2398 (nI (np + 1))) := hT.2.1.fr (p := pPR) ((Fr.refl).sI (by unfold pPR; omega)) (fun f a z => by unfold pPR at z; omega) (fun a z => by have := k16r a; unfold pPR at z; omega)
    obtain ⟨-, z1, z2, z3, z4, z5, z6, z7, z8, z9, z10, -⟩ := h
    obtain ⟨r, r1, r2, r3⟩ := rule_lk (R := jsI R 114 2398 (nI (np + 1))) hT.1 hR1 hT.2.2.1 hT.2.2.2.1 z2 z5 z6 z9 (jAL R 2406 q)
    have h117 : jI (jsI R 114 2398 (nI (np + 1))) 117 2398 = nI cn := by simp only [m_I_sI, m_L_sI, m_R_sI, m_AI_sI, m_AL_sI, m_AD_sI, m_AR_sI, m_n_sI, m_I_sL, m_L_sL, m_R_sL, m_AI_sL, m_AL_sL, m_AD_sL, m_AR_sL, m_n_sL, m_I_sR, m_L_sR, m_R_sR, m_AI_sR, m_AL_sR, m_AD_sR, m_AR_sR, m_n_sR, m_I_rI, m_L_rI, m_R_rI, m_AI_rI, m_AL_rI, m_AD_rI, m_AR_rI, m_n_rI, m_I_rL, m_L_rL, m_R_rL, m_AI_rL, m_AL_rL, m_AD_rL, m_AR_rL, m_n_rL, m_I_rD, m_L_rD, m_R_rD, m_AI_rD, m_AL_rD, m_AD_rD, m_AR_rD, m_n_rD, m_I_rR, m_L_rR, m_R_rR, m_AI_rR, m_AL_rR, m_AD_rR, m_AR_rR, m_n_rR, true_and, and_true, and_false, false_and, and_self, if_true, if_false, ite_self, Nat.reduceEqDiff, reduceIte, obt, jlt, jbt, jbd_ite, bind_ite]; exact z8
    have hsl := sum_lk (R := jsI R 114 2398 (nI (np + 1))) hT.1 hR1 hT.2.2.2.1 z3 z7 h117 z10 (jAL R 2406 q)
    have h := hh
    have q100 : jI (jsI R 114 2398 (nI (np + 1))) 100 2398 = nI q := by simp only [m_I_sI, m_L_sI, m_R_sI, m_AI_sI, m_AL_sI, m_AD_sI, m_AR_sI, m_n_sI, m_I_sL, m_L_sL, m_R_sL, m_AI_sL, m_AL_sL, m_AD_sL, m_AR_sL, m_n_sL, m_I_sR, m_L_sR, m_R_sR, m_AI_sR, m_AL_sR, m_AD_sR, m_AR_sR, m_n_sR, m_I_rI, m_L_rI, m_R_rI, m_AI_rI, m_AL_rI, m_AD_rI, m_AR_rI, m_n_rI, m_I_rL, m_L_rL, m_R_rL, m_AI_rL, m_AL_rL, m_AD_rL, m_AR_rL, m_n_rL, m_I_rD, m_L_rD, m_R_rD, m_AI_rD, m_AL_rD, m_AD_rD, m_AR_rD, m_n_rD, m_I_rR, m_L_rR, m_R_rR, m_AI_rR, m_AL_rR, m_AD_rR, m_AR_rR, m_n_rR, true_and, and_true, and_false, false_and, and_self, if_true, if_false, ite_self, Nat.reduceEqDiff, reduceIte, obt, jlt, jbt, jbd_ite, bind_ite]; exact q3
    have key : ∀ (kd km w y : Int32) (ct : Int64), km = kmap kd → (kd = 8 ∧ ct = jAL R 2406 q ∨ kd = 7 ∧ ct = w.toInt64 ∧ (∃ i, i < nr ∧ w = nI i) ∨ kd = 6 ∧ ∃ s, A s ∧ s < 300 ∧ ct = (nI s).toInt64 ∧ w = nI (301 * t + s)) →
        f_X12_named_17 1100000 2398 (jAL R 2406 q) (jI (jsI R 114 2398 (nI (np + 1))) 117 2398 - 1) (jsI R 114 2398 (nI (np + 1))) = f_X12_named_38 2398 (jAL R 2406 q) y (jsI R 114 2398 (nI (np + 1))) →
        ((y = -1 ∧ w = r ∧ ((r < 0 ∧ km = 50) ∨ (¬ r < 0 ∧ km = 49))) ∨ ∃ j, j < 24 ∧ y = nI j ∧ w = jAI R 2419 j ∧ km = 48) → LC B e N T t ru rs nr A np cn 0 C R (f_X4_part 607 kd ct C) (f_X12_primary rcR 2398 (nI k) R) := by
      intro kd km w y ct hkm hkd hnm hy
      rw [prim_r h q3 q2 q5 rcR (nI k) n40]
      rcases BS.new (ru := ru) (rs := rs) h St.refl (Nat.le_refl _) (fun k a b => absurd b (by omega)) q3 q2 (by rw [eK, c2]; decide) (by rw [eK, c2]; decide) kd km ct hkm with ⟨C1, R1, fl1, p1, p2, p3, p4, p5⟩ | ⟨C1, R1, R2, R3, p1, p2, p3, p4, p5, b1, -, g5, g6, g7⟩
      · exact LC.flt (x := -1) (y := -1) p1 (by rw [p2, jbt, if_pos rfl]) (Nat.le_refl _) p4 p5 p3
      · subst g6
        subst g7
        rw [pos_nR q3 q2] at p5
        subst p5
        have hp : np < 300 := by have := b1.1.2.1; omega
        have en : f_X12_named 2398 (jsI R 114 2398 (nI (np + 1))) = some (nI (301 * t + np), namR t np w (jAL R 2406 q) (jsI (nR t np km (jsI R 114 2398 (nI (np + 1)))) 100 2398 (nI (q + 1)))) := by
          unfold f_X12_named
          rw [if_pos k_2398, ly_97 hR1, obt, q100, if_pos a3, a5, jlt, jlt]
          have e6 : jAL (jsI R 114 2398 (nI (np + 1))) 2406 q = jAL R 2406 q := rfl
          rw [e6, hnm, nam_r hT.2.1 hT.2.2.2.1 hp q3 q2 hT.2.2.2.2.2.2.2.2.2 r2 p4 hy]
        rw [p1, p2, jbt, if_neg (by decide), p3, obt, if_neg n19, if_pos (by rw [eK, c2]; decide), en, jbt]
        obtain ⟨d1, d2, d3⟩ := b1.2.2.2.2.1
        have d9 := d3 0 (Nat.le_refl _) (by decide)
        have d10 := d3 1 (Nat.zero_le _) (by decide)
        have d11 := d3 2 (Nat.zero_le _) (by decide)
        obtain ⟨y1, y2, y3, y4, y5, y6⟩ := namR_at (t := t) (p := np) (v := jAL R 2406 q) (w := w) (R := jsI (nR t np km (jsI R 114 2398 (nI (np + 1)))) 100 2398 (nI (q + 1))) (301 * t + np)
        rw [if_pos rfl] at y2 y5
        have hkd2 : kd = 6 ∨ kd = 7 ∨ kd = 8 := by
          rcases hkd with z | z | z
          · exact .inr (.inr z.1)
          · exact .inr (.inl z.1)
          · exact .inl z.1
        have t0 : tar kd = 0 := by rcases hkd2 with z | z | z <;> (rw [z]; decide)
        have tk : tkind kd := by unfold tkind; rcases hkd2 with z | z | z <;> (rw [z]; decide)
        refine b1.leaf namR_fr (fun z hz => ?_) (rK_leaf d1 (y1.trans d2) t0 (y3.trans d10) (y4.trans d11) (fun z6 z7 z8 => ?_) (fun z => ?_) (fun z => ?_) (fun z => ?_) (fun z => ?_)) (leaf_t d1 g5 tk t0 (fun z => ?_) (fun z => ?_))
        · obtain ⟨y1, y2, y3, y4, y5, y6⟩ := namR_at (t := t) (p := np) (v := jAL R 2406 q) (w := w) (R := jsI (nR t np km (jsI R 114 2398 (nI (np + 1)))) 100 2398 (nI (q + 1))) z
          rw [if_neg hz] at y2 y5
          exact ⟨y1, y2, y3, y4, y5, y6⟩
        · exact absurd hkd2 (fun y => by rcases y with y | y | y <;> contradiction)
        · rw [g5, y5]
          rcases hkd with y | y | y
          · exact y.2
          · rw [y.1] at z; exact absurd z (by decide)
          · rw [y.1] at z; exact absurd z (by decide)
        · rcases hkd2 with y | y | y <;> (rw [y] at z; exact absurd z (by decide))
        · rw [y2, g5]
          rcases hkd with y | y | ⟨y, s, s1, s2, s3, s4⟩
          · rw [y.1] at z; exact absurd z (by decide)
          · rw [y.1] at z; exact absurd z (by decide)
          · have ht33 := hT.2.2.2.1
            rw [s3, s4, Int32.toInt_toInt64, nI_toInt (by omega), nI_toInt (by omega)]; omega
        · rw [y2, g5]
          rcases hkd with y | ⟨y, y', -⟩ | y
          · rw [y.1] at z; exact absurd z (by decide)
          · rw [y', Int32.toInt_toInt64]
          · rw [y.1] at z; exact absurd z (by decide)
        · rcases hkd with y | y | ⟨y, s, s1, s2, s3, s4⟩
          · rw [y.1] at z; exact absurd z (by decide)
          · rw [y.1] at z; exact absurd z (by decide)
          · exact ⟨s, by rw [s3, nI_64 (by omega)], s1⟩
        · rcases hkd with y | ⟨y, y', i, i1, i2⟩ | y
          · rw [y.1] at z; exact absurd z (by decide)
          · exact ⟨i, by rw [y', i2, nI_64 (by omega)], i1, hru i i1⟩
          · rw [y.1] at z; exact absurd z (by decide)
    rcases hsl with ⟨m1, m2⟩ | ⟨j, s, j1, j2, j3, m1, m3, m2⟩
    · rw [m1, r1, obt, obt, if_pos rfl]
      rcases r3 with r3 | ⟨i, i1, i2, -⟩
      · rw [if_pos r3]
        exact key 8 50 r (-1) _ (by decide) (.inl ⟨rfl, rfl⟩) m2 (.inl ⟨rfl, rfl, .inl ⟨by rw [r3]; decide, rfl⟩⟩)
      · rw [if_neg (by rw [i2, i_eq, nI_toInt (by omega), show (-1 : Int32).toInt = -1 from rfl]; omega)]
        exact key 7 49 r (-1) _ (by decide) (.inr (.inl ⟨rfl, rfl, i, i1, i2⟩)) m2 (.inl ⟨rfl, rfl, .inr ⟨by rw [i2]; exact nI_neg (by omega), rfl⟩⟩)
    · rw [m1, r1, obt, obt, if_neg (by rw [i_eq, nI_toInt (by omega), show (-1 : Int32).toInt = -1 from rfl]; omega)]
      exact key 6 48 (nI (301 * t + s)) (nI j) _ (by decide) (.inr (.inr ⟨rfl, s, j2, j3, rfl, rfl⟩)) m2 (.inr ⟨j, by omega, rfl, m3.symm, rfl⟩)
  have n4 : tm (tkv B e (tps B e q)).1 ≠ 40 := fun z => c2 (by rw [← eK]; exact tm_inj _ q7 2 (by decide) (z.trans (by decide)))
  by_cases c3 : jI C 40 608 = 3 ∨ jI C 40 608 = 4 ∨ jI C 40 608 = 131
  · have hkm : tm (tkv B e (tps B e q)).1 = kmap (jI C 40 608) := by rw [eK]; rcases c3 with z | z | z <;> (rw [z]; decide)
    have har : f_X12_arguments (tm (tkv B e (tps B e q)).1) ≤ 0 := by rw [eK]; rcases c3 with z | z | z <;> (rw [z]; decide)
    have t0 : tar (jI C 40 608) = 0 := by rcases c3 with z | z | z <;> (rw [z]; decide)
    have tk : tkind (jI C 40 608) := by unfold tkind; rcases c3 with z | z | z <;> (rw [z]; decide)
    have n6 : jI C 40 608 ≠ 6 ∧ jI C 40 608 ≠ 7 ∧ jI C 40 608 ≠ 8 := by rcases c3 with z | z | z <;> (rw [z]; decide)
    have key : ∀ ct : Int64, (jI C 40 608 = 3 → ct = jL C 42 608) → (jI C 40 608 = 4 → f_X5_decimal (jL C 42 608) (jI C 43 608) = some ct) → LC B e N T t ru rs nr A np cn 0 C R (f_X4_part 607 (jI C 40 608) ct C) (f_X12_primary rcR 2398 (nI k) R) := by
      intro ct h3 h4
      rcases BS.new (ru := ru) (rs := rs) h St.refl (Nat.le_refl _) (fun k a b => absurd b (by omega)) q3 q2 (by rw [eK]; rcases c3 with z | z | z <;> (rw [z]; decide)) (by rw [eK]; rcases c3 with z | z | z <;> (rw [z]; decide)) (jI C 40 608) (tm (tkv B e (tps B e q)).1) ct hkm with ⟨C1, R1, fl1, p1, p2, p3, p4, p5⟩ | ⟨C1, R1, R2, R3, p1, p2, p3, p4, p5, b1, -, g5, g6, g7⟩
      · exact LC.flt (x := -1) (y := -1) p1 (by rw [prim_r h q3 q2 q5 rcR (nI k) n40, p2, jbt, if_pos rfl]) (Nat.le_refl _) p4 p5 p3
      · subst g6
        subst g7
        rw [pos_nR q3 q2] at p5
        subst p5
        have hp : np < 300 := by have := b1.1.2.1; omega
        rw [p1, leaf_r h q3 q2 q5 rcR (nI k) n40 n19 n4 hp p2 p3 p4]
        unfold prF
        rw [if_pos har]
        obtain ⟨d1, d2, d3⟩ := b1.2.2.2.2.1
        have d9 := d3 0 (Nat.le_refl _) (by decide)
        have d10 := d3 1 (Nat.zero_le _) (by decide)
        have d11 := d3 2 (Nat.zero_le _) (by decide)
        obtain ⟨y1, y2, y3, y4, y5, y6⟩ := cstR_at (t := t) (p := np) (c := jAL R 2406 q) (s := jAI R 2407 q) (R := jsI (nR t np (tm (tkv B e (tps B e q)).1) (jsI R 114 2398 (nI (np + 1)))) 100 2398 (nI (q + 1))) (301 * t + np)
        rw [if_pos rfl] at y5 y6
        refine b1.leaf cstR_fr (fun z hz => ?_) (rK_leaf d1 (y1.trans d2) t0 (y3.trans d10) (y4.trans d11) (fun _ _ _ => y2.trans d9) (fun z => ?_) (fun z => ?_) (fun z => absurd z n6.1) (fun z => absurd z n6.2.1)) (leaf_t d1 g5 tk t0 (fun z => absurd z n6.1) (fun z => absurd z n6.2.1))
        · obtain ⟨y1, y2, y3, y4, y5, y6⟩ := cstR_at (t := t) (p := np) (c := jAL R 2406 q) (s := jAI R 2407 q) (R := jsI (nR t np (tm (tkv B e (tps B e q)).1) (jsI R 114 2398 (nI (np + 1)))) 100 2398 (nI (q + 1))) z
          rw [if_neg hz] at y5 y6
          exact ⟨y1, y2, y3, y4, y5, y6⟩
        · rcases z with z | z
          · rw [g5, y5, h3 z, q4.2.2.2.1 (.inr (.inl (by rw [eK]; exact z))), q5.2.1 (.inr (.inl (by rw [eK]; exact z)))]
          · exact absurd z n6.2.2
        · have e4 : (tkv B e (tps B e q)).1 = 4 := by rw [eK]; exact z
          have hd := h4 z
          rw [q4.2.2.2.1 (.inr (.inr e4)), q4.2.2.2.2 e4] at hd
          have h6 := tkv_4 e4
          rw [g5, y5, y6, q5.2.1 (.inr (.inr e4)), q5.2.2 e4, nI_toInt (by omega)]
          exact ⟨hd, by omega, by omega⟩
    rcases c3 with z | z | z
    · have ec : f_X4_readP rcC 607 (nI k) C = f_X4_part 607 (jI C 40 608) (jL C 42 608) C := by rw [ec0, if_neg c2, if_pos z, z]
      rw [ec]
      exact key _ (fun _ => rfl) (fun y => absurd (z.symm.trans y) (by decide))
    · have e4 : (tkv B e (tps B e q)).1 = 4 := by rw [eK]; exact z
      have h6 := tkv_4 e4
      obtain ⟨r, r1, r2, r3⟩ := dec_ok (v := jL C 42 608) (sc := jI C 43 608) (by rw [q4.2.2.2.2 e4, nI_toInt (by omega)]; omega)
      have ec : f_X4_readP rcC 607 (nI k) C = f_X4_part 607 (jI C 40 608) r C := by rw [ec0, if_neg c2, if_neg (by rw [z]; decide), if_pos z, r1, obt, z]
      rw [ec]
      exact key _ (fun y => absurd (z.symm.trans y) (by decide)) (fun _ => r1)
    · have ec : f_X4_readP rcC 607 (nI k) C = f_X4_part 607 (jI C 40 608) 0 C := by rw [ec0, if_neg c2, if_neg (by rw [z]; decide), if_neg (by rw [z]; decide), if_neg c40, if_pos z, z]
      rw [ec]
      exact key _ (fun y => absurd (z.symm.trans y) (by decide)) (fun y => absurd (z.symm.trans y) (by decide))
  · have hne : f_X4_readP rcC 607 (nI k) C = rcC 7 607 (nI k) 0 C := by
      rw [ec0, if_neg c2, if_neg (fun z => c3 (.inl z)), if_neg (fun z => c3 (.inr (.inl z))), if_neg c40, if_neg (fun z => c3 (.inr (.inr z))), if_neg c146]
    rw [hne]
    refine hFu A np cn C R hrs hcn h (fun z => hb ?_)
    unfold bU
    rw [if_neg c2, if_neg (fun z => c3 (.inl z)), if_neg (fun z => c3 (.inr (.inl z))), if_neg c40, if_neg h45, if_neg (fun z => c3 (.inr (.inr z))), if_neg c146, if_pos z]
