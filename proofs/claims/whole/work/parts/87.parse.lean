/-! PURE: the parser: the whole text -/
theorem round_ok {B : Nat → Int32} {e N T t : Nat} {C0 R0 : jM} {np nr : Nat} {C R : jM} (h : TS B e N T t C0 R0 np nr 0 C R) :
    ∃ C' R' np' nr' fl', (∀ k31 i, bdC k31 i C = k31 607 (i + 1) C') ∧ (∀ k29, bdR k29 (nI t) R = k29 2398 (nI t) R') ∧ TS B e N T t C0 R0 np' nr' fl' C' R' ∧ (fl' = 0 → nr' = nr + 1 ∧ nr < 24) := by
  obtain ⟨C1, R1, f1, b1, b2, b3, b4, b5⟩ := beg_ok h.1
  have h1 := h.o b3 b4 (fun _ => ⟨rfl, rfl⟩)
  obtain ⟨C2, R2, f2, c1, c2, c3, c4, c5⟩ := chk_ok b3
  have h2 := h1.o c3 c4 (fun z => ⟨(c5 z).1, rfl⟩)
  obtain ⟨C', R', np', nr', fl', d1, d2, d3, d4⟩ := end_ok h2 (v := jL C1 42 608) (fun z => by rw [(c5 z).2.1]) (fun z => b5 (c5 z).1)
  exact ⟨C', R', np', nr', fl', fun k31 i => by rw [b1, c1, d1], fun k29 => by rw [b2, c2, d2], d3, d4⟩
theorem txt_loop {B : Nat → Int32} {e N T t : Nat} {C0 R0 : jM} : ∀ g n n' np nr C R, g + nr = 24 → g + 2 ≤ n → g + 2 ≤ n' → TS B e N T t C0 R0 np nr 0 C R →
    ∃ C' R' np' nr' fl', f_X4_parse_31 n 607 (nI nr) C = some C' ∧ f_X12_readText_29 n' 2398 (nI t) R = some R' ∧ TS B e N T t C0 R0 np' nr' fl' C' R' := by
  intro g
  induction g with
  | zero =>
    intro n n' np nr C R hg hn hn' h
    obtain ⟨n, rfl⟩ : ∃ m, n = m + 1 + 1 := ⟨n - 2, by omega⟩
    obtain ⟨n', rfl⟩ : ∃ m, n' = m + 1 + 1 := ⟨n' - 2, by omega⟩
    have hT := h.1.pt
    obtain ⟨q, q1, q2, q3, q4, q5, q6, q7, q8, q9, q10, q11⟩ := h.1.tk
    have hnow := now_r h.1 q3 q2 q5
    rw [← q4.2.1] at hnow
    have t43 : tm (jI C 40 608) = 43 ↔ jI C 40 608 = 0 := tm_0 h.1.tks
    have hlt : ¬ (24 : Int32) < nI nr := by rw [show (24 : Int32) = nI 24 from rfl, nJ_lt (by omega) (by omega)]; omega
    by_cases c0 : jI C 40 608 = 0
    · refine ⟨C, R, np, nr, 0, ?_, ?_, h⟩
      · rw [f_X4_parse_31, if_neg hlt, if_pos k_607, h.1.fr0.1, if_pos rfl, ly_24 hT.1, obt, if_pos k_608, if_pos c0]
      · rw [f_X12_readText_29, if_pos k_2398, h.1.fr0.2, if_pos rfl, hnow, obt, if_pos (t43.mpr c0)]
    · obtain ⟨C', R', np', nr', fl', d1, d2, d3, d4⟩ := round_ok h
      have hf : fl' ≠ 0 := fun z => by have := (d4 z).2; omega
      obtain ⟨n1, n2⟩ := nfl d3.1 hf
      have n3 : ¬ jI R' 101 2398 = 0 := fun z => n2 (by rw [z]; decide)
      refine ⟨C', R', np', nr', fl', ?_, ?_, d3⟩
      · have := d1 (f_X4_parse_31 (n + 1)) (nI nr)
        unfold bdC at this
        rw [f_X4_parse_31, if_neg hlt, if_pos k_607, h.1.fr0.1, if_pos rfl, ly_24 hT.1, obt, if_pos k_608, if_neg c0, ← ly_24 hT.1, this, f_X4_parse_31, if_pos k_607, if_neg n1]
        split <;> rfl
      · have := d2 (f_X12_readText_29 (n' + 1))
        unfold bdR at this
        rw [f_X12_readText_29, if_pos k_2398, h.1.fr0.2, if_pos rfl, hnow, obt, if_neg (fun z => c0 (t43.mp z)), ← hnow, this, f_X12_readText_29, if_pos k_2398, if_neg n3]
  | succ g ih =>
    intro n n' np nr C R hg hn hn' h
    obtain ⟨n, rfl⟩ : ∃ m, n = m + 1 + 1 := ⟨n - 2, by omega⟩
    obtain ⟨n', rfl⟩ : ∃ m, n' = m + 1 + 1 := ⟨n' - 2, by omega⟩
    have hT := h.1.pt
    obtain ⟨q, q1, q2, q3, q4, q5, q6, q7, q8, q9, q10, q11⟩ := h.1.tk
    have hnow := now_r h.1 q3 q2 q5
    rw [← q4.2.1] at hnow
    have t43 : tm (jI C 40 608) = 43 ↔ jI C 40 608 = 0 := tm_0 h.1.tks
    have hlt : ¬ (24 : Int32) < nI nr := by rw [show (24 : Int32) = nI 24 from rfl, nJ_lt (by omega) (by omega)]; omega
    by_cases c0 : jI C 40 608 = 0
    · refine ⟨C, R, np, nr, 0, ?_, ?_, h⟩
      · rw [f_X4_parse_31, if_neg hlt, if_pos k_607, h.1.fr0.1, if_pos rfl, ly_24 hT.1, obt, if_pos k_608, if_pos c0]
      · rw [f_X12_readText_29, if_pos k_2398, h.1.fr0.2, if_pos rfl, hnow, obt, if_pos (t43.mpr c0)]
    · obtain ⟨C', R', np', nr', fl', d1, d2, d3, d4⟩ := round_ok h
      have e1 : f_X4_parse_31 (n + 1 + 1) 607 (nI nr) C = f_X4_parse_31 (n + 1) 607 (nI nr + 1) C' := by
        have := d1 (f_X4_parse_31 (n + 1)) (nI nr)
        unfold bdC at this
        rw [f_X4_parse_31, if_neg hlt, if_pos k_607, h.1.fr0.1, if_pos rfl, ly_24 hT.1, obt, if_pos k_608, if_neg c0, ← ly_24 hT.1, this]
      have e2 : f_X12_readText_29 (n' + 1 + 1) 2398 (nI t) R = f_X12_readText_29 (n' + 1) 2398 (nI t) R' := by
        have := d2 (f_X12_readText_29 (n' + 1))
        unfold bdR at this
        rw [f_X12_readText_29, if_pos k_2398, h.1.fr0.2, if_pos rfl, hnow, obt, if_neg (fun z => c0 (t43.mp z)), ← hnow, this]
      rw [e1, e2]
      by_cases hf : fl' = 0
      · obtain ⟨z1, z2⟩ := d4 hf
        subst z1
        subst hf
        rw [nJ_1 (by omega)]
        exact ih (n + 1) (n' + 1) np' (nr + 1) C' R' (by omega) (by omega) (by omega) d3
      · obtain ⟨n1, n2⟩ := nfl d3.1 hf
        have n3 : ¬ jI R' 101 2398 = 0 := fun z => n2 (by rw [z]; decide)
        refine ⟨C', R', np', nr', fl', ?_, ?_, d3⟩
        · rw [f_X4_parse_31, if_pos k_607, if_neg n1]
          split <;> rfl
        · rw [f_X12_readText_29, if_pos k_2398, if_neg n3]
theorem TS.rX {B : Nat → Int32} {e N T t : Nat} {C0 R0 : jM} {np nr : Nat} {C R : jM} (h : TS B e N T t C0 R0 np nr 0 C R) : rX C T R t := by
  obtain ⟨hP, hs2, hs3, hs4, hs5, hs6⟩ := h
  obtain ⟨g1, ru, g2⟩ := hs6 rfl
  obtain ⟨-, z1, z2, z3, z4, z5, z6, z7, z8, z9, z10, -⟩ := hP
  refine ⟨np, nr, z1, z2, z4, z5, z6, fun k hk => g1 k (Nat.zero_le _) hk, ru, fun r hr => ?_⟩
  obtain ⟨a1, a2, k, a3, a4, a5⟩ := g2 r hr
  exact ⟨z9 r hr, by omega, a2, k, a3, a4, a5⟩
/-- a text is read by both -/
theorem parse_ok {B : Nat → Int32} {e N T t : Nat} {C R : jM} (hC : tOp C e) (hi : jI C 39 608 = nI 0) (hB : cB C = B) (hR : Lay R) (hTk : Toks B e N R) (h100 : jI R 100 2398 = 0) (h101 : jI R 101 2398 = 0) (hT : jR C 25 607 = some T) (hk : jK T = 6) (ht : t < 33) :
    ∃ C' R' np nr fl, f_X4_parse 607 C = some C' ∧ f_X12_readText 2398 (nI t) R = some R' ∧ TS B e N T t C R np nr fl C' R' := by
  obtain ⟨m1, m2, -⟩ := t_45 hk
  obtain ⟨hL, h38, he⟩ := hC
  have n0 : nI 0 = (0 : Int32) := rfl
  have hF0 : Fr (pXC T) C (jsI (jsI (jsI (jsI (jsI (jsI C 44 T (-1)) 45 T 0) 49 T 0) 26 607 0) 27 607 0) 30 607 0) := ((((((Fr.refl).sI (by unfold pXC; omega)).sI (by unfold pXC; omega)).sI (by unfold pXC; omega)).sI (by unfold pXC pPC; omega)).sI (by unfold pXC pPC; omega)).sI (by unfold pXC pPC; omega)
  have hL0 : Lay (jsI (jsI (jsI (jsI (jsI (jsI C 44 T (-1)) 45 T 0) 49 T 0) 26 607 0) 27 607 0) 30 607 0) := hL.fr (p := fun t f a => t = 0) ((((((Fr.refl).sI rfl).sI rfl).sI rfl).sI rfl).sI rfl |>.sI rfl) (fun f a z => absurd z (by omega)) (fun a z => absurd z (by omega))
  obtain ⟨C1, c1, c2, c3⟩ := next_ok (e := e) (i := 0) (S := jsI (jsI (jsI (jsI (jsI (jsI C 44 T (-1)) 45 T 0) 49 T 0) 26 607 0) 27 607 0) 30 607 0) ⟨hL0, by simp only [m_I_sI, m_L_sI, m_R_sI, m_AI_sI, m_AL_sI, m_AD_sI, m_AR_sI, m_n_sI, m_I_sL, m_L_sL, m_R_sL, m_AI_sL, m_AL_sL, m_AD_sL, m_AR_sL, m_n_sL, m_I_sR, m_L_sR, m_R_sR, m_AI_sR, m_AL_sR, m_AD_sR, m_AR_sR, m_n_sR, m_I_rI, m_L_rI, m_R_rI, m_AI_rI, m_AL_rI, m_AD_rI, m_AR_rI, m_n_rI, m_I_rL, m_L_rL, m_R_rL, m_AI_rL, m_AL_rL, m_AD_rL, m_AR_rL, m_n_rL, m_I_rD, m_L_rD, m_R_rD, m_AI_rD, m_AL_rD, m_AD_rD, m_AR_rD, m_n_rD, m_I_rR, m_L_rR, m_R_rR, m_AI_rR, m_AL_rR, m_AD_rR, m_AR_rR, m_n_rR, true_and, and_true, and_false, false_and, and_self, if_true, if_false, ite_self, Nat.reduceEqDiff, reduceIte, obt, jlt, jbt, jbd_ite, bind_ite]; exact h38, he⟩ (by simp only [m_I_sI, m_L_sI, m_R_sI, m_AI_sI, m_AL_sI, m_AD_sI, m_AR_sI, m_n_sI, m_I_sL, m_L_sL, m_R_sL, m_AI_sL, m_AL_sL, m_AD_sL, m_AR_sL, m_n_sL, m_I_sR, m_L_sR, m_R_sR, m_AI_sR, m_AL_sR, m_AD_sR, m_AR_sR, m_n_sR, m_I_rI, m_L_rI, m_R_rI, m_AI_rI, m_AL_rI, m_AD_rI, m_AR_rI, m_n_rI, m_I_rL, m_L_rL, m_R_rL, m_AI_rL, m_AL_rL, m_AD_rL, m_AR_rL, m_n_rL, m_I_rD, m_L_rD, m_R_rD, m_AI_rD, m_AL_rD, m_AD_rD, m_AR_rD, m_n_rD, m_I_rR, m_L_rR, m_R_rR, m_AI_rR, m_AL_rR, m_AD_rR, m_AR_rR, m_n_rR, true_and, and_true, and_false, false_and, and_self, if_true, if_false, ite_self, Nat.reduceEqDiff, reduceIte, obt, jlt, jbt, jbd_ite, bind_ite]; exact hi) (Nat.zero_le _)
  have hB1 : cB (jsI (jsI (jsI (jsI (jsI (jsI C 44 T (-1)) 45 T 0) 49 T 0) 26 607 0) 27 607 0) 30 607 0) = B := hB
  rw [hB1] at c3
  have hF1 : Fr (pXC T) C C1 := hF0.trans (c2.mono (fun _ _ _ z => .inl (pTk_PC z)))
  have hL1 : Lay C1 := hL0.fr c2 (fun f a z => by unfold pTk at z; omega) (fun a z => by unfold pTk at z; omega)
  have a14 : jA 2414 13 (nI t) = true := jA_n k_2414 (by rw [ln_2414]; omega) (by omega)
  have a15 : jA 2415 13 (nI t) = true := jA_n k_2415 (by rw [ln_2415]; omega) (by omega)
  have c15 : (nI t).toNatClampNeg = t := nJ_cl (by omega)
  have er : f_X12_readText 2398 (nI t) R = f_X12_readText_29 1100000 2398 (nI t) (jsI (jsI (jrI (jrI (jsI R 113 2398 (nI t)) 2414 (upd (jAI R 2414) t 0)) 2415 (upd (jAI R 2415) t 0)) 114 2398 0) 117 2398 0) := by
    unfold f_X12_readText
    simp only [k_2398, ly_109 hR, ly_110 hR, a14, a15, c15, m_I_sI, m_L_sI, m_R_sI, m_AI_sI, m_AL_sI, m_AD_sI, m_AR_sI, m_n_sI, m_I_sL, m_L_sL, m_R_sL, m_AI_sL, m_AL_sL, m_AD_sL, m_AR_sL, m_n_sL, m_I_sR, m_L_sR, m_R_sR, m_AI_sR, m_AL_sR, m_AD_sR, m_AR_sR, m_n_sR, m_I_rI, m_L_rI, m_R_rI, m_AI_rI, m_AL_rI, m_AD_rI, m_AR_rI, m_n_rI, m_I_rL, m_L_rL, m_R_rL, m_AI_rL, m_AL_rL, m_AD_rL, m_AR_rL, m_n_rL, m_I_rD, m_L_rD, m_R_rD, m_AI_rD, m_AL_rD, m_AD_rD, m_AR_rD, m_n_rD, m_I_rR, m_L_rR, m_R_rR, m_AI_rR, m_AL_rR, m_AD_rR, m_AR_rR, m_n_rR, true_and, and_true, and_false, false_and, and_self, if_true, if_false, ite_self, Nat.reduceEqDiff, reduceIte, obt, jlt, jbt, jbd_ite, bind_ite]
  have hFR : Fr pXR R (jsI (jsI (jrI (jrI (jsI R 113 2398 (nI t)) 2414 (upd (jAI R 2414) t 0)) 2415 (upd (jAI R 2415) t 0)) 114 2398 0) 117 2398 0) := (((((Fr.refl).sI (by unfold pXR; omega)).rI (by unfold pXR pPR; omega)).rI (by unfold pXR pPR; omega)).sI (by unfold pXR pPR; omega)).sI (by unfold pXR pPR; omega)
  have hLR : Lay (jsI (jsI (jrI (jrI (jsI R 113 2398 (nI t)) 2414 (upd (jAI R 2414) t 0)) 2415 (upd (jAI R 2415) t 0)) 114 2398 0) 117 2398 0) := hR.fr hFR (fun f a z => by unfold pXR pPR at z; omega) (fun a z => by have := k16r a; unfold pXR pPR at z; omega)
  have ec : f_X4_parse 607 C = f_X4_parse_31 1100000 607 (nI 0) C1 := by
    unfold f_X4_parse f_X8_clear
    rw [if_pos k_607, hT, obt, if_pos hk, if_pos hk, jlt, jlt, jlt, obt, jlt, jlt, jlt]
    have l24 : jR (jsI (jsI (jsI (jsI (jsI (jsI C 44 T (-1)) 45 T 0) 49 T 0) 26 607 0) 27 607 0) 30 607 0) 24 607 = some 608 := ly_24 hL0
    rw [l24, obt, if_pos k_608, c1, obt]
    rfl
  have N1 := hTk.1
  have hT1 : TS B e N T t C R 0 0 0 C1 (jsI (jsI (jrI (jrI (jsI R 113 2398 (nI t)) 2414 (upd (jAI R 2414) t 0)) 2415 (upd (jAI R 2415) t 0)) 114 2398 0) 117 2398 0) := by
    refine ⟨⟨⟨hL1, hLR, hk, ht, he, ?_, ?_, ?_, hTk.f ?_ ?_ ?_ ?_, ?_⟩, by omega, by omega, by omega, ?_, ?_, ?_, ?_, ?_, fun r hr => absurd hr (by omega), fun i hi => absurd hi (by omega), ?_, ?_, by decide, fun z => absurd rfl z, 0, by omega, ?_, fun _ => ⟨c3, ?_, ?_⟩⟩, hF1, hFR, fun s h1 h2 => ?_, ?_, fun _ => ⟨fun k a b => absurd b (by omega), fun _ => (0, 0, 0), fun r hr => absurd hr (by omega)⟩⟩
    · rw [c2.r (by unfold pTk; omega)]; simp only [m_I_sI, m_L_sI, m_R_sI, m_AI_sI, m_AL_sI, m_AD_sI, m_AR_sI, m_n_sI, m_I_sL, m_L_sL, m_R_sL, m_AI_sL, m_AL_sL, m_AD_sL, m_AR_sL, m_n_sL, m_I_sR, m_L_sR, m_R_sR, m_AI_sR, m_AL_sR, m_AD_sR, m_AR_sR, m_n_sR, m_I_rI, m_L_rI, m_R_rI, m_AI_rI, m_AL_rI, m_AD_rI, m_AR_rI, m_n_rI, m_I_rL, m_L_rL, m_R_rL, m_AI_rL, m_AL_rL, m_AD_rL, m_AR_rL, m_n_rL, m_I_rD, m_L_rD, m_R_rD, m_AI_rD, m_AL_rD, m_AD_rD, m_AR_rD, m_n_rD, m_I_rR, m_L_rR, m_R_rR, m_AI_rR, m_AL_rR, m_AD_rR, m_AR_rR, m_n_rR, true_and, and_true, and_false, false_and, and_self, if_true, if_false, ite_self, Nat.reduceEqDiff, reduceIte, obt, jlt, jbt, jbd_ite, bind_ite]; exact hT
    · rw [c2.i (by unfold pTk; omega)]; simp only [m_I_sI, m_L_sI, m_R_sI, m_AI_sI, m_AL_sI, m_AD_sI, m_AR_sI, m_n_sI, m_I_sL, m_L_sL, m_R_sL, m_AI_sL, m_AL_sL, m_AD_sL, m_AR_sL, m_n_sL, m_I_sR, m_L_sR, m_R_sR, m_AI_sR, m_AL_sR, m_AD_sR, m_AR_sR, m_n_sR, m_I_rI, m_L_rI, m_R_rI, m_AI_rI, m_AL_rI, m_AD_rI, m_AR_rI, m_n_rI, m_I_rL, m_L_rL, m_R_rL, m_AI_rL, m_AL_rL, m_AD_rL, m_AR_rL, m_n_rL, m_I_rD, m_L_rD, m_R_rD, m_AI_rD, m_AL_rD, m_AD_rD, m_AR_rD, m_n_rD, m_I_rR, m_L_rR, m_R_rR, m_AI_rR, m_AL_rR, m_AD_rR, m_AR_rR, m_n_rR, true_and, and_true, and_false, false_and, and_self, if_true, if_false, ite_self, Nat.reduceEqDiff, reduceIte, obt, jlt, jbt, jbd_ite, bind_ite]; exact h38
    · rw [cB_f c2]; exact hB1
    · simp only [m_I_sI, m_L_sI, m_R_sI, m_AI_sI, m_AL_sI, m_AD_sI, m_AR_sI, m_n_sI, m_I_sL, m_L_sL, m_R_sL, m_AI_sL, m_AL_sL, m_AD_sL, m_AR_sL, m_n_sL, m_I_sR, m_L_sR, m_R_sR, m_AI_sR, m_AL_sR, m_AD_sR, m_AR_sR, m_n_sR, m_I_rI, m_L_rI, m_R_rI, m_AI_rI, m_AL_rI, m_AD_rI, m_AR_rI, m_n_rI, m_I_rL, m_L_rL, m_R_rL, m_AI_rL, m_AL_rL, m_AD_rL, m_AR_rL, m_n_rL, m_I_rD, m_L_rD, m_R_rD, m_AI_rD, m_AL_rD, m_AD_rD, m_AR_rD, m_n_rD, m_I_rR, m_L_rR, m_R_rR, m_AI_rR, m_AL_rR, m_AD_rR, m_AR_rR, m_n_rR, true_and, and_true, and_false, false_and, and_self, if_true, if_false, ite_self, Nat.reduceEqDiff, reduceIte, obt, jlt, jbt, jbd_ite, bind_ite]
    · simp only [m_I_sI, m_L_sI, m_R_sI, m_AI_sI, m_AL_sI, m_AD_sI, m_AR_sI, m_n_sI, m_I_sL, m_L_sL, m_R_sL, m_AI_sL, m_AL_sL, m_AD_sL, m_AR_sL, m_n_sL, m_I_sR, m_L_sR, m_R_sR, m_AI_sR, m_AL_sR, m_AD_sR, m_AR_sR, m_n_sR, m_I_rI, m_L_rI, m_R_rI, m_AI_rI, m_AL_rI, m_AD_rI, m_AR_rI, m_n_rI, m_I_rL, m_L_rL, m_R_rL, m_AI_rL, m_AL_rL, m_AD_rL, m_AR_rL, m_n_rL, m_I_rD, m_L_rD, m_R_rD, m_AI_rD, m_AL_rD, m_AD_rD, m_AR_rD, m_n_rD, m_I_rR, m_L_rR, m_R_rR, m_AI_rR, m_AL_rR, m_AD_rR, m_AR_rR, m_n_rR, true_and, and_true, and_false, false_and, and_self, if_true, if_false, ite_self, Nat.reduceEqDiff, reduceIte, obt, jlt, jbt, jbd_ite, bind_ite]
    · simp only [m_I_sI, m_L_sI, m_R_sI, m_AI_sI, m_AL_sI, m_AD_sI, m_AR_sI, m_n_sI, m_I_sL, m_L_sL, m_R_sL, m_AI_sL, m_AL_sL, m_AD_sL, m_AR_sL, m_n_sL, m_I_sR, m_L_sR, m_R_sR, m_AI_sR, m_AL_sR, m_AD_sR, m_AR_sR, m_n_sR, m_I_rI, m_L_rI, m_R_rI, m_AI_rI, m_AL_rI, m_AD_rI, m_AR_rI, m_n_rI, m_I_rL, m_L_rL, m_R_rL, m_AI_rL, m_AL_rL, m_AD_rL, m_AR_rL, m_n_rL, m_I_rD, m_L_rD, m_R_rD, m_AI_rD, m_AL_rD, m_AD_rD, m_AR_rD, m_n_rD, m_I_rR, m_L_rR, m_R_rR, m_AI_rR, m_AL_rR, m_AD_rR, m_AR_rR, m_n_rR, true_and, and_true, and_false, false_and, and_self, if_true, if_false, ite_self, Nat.reduceEqDiff, reduceIte, obt, jlt, jbt, jbd_ite, bind_ite]
    · simp only [m_I_sI, m_L_sI, m_R_sI, m_AI_sI, m_AL_sI, m_AD_sI, m_AR_sI, m_n_sI, m_I_sL, m_L_sL, m_R_sL, m_AI_sL, m_AL_sL, m_AD_sL, m_AR_sL, m_n_sL, m_I_sR, m_L_sR, m_R_sR, m_AI_sR, m_AL_sR, m_AD_sR, m_AR_sR, m_n_sR, m_I_rI, m_L_rI, m_R_rI, m_AI_rI, m_AL_rI, m_AD_rI, m_AR_rI, m_n_rI, m_I_rL, m_L_rL, m_R_rL, m_AI_rL, m_AL_rL, m_AD_rL, m_AR_rL, m_n_rL, m_I_rD, m_L_rD, m_R_rD, m_AI_rD, m_AL_rD, m_AD_rD, m_AR_rD, m_n_rD, m_I_rR, m_L_rR, m_R_rR, m_AI_rR, m_AL_rR, m_AD_rR, m_AR_rR, m_n_rR, true_and, and_true, and_false, false_and, and_self, if_true, if_false, ite_self, Nat.reduceEqDiff, reduceIte, obt, jlt, jbt, jbd_ite, bind_ite]
    · simp only [m_I_sI, m_L_sI, m_R_sI, m_AI_sI, m_AL_sI, m_AD_sI, m_AR_sI, m_n_sI, m_I_sL, m_L_sL, m_R_sL, m_AI_sL, m_AL_sL, m_AD_sL, m_AR_sL, m_n_sL, m_I_sR, m_L_sR, m_R_sR, m_AI_sR, m_AL_sR, m_AD_sR, m_AR_sR, m_n_sR, m_I_rI, m_L_rI, m_R_rI, m_AI_rI, m_AL_rI, m_AD_rI, m_AR_rI, m_n_rI, m_I_rL, m_L_rL, m_R_rL, m_AI_rL, m_AL_rL, m_AD_rL, m_AR_rL, m_n_rL, m_I_rD, m_L_rD, m_R_rD, m_AI_rD, m_AL_rD, m_AD_rD, m_AR_rD, m_n_rD, m_I_rR, m_L_rR, m_R_rR, m_AI_rR, m_AL_rR, m_AD_rR, m_AR_rR, m_n_rR, true_and, and_true, and_false, false_and, and_self, if_true, if_false, ite_self, Nat.reduceEqDiff, reduceIte, obt, jlt, jbt, jbd_ite, bind_ite]
    · rw [c2.i (by unfold pTk; omega)]; simp only [m_I_sI, m_L_sI, m_R_sI, m_AI_sI, m_AL_sI, m_AD_sI, m_AR_sI, m_n_sI, m_I_sL, m_L_sL, m_R_sL, m_AI_sL, m_AL_sL, m_AD_sL, m_AR_sL, m_n_sL, m_I_sR, m_L_sR, m_R_sR, m_AI_sR, m_AL_sR, m_AD_sR, m_AR_sR, m_n_sR, m_I_rI, m_L_rI, m_R_rI, m_AI_rI, m_AL_rI, m_AD_rI, m_AR_rI, m_n_rI, m_I_rL, m_L_rL, m_R_rL, m_AI_rL, m_AL_rL, m_AD_rL, m_AR_rL, m_n_rL, m_I_rD, m_L_rD, m_R_rD, m_AI_rD, m_AL_rD, m_AD_rD, m_AR_rD, m_n_rD, m_I_rR, m_L_rR, m_R_rR, m_AI_rR, m_AL_rR, m_AD_rR, m_AR_rR, m_n_rR, true_and, and_true, and_false, false_and, and_self, if_true, if_false, ite_self, Nat.reduceEqDiff, reduceIte, obt, jlt, jbt, jbd_ite, bind_ite]; rfl
    · rw [c2.i (by unfold pTk; omega)]; simp only [m_I_sI, m_L_sI, m_R_sI, m_AI_sI, m_AL_sI, m_AD_sI, m_AR_sI, m_n_sI, m_I_sL, m_L_sL, m_R_sL, m_AI_sL, m_AL_sL, m_AD_sL, m_AR_sL, m_n_sL, m_I_sR, m_L_sR, m_R_sR, m_AI_sR, m_AL_sR, m_AD_sR, m_AR_sR, m_n_sR, m_I_rI, m_L_rI, m_R_rI, m_AI_rI, m_AL_rI, m_AD_rI, m_AR_rI, m_n_rI, m_I_rL, m_L_rL, m_R_rL, m_AI_rL, m_AL_rL, m_AD_rL, m_AR_rL, m_n_rL, m_I_rD, m_L_rD, m_R_rD, m_AI_rD, m_AL_rD, m_AD_rD, m_AR_rD, m_n_rD, m_I_rR, m_L_rR, m_R_rR, m_AI_rR, m_AL_rR, m_AD_rR, m_AR_rR, m_n_rR, true_and, and_true, and_false, false_and, and_self, if_true, if_false, ite_self, Nat.reduceEqDiff, reduceIte, obt, jlt, jbt, jbd_ite, bind_ite]; rfl
    · simp only [m_I_sI, m_L_sI, m_R_sI, m_AI_sI, m_AL_sI, m_AD_sI, m_AR_sI, m_n_sI, m_I_sL, m_L_sL, m_R_sL, m_AI_sL, m_AL_sL, m_AD_sL, m_AR_sL, m_n_sL, m_I_sR, m_L_sR, m_R_sR, m_AI_sR, m_AL_sR, m_AD_sR, m_AR_sR, m_n_sR, m_I_rI, m_L_rI, m_R_rI, m_AI_rI, m_AL_rI, m_AD_rI, m_AR_rI, m_n_rI, m_I_rL, m_L_rL, m_R_rL, m_AI_rL, m_AL_rL, m_AD_rL, m_AR_rL, m_n_rL, m_I_rD, m_L_rD, m_R_rD, m_AI_rD, m_AL_rD, m_AD_rD, m_AR_rD, m_n_rD, m_I_rR, m_L_rR, m_R_rR, m_AI_rR, m_AL_rR, m_AD_rR, m_AR_rR, m_n_rR, upd_if, true_and, and_true, and_false, false_and, and_self, if_true, if_false, ite_self, Nat.reduceEqDiff, reduceIte, obt, jlt, jbt, jbd_ite, bind_ite]; rfl
    · rw [c2.i (by unfold pTk; omega)]; simp only [m_I_sI, m_L_sI, m_R_sI, m_AI_sI, m_AL_sI, m_AD_sI, m_AR_sI, m_n_sI, m_I_sL, m_L_sL, m_R_sL, m_AI_sL, m_AL_sL, m_AD_sL, m_AR_sL, m_n_sL, m_I_sR, m_L_sR, m_R_sR, m_AI_sR, m_AL_sR, m_AD_sR, m_AR_sR, m_n_sR, m_I_rI, m_L_rI, m_R_rI, m_AI_rI, m_AL_rI, m_AD_rI, m_AR_rI, m_n_rI, m_I_rL, m_L_rL, m_R_rL, m_AI_rL, m_AL_rL, m_AD_rL, m_AR_rL, m_n_rL, m_I_rD, m_L_rD, m_R_rD, m_AI_rD, m_AL_rD, m_AD_rD, m_AR_rD, m_n_rD, m_I_rR, m_L_rR, m_R_rR, m_AI_rR, m_AL_rR, m_AD_rR, m_AR_rR, m_n_rR, true_and, and_true, and_false, false_and, and_self, if_true, if_false, ite_self, Nat.reduceEqDiff, reduceIte, obt, jlt, jbt, jbd_ite, bind_ite]; rfl
    · simp only [m_I_sI, m_L_sI, m_R_sI, m_AI_sI, m_AL_sI, m_AD_sI, m_AR_sI, m_n_sI, m_I_sL, m_L_sL, m_R_sL, m_AI_sL, m_AL_sL, m_AD_sL, m_AR_sL, m_n_sL, m_I_sR, m_L_sR, m_R_sR, m_AI_sR, m_AL_sR, m_AD_sR, m_AR_sR, m_n_sR, m_I_rI, m_L_rI, m_R_rI, m_AI_rI, m_AL_rI, m_AD_rI, m_AR_rI, m_n_rI, m_I_rL, m_L_rL, m_R_rL, m_AI_rL, m_AL_rL, m_AD_rL, m_AR_rL, m_n_rL, m_I_rD, m_L_rD, m_R_rD, m_AI_rD, m_AL_rD, m_AD_rD, m_AR_rD, m_n_rD, m_I_rR, m_L_rR, m_R_rR, m_AI_rR, m_AL_rR, m_AD_rR, m_AR_rR, m_n_rR, true_and, and_true, and_false, false_and, and_self, if_true, if_false, ite_self, Nat.reduceEqDiff, reduceIte, obt, jlt, jbt, jbd_ite, bind_ite]; rfl
    · rw [c2.i (by unfold pTk; omega)]; simp only [m_I_sI, m_L_sI, m_R_sI, m_AI_sI, m_AL_sI, m_AD_sI, m_AR_sI, m_n_sI, m_I_sL, m_L_sL, m_R_sL, m_AI_sL, m_AL_sL, m_AD_sL, m_AR_sL, m_n_sL, m_I_sR, m_L_sR, m_R_sR, m_AI_sR, m_AL_sR, m_AD_sR, m_AR_sR, m_n_sR, m_I_rI, m_L_rI, m_R_rI, m_AI_rI, m_AL_rI, m_AD_rI, m_AR_rI, m_n_rI, m_I_rL, m_L_rL, m_R_rL, m_AI_rL, m_AL_rL, m_AD_rL, m_AR_rL, m_n_rL, m_I_rD, m_L_rD, m_R_rD, m_AI_rD, m_AL_rD, m_AD_rD, m_AR_rD, m_n_rD, m_I_rR, m_L_rR, m_R_rR, m_AI_rR, m_AL_rR, m_AD_rR, m_AR_rR, m_n_rR, true_and, and_true, and_false, false_and, and_self, if_true, if_false, ite_self, Nat.reduceEqDiff, reduceIte, obt, jlt, jbt, jbd_ite, bind_ite]
    · simp only [m_I_sI, m_L_sI, m_R_sI, m_AI_sI, m_AL_sI, m_AD_sI, m_AR_sI, m_n_sI, m_I_sL, m_L_sL, m_R_sL, m_AI_sL, m_AL_sL, m_AD_sL, m_AR_sL, m_n_sL, m_I_sR, m_L_sR, m_R_sR, m_AI_sR, m_AL_sR, m_AD_sR, m_AR_sR, m_n_sR, m_I_rI, m_L_rI, m_R_rI, m_AI_rI, m_AL_rI, m_AD_rI, m_AR_rI, m_n_rI, m_I_rL, m_L_rL, m_R_rL, m_AI_rL, m_AL_rL, m_AD_rL, m_AR_rL, m_n_rL, m_I_rD, m_L_rD, m_R_rD, m_AI_rD, m_AL_rD, m_AD_rD, m_AR_rD, m_n_rD, m_I_rR, m_L_rR, m_R_rR, m_AI_rR, m_AL_rR, m_AD_rR, m_AR_rR, m_n_rR, true_and, and_true, and_false, false_and, and_self, if_true, if_false, ite_self, Nat.reduceEqDiff, reduceIte, obt, jlt, jbt, jbd_ite, bind_ite]; exact h101
    · simp only [m_I_sI, m_L_sI, m_R_sI, m_AI_sI, m_AL_sI, m_AD_sI, m_AR_sI, m_n_sI, m_I_sL, m_L_sL, m_R_sL, m_AI_sL, m_AL_sL, m_AD_sL, m_AR_sL, m_n_sL, m_I_sR, m_L_sR, m_R_sR, m_AI_sR, m_AL_sR, m_AD_sR, m_AR_sR, m_n_sR, m_I_rI, m_L_rI, m_R_rI, m_AI_rI, m_AL_rI, m_AD_rI, m_AR_rI, m_n_rI, m_I_rL, m_L_rL, m_R_rL, m_AI_rL, m_AL_rL, m_AD_rL, m_AR_rL, m_n_rL, m_I_rD, m_L_rD, m_R_rD, m_AI_rD, m_AL_rD, m_AD_rD, m_AR_rD, m_n_rD, m_I_rR, m_L_rR, m_R_rR, m_AI_rR, m_AL_rR, m_AD_rR, m_AR_rR, m_n_rR, true_and, and_true, and_false, false_and, and_self, if_true, if_false, ite_self, Nat.reduceEqDiff, reduceIte, obt, jlt, jbt, jbd_ite, bind_ite]; rw [h100]; rfl
    · simp only [m_I_sI, m_L_sI, m_R_sI, m_AI_sI, m_AL_sI, m_AD_sI, m_AR_sI, m_n_sI, m_I_sL, m_L_sL, m_R_sL, m_AI_sL, m_AL_sL, m_AD_sL, m_AR_sL, m_n_sL, m_I_sR, m_L_sR, m_R_sR, m_AI_sR, m_AL_sR, m_AD_sR, m_AR_sR, m_n_sR, m_I_rI, m_L_rI, m_R_rI, m_AI_rI, m_AL_rI, m_AD_rI, m_AR_rI, m_n_rI, m_I_rL, m_L_rL, m_R_rL, m_AI_rL, m_AL_rL, m_AD_rL, m_AR_rL, m_n_rL, m_I_rD, m_L_rD, m_R_rD, m_AI_rD, m_AL_rD, m_AD_rD, m_AR_rD, m_n_rD, m_I_rR, m_L_rR, m_R_rR, m_AI_rR, m_AL_rR, m_AD_rR, m_AR_rR, m_n_rR, upd_if, true_and, and_true, and_false, false_and, and_self, if_true, if_false, ite_self, Nat.reduceEqDiff, reduceIte, obt, jlt, jbt, jbd_ite, bind_ite]; rfl
    · simp only [m_I_sI, m_L_sI, m_R_sI, m_AI_sI, m_AL_sI, m_AD_sI, m_AR_sI, m_n_sI, m_I_sL, m_L_sL, m_R_sL, m_AI_sL, m_AL_sL, m_AD_sL, m_AR_sL, m_n_sL, m_I_sR, m_L_sR, m_R_sR, m_AI_sR, m_AL_sR, m_AD_sR, m_AR_sR, m_n_sR, m_I_rI, m_L_rI, m_R_rI, m_AI_rI, m_AL_rI, m_AD_rI, m_AR_rI, m_n_rI, m_I_rL, m_L_rL, m_R_rL, m_AI_rL, m_AL_rL, m_AD_rL, m_AR_rL, m_n_rL, m_I_rD, m_L_rD, m_R_rD, m_AI_rD, m_AL_rD, m_AD_rD, m_AR_rD, m_n_rD, m_I_rR, m_L_rR, m_R_rR, m_AI_rR, m_AL_rR, m_AD_rR, m_AR_rR, m_n_rR, true_and, and_true, and_false, false_and, and_self, if_true, if_false, ite_self, Nat.reduceEqDiff, reduceIte, obt, jlt, jbt, jbd_ite, bind_ite]; rfl
    · unfold sX
      simp only [m_I_sI, m_L_sI, m_R_sI, m_AI_sI, m_AL_sI, m_AD_sI, m_AR_sI, m_n_sI, m_I_sL, m_L_sL, m_R_sL, m_AI_sL, m_AL_sL, m_AD_sL, m_AR_sL, m_n_sL, m_I_sR, m_L_sR, m_R_sR, m_AI_sR, m_AL_sR, m_AD_sR, m_AR_sR, m_n_sR, m_I_rI, m_L_rI, m_R_rI, m_AI_rI, m_AL_rI, m_AD_rI, m_AR_rI, m_n_rI, m_I_rL, m_L_rL, m_R_rL, m_AI_rL, m_AL_rL, m_AD_rL, m_AR_rL, m_n_rL, m_I_rD, m_L_rD, m_R_rD, m_AI_rD, m_AL_rD, m_AD_rD, m_AR_rD, m_n_rD, m_I_rR, m_L_rR, m_R_rR, m_AI_rR, m_AL_rR, m_AD_rR, m_AR_rR, m_n_rR, upd_if, if_neg h2, true_and, and_true, and_false, false_and, and_self, if_true, if_false, ite_self, Nat.reduceEqDiff, reduceIte, obt, jlt, jbt, jbd_ite, bind_ite]
      exact ⟨fun _ _ => trivial, fun _ _ => trivial⟩
    · rw [c2.i (by unfold pTk; omega)]; simp only [m_I_sI, m_L_sI, m_R_sI, m_AI_sI, m_AL_sI, m_AD_sI, m_AR_sI, m_n_sI, m_I_sL, m_L_sL, m_R_sL, m_AI_sL, m_AL_sL, m_AD_sL, m_AR_sL, m_n_sL, m_I_sR, m_L_sR, m_R_sR, m_AI_sR, m_AL_sR, m_AD_sR, m_AR_sR, m_n_sR, m_I_rI, m_L_rI, m_R_rI, m_AI_rI, m_AL_rI, m_AD_rI, m_AR_rI, m_n_rI, m_I_rL, m_L_rL, m_R_rL, m_AI_rL, m_AL_rL, m_AD_rL, m_AR_rL, m_n_rL, m_I_rD, m_L_rD, m_R_rD, m_AI_rD, m_AL_rD, m_AD_rD, m_AR_rD, m_n_rD, m_I_rR, m_L_rR, m_R_rR, m_AI_rR, m_AL_rR, m_AD_rR, m_AR_rR, m_n_rR, true_and, and_true, and_false, false_and, and_self, if_true, if_false, ite_self, Nat.reduceEqDiff, reduceIte, obt, jlt, jbt, jbd_ite, bind_ite]
  rw [ec, er]
  exact txt_loop 24 1100000 1100000 0 0 C1 _ (by omega) (by omega) (by omega) hT1
