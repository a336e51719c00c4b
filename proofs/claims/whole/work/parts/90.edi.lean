/-! PURE: an edition -/
theorem rX.e {C R : jM} {T t : Nat} (h : rX C T R t) {C' R' : jM} (h1 : jI C' 45 T = jI C 45 T) (h2 : jI C' 49 T = jI C 49 T) (h3 : jAI C' = jAI C) (h4 : jAL C' = jAL C) (hX : sX R R' t) : rX C' T R' t := by
  obtain ⟨np, nr, a1, a2, a3, a4, a5, a6, ru, a7⟩ := h
  refine ⟨np, nr, a1, a2, by rw [h1, a3], by rw [h2, a4], by rw [hX.1, a5], fun k hk => ?_, ru, fun r hr => ?_⟩
  · obtain ⟨e1, e2, e3, e4, e5, e6⟩ := hX.2.1 k (by omega)
    have := a6 k hk
    unfold rK at *
    rw [h3, h4, e1, e2, e3, e4, e5, e6]
    exact this
  · obtain ⟨e1, e2⟩ := hX.2.2 r (by omega)
    rw [h3, h4, e1, e2]
    exact a7 r hr
def swp (x i : Nat) : Nat := if i = 32 then x else if i = x then 32 else i
theorem swp_lt {x i : Nat} (hx : x < 32) (hi : i < 33) : swp x i < 33 := by unfold swp; split <;> (try split) <;> omega
theorem swp_inj {x i j : Nat} (hx : x < 32) (h : swp x i = swp x j) : i = j := by
  unfold swp at h
  repeat' split at h
  all_goals omega
theorem q_edition {C R : jM} (hC : Lay C) (hR : Lay R) (h : Rel C R) (v d : Int32) : Sim (f_X11_edition 0 v d) (f_X12_edition 2398 v d) C R := by
  obtain ⟨e, N, R0, t1, t2, t3, t4, t5, t6, hR0, h0, f1, f2⟩ := rel_open hC hR h
  have hC0 : Lay (opE C) := t2.1
  generalize hCe : opE C = C0 at *
  unfold Sim
  unfold f_X11_edition f_X12_edition
  rw [if_pos k_0, ly_72 hC, obt, if_pos k_608, open_c, obt, hCe, if_pos k_2398, t1, obt]
  by_cases c1 : 0 ≤ v.toInt ∧ v.toInt ≤ 3
  · rw [if_neg (by rw [p_isScheme]; omega)]
    by_cases c2 : 0 ≤ d.toInt ∧ d.toInt ≤ 389
    · rw [if_neg (by rw [p_isDay]; omega), if_neg (by rw [in0, i2l_toInt]; exact fun z => z c1), p_mDay, obt, if_neg (by rw [t_if]; exact fun z => z c2)]
      obtain ⟨s, hs⟩ : ∃ s : Nat, v.toInt = s := ⟨v.toInt.toNat, by omega⟩
      have hs4 : s < 4 := by omega
      have hv : v = nI s := nI_is hs (by omega)
      subst hv
      obtain ⟨sg, hE⟩ := rE_iff.mp h0.E
      have hdm : d ≠ -1 := by rw [Ne, i_eq, show (-1 : Int32).toInt = -1 from rfl]; omega
      obtain ⟨r, r1, r2, r3⟩ := plc_ok hC0 hR0 hE hs4 hdm
      rw [r1, obt, r2, obt]
      rcases r3 with r3 | ⟨k, k1, k2, r3⟩
      · subst r3
        rw [if_pos (by decide), if_neg (by decide)]
        exact ⟨_, _, _, rfl, rfl, h0, f1, f2⟩
      · subst r3
        have hsg := hE.1 32 (by omega)
        have hT := hE.2.2.1
        have hk6 := k_txt hsg
        have x32 : 8 * s + k < 32 := by omega
        have n32 : (32 : Int32) = nI 32 := rfl
        rw [if_neg (nI_neg (by omega)), ly_73 hC0, obt, if_pos k_618, if_pos (by rw [ln_618, show (Int32.ofNat 32 : Int32) = nI 32 from rfl, nJ_lt (by omega) (by omega)]; omega), ly_71 hC0, obt, if_pos k_607, if_pos (by rw [i_le, t_0, nI_toInt (by omega)]; omega), n32]
        obtain ⟨C1, R1, np, nr, fl, p1, p2, p3⟩ := parse_ok t2 t3 rfl hR0 t4 t5 t6 hT hk6 (t := 32) (by omega)
        obtain ⟨g1, g2, g3, g4⟩ := parse_rel h0 hE p3
        have hL1 := p3.1.pt.1
        have hLR1 := p3.1.pt.2.1
        rw [p1, obt, p2, obt, ly_71 hL1, obt, if_pos k_607, p3.1.fr0.1, p3.1.fr0.2]
        by_cases cf : fl = 0
        · subst cf
          -- the second reading
          have hR1' : Lay (jsI (jsI (jsI R1 149 2398 0) 100 2398 0) 101 2398 0) := hLR1.fr (p := fun t f a => t = 0) (((Fr.refl).sI rfl).sI rfl |>.sI rfl) (fun f a z => absurd z (by omega)) (fun a z => absurd z (by omega))
          obtain ⟨C2, R2, np2, nr2, fl2, w1, w2, w3⟩ := parse_ok (R := jsI (jsI (jsI R1 149 2398 0) 100 2398 0) 101 2398 0) t2 t3 rfl hR1' (p3.1.pt.2.2.2.2.2.2.2.2.1.f rfl rfl rfl rfl) (by simp only [m_I_sI, m_L_sI, m_R_sI, m_AI_sI, m_AL_sI, m_AD_sI, m_AR_sI, m_n_sI, m_I_sL, m_L_sL, m_R_sL, m_AI_sL, m_AL_sL, m_AD_sL, m_AR_sL, m_n_sL, m_I_sR, m_L_sR, m_R_sR, m_AI_sR, m_AL_sR, m_AD_sR, m_AR_sR, m_n_sR, m_I_rI, m_L_rI, m_R_rI, m_AI_rI, m_AL_rI, m_AD_rI, m_AR_rI, m_n_rI, m_I_rL, m_L_rL, m_R_rL, m_AI_rL, m_AL_rL, m_AD_rL, m_AR_rL, m_n_rL, m_I_rD, m_L_rD, m_R_rD, m_AI_rD, m_AL_rD, m_AD_rD, m_AR_rD, m_n_rD, m_I_rR, m_L_rR, m_R_rR, m_AI_rR, m_AL_rR, m_AD_rR, m_AR_rR, m_n_rR, true_and, and_true, and_false, false_and, and_self, if_true, if_false, ite_self, Nat.reduceEqDiff, reduceIte, obt, jlt, jbt, jbd_ite, bind_ite]) (by simp only [m_I_sI, m_L_sI, m_R_sI, m_AI_sI, m_AL_sI, m_AD_sI, m_AR_sI, m_n_sI, m_I_sL, m_L_sL, m_R_sL, m_AI_sL, m_AL_sL, m_AD_sL, m_AR_sL, m_n_sL, m_I_sR, m_L_sR, m_R_sR, m_AI_sR, m_AL_sR, m_AD_sR, m_AR_sR, m_n_sR, m_I_rI, m_L_rI, m_R_rI, m_AI_rI, m_AL_rI, m_AD_rI, m_AR_rI, m_n_rI, m_I_rL, m_L_rL, m_R_rL, m_AI_rL, m_AL_rL, m_AD_rL, m_AR_rL, m_n_rL, m_I_rD, m_L_rD, m_R_rD, m_AI_rD, m_AL_rD, m_AD_rD, m_AR_rD, m_n_rD, m_I_rR, m_L_rR, m_R_rR, m_AI_rR, m_AL_rR, m_AD_rR, m_AR_rR, m_n_rR, true_and, and_true, and_false, false_and, and_self, if_true, if_false, ite_self, Nat.reduceEqDiff, reduceIte, obt, jlt, jbt, jbd_ite, bind_ite]) hT hk6 (t := 8 * s + k) (by omega)
          rw [p1] at w1
          injection w1 with w1
          subst w1
          have hfl2 : fl2 = 0 := w3.1.fr0.1.symm.trans p3.1.fr0.1
          subst hfl2
          have hrX := w3.rX
          obtain ⟨hP2, hs2, hs3, hsx, hs5, -⟩ := w3
          have hLR2 := hP2.pt.2.1
          rw [if_pos rfl, if_pos (by decide), obt, if_pos k_607]
          have hT1 : jR C1 25 607 = some (txt (sg 32)) := hP2.pt.2.2.2.2.2.1
          have b0 := txt_b hsg
          have hA : jA 618 18 (nI (8 * s + k)) = true := jA_n k_618 (by rw [ln_618]; omega) (by omega)
          have hcl : (nI (8 * s + k)).toNatClampNeg = 8 * s + k := nJ_cl (by omega)
          have a35 : jA 2435 13 (nI (8 * s + k)) = true := jA_n k_2435 (by rw [ln_2435]; omega) (by omega)
          have a36 : jA 2436 13 (nI s) = true := jA_n k_2436 (by rw [ln_2436]; omega) (by omega)
          have a15 : jA 2415 13 (nI (8 * s + k)) = true := jA_n k_2415 (by rw [ln_2415]; omega) (by omega)
          have c36 : (nI s).toNatClampNeg = s := nJ_cl (by omega)
          have h618 : jAR C1 618 = jAR C0 618 := hs2.ar (by unfold pXC pPC; omega)
          have hsk : jAR C1 618 (8 * s + k) = some (txt (sg (8 * s + k))) := by rw [h618]; exact (hE.2.2.2.2 s k hs4 k1).1
          have e36 : jAI R2 2436 = jAI R0 2436 := (hs3.ai (by unfold pXR pPR; omega)).trans (p3.2.2.1.ai (by unfold pXR pPR; omega))
          have e35 : jAI R2 2435 = jAI R0 2435 := (hs3.ai (by unfold pXR pPR; omega)).trans (p3.2.2.1.ai (by unfold pXR pPR; omega))
          have hc0 := hE.2.2.2.1 s hs4
          obtain ⟨c, hc⟩ : ∃ c : Nat, (jAI R0 2436 s).toInt = c := ⟨(jAI R0 2436 s).toInt.toNat, by omega⟩
          have hcI : jAI R2 2436 s = nI c := by rw [e36]; exact nI_is hc (by omega)
          have l73 : jR (jsR C1 25 607 (some (txt (sg (8 * s + k))))) 73 0 = some 618 := by simp only [m_I_sI, m_L_sI, m_R_sI, m_AI_sI, m_AL_sI, m_AD_sI, m_AR_sI, m_n_sI, m_I_sL, m_L_sL, m_R_sL, m_AI_sL, m_AL_sL, m_AD_sL, m_AR_sL, m_n_sL, m_I_sR, m_L_sR, m_R_sR, m_AI_sR, m_AL_sR, m_AD_sR, m_AR_sR, m_n_sR, m_I_rI, m_L_rI, m_R_rI, m_AI_rI, m_AL_rI, m_AD_rI, m_AR_rI, m_n_rI, m_I_rL, m_L_rL, m_R_rL, m_AI_rL, m_AL_rL, m_AD_rL, m_AR_rL, m_n_rL, m_I_rD, m_L_rD, m_R_rD, m_AI_rD, m_AL_rD, m_AD_rD, m_AR_rD, m_n_rD, m_I_rR, m_L_rR, m_R_rR, m_AI_rR, m_AL_rR, m_AD_rR, m_AR_rR, m_n_rR, true_and, and_true, and_false, false_and, and_self, if_true, if_false, ite_self, Nat.reduceEqDiff, reduceIte, obt, jlt, jbt, jbd_ite, bind_ite]; exact ly_73 hL1
          have h49 : jI C1 49 (txt (sg 32)) = nI nr2 := hP2.2.2.2.2.2.1
          have h15 : jAI R2 2415 (8 * s + k) = nI nr2 := hP2.2.2.2.2.2.2.1
          rw [hT1, obt, obt, ly_73 hL1, obt, if_pos hA, hcl, hsk, obt, if_pos k_607, jlt, l73, obt, if_pos hA, if_pos hk6, jlt, jlt]
          have hF3 : Fr (fun t f a => pXC (txt (sg 32)) t f a ∨ (t = 2 ∧ f = 25 ∧ a = 607) ∨ (t = 3 ∧ a = 618)) C0 (jsI (jrR (jsR C1 25 607 (some (txt (sg (8 * s + k))))) 618 (va_up (jAR (jsR C1 25 607 (some (txt (sg (8 * s + k))))) 618) (8 * s + k) (some (txt (sg 32))))) 44 (txt (sg 32)) d) :=
            (((hs2.mono (fun _ _ _ z => .inl z)).sR (.inr (.inl ⟨rfl, rfl, rfl⟩))).rR (.inr (.inr ⟨rfl, rfl⟩))).sI (.inl (.inr (.inl ⟨rfl, .inl rfl, rfl⟩)))
          have e49 : jI (jsI (jrR (jsR C1 25 607 (some (txt (sg (8 * s + k))))) 618 (va_up (jAR (jsR C1 25 607 (some (txt (sg (8 * s + k))))) 618) (8 * s + k) (some (txt (sg 32))))) 44 (txt (sg 32)) d) 49 (txt (sg 32)) = nI nr2 := by simp only [m_I_sI, m_L_sI, m_R_sI, m_AI_sI, m_AL_sI, m_AD_sI, m_AR_sI, m_n_sI, m_I_sL, m_L_sL, m_R_sL, m_AI_sL, m_AL_sL, m_AD_sL, m_AR_sL, m_n_sL, m_I_sR, m_L_sR, m_R_sR, m_AI_sR, m_AL_sR, m_AD_sR, m_AR_sR, m_n_sR, m_I_rI, m_L_rI, m_R_rI, m_AI_rI, m_AL_rI, m_AD_rI, m_AR_rI, m_n_rI, m_I_rL, m_L_rL, m_R_rL, m_AI_rL, m_AL_rL, m_AD_rL, m_AR_rL, m_n_rL, m_I_rD, m_L_rD, m_R_rD, m_AI_rD, m_AL_rD, m_AD_rD, m_AR_rD, m_n_rD, m_I_rR, m_L_rR, m_R_rR, m_AI_rR, m_AL_rR, m_AD_rR, m_AR_rR, m_n_rR, true_and, and_true, and_false, false_and, and_self, if_true, if_false, ite_self, Nat.reduceEqDiff, reduceIte, obt, jlt, jbt, jbd_ite, bind_ite]; exact h49
          have e44 : ∀ z, jI (jsI (jrR (jsR C1 25 607 (some (txt (sg (8 * s + k))))) 618 (va_up (jAR (jsR C1 25 607 (some (txt (sg (8 * s + k))))) 618) (8 * s + k) (some (txt (sg 32))))) 44 (txt (sg 32)) d) 44 z = if z = txt (sg 32) then d else jI C1 44 z := fun z => by simp only [m_I_sI, m_L_sI, m_R_sI, m_AI_sI, m_AL_sI, m_AD_sI, m_AR_sI, m_n_sI, m_I_sL, m_L_sL, m_R_sL, m_AI_sL, m_AL_sL, m_AD_sL, m_AR_sL, m_n_sL, m_I_sR, m_L_sR, m_R_sR, m_AI_sR, m_AL_sR, m_AD_sR, m_AR_sR, m_n_sR, m_I_rI, m_L_rI, m_R_rI, m_AI_rI, m_AL_rI, m_AD_rI, m_AR_rI, m_n_rI, m_I_rL, m_L_rL, m_R_rL, m_AI_rL, m_AL_rL, m_AD_rL, m_AR_rL, m_n_rL, m_I_rD, m_L_rD, m_R_rD, m_AI_rD, m_AL_rD, m_AD_rD, m_AR_rD, m_n_rD, m_I_rR, m_L_rR, m_R_rR, m_AI_rR, m_AL_rR, m_AD_rR, m_AR_rR, m_n_rR, true_and, and_true, and_false, false_and, and_self, if_true, if_false, ite_self, Nat.reduceEqDiff, reduceIte, obt, jlt, jbt, jbd_ite, bind_ite]
          have e618 : ∀ z, jAR (jsI (jrR (jsR C1 25 607 (some (txt (sg (8 * s + k))))) 618 (va_up (jAR (jsR C1 25 607 (some (txt (sg (8 * s + k))))) 618) (8 * s + k) (some (txt (sg 32))))) 44 (txt (sg 32)) d) 618 z = if z = 8 * s + k then some (txt (sg 32)) else jAR C0 618 z := fun z => by simp only [m_I_sI, m_L_sI, m_R_sI, m_AI_sI, m_AL_sI, m_AD_sI, m_AR_sI, m_n_sI, m_I_sL, m_L_sL, m_R_sL, m_AI_sL, m_AL_sL, m_AD_sL, m_AR_sL, m_n_sL, m_I_sR, m_L_sR, m_R_sR, m_AI_sR, m_AL_sR, m_AD_sR, m_AR_sR, m_n_sR, m_I_rI, m_L_rI, m_R_rI, m_AI_rI, m_AL_rI, m_AD_rI, m_AR_rI, m_n_rI, m_I_rL, m_L_rL, m_R_rL, m_AI_rL, m_AL_rL, m_AD_rL, m_AR_rL, m_n_rL, m_I_rD, m_L_rD, m_R_rD, m_AI_rD, m_AL_rD, m_AD_rD, m_AR_rD, m_n_rD, m_I_rR, m_L_rR, m_R_rR, m_AI_rR, m_AL_rR, m_AD_rR, m_AR_rR, m_n_rR, true_and, and_true, and_false, false_and, and_self, if_true, if_false, ite_self, Nat.reduceEqDiff, reduceIte, obt, jlt, jbt, jbd_ite, bind_ite]; rw [← h618]; rfl
          have e25 : jR (jsI (jrR (jsR C1 25 607 (some (txt (sg (8 * s + k))))) 618 (va_up (jAR (jsR C1 25 607 (some (txt (sg (8 * s + k))))) 618) (8 * s + k) (some (txt (sg 32))))) 44 (txt (sg 32)) d) 25 607 = some (txt (sg (8 * s + k))) := by simp only [m_I_sI, m_L_sI, m_R_sI, m_AI_sI, m_AL_sI, m_AD_sI, m_AR_sI, m_n_sI, m_I_sL, m_L_sL, m_R_sL, m_AI_sL, m_AL_sL, m_AD_sL, m_AR_sL, m_n_sL, m_I_sR, m_L_sR, m_R_sR, m_AI_sR, m_AL_sR, m_AD_sR, m_AR_sR, m_n_sR, m_I_rI, m_L_rI, m_R_rI, m_AI_rI, m_AL_rI, m_AD_rI, m_AR_rI, m_n_rI, m_I_rL, m_L_rL, m_R_rL, m_AI_rL, m_AL_rL, m_AD_rL, m_AR_rL, m_n_rL, m_I_rD, m_L_rD, m_R_rD, m_AI_rD, m_AL_rD, m_AD_rD, m_AR_rD, m_n_rD, m_I_rR, m_L_rR, m_R_rR, m_AI_rR, m_AL_rR, m_AD_rR, m_AR_rR, m_n_rR, true_and, and_true, and_false, false_and, and_self, if_true, if_false, ite_self, Nat.reduceEqDiff, reduceIte, obt, jlt, jbt, jbd_ite, bind_ite]
          have e26 : jI (jsI (jrR (jsR C1 25 607 (some (txt (sg (8 * s + k))))) 618 (va_up (jAR (jsR C1 25 607 (some (txt (sg (8 * s + k))))) 618) (8 * s + k) (some (txt (sg 32))))) 44 (txt (sg 32)) d) 26 607 = 0 := by simp only [m_I_sI, m_L_sI, m_R_sI, m_AI_sI, m_AL_sI, m_AD_sI, m_AR_sI, m_n_sI, m_I_sL, m_L_sL, m_R_sL, m_AI_sL, m_AL_sL, m_AD_sL, m_AR_sL, m_n_sL, m_I_sR, m_L_sR, m_R_sR, m_AI_sR, m_AL_sR, m_AD_sR, m_AR_sR, m_n_sR, m_I_rI, m_L_rI, m_R_rI, m_AI_rI, m_AL_rI, m_AD_rI, m_AR_rI, m_n_rI, m_I_rL, m_L_rL, m_R_rL, m_AI_rL, m_AL_rL, m_AD_rL, m_AR_rL, m_n_rL, m_I_rD, m_L_rD, m_R_rD, m_AI_rD, m_AL_rD, m_AD_rD, m_AR_rD, m_n_rD, m_I_rR, m_L_rR, m_R_rR, m_AI_rR, m_AL_rR, m_AD_rR, m_AR_rR, m_n_rR, true_and, and_true, and_false, false_and, and_self, if_true, if_false, ite_self, Nat.reduceEqDiff, reduceIte, obt, jlt, jbt, jbd_ite, bind_ite]; exact hP2.fr0.1
          have e45 : jI (jsI (jrR (jsR C1 25 607 (some (txt (sg (8 * s + k))))) 618 (va_up (jAR (jsR C1 25 607 (some (txt (sg (8 * s + k))))) 618) (8 * s + k) (some (txt (sg 32))))) 44 (txt (sg 32)) d) 45 (txt (sg 32)) = jI C1 45 (txt (sg 32)) := by simp only [m_I_sI, m_L_sI, m_R_sI, m_AI_sI, m_AL_sI, m_AD_sI, m_AR_sI, m_n_sI, m_I_sL, m_L_sL, m_R_sL, m_AI_sL, m_AL_sL, m_AD_sL, m_AR_sL, m_n_sL, m_I_sR, m_L_sR, m_R_sR, m_AI_sR, m_AL_sR, m_AD_sR, m_AR_sR, m_n_sR, m_I_rI, m_L_rI, m_R_rI, m_AI_rI, m_AL_rI, m_AD_rI, m_AR_rI, m_n_rI, m_I_rL, m_L_rL, m_R_rL, m_AI_rL, m_AL_rL, m_AD_rL, m_AR_rL, m_n_rL, m_I_rD, m_L_rD, m_R_rD, m_AI_rD, m_AL_rD, m_AD_rD, m_AR_rD, m_n_rD, m_I_rR, m_L_rR, m_R_rR, m_AI_rR, m_AL_rR, m_AD_rR, m_AR_rR, m_n_rR, true_and, and_true, and_false, false_and, and_self, if_true, if_false, ite_self, Nat.reduceEqDiff, reduceIte, obt, jlt, jbt, jbd_ite, bind_ite]
          have eAI : jAI (jsI (jrR (jsR C1 25 607 (some (txt (sg (8 * s + k))))) 618 (va_up (jAR (jsR C1 25 607 (some (txt (sg (8 * s + k))))) 618) (8 * s + k) (some (txt (sg 32))))) 44 (txt (sg 32)) d) = jAI C1 := rfl
          have eAL : jAL (jsI (jrR (jsR C1 25 607 (some (txt (sg (8 * s + k))))) 618 (va_up (jAR (jsR C1 25 607 (some (txt (sg (8 * s + k))))) 618) (8 * s + k) (some (txt (sg 32))))) 44 (txt (sg 32)) d) = jAL C1 := rfl
          rw [e49]
          generalize jsI (jrR (jsR C1 25 607 (some (txt (sg (8 * s + k))))) 618 (va_up (jAR (jsR C1 25 607 (some (txt (sg (8 * s + k))))) 618) (8 * s + k) (some (txt (sg 32))))) 44 (txt (sg 32)) d = C3 at *
          have fin : ∀ (R3 : jM) (c' : Nat), Fr (fun t f a => t = 3 ∧ f = f ∧ (a = 2435 ∨ a = 2436)) R2 R3 → (∀ z, jAI R3 2435 z = if z = 8 * s + k then d else jAI R2 2435 z) → (∀ z, jAI R3 2436 z = if z = s then nI c' else jAI R2 2436 z) → (c' = c ∧ k < c ∨ c' = c + 1 ∧ k = c) → Rel C3 R3 ∧ Fr pC C C3 ∧ Fr pR R R3 := by
            intro R3 c' hG e35' e36' hcc
            have hG3 : Fr (fun t f a => pXR t f a ∨ (t = 0 ∧ f = 149 ∧ a = 2398) ∨ (t = 3 ∧ (a = 2435 ∨ a = 2436))) R0 R3 := ((((((p3.2.2.1.mono (fun _ _ _ z => .inl z)).sI (.inr (.inl ⟨rfl, rfl, rfl⟩))).sI (.inl (.inl (.inl ⟨rfl, .inl rfl, rfl⟩)))).sI (.inl (.inl (.inl ⟨rfl, .inr (.inl rfl), rfl⟩))))).trans (hs3.mono (fun _ _ _ z => .inl z))).trans (hG.mono (fun _ _ _ z => .inr (.inr ⟨z.1, z.2.2⟩)))
            have hX23 : ∀ t, sX R2 R3 t := fun t => hG.sX (fun a h1 h2 => by omega) t
            have hU : rU C3 R3 := by
              unfold rU
              rw [e26, hG.i (by omega), hs3.i (by unfold pXR pPR; omega)]
              simp only [m_I_sI, m_L_sI, m_R_sI, m_AI_sI, m_AL_sI, m_AD_sI, m_AR_sI, m_n_sI, m_I_sL, m_L_sL, m_R_sL, m_AI_sL, m_AL_sL, m_AD_sL, m_AR_sL, m_n_sL, m_I_sR, m_L_sR, m_R_sR, m_AI_sR, m_AL_sR, m_AD_sR, m_AR_sR, m_n_sR, m_I_rI, m_L_rI, m_R_rI, m_AI_rI, m_AL_rI, m_AD_rI, m_AR_rI, m_n_rI, m_I_rL, m_L_rL, m_R_rL, m_AI_rL, m_AL_rL, m_AD_rL, m_AR_rL, m_n_rL, m_I_rD, m_L_rD, m_R_rD, m_AI_rD, m_AL_rD, m_AD_rD, m_AR_rD, m_n_rD, m_I_rR, m_L_rR, m_R_rR, m_AI_rR, m_AL_rR, m_AD_rR, m_AR_rR, m_n_rR, true_and, and_true, and_false, false_and, and_self, if_true, if_false, ite_self, Nat.reduceEqDiff, reduceIte, obt, jlt, jbt, jbd_ite, bind_ite]
            have hEd : rE C3 R3 := by
              refine ⟨fun i => sg (swp (8 * s + k) i), fun i hi => hE.1 _ (swp_lt x32 hi), fun i j hi hj hij => swp_inj x32 (hE.2.1 _ _ (swp_lt x32 hi) (swp_lt x32 hj) hij), ?_, fun s' hs' => ?_, fun s' k' hs' hk' => ?_⟩
              · show jR C3 25 607 = some (txt (sg (swp (8 * s + k) 32)))
                rw [e25]
                unfold swp
                rw [if_pos rfl]
              · rw [e36']
                by_cases cs : s' = s
                · rw [if_pos cs, nI_toInt (by omega)]; omega
                · rw [if_neg cs, e36]; exact hE.2.2.2.1 s' hs'
              · obtain ⟨y1, y2⟩ := hE.2.2.2.2 s' k' hs' hk'
                show jAR C3 618 (8 * s' + k') = some (txt (sg (swp (8 * s + k) (8 * s' + k')))) ∧ ((((k' : Int) < (jAI R3 2436 s').toInt ∧ jI C3 44 (txt (sg (swp (8 * s + k) (8 * s' + k')))) = jAI R3 2435 (8 * s' + k') ∧ 0 ≤ (jAI R3 2435 (8 * s' + k')).toInt ∧ (jAI R3 2435 (8 * s' + k')).toInt ≤ 389 ∧ rX C3 (txt (sg (swp (8 * s + k) (8 * s' + k')))) R3 (8 * s' + k'))) ∨ ((jAI R3 2436 s').toInt ≤ (k' : Int) ∧ jI C3 44 (txt (sg (swp (8 * s + k) (8 * s' + k')))) = -1))
                rw [e618, e36', e35', e44]
                by_cases ck : 8 * s' + k' = 8 * s + k
                · have es : s' = s := by omega
                  have ek : k' = k := by omega
                  subst es
                  subst ek
                  have esw : swp (8 * s' + k') (8 * s' + k') = 32 := by unfold swp; rw [if_neg (by omega), if_pos rfl]
                  rw [esw, if_pos rfl, if_pos rfl, if_pos rfl, if_pos rfl, nI_toInt (by omega)]
                  exact ⟨rfl, .inl ⟨by omega, rfl, c2.1, c2.2, hrX.e e45 (e49.trans h49.symm) eAI eAL (hX23 _)⟩⟩
                · have esw : swp (8 * s + k) (8 * s' + k') = 8 * s' + k' := by unfold swp; rw [if_neg (by omega), if_neg (by omega)]
                  have hi := hE.1 (8 * s' + k') (by omega)
                  have hne : sg 32 ≠ sg (8 * s' + k') := fun z => by have := hE.2.1 _ _ (by omega) (by omega) z; omega
                  have hne2 : txt (sg (8 * s' + k')) ≠ txt (sg 32) := txt_d (a := 0) (b := 0) hi hsg (Ne.symm hne) (by omega) (by omega)
                  have hb' := txt_b hi
                  have hw : ∀ j : Nat, j < 6 → sP C0 C3 (txt (sg (8 * s' + k')) + j) := fun j hj => hF3.sP (fun t f z => by
                    rcases z with z | z | z
                    · exact pXC_txt hsg hi hne hj z
                    · omega
                    · omega)
                  have hx : sX R0 R3 (8 * s' + k') := by
                    have hx1 : oRX (8 * s + k) R0 R0 := oRX.refl
                    obtain ⟨a1, a2, a3⟩ := p3.2.2.2.1 (8 * s' + k') (by omega) (by omega)
                    obtain ⟨b1, b2, b3⟩ := hsx (8 * s' + k') (by omega) ck
                    obtain ⟨d1, d2, d3⟩ := hX23 (8 * s' + k')
                    refine ⟨d1.trans (b1.trans a1), fun j hj => ?_, fun j hj => ?_⟩
                    · obtain ⟨x1, x2, x3, x4, x5, x6⟩ := a2 j hj
                      obtain ⟨y1, y2, y3, y4, y5, y6⟩ := b2 j hj
                      obtain ⟨z1, z2, z3, z4, z5, z6⟩ := d2 j hj
                      exact ⟨z1.trans (y1.trans x1), z2.trans (y2.trans x2), z3.trans (y3.trans x3), z4.trans (y4.trans x4), z5.trans (y5.trans x5), z6.trans (y6.trans x6)⟩
                    · obtain ⟨x1, x2⟩ := a3 j hj
                      obtain ⟨y1, y2⟩ := b3 j hj
                      obtain ⟨z1, z2⟩ := d3 j hj
                      exact ⟨z1.trans (y1.trans x1), z2.trans (y2.trans x2)⟩
                  have h44 : jI C1 44 (txt (sg (8 * s' + k'))) = jI C0 44 (txt (sg (8 * s' + k'))) := hs2.i (pXC_txt (a := 0) hsg hi hne (by omega))
                  rw [esw, if_neg ck, if_neg ck, if_neg hne2, h44, e35, e36]
                  refine ⟨y1, ?_⟩
                  rcases y2 with ⟨b1, b2, b3, b4, b5⟩ | ⟨b1, b2⟩
                  · refine .inl ⟨?_, b2, b3, b4, b5.c (hw 0 (by omega)) (hw 1 (by omega)) (hw 2 (by omega)) (hw 3 (by omega)) (hw 4 (by omega)) (hw 5 (by omega)) hx⟩
                    by_cases cs : s' = s
                    · subst cs; rw [if_pos rfl, nI_toInt (by omega)]; omega
                    · rw [if_neg cs]; exact b1
                  · refine .inr ⟨?_, b2⟩
                    by_cases cs : s' = s
                    · subst cs; rw [if_pos rfl, nI_toInt (by omega)]; omega
                    · rw [if_neg cs]; exact b1
            obtain ⟨z1, z2, z3⟩ := rel_read (sg := sg) h0 hsg hF3 hG3 (fun _ _ _ z => z) (fun _ _ _ z => z) hU hEd
            exact ⟨z1, f1.trans z2, f2.trans z3⟩
          rw [jlt, jlt, jlt, w2, obt, ly_148 hLR2, obt, if_pos a36, c36, hcI, nJ_8 hs4 (by omega)]
          by_cases ckc : k = c
          · have h47 : jR (jrI R2 2436 (upd (jAI R2 2436) s (nI (c + 1)))) 147 2398 = some 2435 := by simp only [m_I_sI, m_L_sI, m_R_sI, m_AI_sI, m_AL_sI, m_AD_sI, m_AR_sI, m_n_sI, m_I_sL, m_L_sL, m_R_sL, m_AI_sL, m_AL_sL, m_AD_sL, m_AR_sL, m_n_sL, m_I_sR, m_L_sR, m_R_sR, m_AI_sR, m_AL_sR, m_AD_sR, m_AR_sR, m_n_sR, m_I_rI, m_L_rI, m_R_rI, m_AI_rI, m_AL_rI, m_AD_rI, m_AR_rI, m_n_rI, m_I_rL, m_L_rL, m_R_rL, m_AI_rL, m_AL_rL, m_AD_rL, m_AR_rL, m_n_rL, m_I_rD, m_L_rD, m_R_rD, m_AI_rD, m_AL_rD, m_AD_rD, m_AR_rD, m_n_rD, m_I_rR, m_L_rR, m_R_rR, m_AI_rR, m_AL_rR, m_AD_rR, m_AR_rR, m_n_rR, true_and, and_true, and_false, false_and, and_self, if_true, if_false, ite_self, Nat.reduceEqDiff, reduceIte, obt, jlt, jbt, jbd_ite, bind_ite]; exact ly_147 hLR2
            have h110 : jR (jrI (jrI R2 2436 (upd (jAI R2 2436) s (nI (c + 1)))) 2435 (upd (jAI (jrI R2 2436 (upd (jAI R2 2436) s (nI (c + 1)))) 2435) (8 * s + k) d)) 110 2398 = some 2415 := by simp only [m_I_sI, m_L_sI, m_R_sI, m_AI_sI, m_AL_sI, m_AD_sI, m_AR_sI, m_n_sI, m_I_sL, m_L_sL, m_R_sL, m_AI_sL, m_AL_sL, m_AD_sL, m_AR_sL, m_n_sL, m_I_sR, m_L_sR, m_R_sR, m_AI_sR, m_AL_sR, m_AD_sR, m_AR_sR, m_n_sR, m_I_rI, m_L_rI, m_R_rI, m_AI_rI, m_AL_rI, m_AD_rI, m_AR_rI, m_n_rI, m_I_rL, m_L_rL, m_R_rL, m_AI_rL, m_AL_rL, m_AD_rL, m_AR_rL, m_n_rL, m_I_rD, m_L_rD, m_R_rD, m_AI_rD, m_AL_rD, m_AD_rD, m_AR_rD, m_n_rD, m_I_rR, m_L_rR, m_R_rR, m_AI_rR, m_AL_rR, m_AD_rR, m_AR_rR, m_n_rR, true_and, and_true, and_false, false_and, and_self, if_true, if_false, ite_self, Nat.reduceEqDiff, reduceIte, obt, jlt, jbt, jbd_ite, bind_ite]; exact ly_110 hLR2
            have h15' : jAI (jrI (jrI R2 2436 (upd (jAI R2 2436) s (nI (c + 1)))) 2435 (upd (jAI (jrI R2 2436 (upd (jAI R2 2436) s (nI (c + 1)))) 2435) (8 * s + k) d)) 2415 (8 * s + k) = nI nr2 := by simp only [m_I_sI, m_L_sI, m_R_sI, m_AI_sI, m_AL_sI, m_AD_sI, m_AR_sI, m_n_sI, m_I_sL, m_L_sL, m_R_sL, m_AI_sL, m_AL_sL, m_AD_sL, m_AR_sL, m_n_sL, m_I_sR, m_L_sR, m_R_sR, m_AI_sR, m_AL_sR, m_AD_sR, m_AR_sR, m_n_sR, m_I_rI, m_L_rI, m_R_rI, m_AI_rI, m_AL_rI, m_AD_rI, m_AR_rI, m_n_rI, m_I_rL, m_L_rL, m_R_rL, m_AI_rL, m_AL_rL, m_AD_rL, m_AR_rL, m_n_rL, m_I_rD, m_L_rD, m_R_rD, m_AI_rD, m_AL_rD, m_AD_rD, m_AR_rD, m_n_rD, m_I_rR, m_L_rR, m_R_rR, m_AI_rR, m_AL_rR, m_AD_rR, m_AR_rR, m_n_rR, true_and, and_true, and_false, false_and, and_self, if_true, if_false, ite_self, Nat.reduceEqDiff, reduceIte, obt, jlt, jbt, jbd_ite, bind_ite]; exact h15
            rw [if_pos (by rw [ckc]), obt, if_pos a36, if_pos a36, hcI, nJ_1 (by omega), jlt]
            unfold f_X12_edition_106
            rw [if_pos k_2398, h47, obt, if_pos a35, hcl, jlt, h110, obt, if_pos a15, h15']
            exact ⟨_, _, _, rfl, rfl, fin _ (c + 1) (((Fr.refl).rI (by omega)).rI (by omega)) (fun z => by simp only [m_I_sI, m_L_sI, m_R_sI, m_AI_sI, m_AL_sI, m_AD_sI, m_AR_sI, m_n_sI, m_I_sL, m_L_sL, m_R_sL, m_AI_sL, m_AL_sL, m_AD_sL, m_AR_sL, m_n_sL, m_I_sR, m_L_sR, m_R_sR, m_AI_sR, m_AL_sR, m_AD_sR, m_AR_sR, m_n_sR, m_I_rI, m_L_rI, m_R_rI, m_AI_rI, m_AL_rI, m_AD_rI, m_AR_rI, m_n_rI, m_I_rL, m_L_rL, m_R_rL, m_AI_rL, m_AL_rL, m_AD_rL, m_AR_rL, m_n_rL, m_I_rD, m_L_rD, m_R_rD, m_AI_rD, m_AL_rD, m_AD_rD, m_AR_rD, m_n_rD, m_I_rR, m_L_rR, m_R_rR, m_AI_rR, m_AL_rR, m_AD_rR, m_AR_rR, m_n_rR, upd_if, true_and, and_true, and_false, false_and, and_self, if_true, if_false, ite_self, Nat.reduceEqDiff, reduceIte, obt, jlt, jbt, jbd_ite, bind_ite]) (fun z => by simp only [m_I_sI, m_L_sI, m_R_sI, m_AI_sI, m_AL_sI, m_AD_sI, m_AR_sI, m_n_sI, m_I_sL, m_L_sL, m_R_sL, m_AI_sL, m_AL_sL, m_AD_sL, m_AR_sL, m_n_sL, m_I_sR, m_L_sR, m_R_sR, m_AI_sR, m_AL_sR, m_AD_sR, m_AR_sR, m_n_sR, m_I_rI, m_L_rI, m_R_rI, m_AI_rI, m_AL_rI, m_AD_rI, m_AR_rI, m_n_rI, m_I_rL, m_L_rL, m_R_rL, m_AI_rL, m_AL_rL, m_AD_rL, m_AR_rL, m_n_rL, m_I_rD, m_L_rD, m_R_rD, m_AI_rD, m_AL_rD, m_AD_rD, m_AR_rD, m_n_rD, m_I_rR, m_L_rR, m_R_rR, m_AI_rR, m_AL_rR, m_AD_rR, m_AR_rR, m_n_rR, upd_if, true_and, and_true, and_false, false_and, and_self, if_true, if_false, ite_self, Nat.reduceEqDiff, reduceIte, obt, jlt, jbt, jbd_ite, bind_ite]) (.inr ⟨rfl, ckc⟩)⟩
          · have h110 : jR (jrI R2 2435 (upd (jAI R2 2435) (8 * s + k) d)) 110 2398 = some 2415 := by simp only [m_I_sI, m_L_sI, m_R_sI, m_AI_sI, m_AL_sI, m_AD_sI, m_AR_sI, m_n_sI, m_I_sL, m_L_sL, m_R_sL, m_AI_sL, m_AL_sL, m_AD_sL, m_AR_sL, m_n_sL, m_I_sR, m_L_sR, m_R_sR, m_AI_sR, m_AL_sR, m_AD_sR, m_AR_sR, m_n_sR, m_I_rI, m_L_rI, m_R_rI, m_AI_rI, m_AL_rI, m_AD_rI, m_AR_rI, m_n_rI, m_I_rL, m_L_rL, m_R_rL, m_AI_rL, m_AL_rL, m_AD_rL, m_AR_rL, m_n_rL, m_I_rD, m_L_rD, m_R_rD, m_AI_rD, m_AL_rD, m_AD_rD, m_AR_rD, m_n_rD, m_I_rR, m_L_rR, m_R_rR, m_AI_rR, m_AL_rR, m_AD_rR, m_AR_rR, m_n_rR, true_and, and_true, and_false, false_and, and_self, if_true, if_false, ite_self, Nat.reduceEqDiff, reduceIte, obt, jlt, jbt, jbd_ite, bind_ite]; exact ly_110 hLR2
            have h15' : jAI (jrI R2 2435 (upd (jAI R2 2435) (8 * s + k) d)) 2415 (8 * s + k) = nI nr2 := by simp only [m_I_sI, m_L_sI, m_R_sI, m_AI_sI, m_AL_sI, m_AD_sI, m_AR_sI, m_n_sI, m_I_sL, m_L_sL, m_R_sL, m_AI_sL, m_AL_sL, m_AD_sL, m_AR_sL, m_n_sL, m_I_sR, m_L_sR, m_R_sR, m_AI_sR, m_AL_sR, m_AD_sR, m_AR_sR, m_n_sR, m_I_rI, m_L_rI, m_R_rI, m_AI_rI, m_AL_rI, m_AD_rI, m_AR_rI, m_n_rI, m_I_rL, m_L_rL, m_R_rL, m_AI_rL, m_AL_rL, m_AD_rL, m_AR_rL, m_n_rL, m_I_rD, m_L_rD, m_R_rD, m_AI_rD, m_AL_rD, m_AD_rD, m_AR_rD, m_n_rD, m_I_rR, m_L_rR, m_R_rR, m_AI_rR, m_AL_rR, m_AD_rR, m_AR_rR, m_n_rR, true_and, and_true, and_false, false_and, and_self, if_true, if_false, ite_self, Nat.reduceEqDiff, reduceIte, obt, jlt, jbt, jbd_ite, bind_ite]; exact h15
            rw [if_neg (fun z => by rw [i_eq, nI_toInt (by omega), nI_toInt (by omega)] at z; omega)]
            unfold f_X12_edition_106
            rw [if_pos k_2398, ly_147 hLR2, obt, if_pos a35, hcl, jlt, h110, obt, if_pos a15, h15']
            refine ⟨_, _, _, rfl, rfl, fin _ c ((Fr.refl).rI (by omega)) (fun z => by simp only [m_I_sI, m_L_sI, m_R_sI, m_AI_sI, m_AL_sI, m_AD_sI, m_AR_sI, m_n_sI, m_I_sL, m_L_sL, m_R_sL, m_AI_sL, m_AL_sL, m_AD_sL, m_AR_sL, m_n_sL, m_I_sR, m_L_sR, m_R_sR, m_AI_sR, m_AL_sR, m_AD_sR, m_AR_sR, m_n_sR, m_I_rI, m_L_rI, m_R_rI, m_AI_rI, m_AL_rI, m_AD_rI, m_AR_rI, m_n_rI, m_I_rL, m_L_rL, m_R_rL, m_AI_rL, m_AL_rL, m_AD_rL, m_AR_rL, m_n_rL, m_I_rD, m_L_rD, m_R_rD, m_AI_rD, m_AL_rD, m_AD_rD, m_AR_rD, m_n_rD, m_I_rR, m_L_rR, m_R_rR, m_AI_rR, m_AL_rR, m_AD_rR, m_AR_rR, m_n_rR, upd_if, true_and, and_true, and_false, false_and, and_self, if_true, if_false, ite_self, Nat.reduceEqDiff, reduceIte, obt, jlt, jbt, jbd_ite, bind_ite]) (fun z => ?_) (.inl ⟨rfl, by omega⟩)⟩
            simp only [m_I_sI, m_L_sI, m_R_sI, m_AI_sI, m_AL_sI, m_AD_sI, m_AR_sI, m_n_sI, m_I_sL, m_L_sL, m_R_sL, m_AI_sL, m_AL_sL, m_AD_sL, m_AR_sL, m_n_sL, m_I_sR, m_L_sR, m_R_sR, m_AI_sR, m_AL_sR, m_AD_sR, m_AR_sR, m_n_sR, m_I_rI, m_L_rI, m_R_rI, m_AI_rI, m_AL_rI, m_AD_rI, m_AR_rI, m_n_rI, m_I_rL, m_L_rL, m_R_rL, m_AI_rL, m_AL_rL, m_AD_rL, m_AR_rL, m_n_rL, m_I_rD, m_L_rD, m_R_rD, m_AI_rD, m_AL_rD, m_AD_rD, m_AR_rD, m_n_rD, m_I_rR, m_L_rR, m_R_rR, m_AI_rR, m_AL_rR, m_AD_rR, m_AR_rR, m_n_rR, true_and, and_true, and_false, false_and, and_self, if_true, if_false, ite_self, Nat.reduceEqDiff, reduceIte, obt, jlt, jbt, jbd_ite, bind_ite]
            by_cases cz : z = s
            · rw [if_pos cz, cz]; exact hcI
            · rw [if_neg cz]
        · obtain ⟨n1, n2⟩ := nfl p3.1 cf
          have hle : ¬ fl ≤ 0 := by rw [← p3.1.fr0.2]; exact n2
          have h27 := p3.1.2.2.2.2.2.2.2.2.2.2.2.2.2.2.1 cf
          rw [if_neg cf, if_neg hle, obt, if_pos k_607]
          unfold f_X12_toldText
          rw [if_pos k_2398, jlt, p3.1.fr0.2, jbt, h27]
          exact ⟨_, _, _, rfl, rfl, g2, f1.trans g3, f2.trans g4⟩
    · rw [if_pos (by rw [p_isDay]; omega), if_neg (by rw [in0, i2l_toInt]; exact fun z => z c1), p_mDay, obt, if_pos (by rw [t_if]; exact c2)]
      exact ⟨_, _, _, rfl, rfl, h0, f1, f2⟩
  · rw [if_pos (by rw [p_isScheme]; omega), if_pos (by rw [in0, i2l_toInt]; exact c1)]
    exact ⟨_, _, _, rfl, rfl, h0, f1, f2⟩
