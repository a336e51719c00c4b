/-! PURE: the evaluator: TRY -/
/-- what a TRY does when its E has failed -/
def ctS (F h : Nat) (S : jM) : jM := jsI (jsI (jsI (jsI S 7 F 0) 8 F (-1)) 11 F (jI S 11 F + 1)) 62 811 (nI h)
def ctR (R : jM) : jM := jsI (jsI (jsI R 126 2398 0) 127 2398 (-1)) 125 2398 (jI R 125 2398 + 1)
theorem ctS_fr {F h : Nat} {S : jM} : Fr (fun t f a => t = 0 ∧ ((a = F ∧ (f = 7 ∨ f = 8 ∨ f = 11)) ∨ (f = 62 ∧ a = 811))) S (ctS F h S) := ((((Fr.refl).sI (by omega)).sI (by omega)).sI (by omega)).sI (by omega)
theorem ctR_fr {R : jM} : Fr (fun t f a => t = 0 ∧ a = 2398 ∧ (f = 125 ∨ f = 126 ∨ f = 127)) R (ctR R) := (((Fr.refl).sI (by omega)).sI (by omega)).sI (by omega)
theorem lf_try {F T np f k i h r : Nat} {S : jM} (hS : Lay S) (hF : isF F) (h64 : jR S 64 811 = some F) (h65 : jR S 65 811 = some T) (hT : isT T) (hnp : np ≤ 300) (h45 : jI S 45 T = nI np) (hkn : k < np) (hTO : TOP f k 1 h r S) (h149 : jAI S (T + 1) k = 149) (h7 : jI S 7 F ≠ 7) (hi : jAI S (T + 3) (3 * k + 1) = nI i) (hin : i < np) (hf : f < 300) : f_X10_leaveFailed 811 S = some (psh f i (h + 0) r (jrI (ctS F h S) 813 (upd (jAI (ctS F h S) 813) (f - 1) (nI (1 + 1))))) := by
  obtain ⟨t1, t2, t3, t4, t5, t6⟩ := hTO
  obtain ⟨a1, a2, a3, a4, a5, a6⟩ := aF (show f - 1 < 300 by omega)
  have hFn := hF.n
  have hk := hT.1
  have hTb := hT.2
  have kt := kd_text hk
  have hL := hS.2.2.2.1 T hk
  have hA : jA (T + 1) 13 (nI k) = true := jA_n kt.1.1 (by omega) (by omega)
  have hck : (nI k).toNatClampNeg = k := nJ_cl (by omega)
  have hF1 : Fr (fun t f a => t = 0 ∨ (t = 3 ∧ a = 813)) S (jrI (ctS F h S) 813 (upd (jAI (ctS F h S) 813) (f - 1) (nI (1 + 1)))) := (ctS_fr.mono (fun t f a z => by omega)).rI (by omega)
  have hLc : Lay (jrI (ctS F h S) 813 (upd (jAI (ctS F h S) 813) (f - 1) (nI (1 + 1)))) := hS.fr hF1 (fun f a z => by omega) (fun a z => by have := k_813; rw [show a = 813 by omega]; omega)
  have hFi : Fr (fun t f a => (t = 0 ∧ ((a = F ∧ (f = 7 ∨ f = 8 ∨ f = 11)) ∨ (f = 62 ∧ a = 811))) ∨ (t = 3 ∧ a = 813)) S (jrI (ctS F h S) 813 (upd (jAI (ctS F h S) 813) (f - 1) (nI (1 + 1)))) := (ctS_fr.mono (fun t f a z => by omega)).rI (by omega)
  have hen : f_X10_enterInner 811 (nI k) 1 (jrI (ctS F h S) 813 (upd (jAI (ctS F h S) 813) (f - 1) (nI (1 + 1)))) = some (psh f i (h + 0) r (jrI (ctS F h S) 813 (upd (jAI (ctS F h S) 813) (f - 1) (nI (1 + 1))))) := by
    refine ent_in (T := T) (np := np) hLc ?_ hk ?_ hnp hkn (show 1 < 3 by omega) ?_ hin ?_ t2.1 hf ?_ ?_ 1 rfl
    · rw [hFi.r (by omega)]; exact h65
    · rw [hFi.i (by omega)]; exact h45
    · rw [hFi.ai (by omega)]; exact hi
    · rw [hFi.i (by omega)]; exact t1
    · unfold ctS; simp only [m_I_sI, m_L_sI, m_R_sI, m_AI_sI, m_AL_sI, m_AD_sI, m_AR_sI, m_n_sI, m_I_sL, m_L_sL, m_R_sL, m_AI_sL, m_AL_sL, m_AD_sL, m_AR_sL, m_n_sL, m_I_sR, m_L_sR, m_R_sR, m_AI_sR, m_AL_sR, m_AD_sR, m_AR_sR, m_n_sR, m_I_rI, m_L_rI, m_R_rI, m_AI_rI, m_AL_rI, m_AD_rI, m_AR_rI, m_n_rI, m_I_rL, m_L_rL, m_R_rL, m_AI_rL, m_AL_rL, m_AD_rL, m_AR_rL, m_n_rL, m_I_rD, m_L_rD, m_R_rD, m_AI_rD, m_AL_rD, m_AD_rD, m_AR_rD, m_n_rD, m_I_rR, m_L_rR, m_R_rR, m_AI_rR, m_AL_rR, m_AD_rR, m_AR_rR, m_n_rR, true_and, and_true, and_false, false_and, and_self, if_true, if_false, ite_self, Nat.reduceEqDiff, reduceIte, obt, jlt, jbt, jbd_ite, bind_ite]; rfl
    · rw [hFi.ai (by omega)]; exact t6
  have n1 : ¬ F = 811 := by omega
  unfold f_X10_leaveFailed
  rw [if_pos k_811, t1, f_1 t2.1 t2.2, jlt, ly_56 hS, obt, if_pos a1, a6, t3, jlt, h65, obt, if_pos hk, hL.1, obt, if_pos hA, hck, if_pos h149, ly_57 hS, obt, if_pos a2, t4, if_pos (show nI 1 = 1 from rfl), h64, obt, if_pos hF.k, if_neg h7, obt, if_pos hF.k, jlt]
  simp only [m_R_sI, m_AI_sI, m_I_sI, h64, ly_58 hS, ly_57 hS, hF.k, a3, a2, a6, t5, obt, jlt, if_true, Nat.reduceEqDiff, false_and, if_false]
  have e : jrI (jsI (jsI (jsI (jsI S 7 F 0) 8 F (-1)) 11 F (jI S 11 F + 1)) 62 811 (nI h)) 813 (upd (jAI S 813) (f - 1) 2) = jrI (ctS F h S) 813 (upd (jAI (ctS F h S) 813) (f - 1) (nI (1 + 1))) := rfl
  rw [e, hen, obt]
theorem node_try {F T t np nr : Nat} {ru : Nat → Nat × Nat × Nat} {n : Int} {ki : Nat → Int32} {co : Nat → Int64} {inn : Nat → Int32} {d : Nat} (IH : NC F T t np nr ru n ki co inn d) {f k h rs lo hi r : Nat} {C0 R0 : jM} {w0 p0 : Nat} {s : Nat → Nat} {C R : jM} {w p sc D : Nat}
    (hP : PR F T t np nr ru n ki co inn f k h rs lo hi r C0 R0 w0 p0 0 0 0 0 s C R w p sc) (hD : 2 * d + 1 ≤ D) {A : Nat → Prop} (tok : tOK ki co inn ru nr rs (d + 1) A lo hi k) (hA : ∀ q, A q → rs ≤ q ∧ q < lo ∧ jAL C 816 q = jAL R 2425 (301 * t + q)) (hfd : f + (d + 1) ≤ 301) (hkd : ki k = 149) (hrs : rs ≤ lo) (hhi : hi ≤ np) :
    ∃ x Rb, wnB (g_V D) (nI (301 * t + k)) (kmap (ki k)) R = some (x, Rb) ∧ ∃ j' C', it F j' C0 = some C' ∧ RES F t nr ru n f h rs lo hi r C0 R0 w0 p0 j' C' x Rb := by
  have h146 : ki k ≠ 146 := by rw [hkd]; decide
  have h678 : ki k ≠ 6 ∧ ki k ≠ 7 ∧ ki k ≠ 8 := by rw [hkd]; decide
  have tar2 : tar (ki k) = 2 := by rw [hkd]; decide
  have es := hP.2.1
  have hk := hP.2.2.2.2.2.2.2.1.2.2.2.1
  have hF : isF F := es.2.2.1
  have hFn := hF.n
  have ht33 := es.2.2.2.2.1
  have hnp := es.2.2.2.2.2.1
  obtain ⟨n1, n2, n3, n4, n5, n6, n7, n8⟩ := nA ht33 (show k < 301 by omega)
  obtain ⟨i0, j0, tk0, l0, d0⟩ := tOK_in tok h146 (j := 0) (by omega)
  obtain ⟨i1, j1, tk1, l1, -⟩ := tOK_in tok h146 (j := 1) (by omega)
  obtain ⟨z0, -⟩ := es.in0 hk h678
  have r9 := z0 (by omega) i0 (by omega) j0
  have hid : ∀ o : Option jM, (o.bind fun S1 => some S1) = o := fun o => by cases o <;> rfl
  have tbd : ∀ (st : Int32) (S6 : jM), tb k (ki k) st S6 = f_X10_attempt 811 (nI k) st S6 := fun st S6 => by
    rw [hkd]
    unfold tb
    rw [if_neg (by decide), if_neg (by decide), if_neg (by decide), if_neg (by decide), if_neg (by decide), if_neg (by decide), if_neg (by decide), if_neg (by decide), if_pos rfl, hid]
  have hlv : ∀ (st : Nat) (S6 : jM), 0 < st → st < 1000 → tb k (ki k) (nI st) S6 = f_X10_leave 811 S6 := fun st S6 hst hst2 => by
    rw [tbd]
    unfold f_X10_attempt
    rw [if_neg (by rw [i_eq, t_0, nI_toInt (by omega)]; omega), if_pos k_811, hid]
  obtain ⟨D', rfl⟩ : ∃ D', D = D' + 1 := ⟨D - 1, by omega⟩
  have hD' : 2 * d ≤ D' := by omega
  have hw : wnB (g_V (D' + 1)) (nI (301 * t + k)) (kmap (ki k)) R = f_X12_workTry (g_V D') 2398 (nI (301 * t + k)) R := by
    rw [hkd]
    unfold wnB
    rw [if_neg (by decide), if_neg (by decide), if_neg (by decide), if_pos (by decide), hjd, gV3]
  rw [hw]
  have ht0 : f_X10_turn_50 811 (nI k) (ki k) (nI 0) C = some (psh f i0 (h + 0) r (jrI C 813 (upd (jAI C 813) (f - 1) (nI (0 + 1))))) := by
    rw [hP.ct.2.2.2.2.2.2.2.1, tbd]
    unfold f_X10_attempt
    rw [if_pos (show nI 0 = 0 from rfl), if_pos k_811, hP.into (show 0 < 3 by omega) j0 (by omega) (by omega) 0 rfl, obt]
  obtain ⟨x0, R1, g0, q⟩ := hP.inner IH hD' ht0 tk0 (Nat.le_refl _) (Nat.le_refl _) hhi hrs hA (by omega)
  have hKq : ∀ {j o st : Nat} {C1 R1 : jM}, PF F T t np nr ru n ki co inn f k h rs lo hi r C0 R0 w0 p0 j o st C1 R1 → True := fun _ => trivial
  rw [← r9] at g0
  rcases q with ⟨jj2, C2, w2, p2, sc2, sl, e1, hP2, hw2, hcn⟩ | ⟨e1, jj2, C2, hPF⟩
  · subst e1
    have hsl : sl < 1500 := by
      have h1 := (hP2.2.2.2.2.2.2.2.2.1 0 (by omega)).1
      have h2 := hP2.acts.2.2.2.2.2.1
      simp only [if_true] at h1
      omega
    refine ⟨nI sl, R1, ?_, ?_⟩
    · unfold f_X12_workTry
      rw [if_pos k_2398, ly_104 es.2.1, obt, if_pos n3, n8, g0, jbt, if_pos (by rw [i_le, t_0, nI_toInt (by omega)]; omega)]
    · have := hP2.leaves (by rw [hP2.ct.2.2.2.2.2.2.2.1, hlv _ _ (by omega) (by omega)]) (by omega)
      simp only [if_true] at this
      exact this
  · subst e1
    obtain ⟨c, w2, p2, sc2, a1, a2, a3, a4, a5, a6, a7, ⟨b1, b2, b3⟩, b4⟩ := id hPF
    obtain ⟨c1, c2, c3, c4⟩ := a5
    by_cases c7 : c = 7
    · refine ⟨-1, R1, ?_, hPF.res hk (by omega) (by omega) (fun _ _ => by rw [c2]; exact c7) (fun z => absurd z h678.2.1)⟩
      unfold f_X12_workTry
      rw [if_pos k_2398, ly_104 es.2.1, obt, if_pos n3, n8, g0, jbt, if_neg (by decide), if_pos (by rw [c3]; exact c7)]
    · have h400 := a3.1.2.2
      have p226 := a3.2.2.2.1
      have eki := a2.ki
      have h45 := a2.2.2.2.2.2.2.2.2.2.2.2.2.2.2.2.2.1
      have hl := lf_try a2.1 hF a2.2.2.2.2.2.2.2.1 a2.2.2.2.2.2.2.2.2.1 a2.2.2.2.1 hnp h45 hk a6 (by rw [eki.1]; exact hkd) (by rw [c2]; exact c7) (by rw [eki.2.2]; exact j1) (by omega) (by omega)
      have h0 : 0 < (jI C2 60 811).toInt := by rw [a6.1, nI_toInt (by have := a6.2.1; omega)]; have := a6.2.1; omega
      have hit1 := it_1 a1 h0 (by unfold stp; rw [if_pos a2.2.2.2.2.2.2.2.1, if_neg (by rw [c2, i_eq, t_0]; omega)]; exact hl)
      have fS : Fr (fun t f a => t = 0 ∧ ((a = F ∧ (f = 7 ∨ f = 8 ∨ f = 11)) ∨ (f = 62 ∧ a = 811))) C2 (ctS F h C2) := ctS_fr
      have fR : Fr (fun t f a => t = 0 ∧ a = 2398 ∧ (f = 125 ∨ f = 126 ∨ f = 127)) R1 (ctR R1) := ctR_fr
      have k1 : KP F t nr ru f h rs lo hi C2 R1 w2 p2 (ctS F h C2) (ctR R1) w2 p2 := ⟨fS.mono (fun t f a z => by unfold pW; omega), fR.mono (fun t f a z => by unfold qW; omega), fun i _ => ⟨rfl, rfl, rfl, rfl⟩, fun i hi => ⟨fS.sP (fun t f => by omega), fS.sP (fun t f => by omega)⟩, fun _ _ => fR.sS (fun a h1 h2 => by omega) _, ⟨Nat.le_refl _, Nat.le_refl _⟩, fun q _ => ⟨rfl, rfl⟩, fun r => .inr rfl⟩
      have es2 := k1.es a2 p226.2.1
      have e11 : jI (ctS F h C2) 11 F = jI (ctR R1) 125 2398 := by
        have := a3.2.1.2
        unfold ctS ctR
        simp only [m_I_sI, m_L_sI, m_R_sI, m_AI_sI, m_AL_sI, m_AD_sI, m_AR_sI, m_n_sI, m_I_sL, m_L_sL, m_R_sL, m_AI_sL, m_AL_sL, m_AD_sL, m_AR_sL, m_n_sL, m_I_sR, m_L_sR, m_R_sR, m_AI_sR, m_AL_sR, m_AD_sR, m_AR_sR, m_n_sR, m_I_rI, m_L_rI, m_R_rI, m_AI_rI, m_AL_rI, m_AD_rI, m_AR_rI, m_n_rI, m_I_rL, m_L_rL, m_R_rL, m_AI_rL, m_AL_rL, m_AD_rL, m_AR_rL, m_n_rL, m_I_rD, m_L_rD, m_R_rD, m_AI_rD, m_AL_rD, m_AD_rD, m_AR_rD, m_n_rD, m_I_rR, m_L_rR, m_R_rR, m_AI_rR, m_AL_rR, m_AD_rR, m_AR_rR, m_n_rR, true_and, and_true, and_false, false_and, and_self, if_true, if_false, ite_self, Nat.reduceEqDiff, reduceIte, obt, jlt, jbt, jbd_ite, bind_ite]
        rw [this]
      have ed2 : ED F n w2 p2 sc2 (ctS F h C2) (ctR R1) := a3.f (by rw [fS.i (by omega)]; exact a3.1.1) (by rw [fR.i (by omega)]; exact a3.1.2.1) h400 (by rw [fS.i (by omega), fR.i (by omega)]; exact a3.2.1.1) e11 (fS.i (by omega)) (fR.i (by omega)) (by rw [fR.i (by omega)]; exact p226.1) (Nat.le_refl _) p226.2.2 (fun a h1 h2 h3 => fS.sP (fun t f => by omega)) (fun _ _ _ => rfl) (fun _ _ => fR.sS (fun a h1 h2 => by omega) _)
      have hPx : PRx F T t np nr ru n ki co inn f k h rs lo hi r C0 R0 w0 p0 jj2 3 1 0 s (ctS F h C2) (ctR R1) w2 p2 sc2 := by
        refine ⟨es2, ed2, a4.trans k1 (Nat.le_refl _) (Nat.le_refl _) (fun q z => z) (Nat.le_refl _), ⟨?_, ?_, ?_, ?_⟩, ⟨by rw [fS.i (by omega)]; exact a6.1, a6.2⟩, ⟨?_, by rw [fR.i (by omega)]; exact a7⟩, ⟨b3, by omega, b1, hk, by omega, hP.2.2.2.2.2.2.2.1.2.2.2.2.2⟩, fun i hi => absurd hi (by omega), by omega⟩
        · unfold ctS; simp only [m_I_sI, m_L_sI, m_R_sI, m_AI_sI, m_AL_sI, m_AD_sI, m_AR_sI, m_n_sI, m_I_sL, m_L_sL, m_R_sL, m_AI_sL, m_AL_sL, m_AD_sL, m_AR_sL, m_n_sL, m_I_sR, m_L_sR, m_R_sR, m_AI_sR, m_AL_sR, m_AD_sR, m_AR_sR, m_n_sR, m_I_rI, m_L_rI, m_R_rI, m_AI_rI, m_AL_rI, m_AD_rI, m_AR_rI, m_n_rI, m_I_rL, m_L_rL, m_R_rL, m_AI_rL, m_AL_rL, m_AD_rL, m_AR_rL, m_n_rL, m_I_rD, m_L_rD, m_R_rD, m_AI_rD, m_AL_rD, m_AD_rD, m_AR_rD, m_n_rD, m_I_rR, m_L_rR, m_R_rR, m_AI_rR, m_AL_rR, m_AD_rR, m_AR_rR, m_n_rR, true_and, and_true, and_false, false_and, and_self, if_true, if_false, ite_self, Nat.reduceEqDiff, reduceIte, obt, jlt, jbt, jbd_ite, bind_ite]
        · unfold ctS; simp only [m_I_sI, m_L_sI, m_R_sI, m_AI_sI, m_AL_sI, m_AD_sI, m_AR_sI, m_n_sI, m_I_sL, m_L_sL, m_R_sL, m_AI_sL, m_AL_sL, m_AD_sL, m_AR_sL, m_n_sL, m_I_sR, m_L_sR, m_R_sR, m_AI_sR, m_AL_sR, m_AD_sR, m_AR_sR, m_n_sR, m_I_rI, m_L_rI, m_R_rI, m_AI_rI, m_AL_rI, m_AD_rI, m_AR_rI, m_n_rI, m_I_rL, m_L_rL, m_R_rL, m_AI_rL, m_AL_rL, m_AD_rL, m_AR_rL, m_n_rL, m_I_rD, m_L_rD, m_R_rD, m_AI_rD, m_AL_rD, m_AD_rD, m_AR_rD, m_n_rD, m_I_rR, m_L_rR, m_R_rR, m_AI_rR, m_AL_rR, m_AD_rR, m_AR_rR, m_n_rR, true_and, and_true, and_false, false_and, and_self, if_true, if_false, ite_self, Nat.reduceEqDiff, reduceIte, obt, jlt, jbt, jbd_ite, bind_ite]
        · unfold ctR; simp only [m_I_sI, m_L_sI, m_R_sI, m_AI_sI, m_AL_sI, m_AD_sI, m_AR_sI, m_n_sI, m_I_sL, m_L_sL, m_R_sL, m_AI_sL, m_AL_sL, m_AD_sL, m_AR_sL, m_n_sL, m_I_sR, m_L_sR, m_R_sR, m_AI_sR, m_AL_sR, m_AD_sR, m_AR_sR, m_n_sR, m_I_rI, m_L_rI, m_R_rI, m_AI_rI, m_AL_rI, m_AD_rI, m_AR_rI, m_n_rI, m_I_rL, m_L_rL, m_R_rL, m_AI_rL, m_AL_rL, m_AD_rL, m_AR_rL, m_n_rL, m_I_rD, m_L_rD, m_R_rD, m_AI_rD, m_AL_rD, m_AD_rD, m_AR_rD, m_n_rD, m_I_rR, m_L_rR, m_R_rR, m_AI_rR, m_AL_rR, m_AD_rR, m_AR_rR, m_n_rR, true_and, and_true, and_false, false_and, and_self, if_true, if_false, ite_self, Nat.reduceEqDiff, reduceIte, obt, jlt, jbt, jbd_ite, bind_ite]
        · unfold ctR; simp only [m_I_sI, m_L_sI, m_R_sI, m_AI_sI, m_AL_sI, m_AD_sI, m_AR_sI, m_n_sI, m_I_sL, m_L_sL, m_R_sL, m_AI_sL, m_AL_sL, m_AD_sL, m_AR_sL, m_n_sL, m_I_sR, m_L_sR, m_R_sR, m_AI_sR, m_AL_sR, m_AD_sR, m_AR_sR, m_n_sR, m_I_rI, m_L_rI, m_R_rI, m_AI_rI, m_AL_rI, m_AD_rI, m_AR_rI, m_n_rI, m_I_rL, m_L_rL, m_R_rL, m_AI_rL, m_AL_rL, m_AD_rL, m_AR_rL, m_n_rL, m_I_rD, m_L_rD, m_R_rD, m_AI_rD, m_AL_rD, m_AD_rD, m_AR_rD, m_n_rD, m_I_rR, m_L_rR, m_R_rR, m_AI_rR, m_AL_rR, m_AD_rR, m_AR_rR, m_n_rR, true_and, and_true, and_false, false_and, and_self, if_true, if_false, ite_self, Nat.reduceEqDiff, reduceIte, obt, jlt, jbt, jbd_ite, bind_ite]
        · unfold ctS; simp only [m_I_sI, m_L_sI, m_R_sI, m_AI_sI, m_AL_sI, m_AD_sI, m_AR_sI, m_n_sI, m_I_sL, m_L_sL, m_R_sL, m_AI_sL, m_AL_sL, m_AD_sL, m_AR_sL, m_n_sL, m_I_sR, m_L_sR, m_R_sR, m_AI_sR, m_AL_sR, m_AD_sR, m_AR_sR, m_n_sR, m_I_rI, m_L_rI, m_R_rI, m_AI_rI, m_AL_rI, m_AD_rI, m_AR_rI, m_n_rI, m_I_rL, m_L_rL, m_R_rL, m_AI_rL, m_AL_rL, m_AD_rL, m_AR_rL, m_n_rL, m_I_rD, m_L_rD, m_R_rD, m_AI_rD, m_AL_rD, m_AD_rD, m_AR_rD, m_n_rD, m_I_rR, m_L_rR, m_R_rR, m_AI_rR, m_AL_rR, m_AD_rR, m_AR_rR, m_n_rR, true_and, and_true, and_false, false_and, and_self, if_true, if_false, ite_self, Nat.reduceEqDiff, reduceIte, obt, jlt, jbt, jbd_ite, bind_ite]; rfl
      -- what was kept of the counters
      have hA3 : ∀ q, A q → rs ≤ q ∧ q < lo ∧ jAL (ctS F h C2) 816 q = jAL (ctR R1) 2425 (301 * t + q) := fun q hq => by
        obtain ⟨u1, u2, u3⟩ := hA q hq
        obtain ⟨v1, v2⟩ := a4.2.2.2.2.2.2.1 q (.inl ⟨u1, u2⟩)
        obtain ⟨v3, v4⟩ := hP.2.2.2.1.2.2.2.2.2.2.1 q (.inl ⟨u1, u2⟩)
        refine ⟨u1, u2, ?_⟩
        show jAL C2 816 q = jAL R1 2425 (301 * t + q)
        rw [v1, v2, ← v3, ← v4]
        exact u3
      obtain ⟨z0', z1', -⟩ := es2.in0 hk h678
      have r10 := z1' (by omega) i1 (by omega) j1
      obtain ⟨x1, R2, g1, q⟩ := hPx.inner IH hD' hit1 tk1 (Nat.le_refl _) (Nat.le_refl _) hhi hrs hA3 (by omega)
      rw [← r10] at g1
      have er : f_X12_workTry (g_V D') 2398 (nI (301 * t + k)) R = some (x1, R2) := by
        unfold f_X12_workTry
        have l105 : jR (ctR R1) 105 2398 = some 2410 := ly_105 es2.2.1
        rw [if_pos k_2398, ly_104 es.2.1, obt, if_pos n3, n8, g0, jbt, if_neg (by decide), if_neg (by rw [c3]; exact c7), jlt, jlt, jlt]
        have e : jsI (jsI (jsI R1 126 2398 0) 127 2398 (-1)) 125 2398 (jI (jsI (jsI R1 126 2398 0) 127 2398 (-1)) 125 2398 + 1) = ctR R1 := by
          unfold ctR; simp only [m_I_sI, m_L_sI, m_R_sI, m_AI_sI, m_AL_sI, m_AD_sI, m_AR_sI, m_n_sI, m_I_sL, m_L_sL, m_R_sL, m_AI_sL, m_AL_sL, m_AD_sL, m_AR_sL, m_n_sL, m_I_sR, m_L_sR, m_R_sR, m_AI_sR, m_AL_sR, m_AD_sR, m_AR_sR, m_n_sR, m_I_rI, m_L_rI, m_R_rI, m_AI_rI, m_AL_rI, m_AD_rI, m_AR_rI, m_n_rI, m_I_rL, m_L_rL, m_R_rL, m_AI_rL, m_AL_rL, m_AD_rL, m_AR_rL, m_n_rL, m_I_rD, m_L_rD, m_R_rD, m_AI_rD, m_AL_rD, m_AD_rD, m_AR_rD, m_n_rD, m_I_rR, m_L_rR, m_R_rR, m_AI_rR, m_AL_rR, m_AD_rR, m_AR_rR, m_n_rR, true_and, and_true, and_false, false_and, and_self, if_true, if_false, ite_self, Nat.reduceEqDiff, reduceIte, obt, jlt, jbt, jbd_ite, bind_ite]
        rw [e, l105, obt, if_pos n4, hjd, g1]
      rw [er]
      rcases q with ⟨j3, C3, w3, p3, sc3, sl1, e1, hP3, hw3, hcn3⟩ | ⟨e1, j3, C3, hPF3⟩
      · subst e1
        refine ⟨_, R2, rfl, ?_⟩
        have := hP3.leaves (by rw [hP3.ct.2.2.2.2.2.2.2.1, hlv _ _ (by omega) (by omega)]) (by omega)
        simp only [if_true] at this
        exact this
      · subst e1
        exact ⟨-1, R2, rfl, hPF3.res hk (by omega) (by omega) (fun _ z => absurd z (by omega)) (fun z => absurd z h678.2.1)⟩
