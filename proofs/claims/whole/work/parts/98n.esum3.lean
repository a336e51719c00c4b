/-! PURE: the evaluator: SUM: its items -/
theorem cnt_ok {R : jM} {w : Nat} (h : jI R 123 2398 = nI w) (hw : w ≤ 400) : f_X12_counted 2398 1 R = if w + 1 ≤ 400 then some (1, jsI R 123 2398 (nI (w + 1))) else some (0, jsI (jsI R 126 2398 7) 127 2398 (jI R 122 2398)) := by
  unfold f_X12_counted
  rw [if_pos k_2398, h, nJ_1 (by omega), failing_ok, jbt, jlt]
  by_cases c : w + 1 ≤ 400
  · rw [if_pos c, if_pos (by rw [show (400 : Int32) = nI 400 from rfl, nJ_le (by omega) (by omega)]; exact c)]
  · rw [if_neg c, if_neg (by rw [show (400 : Int32) = nI 400 from rfl, nJ_le (by omega) (by omega)]; exact c)]
theorem sum_loop {F T t np nr : Nat} {ru : Nat → Nat × Nat × Nat} {n : Int} {ki : Nat → Int32} {co : Nat → Int64} {inn : Nat → Int32} {d : Nat} (IH : NC F T t np nr ru n ki co inn d) {f k h rs lo hi r : Nat} {C0 R0 : jM} {w0 p0 s0 s1 D : Nat} (hD : 2 * d ≤ D) {A : Nat → Prop} {i2 : Nat} (hk : lo ≤ k ∧ k < hi) (hrs : rs ≤ lo) (hhi : hi ≤ np) (hkd : ki k = 146) (hi2 : inn (3 * k + 2) = nI i2) (tk2 : tOK ki co inn ru nr rs d (fun q => A q ∨ q = k) (k + 1) hi i2) (l2 : i2 < hi) (hfd : f + d ≤ 300) (hd0 : 0 < d) {v4 : Int64} :
    ∀ (N : Nat) {C R : jM} {j st s2 w p sc fu : Nat} {v8 : Int64}, 400 - w ≤ N → N + 1 < fu → SL F T t np nr ru n ki co inn f k h rs lo hi r C0 R0 w0 p0 j 0 st s0 s1 s2 C R w p sc → jI C 52 (818 + 2 * (h + 1)) = 0 → jAL R 2401 (12 * s1) = v4 → jAL C 816 k = v8 → v8.toInt ≤ v4.toInt → (∀ q, A q → rs ≤ q ∧ q < lo ∧ jAL C 816 q = jAL R 2425 (301 * t + q)) → 2 ≤ st →
    ∃ x Rb, f_X12_workSum_111 (g_V D) fu 2398 (nI (301 * t + k)) v4 (nI s2) 1 v8 R = some (x, Rb) ∧ ∃ j' C', it F j' C0 = some C' ∧ RES F t nr ru n f h rs lo hi r C0 R0 w0 p0 j' C' x Rb := by
  intro N
  induction N using Nat.strongRecOn with
  | ind N ihN =>
  intro C R j st s2 w p sc fu v8 hN hfu hSL hso hv4 hv8 hle hA hst
  obtain ⟨fu, rfl⟩ : ∃ g, fu = g + 1 := ⟨fu - 1, by omega⟩
  have hSL' := hSL
  obtain ⟨a1, a2, a3, a4, a5, a6, a8, ⟨b1, b2, b3, b4, b5, b6'⟩, ⟨⟨vs0, v0⟩, ⟨vs1, v1⟩, ⟨vs2, v2⟩⟩, b7⟩ := hSL
  have hF : isF F := a2.2.2.1
  have hFn := hF.n
  have ht33 := a2.2.2.2.2.1
  have hnp := a2.2.2.2.2.2.1
  have h400 := a3.1.2.2
  have p226 := a3.2.2.2.1
  have hT6 : jK T = 6 := a2.2.2.2.1.1
  have hTb := a2.2.2.2.1.2
  obtain ⟨n1, n2, n3, n4, n5, n6, n7, n8⟩ := nA ht33 (show k < 301 by omega)
  have hid : ∀ o : Option jM, (o.bind fun S1 => some S1) = o := fun o => by cases o <;> rfl
  have hsp := spend_ok (r := r) a2.1 hF a2.2.2.2.2.2.2.2.1 a6.1 a6.2.1.1 a6.2.1.2 a6.2.2.2.2.2 a3.1.1 h400 (show 1 ≤ 400 by omega) 1 rfl
  rw [ws_s, if_neg (by decide), if_pos k_2398, cnt_ok a3.1.2.1 h400]
  by_cases cw1 : w + 1 ≤ 400
  · rw [if_pos cw1] at hsp ⊢
    rw [jbt, if_neg (by decide)]
    -- an item more
    have a25 : jA 2425 14 (nI (301 * t + k)) = true := jA_n k_2425 (by rw [ln_2425]; omega) (by omega)
    have hC7 : Fr (pSp F) C (jsI (jsI C 9 F (nI (w + 1))) 62 811 (nI (h + 3))) := ((Fr.refl).sI (by unfold pSp; omega)).sI (by unfold pSp; omega)
    have hCy : Fr (pSp F) C (jrI (jsI (jsI C 9 F (nI (w + 1))) 62 811 (nI (h + 3))) 813 (upd (jAI (jsI (jsI C 9 F (nI (w + 1))) 62 811 (nI (h + 3))) 813) (f - 1) (nI st))) := hC7.rI (by unfold pSp; omega)
    have hback := rI2 (S := jsI (jsI C 9 F (nI (w + 1))) 62 811 (nI (h + 3))) (a := 813) (i := f - 1) (v := nI st) (u := nI (st + 1)) a6.2.2.2.1
    have y813 : ∀ i, jAI (jrI (jsI (jsI C 9 F (nI (w + 1))) 62 811 (nI (h + 3))) 813 (upd (jAI (jsI (jsI C 9 F (nI (w + 1))) 62 811 (nI (h + 3))) 813) (f - 1) (nI st))) 813 i = if i = f - 1 then nI st else jAI C 813 i := fun i => by simp only [m_I_sI, m_L_sI, m_R_sI, m_AI_sI, m_AL_sI, m_AD_sI, m_AR_sI, m_n_sI, m_I_sL, m_L_sL, m_R_sL, m_AI_sL, m_AL_sL, m_AD_sL, m_AR_sL, m_n_sL, m_I_sR, m_L_sR, m_R_sR, m_AI_sR, m_AL_sR, m_AD_sR, m_AR_sR, m_n_sR, m_I_rI, m_L_rI, m_R_rI, m_AI_rI, m_AL_rI, m_AD_rI, m_AR_rI, m_n_rI, m_I_rL, m_L_rL, m_R_rL, m_AI_rL, m_AL_rL, m_AD_rL, m_AR_rL, m_n_rL, m_I_rD, m_L_rD, m_R_rD, m_AI_rD, m_AL_rD, m_AD_rD, m_AR_rD, m_n_rD, m_I_rR, m_L_rR, m_R_rR, m_AI_rR, m_AL_rR, m_AD_rR, m_AR_rR, m_n_rR, upd_if, true_and, and_true, and_false, false_and, and_self, if_true, if_false, ite_self, Nat.reduceEqDiff, reduceIte, obt, jlt, jbt, jbd_ite, bind_ite]
    have y62 : jI (jrI (jsI (jsI C 9 F (nI (w + 1))) 62 811 (nI (h + 3))) 813 (upd (jAI (jsI (jsI C 9 F (nI (w + 1))) 62 811 (nI (h + 3))) 813) (f - 1) (nI st))) 62 811 = nI (h + 3) := by simp only [m_I_sI, m_L_sI, m_R_sI, m_AI_sI, m_AL_sI, m_AD_sI, m_AR_sI, m_n_sI, m_I_sL, m_L_sL, m_R_sL, m_AI_sL, m_AL_sL, m_AD_sL, m_AR_sL, m_n_sL, m_I_sR, m_L_sR, m_R_sR, m_AI_sR, m_AL_sR, m_AD_sR, m_AR_sR, m_n_sR, m_I_rI, m_L_rI, m_R_rI, m_AI_rI, m_AL_rI, m_AD_rI, m_AR_rI, m_n_rI, m_I_rL, m_L_rL, m_R_rL, m_AI_rL, m_AL_rL, m_AD_rL, m_AR_rL, m_n_rL, m_I_rD, m_L_rD, m_R_rD, m_AI_rD, m_AL_rD, m_AD_rD, m_AR_rD, m_n_rD, m_I_rR, m_L_rR, m_R_rR, m_AI_rR, m_AL_rR, m_AD_rR, m_AR_rR, m_n_rR, true_and, and_true, and_false, false_and, and_self, if_true, if_false, ite_self, Nat.reduceEqDiff, reduceIte, obt, jlt, jbt, jbd_ite, bind_ite]
    have y9 : jI (jrI (jsI (jsI C 9 F (nI (w + 1))) 62 811 (nI (h + 3))) 813 (upd (jAI (jsI (jsI C 9 F (nI (w + 1))) 62 811 (nI (h + 3))) 813) (f - 1) (nI st))) 9 F = nI (w + 1) := by simp only [m_I_sI, m_L_sI, m_R_sI, m_AI_sI, m_AL_sI, m_AD_sI, m_AR_sI, m_n_sI, m_I_sL, m_L_sL, m_R_sL, m_AI_sL, m_AL_sL, m_AD_sL, m_AR_sL, m_n_sL, m_I_sR, m_L_sR, m_R_sR, m_AI_sR, m_AL_sR, m_AD_sR, m_AR_sR, m_n_sR, m_I_rI, m_L_rI, m_R_rI, m_AI_rI, m_AL_rI, m_AD_rI, m_AR_rI, m_n_rI, m_I_rL, m_L_rL, m_R_rL, m_AI_rL, m_AL_rL, m_AD_rL, m_AR_rL, m_n_rL, m_I_rD, m_L_rD, m_R_rD, m_AI_rD, m_AL_rD, m_AD_rD, m_AR_rD, m_n_rD, m_I_rR, m_L_rR, m_R_rR, m_AI_rR, m_AL_rR, m_AD_rR, m_AR_rR, m_n_rR, true_and, and_true, and_false, false_and, and_self, if_true, if_false, ite_self, Nat.reduceEqDiff, reduceIte, obt, jlt, jbt, jbd_ite, bind_ite]
    have hR2 : Fr qSp R (jrL (jsI R 123 2398 (nI (w + 1))) 2425 (vp_updL (jAL (jsI R 123 2398 (nI (w + 1))) 2425) (301 * t + k) v8)) := ((Fr.refl).sI (by unfold qSp; omega)).rL (by unfold qSp; omega)
    have r25 : ∀ q, jAL (jrL (jsI R 123 2398 (nI (w + 1))) 2425 (vp_updL (jAL (jsI R 123 2398 (nI (w + 1))) 2425) (301 * t + k) v8)) 2425 (301 * t + q) = if q = k then v8 else jAL R 2425 (301 * t + q) := fun q => by
      simp only [m_I_sI, m_L_sI, m_R_sI, m_AI_sI, m_AL_sI, m_AD_sI, m_AR_sI, m_n_sI, m_I_sL, m_L_sL, m_R_sL, m_AI_sL, m_AL_sL, m_AD_sL, m_AR_sL, m_n_sL, m_I_sR, m_L_sR, m_R_sR, m_AI_sR, m_AL_sR, m_AD_sR, m_AR_sR, m_n_sR, m_I_rI, m_L_rI, m_R_rI, m_AI_rI, m_AL_rI, m_AD_rI, m_AR_rI, m_n_rI, m_I_rL, m_L_rL, m_R_rL, m_AI_rL, m_AL_rL, m_AD_rL, m_AR_rL, m_n_rL, m_I_rD, m_L_rD, m_R_rD, m_AI_rD, m_AL_rD, m_AD_rD, m_AR_rD, m_n_rD, m_I_rR, m_L_rR, m_R_rR, m_AI_rR, m_AL_rR, m_AD_rR, m_AR_rR, m_n_rR, updL_if, true_and, and_true, and_false, false_and, and_self, if_true, if_false, ite_self, Nat.reduceEqDiff, reduceIte, obt, jlt, jbt, jbd_ite, bind_ite]
      by_cases c : q = k
      · rw [if_pos (by omega), if_pos c]
      · rw [if_neg (by omega), if_neg c]
    have r123 : jI (jrL (jsI R 123 2398 (nI (w + 1))) 2425 (vp_updL (jAL (jsI R 123 2398 (nI (w + 1))) 2425) (301 * t + k) v8)) 123 2398 = nI (w + 1) := by simp only [m_I_sI, m_L_sI, m_R_sI, m_AI_sI, m_AL_sI, m_AD_sI, m_AR_sI, m_n_sI, m_I_sL, m_L_sL, m_R_sL, m_AI_sL, m_AL_sL, m_AD_sL, m_AR_sL, m_n_sL, m_I_sR, m_L_sR, m_R_sR, m_AI_sR, m_AL_sR, m_AD_sR, m_AR_sR, m_n_sR, m_I_rI, m_L_rI, m_R_rI, m_AI_rI, m_AL_rI, m_AD_rI, m_AR_rI, m_n_rI, m_I_rL, m_L_rL, m_R_rL, m_AI_rL, m_AL_rL, m_AD_rL, m_AR_rL, m_n_rL, m_I_rD, m_L_rD, m_R_rD, m_AI_rD, m_AL_rD, m_AD_rD, m_AR_rD, m_n_rD, m_I_rR, m_L_rR, m_R_rR, m_AI_rR, m_AL_rR, m_AD_rR, m_AR_rR, m_n_rR, true_and, and_true, and_false, false_and, and_self, if_true, if_false, ite_self, Nat.reduceEqDiff, reduceIte, obt, jlt, jbt, jbd_ite, bind_ite]
    have l134 : jR (jsI R 123 2398 (nI (w + 1))) 134 2398 = some 2425 := ly_134 a2.2.1
    have l106 : jR (jrL (jsI R 123 2398 (nI (w + 1))) 2425 (vp_updL (jAL (jsI R 123 2398 (nI (w + 1))) 2425) (301 * t + k) v8)) 106 2398 = some 2411 := ly_106 a2.2.1
    rw [l134, obt, if_pos a25, n8, jlt, l106, obt, if_pos n5]
    have hL7 : Lay (jsI (jsI C 9 F (nI (w + 1))) 62 811 (nI (h + 3))) := a2.1.frEW hF (hC7.mono (fun t f a z => by unfold pSp at z; unfold pW; omega))
    have hent : f_X10_enterInner 811 (nI k) 2 (jsI (jsI C 9 F (nI (w + 1))) 62 811 (nI (h + 3))) = some (psh f i2 (h + 3) r (jsI (jsI C 9 F (nI (w + 1))) 62 811 (nI (h + 3)))) := by
      refine ent_in (T := T) (np := np) hL7 ?_ hT6 ?_ hnp b4 (show 2 < 3 by omega) ?_ (by omega) ?_ a6.2.1.1 (by omega) ?_ ?_ 2 rfl
      · rw [hC7.r (by unfold pSp; omega)]; exact a2.2.2.2.2.2.2.2.2.1
      · rw [hC7.i (by unfold pSp; omega)]; exact a2.2.2.2.2.2.2.2.2.2.2.2.2.2.2.2.2.1
      · rw [hC7.ai (by unfold pSp; omega), a2.ki.2.2]; exact hi2
      · rw [hC7.i (by unfold pSp; omega)]; exact a6.1
      · simp only [m_I_sI, m_L_sI, m_R_sI, m_AI_sI, m_AL_sI, m_AD_sI, m_AR_sI, m_n_sI, m_I_sL, m_L_sL, m_R_sL, m_AI_sL, m_AL_sL, m_AD_sL, m_AR_sL, m_n_sL, m_I_sR, m_L_sR, m_R_sR, m_AI_sR, m_AL_sR, m_AD_sR, m_AR_sR, m_n_sR, m_I_rI, m_L_rI, m_R_rI, m_AI_rI, m_AL_rI, m_AD_rI, m_AR_rI, m_n_rI, m_I_rL, m_L_rL, m_R_rL, m_AI_rL, m_AL_rL, m_AD_rL, m_AR_rL, m_n_rL, m_I_rD, m_L_rD, m_R_rD, m_AI_rD, m_AL_rD, m_AD_rD, m_AR_rD, m_n_rD, m_I_rR, m_L_rR, m_R_rR, m_AI_rR, m_AL_rR, m_AD_rR, m_AR_rR, m_n_rR, true_and, and_true, and_false, false_and, and_self, if_true, if_false, ite_self, Nat.reduceEqDiff, reduceIte, obt, jlt, jbt, jbd_ite, bind_ite]
      · rw [hC7.ai (by unfold pSp; omega)]; exact a6.2.2.2.2.2
    have h206 : f_X10_addUp_210 811 (nI k) (nI h) (818 + 2 * h) (818 + 2 * (h + 2)) 0 C = some (psh f i2 (h + 3) r (jsI (jsI C 9 F (nI (w + 1))) 62 811 (nI (h + 3)))) := by
      unfold f_X10_addUp_210
      rw [if_pos rfl, if_pos k_811, hsp, jbt, if_neg (by decide), jlt, (h3i (show h < 590 by omega)).2.2.1, hent, obt]
    have hit1 := a1 _ h206
    rw [← hback] at hit1
    obtain ⟨K, E⟩ := spend_KE (t := t) (nr := nr) (ru := ru) (f := f) (h := h) (rs := rs) (lo := lo) (hi := hi) (k := k) hF a3 hk (by omega) cw1 hCy (fun i hi => by rw [y813, if_neg (by omega)]) hR2 (fun q hq => by rw [r25, if_neg hq]) y9 r123
    have hes := K.es a2 p226.2.1
    have yok : OKS F (jrI (jsI (jsI C 9 F (nI (w + 1))) 62 811 (nI (h + 3))) 813 (upd (jAI (jsI (jsI C 9 F (nI (w + 1))) 62 811 (nI (h + 3))) 813) (f - 1) (nI st))) (jrL (jsI R 123 2398 (nI (w + 1))) 2425 (vp_updL (jAL (jsI R 123 2398 (nI (w + 1))) 2425) (301 * t + k) v8)) := ⟨by rw [hCy.i (by unfold pSp; omega)]; exact a5.1, by rw [hCy.i (by unfold pSp; omega)]; exact a5.2.1, by rw [hR2.i (by unfold qSp; omega)]; exact a5.2.2.1, by rw [hR2.i (by unfold qSp; omega)]; exact a5.2.2.2⟩
    have ytop : TOP f k st h r (jrI (jsI (jsI C 9 F (nI (w + 1))) 62 811 (nI (h + 3))) 813 (upd (jAI (jsI (jsI C 9 F (nI (w + 1))) 62 811 (nI (h + 3))) 813) (f - 1) (nI st))) := ⟨by rw [hCy.i (by unfold pSp; omega)]; exact a6.1, a6.2.1, by rw [hCy.ai (by unfold pSp; omega)]; exact a6.2.2.1, by rw [y813, if_pos rfl], by rw [hCy.ai (by unfold pSp; omega)]; exact a6.2.2.2.2.1, by rw [hCy.ai (by unfold pSp; omega)]; exact a6.2.2.2.2.2⟩
    have y816 : ∀ q, jAL (jrI (jsI (jsI C 9 F (nI (w + 1))) 62 811 (nI (h + 3))) 813 (upd (jAI (jsI (jsI C 9 F (nI (w + 1))) 62 811 (nI (h + 3))) 813) (f - 1) (nI st))) 816 q = jAL C 816 q := fun q => by rw [hCy.al (by unfold pSp; omega)]
    have ysP : ∀ i, i < 600 → sP C (jrI (jsI (jsI C 9 F (nI (w + 1))) 62 811 (nI (h + 3))) 813 (upd (jAI (jsI (jsI C 9 F (nI (w + 1))) 62 811 (nI (h + 3))) 813) (f - 1) (nI st))) (818 + 2 * i) ∧ sP C (jrI (jsI (jsI C 9 F (nI (w + 1))) 62 811 (nI (h + 3))) 813 (upd (jAI (jsI (jsI C 9 F (nI (w + 1))) 62 811 (nI (h + 3))) 813) (f - 1) (nI st))) (818 + 2 * i + 1) := fun i hi => ⟨hCy.sP (fun t f => by unfold pSp; omega), hCy.sP (fun t f => by unfold pSp; omega)⟩
    have rsS : ∀ s, sS R (jrL (jsI R 123 2398 (nI (w + 1))) 2425 (vp_updL (jAL (jsI R 123 2398 (nI (w + 1))) 2425) (301 * t + k) v8)) s := fun s => hR2.sS (fun a h1 h2 => by unfold qSp; omega) s
    have y122 : jI (jrL (jsI R 123 2398 (nI (w + 1))) 2425 (vp_updL (jAL (jsI R 123 2398 (nI (w + 1))) 2425) (301 * t + k) v8)) 122 2398 = nI r := by rw [hR2.i (by unfold qSp; omega)]; exact a8
    generalize jrI (jsI (jsI C 9 F (nI (w + 1))) 62 811 (nI (h + 3))) 813 (upd (jAI (jsI (jsI C 9 F (nI (w + 1))) 62 811 (nI (h + 3))) 813) (f - 1) (nI st)) = Cy at *
    generalize jrL (jsI R 123 2398 (nI (w + 1))) 2425 (vp_updL (jAL (jsI R 123 2398 (nI (w + 1))) 2425) (301 * t + k) v8) = Ry at *
    have hPx : PRx F T t np nr ru n ki co inn f k h rs lo hi r C0 R0 w0 p0 j 0 st 3 (fun z => if z = 0 then s0 else if z = 1 then s1 else s2) Cy Ry (w + 1) p sc := by
      refine ⟨hes, E, a4.trans K (Nat.le_refl _) (Nat.le_refl _) (fun q z => z) (Nat.le_refl _), yok, ytop, ⟨y62, y122⟩, ⟨by omega, by omega, by omega, b4, by omega, b6'⟩, fun i hi => ?_, by omega⟩
      obtain ⟨c1, c2⟩ := ysP (h + i) (by omega)
      rcases (show i = 0 ∨ i = 1 ∨ i = 2 by omega) with e | e | e
      · subst e; exact ⟨vs0, v0.c c1 c2 (rsS s0)⟩
      · subst e; exact ⟨vs1, v1.c c1 c2 (rsS s1)⟩
      · subst e; exact ⟨vs2, v2.c c1 c2 (rsS s2)⟩
    have r11 : jAI Ry 2411 (301 * t + k) = nI (301 * t + i2) := (hes.in0 b4 (by rw [hkd]; decide)).2.2.1 (by rw [hkd]; decide) i2 (by omega) hi2
    obtain ⟨x, R2, g2, q⟩ := hPx.inner2 IH hD hit1 tk2 (by omega) (Nat.le_refl _) hhi (by omega) (fun q hq => by
      rcases hq with hq | hq
      · obtain ⟨u1, u2, u3⟩ := hA q hq
        exact ⟨u1, by omega, by rw [y816, r25, if_neg (by omega)]; exact u3⟩
      · subst hq; exact ⟨by omega, by omega, by rw [y816, r25, if_pos rfl]; exact hv8⟩) hfd
    rw [r11, g2, jbt]
    obtain ⟨fu, rfl⟩ : ∃ g, fu = g + 1 := ⟨fu - 1, by omega⟩
    have stop : ∀ (y : Int32) (Z : jM), y < 0 → f_X12_workSum_166 (g_V D) (f_X12_workSum_111 (g_V D) (fu + 1)) 2398 (nI (301 * t + k)) v4 v8 y Z = some (y, Z) := fun y Z hy => by
      unfold f_X12_workSum_166 f_X12_workSum_185 f_X12_workSum_186
      rw [if_pos hy, jlt, ws_s, if_pos rfl]
    rcases q with ⟨j2, C2, w2, p2, sc2, sl, e1, hP2, hw2, hcn, hkS, hkP⟩ | ⟨e1, j2, C2, hPF⟩
    · subst e1
      obtain ⟨y1, y2, y3, y4, y5, y6, y7, y8⟩ := id hP2.acts
      obtain ⟨u0, us0⟩ := y4 0 (by omega)
      obtain ⟨u1, us1⟩ := y4 1 (by omega)
      obtain ⟨u2, us2⟩ := y4 2 (by omega)
      obtain ⟨u3, us3⟩ := y4 3 (by omega)
      simp only [if_true, if_false, Nat.reduceEqDiff, show ((0 : Nat) = 3) = False from by simp, show ((1 : Nat) = 3) = False from by simp, show ((2 : Nat) = 3) = False from by simp, show ((1 : Nat) = 0) = False from by simp, show ((2 : Nat) = 0) = False from by simp, show ((2 : Nat) = 1) = False from by simp] at u0 us0 u1 us1 u2 us2 u3 us3
      have hP2' := hP2
      obtain ⟨z1, z2, z3, z4, z5, z6, ⟨z7, z8⟩, ⟨x1, x2, x3, x4, x5, x6'⟩, x6, x7⟩ := hP2
      have h400' := z3.1.2.2
      have p226' := z3.2.2.2.1
      have kA := kf_pile (show h + 2 < 600 by omega)
      have kB := kf_pile (show h + 3 < 600 by omega)
      obtain ⟨fl, x, Cb, Rb, ar1, ar2, o1, o2, o3, o4⟩ := a_arith (n := n) (k := 43) (k' := 143) y1 y2 kA kB u2 u3 y5 y6 us2.1 us3.1 (by decide)
      have hLb : Lay Cb := y1.fr o1 (fun f a z => by unfold pV at z; omega) (fun a z => by
        unfold pV at z
        have hv := kd_val kA
        rw [show a = 818 + 2 * (h + 2) + 1 by omega]; omega)
      have e60 : jI (stg f (st + 1) C2) 60 811 = nI f := by unfold stg; simp only [m_I_sI, m_L_sI, m_R_sI, m_AI_sI, m_AL_sI, m_AD_sI, m_AR_sI, m_n_sI, m_I_sL, m_L_sL, m_R_sL, m_AI_sL, m_AL_sL, m_AD_sL, m_AR_sL, m_n_sL, m_I_sR, m_L_sR, m_R_sR, m_AI_sR, m_AL_sR, m_AD_sR, m_AR_sR, m_n_sR, m_I_rI, m_L_rI, m_R_rI, m_AI_rI, m_AL_rI, m_AD_rI, m_AR_rI, m_n_rI, m_I_rL, m_L_rL, m_R_rL, m_AI_rL, m_AL_rL, m_AD_rL, m_AR_rL, m_n_rL, m_I_rD, m_L_rD, m_R_rD, m_AI_rD, m_AL_rD, m_AD_rD, m_AR_rD, m_n_rD, m_I_rR, m_L_rR, m_R_rR, m_AI_rR, m_AL_rR, m_AD_rR, m_AR_rR, m_n_rR]; exact z6.1
      have e814 : jAI (stg f (st + 1) C2) 814 (f - 1) = nI h := by unfold stg; simp only [m_I_sI, m_L_sI, m_R_sI, m_AI_sI, m_AL_sI, m_AD_sI, m_AR_sI, m_n_sI, m_I_sL, m_L_sL, m_R_sL, m_AI_sL, m_AL_sL, m_AD_sL, m_AR_sL, m_n_sL, m_I_sR, m_L_sR, m_R_sR, m_AI_sR, m_AL_sR, m_AD_sR, m_AR_sR, m_n_sR, m_I_rI, m_L_rI, m_R_rI, m_AI_rI, m_AL_rI, m_AD_rI, m_AR_rI, m_n_rI, m_I_rL, m_L_rL, m_R_rL, m_AI_rL, m_AL_rL, m_AD_rL, m_AR_rL, m_n_rL, m_I_rD, m_L_rD, m_R_rD, m_AI_rD, m_AL_rD, m_AD_rD, m_AR_rD, m_n_rD, m_I_rR, m_L_rR, m_R_rR, m_AI_rR, m_AL_rR, m_AD_rR, m_AR_rR, m_n_rR]; rw [if_neg (by omega)]; exact z6.2.2.2.2.1
      have b60 : jI Cb 60 811 = nI f := by rw [o1.i (by unfold pV; omega)]; exact e60
      have b815 : jAI Cb 815 (f - 1) = nI r := by rw [o1.ai (by unfold pV; omega)]; unfold stg; simp only [m_I_sI, m_L_sI, m_R_sI, m_AI_sI, m_AL_sI, m_AD_sI, m_AR_sI, m_n_sI, m_I_sL, m_L_sL, m_R_sL, m_AI_sL, m_AL_sL, m_AD_sL, m_AR_sL, m_n_sL, m_I_sR, m_L_sR, m_R_sR, m_AI_sR, m_AL_sR, m_AD_sR, m_AR_sR, m_n_sR, m_I_rI, m_L_rI, m_R_rI, m_AI_rI, m_AL_rI, m_AD_rI, m_AR_rI, m_n_rI, m_I_rL, m_L_rL, m_R_rL, m_AI_rL, m_AL_rL, m_AD_rL, m_AR_rL, m_n_rL, m_I_rD, m_L_rD, m_R_rD, m_AI_rD, m_AL_rD, m_AD_rD, m_AR_rD, m_n_rD, m_I_rR, m_L_rR, m_R_rR, m_AI_rR, m_AL_rR, m_AD_rR, m_AR_rR, m_n_rR]; rw [if_neg (by omega)]; exact z6.2.2.2.2.2
      have b64 : jR Cb 64 811 = some F := by rw [o1.r (by unfold pV; omega)]; unfold stg; simp only [m_I_sI, m_L_sI, m_R_sI, m_AI_sI, m_AL_sI, m_AD_sI, m_AR_sI, m_n_sI, m_I_sL, m_L_sL, m_R_sL, m_AI_sL, m_AL_sL, m_AD_sL, m_AR_sL, m_n_sL, m_I_sR, m_L_sR, m_R_sR, m_AI_sR, m_AL_sR, m_AD_sR, m_AR_sR, m_n_sR, m_I_rI, m_L_rI, m_R_rI, m_AI_rI, m_AL_rI, m_AD_rI, m_AR_rI, m_n_rI, m_I_rL, m_L_rL, m_R_rL, m_AI_rL, m_AL_rL, m_AD_rL, m_AR_rL, m_n_rL, m_I_rD, m_L_rD, m_R_rD, m_AI_rD, m_AL_rD, m_AD_rD, m_AR_rD, m_n_rD, m_I_rR, m_L_rR, m_R_rR, m_AI_rR, m_AL_rR, m_AD_rR, m_AR_rR, m_n_rR]; exact z2.2.2.2.2.2.2.2.1
      have b813 : ∀ i, jAI Cb 813 i = if i = f - 1 then nI (st + 1 + 1) else jAI C2 813 i := fun i => by rw [o1.ai (by unfold pV; omega)]; unfold stg; simp only [m_I_sI, m_L_sI, m_R_sI, m_AI_sI, m_AL_sI, m_AD_sI, m_AR_sI, m_n_sI, m_I_sL, m_L_sL, m_R_sL, m_AI_sL, m_AL_sL, m_AD_sL, m_AR_sL, m_n_sL, m_I_sR, m_L_sR, m_R_sR, m_AI_sR, m_AL_sR, m_AD_sR, m_AR_sR, m_n_sR, m_I_rI, m_L_rI, m_R_rI, m_AI_rI, m_AL_rI, m_AD_rI, m_AR_rI, m_n_rI, m_I_rL, m_L_rL, m_R_rL, m_AI_rL, m_AL_rL, m_AD_rL, m_AR_rL, m_n_rL, m_I_rD, m_L_rD, m_R_rD, m_AI_rD, m_AL_rD, m_AD_rD, m_AR_rD, m_n_rD, m_I_rR, m_L_rR, m_R_rR, m_AI_rR, m_AL_rR, m_AD_rR, m_AR_rR, m_n_rR, upd_if, true_and, and_true, and_false, false_and, and_self, if_true, if_false, ite_self, Nat.reduceEqDiff, reduceIte, obt, jlt, jbt, jbd_ite, bind_ite]
      have b816 : ∀ q, jAL Cb 816 q = jAL C2 816 q := fun q => by rw [o1.al (by unfold pV; omega)]; unfold stg; simp only [m_I_sI, m_L_sI, m_R_sI, m_AI_sI, m_AL_sI, m_AD_sI, m_AR_sI, m_n_sI, m_I_sL, m_L_sL, m_R_sL, m_AI_sL, m_AL_sL, m_AD_sL, m_AR_sL, m_n_sL, m_I_sR, m_L_sR, m_R_sR, m_AI_sR, m_AL_sR, m_AD_sR, m_AR_sR, m_n_sR, m_I_rI, m_L_rI, m_R_rI, m_AI_rI, m_AL_rI, m_AD_rI, m_AR_rI, m_n_rI, m_I_rL, m_L_rL, m_R_rL, m_AI_rL, m_AL_rL, m_AD_rL, m_AR_rL, m_n_rL, m_I_rD, m_L_rD, m_R_rD, m_AI_rD, m_AL_rD, m_AD_rD, m_AR_rD, m_n_rD, m_I_rR, m_L_rR, m_R_rR, m_AI_rR, m_AL_rR, m_AD_rR, m_AR_rR, m_n_rR]
      have hFb : Fr (pE F h) C2 Cb := (stg_fr.mono (fun t f a z => by unfold pA at z; unfold pE; omega)).trans (o1.mono (fun t f a z => by unfold pV at z; unfold pE; omega))
      have hFx : Fr (fun t f a => (t = 3 ∧ f = f ∧ a = 813) ∨ (t = 0 ∧ f = 62 ∧ a = 811) ∨ (t = 0 ∧ (f = 52 ∨ f = 53) ∧ a = 818 + 2 * (h + 2)) ∨ (t = 3 ∧ a = 818 + 2 * (h + 2) + 1)) C2 Cb := (stg_fr.mono (fun t f a z => by unfold pA at z; omega)).trans (o1.mono (fun t f a z => by unfold pV at z; omega))
      have hadd := add3 (k := k) y1 hLb e60 z6.2.1 e814 (by omega) (by omega) (show 3 ≤ st + 1 by omega) (by omega) ar1
      have htu : f_X10_turn_50 811 (nI k) (ki k) (nI (st + 1)) C2 = f_X10_addUp 811 (nI k) (nI (st + 1)) (stg f (st + 1) C2) := by
        rw [hP2'.ct.2.2.2.2.2.2.2.1, hkd]
        unfold tb
        rw [if_neg (by decide), if_neg (by decide), if_neg (by decide), if_neg (by decide), if_neg (by decide), if_neg (by decide), if_neg (by decide), if_pos rfl, hid]
      have h10b : jI Cb 10 F = jI Rb 124 2398 := by
        rw [o1.i (by unfold pV; omega), o2.i (by unfold qK; omega)]
        unfold stg; simp only [m_I_sI, m_L_sI, m_R_sI, m_AI_sI, m_AL_sI, m_AD_sI, m_AR_sI, m_n_sI, m_I_sL, m_L_sL, m_R_sL, m_AI_sL, m_AL_sL, m_AD_sL, m_AR_sL, m_n_sL, m_I_sR, m_L_sR, m_R_sR, m_AI_sR, m_AL_sR, m_AD_sR, m_AR_sR, m_n_sR, m_I_rI, m_L_rI, m_R_rI, m_AI_rI, m_AL_rI, m_AD_rI, m_AR_rI, m_n_rI, m_I_rL, m_L_rL, m_R_rL, m_AI_rL, m_AL_rL, m_AD_rL, m_AR_rL, m_n_rL, m_I_rD, m_L_rD, m_R_rD, m_AI_rD, m_AL_rD, m_AD_rD, m_AR_rD, m_n_rD, m_I_rR, m_L_rR, m_R_rR, m_AI_rR, m_AL_rR, m_AD_rR, m_AR_rR, m_n_rR]; exact z3.2.1.1
      have h122b : jI Rb 122 2398 = nI r := by rw [o2.i (by unfold qK; omega)]; exact z8
      have o7 : jI Cb 7 F = 0 := by rw [o1.i (by unfold pV; omega)]; unfold stg; simp only [m_I_sI, m_L_sI, m_R_sI, m_AI_sI, m_AL_sI, m_AD_sI, m_AR_sI, m_n_sI, m_I_sL, m_L_sL, m_R_sL, m_AI_sL, m_AL_sL, m_AD_sL, m_AR_sL, m_n_sL, m_I_sR, m_L_sR, m_R_sR, m_AI_sR, m_AL_sR, m_AD_sR, m_AR_sR, m_n_sR, m_I_rI, m_L_rI, m_R_rI, m_AI_rI, m_AL_rI, m_AD_rI, m_AR_rI, m_n_rI, m_I_rL, m_L_rL, m_R_rL, m_AI_rL, m_AL_rL, m_AD_rL, m_AR_rL, m_n_rL, m_I_rD, m_L_rD, m_R_rD, m_AI_rD, m_AL_rD, m_AD_rD, m_AR_rD, m_n_rD, m_I_rR, m_L_rR, m_R_rR, m_AI_rR, m_AL_rR, m_AD_rR, m_AR_rR, m_n_rR]; exact z5.1
      have o8 : jI Cb 8 F = -1 := by rw [o1.i (by unfold pV; omega)]; unfold stg; simp only [m_I_sI, m_L_sI, m_R_sI, m_AI_sI, m_AL_sI, m_AD_sI, m_AR_sI, m_n_sI, m_I_sL, m_L_sL, m_R_sL, m_AI_sL, m_AL_sL, m_AD_sL, m_AR_sL, m_n_sL, m_I_sR, m_L_sR, m_R_sR, m_AI_sR, m_AL_sR, m_AD_sR, m_AR_sR, m_n_sR, m_I_rI, m_L_rI, m_R_rI, m_AI_rI, m_AL_rI, m_AD_rI, m_AR_rI, m_n_rI, m_I_rL, m_L_rL, m_R_rL, m_AI_rL, m_AL_rL, m_AD_rL, m_AR_rL, m_n_rL, m_I_rD, m_L_rD, m_R_rD, m_AI_rD, m_AL_rD, m_AD_rD, m_AR_rD, m_n_rD, m_I_rR, m_L_rR, m_R_rR, m_AI_rR, m_AL_rR, m_AD_rR, m_AR_rR, m_n_rR]; exact z5.2.1
      rw [if_pos (by rw [i_le, t_0, nI_toInt (by omega)]; omega), ar2, jbt]
      rcases o4 with ⟨q1, sl', p', q2, q3, q4, q5, q6, q7, q8, q9⟩ | ⟨q1, q2, q3, q4, q5, q6⟩
      · -- the sum goes on
        have hx : x = nI sl' := nI_is q2 (by omega)
        subst hx
        rw [if_pos q1] at hadd
        obtain ⟨K3, E3⟩ := act_KE (t := t) (nr := nr) (ru := ru) (f := f) (h := h) (rs := rs) (lo := lo) (hi := hi) hF (by omega) z3 hFb (fun i hi => by rw [b813, if_neg (by omega)]) (o2.mono (fun t f a z => .inl z)) o3 q6 q4 (by omega) h10b
        have eb : jAL Cb 816 k = v8 := by
          rw [b816, (hcn k (.inl ⟨by omega, by omega⟩)).1, y816]; exact hv8
        have sb : VR n Cb (818 + 2 * (h + 1)) Rb s1 := u1.c (o1.sP (fun t f => by unfold pV; omega)) (o1.sP (fun t f => by unfold pV; omega)) (o3 _ us1.1)
        have sb0 : VR n Cb (818 + 2 * h) Rb s0 := u0.c (o1.sP (fun t f => by unfold pV; omega)) (o1.sP (fun t f => by unfold pV; omega)) (o3 _ us0.1)
        have ev4 : jAL Rb 2401 (12 * s1) = v4 := by
          rw [← hv4]
          have e1 := ((o3 s1 us1.1).2.2 0 (by omega)).1
          have e2 := ((rsS s1).2.2 0 (by omega)).1
          rw [Nat.add_zero] at e1 e2
          have e3 := ((hkS s1 vs1.1).2.2 0 (by omega)).1
          rw [Nat.add_zero] at e3
          rw [e1, e3, e2]
        have eso : jI Cb 52 (818 + 2 * (h + 1)) = 0 := by
          have e1 := (hkP 1 (by omega)).1.1 52
          have e2 := (ysP (h + 1) (by omega)).1.1 52
          rw [hFx.i (by omega), e1, e2]; exact hso
        have elead : jAL Cb (818 + 2 * (h + 1) + 1) 0 = v4 := by rw [VR_num0 sb eso]; exact ev4
        rw [eb, elead] at hadd
        have hCc : Fr (fun t f a => t = 3 ∧ f = f ∧ a = 816) Cb (jrL Cb 816 (vp_updL (jAL Cb 816) k (v8 + 1))) := (Fr.refl).rL (by omega)
        have c16 : ∀ q, jAL (jrL Cb 816 (vp_updL (jAL Cb 816) k (v8 + 1))) 816 q = if q = k then v8 + 1 else jAL Cb 816 q := fun q => by simp only [m_I_sI, m_L_sI, m_R_sI, m_AI_sI, m_AL_sI, m_AD_sI, m_AR_sI, m_n_sI, m_I_sL, m_L_sL, m_R_sL, m_AI_sL, m_AL_sL, m_AD_sL, m_AR_sL, m_n_sL, m_I_sR, m_L_sR, m_R_sR, m_AI_sR, m_AL_sR, m_AD_sR, m_AR_sR, m_n_sR, m_I_rI, m_L_rI, m_R_rI, m_AI_rI, m_AL_rI, m_AD_rI, m_AR_rI, m_n_rI, m_I_rL, m_L_rL, m_R_rL, m_AI_rL, m_AL_rL, m_AD_rL, m_AR_rL, m_n_rL, m_I_rD, m_L_rD, m_R_rD, m_AI_rD, m_AL_rD, m_AD_rD, m_AR_rD, m_n_rD, m_I_rR, m_L_rR, m_R_rR, m_AI_rR, m_AL_rR, m_AD_rR, m_AR_rR, m_n_rR, updL_if, true_and, and_true, and_false, false_and, and_self, if_true, if_false, ite_self, Nat.reduceEqDiff, reduceIte, obt, jlt, jbt, jbd_ite, bind_ite]
        obtain ⟨K4, E4⟩ := cnt_KE (t := t) (nr := nr) (ru := ru) (f := f) (h := h) (rs := rs) (lo := lo) (hi := hi) (k := k) hF E3 hk hCc (fun q hq => by rw [c16, if_neg hq])
        generalize jrL Cb 816 (vp_updL (jAL Cb 816) k (v8 + 1)) = Cc at *
        have hSL2 : ∀ t0, f_X10_turn_50 811 (nI k) (ki k) (nI (st + 1)) C2 = f_X10_addUp_210 811 (nI k) (nI h) (818 + 2 * h) (818 + 2 * (h + 2)) t0 Cc → SL F T t np nr ru n ki co inn f k h rs lo hi r C0 R0 w0 p0 j2 t0 (st + 1) s0 s1 sl' Cc Rb w2 p' sc2 := fun t0 ht0 => by
          have K34 := K3.trans K4 (Nat.le_refl _) (Nat.le_refl _) (fun q z => z) (Nat.le_refl _)
          refine ⟨fun C3 hC3 => z1 C3 (ht0.trans hC3), K34.es z2 p226'.2.1, E4, z4.trans K34 (Nat.le_refl _) (Nat.le_refl _) (fun q z => z) (Nat.le_refl _), ⟨(hCc.i (by omega)).trans o7, (hCc.i (by omega)).trans o8, q8.trans z5.2.2.1, q9.trans z5.2.2.2⟩, ⟨(hCc.i (by omega)).trans b60, z6.2.1, ?_, ?_, ?_, ?_⟩, h122b, ⟨x1, by omega, by omega, x4, x5, x6'⟩, ⟨⟨by omega, sb0.c (hCc.sP (fun t f => by omega)) (hCc.sP (fun t f => by omega)) sS.refl⟩, ⟨by omega, sb.c (hCc.sP (fun t f => by omega)) (hCc.sP (fun t f => by omega)) sS.refl⟩, ⟨⟨q3.1, by rcases Nat.lt_or_ge sl' p2 with z | z; exact q3.2 z; exact .inr (by omega)⟩, q7.c (hCc.sP (fun t f => by omega)) (hCc.sP (fun t f => by omega)) sS.refl⟩⟩, by omega⟩
          · rw [hCc.ai (by omega), hFb.ai (by unfold pE; omega)]; exact z6.2.2.1
          · rw [hCc.ai (by omega), b813, if_pos rfl]
          · rw [hCc.ai (by omega), hFb.ai (by unfold pE; omega)]; exact z6.2.2.2.2.1
          · rw [hCc.ai (by omega)]; exact b815
        by_cases cov : v8 = v4
        · -- the last item
          rw [if_pos cov] at hadd
          refine ⟨nI sl', Rb, ?_, (hSL2 1 (htu.trans hadd)).ends⟩
          unfold f_X12_workSum_166 f_X12_workSum_185 f_X12_workSum_186
          rw [if_neg (nI_neg (by omega)), if_pos (by rw [cov, l_le]; omega), jlt, ws_s, if_pos rfl]
        · rw [if_neg cov] at hadd
          have hlt : v8.toInt < v4.toInt := by
            have : v8.toInt ≠ v4.toInt := fun z => cov (l_eq.mpr z)
            omega
          have hadd1 : (v8 + 1).toInt = v8.toInt + 1 := by
            have := l_rng v4
            have := l_rng v8
            have e1 : (1 : Int64).toInt = 1 := by decide
            rw [l_add (by omega) (by omega), e1]
          have er : f_X12_workSum_166 (g_V D) (f_X12_workSum_111 (g_V D) (fu + 1)) 2398 (nI (301 * t + k)) v4 v8 (nI sl') Rb = f_X12_workSum_111 (g_V D) (fu + 1) 2398 (nI (301 * t + k)) v4 (nI sl') 1 (v8 + 1) Rb := by
            unfold f_X12_workSum_166 f_X12_workSum_186
            rw [if_neg (nI_neg (by omega)), if_neg (by rw [l_le]; omega), jlt]
          rw [er]
          refine ihN (400 - w2) (by omega) (Nat.le_refl _) (by omega) (hSL2 0 (htu.trans hadd)) (by rw [hCc.i (by omega)]; exact eso) ev4 (by rw [c16, if_pos rfl]) (by omega) (fun q hq => ?_) (by omega)
          obtain ⟨u1', u2', u3'⟩ := hA q hq
          obtain ⟨g1, g2'⟩ := hcn q (.inl ⟨u1', by omega⟩)
          exact ⟨u1', u2', by rw [c16, if_neg (by omega), b816, g1, y816, o2.al (by unfold qK; omega), g2', r25, if_neg (by omega)]; exact u3'⟩
      · -- the sum fails
        subst q3
        have hfl : fl ≠ 0 := fun z => by rw [z, t_0] at q1; omega
        rw [if_neg hfl, efail_ok hLb hF b64 b60 z6.2.1.1 z6.2.1.2 b815] at hadd
        refine ⟨-1, Rb, stop _ _ (by decide), ?_⟩
        have hFr : Fr (fun t f a => a = F ∧ t = 0 ∧ (f = 7 ∨ f = 8)) Cb (jsI (jsI Cb 7 F fl) 8 F (nI r)) := ((Fr.refl).sI (by omega)).sI (by omega)
        have hF2 : Fr (pE F h) C2 (jsI (jsI Cb 7 F fl) 8 F (nI r)) := hFb.trans (hFr.mono (fun t f a z => by unfold pE; omega))
        obtain ⟨K3, E3⟩ := act_KE (t := t) (nr := nr) (ru := ru) (f := f) (h := h) (rs := rs) (lo := lo) (hi := hi) hF (by omega) z3 hF2 (fun i hi => by rw [hFr.ai (by omega), b813, if_neg (by omega)]) (o2.mono (fun t f a z => .inl z)) o3 q4 (Nat.le_refl _) (by omega) (by rw [hFr.i (by omega)]; exact h10b)
        refine hP2'.endf (c := fl) (htu.trans hadd) K3 E3 ⟨⟨q1, by omega⟩, by simp only [m_I_sI, m_L_sI, m_R_sI, m_AI_sI, m_AL_sI, m_AD_sI, m_AR_sI, m_n_sI, m_I_sL, m_L_sL, m_R_sL, m_AI_sL, m_AL_sL, m_AD_sL, m_AR_sL, m_n_sL, m_I_sR, m_L_sR, m_R_sR, m_AI_sR, m_AL_sR, m_AD_sR, m_AR_sR, m_n_sR, m_I_rI, m_L_rI, m_R_rI, m_AI_rI, m_AL_rI, m_AD_rI, m_AR_rI, m_n_rI, m_I_rL, m_L_rL, m_R_rL, m_AI_rL, m_AL_rL, m_AD_rL, m_AR_rL, m_n_rL, m_I_rD, m_L_rD, m_R_rD, m_AI_rD, m_AL_rD, m_AD_rD, m_AR_rD, m_n_rD, m_I_rR, m_L_rR, m_R_rR, m_AI_rR, m_AL_rR, m_AD_rR, m_AR_rR, m_n_rR, true_and, and_true, and_false, false_and, and_self, if_true, if_false, ite_self, Nat.reduceEqDiff, reduceIte, obt, jlt, jbt, jbd_ite, bind_ite], q5, ?_⟩ ⟨?_, z6.2.1, ?_, ?_, ?_, ?_⟩ h122b (by omega) (fun z => absurd (hkd.symm.trans z) (by decide)) (fun z => absurd (hkd.symm.trans z) (by decide))
        · rw [q6, z8]; simp only [m_I_sI, m_L_sI, m_R_sI, m_AI_sI, m_AL_sI, m_AD_sI, m_AR_sI, m_n_sI, m_I_sL, m_L_sL, m_R_sL, m_AI_sL, m_AL_sL, m_AD_sL, m_AR_sL, m_n_sL, m_I_sR, m_L_sR, m_R_sR, m_AI_sR, m_AL_sR, m_AD_sR, m_AR_sR, m_n_sR, m_I_rI, m_L_rI, m_R_rI, m_AI_rI, m_AL_rI, m_AD_rI, m_AR_rI, m_n_rI, m_I_rL, m_L_rL, m_R_rL, m_AI_rL, m_AL_rL, m_AD_rL, m_AR_rL, m_n_rL, m_I_rD, m_L_rD, m_R_rD, m_AI_rD, m_AL_rD, m_AD_rD, m_AR_rD, m_n_rD, m_I_rR, m_L_rR, m_R_rR, m_AI_rR, m_AL_rR, m_AD_rR, m_AR_rR, m_n_rR, true_and, and_true, and_false, false_and, and_self, if_true, if_false, ite_self, Nat.reduceEqDiff, reduceIte, obt, jlt, jbt, jbd_ite, bind_ite]
        · rw [hFr.i (by omega)]; exact b60
        · rw [hFr.ai (by omega), hFb.ai (by unfold pE; omega)]; exact z6.2.2.1
        · rw [hFr.ai (by omega), b813, if_pos rfl]
        · rw [hFr.ai (by omega), hFb.ai (by unfold pE; omega)]; exact z6.2.2.2.2.1
        · rw [hFr.ai (by omega)]; exact b815
    · subst e1
      rw [if_neg (by decide)]
      exact ⟨-1, R2, stop _ _ (by decide), hPF.res b4 (by omega) (by omega) (fun z => absurd (hkd.symm.trans z) (by decide)) (fun z => absurd (hkd.symm.trans z) (by decide))⟩
  · -- the work is used up
    rw [if_neg cw1] at hsp ⊢
    rw [jbt, if_pos rfl]
    refine ⟨-1, _, rfl, ?_⟩
    have h206 : f_X10_addUp_210 811 (nI k) (nI h) (818 + 2 * h) (818 + 2 * (h + 2)) 0 C = some (jsI (jsI C 7 F 7) 8 F (nI r)) := by
      unfold f_X10_addUp_210
      rw [if_pos rfl, if_pos k_811, hsp, jbt, if_pos rfl]
    have hFC : Fr (fun t f a => a = F ∧ t = 0 ∧ (f = 7 ∨ f = 8)) C (jsI (jsI C 7 F 7) 8 F (nI r)) := ((Fr.refl).sI (by omega)).sI (by omega)
    have hFR : Fr (fun t f a => a = 2398 ∧ t = 0 ∧ (f = 126 ∨ f = 127)) R (jsI (jsI R 126 2398 7) 127 2398 (jI R 122 2398)) := ((Fr.refl).sI (by omega)).sI (by omega)
    obtain ⟨K, E⟩ := act_KE (t := t) (nr := nr) (ru := ru) (f := f) (h := h) (rs := rs) (lo := lo) (hi := hi) (p2 := p) hF (by omega) a3 (hFC.mono (fun t f a z => by unfold pE; omega)) (fun i hi => by rw [hFC.ai (by omega)]) (hFR.mono (fun t f a z => by unfold qE qK; omega)) (fun s _ => hFR.sS (fun a h1 h2 => by omega) s) (by rw [hFR.i (by omega)]; exact p226.1) (Nat.le_refl _) p226.2.2 (by rw [hFC.i (by omega), hFR.i (by omega)]; exact a3.2.1.1)
    have es2 := K.es a2 p226.2.1
    have top2 : TOP f k (st + 1) h r (jsI (jsI C 7 F 7) 8 F (nI r)) := ⟨by rw [hFC.i (by omega)]; exact a6.1, a6.2⟩
    have hl := lf_ok es2.1 hF es2.2.2.2.2.2.2.2.1 es2.2.2.2.2.2.2.2.2.1 hT6 hnp b4 top2 (by omega) (fun _ z => absurd z (by omega)) (fun z => absurd (hkd.symm.trans ((congrFun es2.ki.1 k).symm.trans z)) (by decide))
    refine RES.fails (c := 7) (a1 _ h206) es2 E (a4.trans K (Nat.le_refl _) (Nat.le_refl _) (fun q z => z) (Nat.le_refl _)) ⟨by decide, by simp only [m_I_sI, m_L_sI, m_R_sI, m_AI_sI, m_AL_sI, m_AD_sI, m_AR_sI, m_n_sI, m_I_sL, m_L_sL, m_R_sL, m_AI_sL, m_AL_sL, m_AD_sL, m_AR_sL, m_n_sL, m_I_sR, m_L_sR, m_R_sR, m_AI_sR, m_AL_sR, m_AD_sR, m_AR_sR, m_n_sR, m_I_rI, m_L_rI, m_R_rI, m_AI_rI, m_AL_rI, m_AD_rI, m_AR_rI, m_n_rI, m_I_rL, m_L_rL, m_R_rL, m_AI_rL, m_AL_rL, m_AD_rL, m_AR_rL, m_n_rL, m_I_rD, m_L_rD, m_R_rD, m_AI_rD, m_AL_rD, m_AD_rD, m_AR_rD, m_n_rD, m_I_rR, m_L_rR, m_R_rR, m_AI_rR, m_AL_rR, m_AD_rR, m_AR_rR, m_n_rR, true_and, and_true, and_false, false_and, and_self, if_true, if_false, ite_self, Nat.reduceEqDiff, reduceIte, obt, jlt, jbt, jbd_ite, bind_ite], by simp only [m_I_sI, m_L_sI, m_R_sI, m_AI_sI, m_AL_sI, m_AD_sI, m_AR_sI, m_n_sI, m_I_sL, m_L_sL, m_R_sL, m_AI_sL, m_AL_sL, m_AD_sL, m_AR_sL, m_n_sL, m_I_sR, m_L_sR, m_R_sR, m_AI_sR, m_AL_sR, m_AD_sR, m_AR_sR, m_n_sR, m_I_rI, m_L_rI, m_R_rI, m_AI_rI, m_AL_rI, m_AD_rI, m_AR_rI, m_n_rI, m_I_rL, m_L_rL, m_R_rL, m_AI_rL, m_AL_rL, m_AD_rL, m_AR_rL, m_n_rL, m_I_rD, m_L_rD, m_R_rD, m_AI_rD, m_AL_rD, m_AD_rD, m_AR_rD, m_n_rD, m_I_rR, m_L_rR, m_R_rR, m_AI_rR, m_AL_rR, m_AD_rR, m_AR_rR, m_n_rR, true_and, and_true, and_false, false_and, and_self, if_true, if_false, ite_self, Nat.reduceEqDiff, reduceIte, obt, jlt, jbt, jbd_ite, bind_ite], ?_⟩ top2 (by rw [hFR.i (by omega)]; exact a8) b3 (by omega) hl
    simp only [m_I_sI, m_L_sI, m_R_sI, m_AI_sI, m_AL_sI, m_AD_sI, m_AR_sI, m_n_sI, m_I_sL, m_L_sL, m_R_sL, m_AI_sL, m_AL_sL, m_AD_sL, m_AR_sL, m_n_sL, m_I_sR, m_L_sR, m_R_sR, m_AI_sR, m_AL_sR, m_AD_sR, m_AR_sR, m_n_sR, m_I_rI, m_L_rI, m_R_rI, m_AI_rI, m_AL_rI, m_AD_rI, m_AR_rI, m_n_rI, m_I_rL, m_L_rL, m_R_rL, m_AI_rL, m_AL_rL, m_AD_rL, m_AR_rL, m_n_rL, m_I_rD, m_L_rD, m_R_rD, m_AI_rD, m_AL_rD, m_AD_rD, m_AR_rD, m_n_rD, m_I_rR, m_L_rR, m_R_rR, m_AI_rR, m_AL_rR, m_AD_rR, m_AR_rR, m_n_rR, true_and, and_true, and_false, false_and, and_self, if_true, if_false, ite_self, Nat.reduceEqDiff, reduceIte, obt, jlt, jbt, jbd_ite, bind_ite]; exact a8.symm
