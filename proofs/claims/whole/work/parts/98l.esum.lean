/-! PURE: the evaluator: SUM: its steps -/
def pSp (F t f a : Nat) : Prop := (a = 811 ∧ t = 0 ∧ f = 62) ∨ (t = 3 ∧ f = f ∧ a = 813) ∨ (a = F ∧ t = 0 ∧ f = 9)
def qSp (t f a : Nat) : Prop := (a = 2398 ∧ t = 0 ∧ f = 123) ∨ (t = 3 ∧ f = f ∧ a = 2425)
theorem spend_KE {F t nr : Nat} {ru : Nat → Nat × Nat × Nat} {n : Int} {f h rs lo hi w p sc k : Nat} {C R C2 R2 : jM} (hF : isF F) (a3 : ED F n w p sc C R) (hk : lo ≤ k ∧ k < hi) (hh : h ≤ 400) (hw : w + 1 ≤ 400) (hC : Fr (pSp F) C C2) (h813 : ∀ i, i + 1 < f → jAI C2 813 i = jAI C 813 i) (hR : Fr qSp R R2) (h25 : ∀ q, q ≠ k → jAL R2 2425 (301 * t + q) = jAL R 2425 (301 * t + q)) (h9 : jI C2 9 F = nI (w + 1)) (h123 : jI R2 123 2398 = nI (w + 1)) :
    KP F t nr ru f h rs lo hi C R w p C2 R2 (w + 1) p ∧ ED F n (w + 1) p sc C2 R2 := by
  have hFn := hF.n
  have p226 := a3.2.2.2.1
  refine ⟨⟨hC.mono (fun t f a z => by unfold pSp at z; unfold pW; omega), hR.mono (fun t f a z => by unfold qSp at z; unfold qW; omega), fun i hi => ⟨by rw [hC.ai (by unfold pSp; omega)], h813 i hi, by rw [hC.ai (by unfold pSp; omega)], by rw [hC.ai (by unfold pSp; omega)]⟩, fun i hi => ⟨hC.sP (fun t f => by unfold pSp; omega), hC.sP (fun t f => by unfold pSp; omega)⟩, fun s _ => hR.sS (fun a h1 h2 => by unfold qSp; omega) s, ⟨Nat.le_refl _, by omega⟩, fun q hq => ⟨by rw [hC.al (by unfold pSp; omega)], h25 q (by omega)⟩, fun r => .inr (by rw [hC.ai (by unfold pSp; omega)])⟩, ?_⟩
  exact a3.f h9 h123 hw (by rw [hC.i (by unfold pSp; omega), hR.i (by unfold qSp; omega)]; exact a3.2.1.1) (by rw [hC.i (by unfold pSp; omega), hR.i (by unfold qSp; omega)]; exact a3.2.1.2) (hC.i (by unfold pSp; omega)) (hR.i (by unfold qSp; omega)) (by rw [hR.i (by unfold qSp; omega)]; exact p226.1) (Nat.le_refl _) (by omega) (fun a h1 h2 h3 => hC.sP (fun t f => by unfold pSp; omega)) (fun a h1 h2 => hR.ai (by unfold qSp; omega)) (fun s _ => hR.sS (fun a h1 h2 => by unfold qSp; omega) s)
theorem cnt_KE {F t nr : Nat} {ru : Nat → Nat × Nat × Nat} {n : Int} {f h rs lo hi w p sc k : Nat} {C R C2 : jM} (hF : isF F) (a3 : ED F n w p sc C R) (hk : lo ≤ k ∧ k < hi) (hC : Fr (fun t f a => t = 3 ∧ f = f ∧ a = 816) C C2) (h16 : ∀ q, q ≠ k → jAL C2 816 q = jAL C 816 q) :
    KP F t nr ru f h rs lo hi C R w p C2 R w p ∧ ED F n w p sc C2 R := by
  have hFn := hF.n
  have p226 := a3.2.2.2.1
  refine ⟨⟨hC.mono (fun t f a z => by unfold pW; omega), Fr.refl, fun i hi => ⟨by rw [hC.ai (by omega)], by rw [hC.ai (by omega)], by rw [hC.ai (by omega)], by rw [hC.ai (by omega)]⟩, fun i hi => ⟨hC.sP (fun t f => by omega), hC.sP (fun t f => by omega)⟩, fun s _ => sS.refl, ⟨Nat.le_refl _, Nat.le_refl _⟩, fun q hq => ⟨h16 q (by omega), rfl⟩, fun r => .inr (by rw [hC.ai (by omega)])⟩, ?_⟩
  exact a3.f ((hC.i (by omega)).trans a3.1.1) a3.1.2.1 a3.1.2.2 ((hC.i (by omega)).trans a3.2.1.1) ((hC.i (by omega)).trans a3.2.1.2) (hC.i (by omega)) rfl p226.1 (Nat.le_refl _) p226.2.2 (fun a h1 h2 h3 => hC.sP (fun t f => by omega)) (fun a h1 h2 => rfl) (fun s _ => sS.refl)
/-- SUM between two items -/
def SL (F T t np nr : Nat) (ru : Nat → Nat × Nat × Nat) (n : Int) (ki : Nat → Int32) (co : Nat → Int64) (inn : Nat → Int32) (f k h rs lo hi r : Nat) (C0 R0 : jM) (w0 p0 j : Nat) (t0 : Int32) (st s0 s1 s2 : Nat) (C R : jM) (w p sc : Nat) : Prop :=
  (∀ C2, f_X10_addUp_210 811 (nI k) (nI h) (818 + 2 * h) (818 + 2 * (h + 2)) t0 C = some C2 → it F (j + 1) C0 = some C2) ∧ ES F T t np nr ru n ki co inn C R ∧ ED F n w p sc C R ∧ KP F t nr ru f h rs lo hi C0 R0 w0 p0 C R w p ∧ OKS F C R ∧ TOP f k (st + 1) h r C ∧ jI R 122 2398 = nI r ∧ (w0 < w ∧ h + 3 ≤ w ∧ p + w0 ≤ p0 + w ∧ k < np ∧ st ≤ 4 + w ∧ p0 ≤ 226 + w0) ∧ (((s0 < p ∧ (s0 ≤ 200 ∨ 226 ≤ s0)) ∧ VR n C (818 + 2 * h) R s0) ∧ ((s1 < p ∧ (s1 ≤ 200 ∨ 226 ≤ s1)) ∧ VR n C (818 + 2 * (h + 1)) R s1) ∧ ((s2 < p ∧ (s2 ≤ 200 ∨ 226 ≤ s2)) ∧ VR n C (818 + 2 * (h + 2)) R s2)) ∧ j + 6 ≤ 8 * (w - w0)
theorem SL.ends {F T t np nr : Nat} {ru : Nat → Nat × Nat × Nat} {n : Int} {ki : Nat → Int32} {co : Nat → Int64} {inn : Nat → Int32} {f k h rs lo hi r : Nat} {C0 R0 : jM} {w0 p0 j st s0 s1 s2 : Nat} {C R : jM} {w p sc : Nat}
    (hP : SL F T t np nr ru n ki co inn f k h rs lo hi r C0 R0 w0 p0 j 1 st s0 s1 s2 C R w p sc) : ∃ j' C', it F j' C0 = some C' ∧ RES F t nr ru n f h rs lo hi r C0 R0 w0 p0 j' C' (nI s2) R := by
  obtain ⟨a1, a2, a3, a4, a5, a6, a8, ⟨b1, b2, b3, b4, b5, b6'⟩, ⟨⟨-, v0⟩, ⟨-, v1⟩, ⟨vs2, v2⟩⟩, b7⟩ := hP
  have hF : isF F := a2.2.2.1
  have hFn := hF.n
  have h400 := a3.1.2.2
  have p226 := a3.2.2.2.1
  obtain ⟨Cb, s1, s2', s3⟩ := setTo_vr a2.1 (kf_pile (show h < 600 by omega)) (kf_pile (show h + 2 < 600 by omega)) (by omega) v2
  have b60 : jI Cb 60 811 = nI f := by rw [s2'.i (by unfold pV; omega)]; exact a6.1
  have hFr : Fr (fun t f a => t = 0 ∧ (f = 60 ∨ f = 62) ∧ a = 811) Cb (jsI (jsI Cb 62 811 (nI (h + 1))) 60 811 (nI (f - 1))) := ((Fr.refl).sI (by omega)).sI (by omega)
  have ht : f_X10_addUp_210 811 (nI k) (nI h) (818 + 2 * h) (818 + 2 * (h + 2)) 1 C = some (jsI (jsI Cb 62 811 (nI (h + 1))) 60 811 (nI (f - 1))) := by
    unfold f_X10_addUp_210
    rw [if_neg (by decide), if_pos (kf_pile (show h < 600 by omega)), s1, obt, if_pos k_811, jlt, nJ_1 (by omega), leave_ok (f := f) (by simp only [m_I_sI, m_L_sI, m_R_sI, m_AI_sI, m_AL_sI, m_AD_sI, m_AR_sI, m_n_sI, m_I_sL, m_L_sL, m_R_sL, m_AI_sL, m_AL_sL, m_AD_sL, m_AR_sL, m_n_sL, m_I_sR, m_L_sR, m_R_sR, m_AI_sR, m_AL_sR, m_AD_sR, m_AR_sR, m_n_sR, m_I_rI, m_L_rI, m_R_rI, m_AI_rI, m_AL_rI, m_AD_rI, m_AR_rI, m_n_rI, m_I_rL, m_L_rL, m_R_rL, m_AI_rL, m_AL_rL, m_AD_rL, m_AR_rL, m_n_rL, m_I_rD, m_L_rD, m_R_rD, m_AI_rD, m_AL_rD, m_AD_rD, m_AR_rD, m_n_rD, m_I_rR, m_L_rR, m_R_rR, m_AI_rR, m_AL_rR, m_AD_rR, m_AR_rR, m_n_rR, true_and, and_true, and_false, false_and, and_self, if_true, if_false, ite_self, Nat.reduceEqDiff, reduceIte, obt, jlt, jbt, jbd_ite, bind_ite]; exact b60) a6.2.1.1 a6.2.1.2, obt]
  have hFE : Fr (pE F h) C (jsI (jsI Cb 62 811 (nI (h + 1))) 60 811 (nI (f - 1))) := (s2'.mono (fun t f a z => by unfold pV at z; unfold pE; omega)).trans (hFr.mono (fun t f a z => by unfold pE; omega))
  obtain ⟨K, E⟩ := act_KE (t := t) (nr := nr) (ru := ru) (f := f) (h := h) (rs := rs) (lo := lo) (hi := hi) (p2 := p) hF (by omega) a3 hFE (fun i hi => by rw [hFr.ai (by omega), s2'.ai (by unfold pV; omega)]) (Fr.refl (p := qE)) (fun _ _ => sS.refl) p226.1 (Nat.le_refl _) p226.2.2 (by rw [hFr.i (by omega), s2'.i (by unfold pV; omega)]; exact a3.2.1.1)
  refine ⟨j + 1, _, a1 _ ht, w, p, sc, E, a4.trans K (Nat.le_refl _) (Nat.le_refl _) (fun q z => z) (Nat.le_refl _), by omega, by simp only [m_I_sI, m_L_sI, m_R_sI, m_AI_sI, m_AL_sI, m_AD_sI, m_AR_sI, m_n_sI, m_I_sL, m_L_sL, m_R_sL, m_AI_sL, m_AL_sL, m_AD_sL, m_AR_sL, m_n_sL, m_I_sR, m_L_sR, m_R_sR, m_AI_sR, m_AL_sR, m_AD_sR, m_AR_sR, m_n_sR, m_I_rI, m_L_rI, m_R_rI, m_AI_rI, m_AL_rI, m_AD_rI, m_AR_rI, m_n_rI, m_I_rL, m_L_rL, m_R_rL, m_AI_rL, m_AL_rL, m_AD_rL, m_AR_rL, m_n_rL, m_I_rD, m_L_rD, m_R_rD, m_AI_rD, m_AL_rD, m_AD_rD, m_AR_rD, m_n_rD, m_I_rR, m_L_rR, m_R_rR, m_AI_rR, m_AL_rR, m_AD_rR, m_AR_rR, m_n_rR, true_and, and_true, and_false, false_and, and_self, if_true, if_false, ite_self, Nat.reduceEqDiff, reduceIte, obt, jlt, jbt, jbd_ite, bind_ite], a8, .inl ⟨⟨?_, ?_, a5.2.2.1, a5.2.2.2⟩, by simp only [m_I_sI, m_L_sI, m_R_sI, m_AI_sI, m_AL_sI, m_AD_sI, m_AR_sI, m_n_sI, m_I_sL, m_L_sL, m_R_sL, m_AI_sL, m_AL_sL, m_AD_sL, m_AR_sL, m_n_sL, m_I_sR, m_L_sR, m_R_sR, m_AI_sR, m_AL_sR, m_AD_sR, m_AR_sR, m_n_sR, m_I_rI, m_L_rI, m_R_rI, m_AI_rI, m_AL_rI, m_AD_rI, m_AR_rI, m_n_rI, m_I_rL, m_L_rL, m_R_rL, m_AI_rL, m_AL_rL, m_AD_rL, m_AR_rL, m_n_rL, m_I_rD, m_L_rD, m_R_rD, m_AI_rD, m_AL_rD, m_AD_rD, m_AR_rD, m_n_rD, m_I_rR, m_L_rR, m_R_rR, m_AI_rR, m_AL_rR, m_AD_rR, m_AR_rR, m_n_rR, true_and, and_true, and_false, false_and, and_self, if_true, if_false, ite_self, Nat.reduceEqDiff, reduceIte, obt, jlt, jbt, jbd_ite, bind_ite], by omega, b1, s2, vs2, rfl, s3.c (hFr.sP (fun t f => by omega)) (hFr.sP (fun t f => by omega)) sS.refl⟩⟩
  · rw [hFr.i (by omega), s2'.i (by unfold pV; omega)]; exact a5.1
  · rw [hFr.i (by omega), s2'.i (by unfold pV; omega)]; exact a5.2.1
theorem ws_s {rc : Nat → Nat → Int32 → Int32 → jM → Option (Int32 × jM)} {fu : Nat} {v1 v6 v7 : Int32} {v4 v8 : Int64} {S : jM} : f_X12_workSum_111 rc (fu + 1) 2398 v1 v4 v6 v7 v8 S = if v7 = 0 then some (v6, S) else if jK 2398 = 10 then jbd (f_X12_counted 2398 (1 : Int32) S) (fun x5 S6 => if x5 = 0 then some ((-1 : Int32), S6) else (jR S6 134 2398).bind (fun r10 => if jA r10 14 v1 = true then jlet (jrL S6 r10 (vp_updL (jAL S6 r10) (v1).toNatClampNeg v8)) (fun S13 => (jR S13 106 2398).bind (fun r14 => if jA r14 13 v1 = true then jbd (rc 1 2398 (jAI S13 r14 (v1).toNatClampNeg) 0 S13) (fun x17 S18 => if 0 ≤ x17 then jbd (f_X12_arithmetic 2398 (143 : Int32) v6 x17 S18) (fun x21 S22 => f_X12_workSum_166 rc (f_X12_workSum_111 rc fu) 2398 v1 v4 v8 x21 S22) else f_X12_workSum_166 rc (f_X12_workSum_111 rc fu) 2398 v1 v4 v8 (-1 : Int32) S18) else none)) else none)) else none := by
  rw [f_X12_workSum_111]
/-- the frame's counting undone and done again -/
theorem rI2 {S : jM} {a i : Nat} {u v : Int32} (h : jAI S a i = u) : jrI (jrI S a (upd (jAI S a) i v)) a (upd (jAI (jrI S a (upd (jAI S a) i v)) a) i u) = S := by
  obtain ⟨x1, x2, x3, x4, x5, x6⟩ := S
  unfold jrI jAI at *
  refine congrArg (fun z => (x1, x2, x3, x4, z, x6)) ?_
  funext b
  show (if b = a then upd (if a = a then upd (x5 a) i v else x5 a) i u else if b = a then upd (x5 a) i v else x5 b) = x5 b
  by_cases c : b = a
  · subst c
    rw [if_pos rfl, if_pos rfl]
    funext z
    rw [upd_if, upd_if]
    by_cases d : z = i
    · rw [if_pos d, d]; exact h.symm
    · rw [if_neg d, if_neg d]
  · rw [if_neg c, if_neg c]
