/-! PURE: the tape opened, a name taken, a text read: what stands as it was -/
theorem txt_b {i : Nat} (h : i < 33) : txt i = 610 ∨ (619 ≤ txt i ∧ txt i ≤ 805) := by unfold txt; split <;> omega
theorem txt_d {i j a b : Nat} (hi : i < 33) (hj : j < 33) (hij : i ≠ j) (ha : a < 6) (hb : b < 6) : txt i + a ≠ txt j + b := by unfold txt; split <;> split <;> omega
theorem Rel.tape {C R C' R' : jM} (h : Rel C R) (hF : Fr pOp C C') (hG : Fr pTz R R') (hT : rT C' R') : Rel C' R' ∧ Fr pC C C' ∧ Fr pR R R' := by
  have hs : ∀ s, sS R R' s := fun s => hG.sS (fun a h1 h2 => by unfold pTz; omega) s
  have hx : ∀ t, sX R R' t := fun t => hG.sX (fun a h1 h2 => by unfold pTz; omega) t
  refine ⟨⟨hT, rN_f hF hG (fun t f a => by unfold cN pOp; omega) (fun t f a => by unfold mN pTz; omega) h.N,
    rP_f hF hG (fun t f a => by unfold cP pOp; omega) (fun t f a => by unfold mP pTz; omega) h.P,
    rD_f hF hG (fun t f a => by unfold cD pOp; omega) (fun _ _ _ z => z.elim) (hs 0) h.D,
    rF_f hF hG (fun t f a => by unfold cF pOp; omega) (fun t f a => by unfold mF pTz; omega) (fun s _ _ => hs s) h.F,
    rU_f hF hG (fun t f a => by unfold cU pOp; omega) (fun t f a => by unfold mU pTz; omega) h.U,
    rA_f hF hG (fun t f a => by unfold cA pOp; omega) (fun t f a => by unfold mA pTz; omega) h.A,
    rY_f hF hG (fun t f a => by unfold cY pOp; omega) (fun t f a => by unfold mY pTz; omega) h.Y,
    rR_f hF hG (fun t f a => by unfold cR pOp; omega) (fun t f a => by unfold mR pTz; omega) h.R,
    rS_f hF hG (fun t f a => by unfold cS pOp; omega) (fun t f a => by unfold mS pTz; omega) (fun s _ _ => hs s) h.S,
    rE_f hF hG (fun t f a => by unfold cE pOp; omega) (fun t f a => by unfold mE pTz; omega) (fun t _ => hx t) h.E⟩, hF.mono (fun t f a z => by unfold pOp at z; unfold pC; omega), hG.mono (fun t f a z => by have := k16r a; unfold pTz at z; unfold pR; omega)⟩
theorem rel_name {C R : jM} (hC : Lay C) (hR : Lay R) (h : Rel C R) : ∃ w C' R', f_X7_takeName 608 C = some (w, C') ∧ f_X12_takeName 2398 R = some (w, R') ∧ Rel C' R' ∧ Fr pC C C' ∧ Fr pR R R' := by
  obtain ⟨w, C', R', a1, a2, a3, a4, a5⟩ := takeName_ok hC hR h.T
  exact ⟨w, C', R', a1, a2, h.tape a3 a4 a5⟩
theorem rel_open {C R : jM} (hC : Lay C) (hR : Lay R) (h : Rel C R) : ∃ e N R0, f_X12_tokenize 2398 R = some R0 ∧ tOp (opE C) e ∧ jI (opE C) 39 608 = nI 0 ∧ Toks (cB (opE C)) e N R0 ∧ jI R0 100 2398 = 0 ∧ jI R0 101 2398 = 0 ∧ Lay R0 ∧ Rel (opE C) R0 ∧ Fr pC C (opE C) ∧ Fr pR R R0 := by
  obtain ⟨e, o1, o2, o3, o4, o5⟩ := open_ok hC hR h.T
  obtain ⟨N, R', r1, r2, r3, r4, r5, r6, r7⟩ := tokenize_ok (cB_rng C) o4
  refine ⟨e, N, R', r1, o1, o2, by rw [o3]; exact r3, r5, r6, hR.frZ r2, h.tape (opE_fr C) r2 ⟨by rw [o5, r4], by rw [o5]; decide, by rw [o5]; decide, fun j hj => by rw [o5] at hj; exact absurd hj (by rw [t_0]; omega)⟩⟩
/-- the class reads into the text i, the reference into t: nothing of the other texts is touched -/
theorem pXC_txt {i j a t f : Nat} (hi : i < 33) (hj : j < 33) (hij : i ≠ j) (ha : a < 6) : ¬ pXC (txt i) t f (txt j + a) := by
  have b1 := txt_b hi
  have b2 := txt_b hj
  have d0 := txt_d (b := 0) hj hi (Ne.symm hij) ha (by omega)
  have d1 := txt_d (b := 1) hj hi (Ne.symm hij) ha (by omega)
  have d2 := txt_d (b := 2) hj hi (Ne.symm hij) ha (by omega)
  have d3 := txt_d (b := 3) hj hi (Ne.symm hij) ha (by omega)
  have d4 := txt_d (b := 4) hj hi (Ne.symm hij) ha (by omega)
  have d5 := txt_d (b := 5) hj hi (Ne.symm hij) ha (by omega)
  unfold pXC pPC
  omega
theorem rE_read {sg : Nat → Nat} {C R C' R' : jM} {t : Nat} (h : rE' sg C R) (hF : Fr (pXC (txt (sg 32))) C C') (hG : Fr pXR R R') (hx : ∀ s, s < 32 → sX R R' s) : rE' sg C' R' := by
  obtain ⟨h1, h2, h3, h4, h5⟩ := h
  have hb := txt_b (h1 32 (by omega))
  have m0 := hG.ai (a := 2435) (by unfold pXR pPR; omega)
  have m1 := hG.ai (a := 2436) (by unfold pXR pPR; omega)
  refine ⟨h1, h2, by rw [hF.r (by unfold pXC pPC; omega)]; exact h3, by rw [m1]; exact h4, fun s k hs hk => ?_⟩
  have hi := h1 (8 * s + k) (by omega)
  have hne : sg 32 ≠ sg (8 * s + k) := fun z => by have := h2 _ _ (by omega) (by omega) z; omega
  have hw : ∀ j : Nat, j < 6 → sP C C' (txt (sg (8 * s + k)) + j) := fun j hj => hF.sP (fun t f => pXC_txt (h1 32 (by omega)) hi hne hj)
  have w0 : sP C C' (txt (sg (8 * s + k))) := hw 0 (by omega)
  rw [hF.ar (by unfold pXC pPC; omega), m0, m1, w0.1]
  obtain ⟨a1, a2⟩ := h5 s k hs hk
  refine ⟨a1, ?_⟩
  rcases a2 with ⟨b1, b2, b3, b4, b5⟩ | b
  · exact .inl ⟨b1, b2, b3, b4, b5.c w0 (hw 1 (by omega)) (hw 2 (by omega)) (hw 3 (by omega)) (hw 4 (by omega)) (hw 5 (by omega)) (hx _ (by omega))⟩
  · exact .inr b
/-- all components but the fault's and the editions', over what reading touches -/
theorem rel_read {sg : Nat → Nat} {C R C' R' : jM} (h : Rel C R) (hsg : sg 32 < 33) {q : Nat → Nat → Nat → Prop} {p : Nat → Nat → Nat → Prop} (hF : Fr p C C') (hG : Fr q R R')
    (hp : ∀ t f a, p t f a → pXC (txt (sg 32)) t f a ∨ (t = 2 ∧ f = 25 ∧ a = 607) ∨ (t = 3 ∧ a = 618)) (hq : ∀ t f a, q t f a → pXR t f a ∨ (t = 0 ∧ f = 149 ∧ a = 2398) ∨ (t = 3 ∧ (a = 2435 ∨ a = 2436))) (hU : rU C' R') (hE : rE C' R') : Rel C' R' ∧ Fr pC C C' ∧ Fr pR R R' := by
  have hb := txt_b hsg
  have hF' := hF.mono hp
  have hG' := hG.mono hq
  have hs : ∀ s, sS R R' s := fun s => hG'.sS (fun a h1 h2 => by unfold pXR pPR; omega) s
  have hT := k_txt hsg
  have kt := kd_text hT
  refine ⟨⟨rT_f hF' hG' (fun t f a => by unfold cT pXC pPC; omega) (fun t f a => by unfold mT pXR pPR; omega) h.T, rN_f hF' hG' (fun t f a => by unfold cN pXC pPC; omega) (fun t f a => by unfold mN pXR pPR; omega) h.N,
    rP_f hF' hG' (fun t f a => by unfold cP pXC pPC; omega) (fun t f a => by unfold mP pXR pPR; omega) h.P,
    rD_f hF' hG' (fun t f a => by unfold cD pXC pPC; omega) (fun _ _ _ z => z.elim) (hs 0) h.D,
    rF_f hF' hG' (fun t f a => by unfold cF pXC pPC; omega) (fun t f a => by unfold mF pXR pPR; omega) (fun s _ _ => hs s) h.F,
    hU,
    rA_f hF' hG' (fun t f a => by unfold cA pXC pPC; omega) (fun t f a => by unfold mA pXR pPR; omega) h.A,
    rY_f hF' hG' (fun t f a => by unfold cY pXC pPC; omega) (fun t f a => by unfold mY pXR pPR; omega) h.Y,
    rR_f hF' hG' (fun t f a => by unfold cR pXC pPC; omega) (fun t f a => by unfold mR pXR pPR; omega) h.R,
    rS_f hF' hG' (fun t f a => by unfold cS pXC pPC; omega) (fun t f a => by unfold mS pXR pPR; omega) (fun s _ _ => hs s) h.S,
    hE⟩, hF'.mono (fun t f a z => ?_), hG'.mono (fun t f a z => by have := k16r a; unfold pXR pPR at z; unfold pR; omega)⟩
  unfold pXC pPC at z
  have k6 := k_616
  have k7 := k_617
  refine ⟨by omega, by omega, fun z3 => ?_⟩
  have : a = txt (sg 32) + 1 ∨ a = txt (sg 32) + 2 ∨ a = txt (sg 32) + 3 ∨ a = txt (sg 32) + 4 ∨ a = txt (sg 32) + 5 ∨ a = 616 ∨ a = 617 ∨ a = 618 := by omega
  rcases this with w | w | w | w | w | w | w | w
  · rw [w]; omega
  · rw [w]; omega
  · rw [w]; omega
  · rw [w]; omega
  · rw [w]; omega
  · rw [w]; omega
  · rw [w]; omega
  · exact .inr w
theorem parse_rel {sg : Nat → Nat} {B : Nat → Int32} {e N : Nat} {C0 R0 : jM} {np nr : Nat} {fl : Int32} {C1 R1 : jM} (h : Rel C0 R0) (hE : rE' sg C0 R0) (hS : TS B e N (txt (sg 32)) 32 C0 R0 np nr fl C1 R1) : rE' sg C1 (jsI R1 149 2398 fl) ∧ Rel C1 (jsI R1 149 2398 fl) ∧ Fr pC C0 C1 ∧ Fr pR R0 (jsI R1 149 2398 fl) := by
  obtain ⟨hP, hs2, hs3, hs4, hs5, hs6⟩ := hS
  have hG : Fr (fun t f a => pXR t f a ∨ (t = 0 ∧ f = 149 ∧ a = 2398)) R0 (jsI R1 149 2398 fl) := (hs3.mono (fun _ _ _ z => .inl z)).sI (.inr ⟨rfl, rfl, rfl⟩)
  have hx : ∀ s, s < 32 → sX R0 (jsI R1 149 2398 fl) s := fun s hs => hs4 s (by omega) (by omega)
  have hE1 : rE' sg C1 R1 := rE_read (t := 32) hE hs2 hs3 (fun s hs => hs4 s (by omega) (by omega))
  have hE2 : rE' sg C1 (jsI R1 149 2398 fl) := hE1
  refine ⟨hE2, rel_read (sg := sg) h (hE.1 32 (by omega)) hs2 hG (fun t f a z => .inl z) (fun t f a z => z.elim .inl (fun z => .inr (.inl z))) ?_ ⟨sg, hE2⟩⟩
  unfold rU
  rw [hP.fr0.1]
  simp only [m_I_sI, m_L_sI, m_R_sI, m_AI_sI, m_AL_sI, m_AD_sI, m_AR_sI, m_n_sI, m_I_sL, m_L_sL, m_R_sL, m_AI_sL, m_AL_sL, m_AD_sL, m_AR_sL, m_n_sL, m_I_sR, m_L_sR, m_R_sR, m_AI_sR, m_AL_sR, m_AD_sR, m_AR_sR, m_n_sR, m_I_rI, m_L_rI, m_R_rI, m_AI_rI, m_AL_rI, m_AD_rI, m_AR_rI, m_n_rI, m_I_rL, m_L_rL, m_R_rL, m_AI_rL, m_AL_rL, m_AD_rL, m_AR_rL, m_n_rL, m_I_rD, m_L_rD, m_R_rD, m_AI_rD, m_AL_rD, m_AD_rD, m_AR_rD, m_n_rD, m_I_rR, m_L_rR, m_R_rR, m_AI_rR, m_AL_rR, m_AD_rR, m_AR_rR, m_n_rR, true_and, and_true, and_false, false_and, and_self, if_true, if_false, ite_self, Nat.reduceEqDiff, reduceIte, obt, jlt, jbt, jbd_ite, bind_ite]
