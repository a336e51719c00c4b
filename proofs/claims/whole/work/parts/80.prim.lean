/-! PURE: the parser: P but for sums and functions -/
theorem BS.leaf {B : Nat → Int32} {e N T t : Nat} {ru : Nat → Nat × Nat × Nat} {rs nr : Nat} {A : Nat → Prop} {np cn : Nat} {kd : Int32} {C0 R0 C X R' : jM} (h : BS B e N T t ru rs nr A np np cn kd 0 C0 R0 0 (np + 1) C X) (hF : Fr pNr X R')
    (ha : ∀ z, z ≠ 301 * t + np → jAI R' 2408 z = jAI X 2408 z ∧ jAI R' 2409 z = jAI X 2409 z ∧ jAI R' 2410 z = jAI X 2410 z ∧ jAI R' 2411 z = jAI X 2411 z ∧ jAL R' 2412 z = jAL X 2412 z ∧ jAI R' 2413 z = jAI X 2413 z)
    (hr : rK C T R' t np) (ht : tT C T ru nr rs (np + 1 - np + rs) A np (np + 1) np) : LC B e N T t ru rs nr A np cn 0 C0 R0 (some (nI np, C)) (some (nI (301 * t + np), R')) := by
  obtain ⟨h1, h2, h3, h4, h5, h6⟩ := h
  have hp : np < 300 := by have := h1.2.1; omega
  have hS : St T t np cn C X C R' := ⟨Fr.refl, hF.mono (fun _ _ _ => pNr_R), oC.refl, ⟨fun z hz => ha z (by omega), fun s _ => by rw [hF.ai (by unfold pNr; omega)]⟩, fun i _ => ⟨rfl, rfl, by rw [hF.al (by unfold pNr; omega)], by rw [hF.ai (by unfold pNr; omega)]⟩⟩
  refine ⟨_, _, C, R', np + 1, 0, rfl, rfl, by omega, h1.nd Fr.refl hF, h2.trans hS (Nat.le_refl _) (Nat.le_refl _), fun _ => ⟨rfl, np, rfl, rfl, by omega, fun k a b => ?_, ht⟩⟩
  have : k = np := by omega
  rw [this]; exact hr
theorem leaf_t {C : jM} {T : Nat} {ru : Nat → Nat × Nat × Nat} {nr rs np : Nat} {A : Nat → Prop} {kd : Int32} {ct : Int64} (h1 : jAI C (T + 1) np = kd) (h2 : jAL C (T + 2) np = ct) (hk : tkind kd) (h0 : tar kd = 0) (h6 : kd = 6 → ∃ q : Nat, ct = Int64.ofNat q ∧ A q) (h7 : kd = 7 → ∃ r : Nat, ct = Int64.ofNat r ∧ r < nr ∧ (ru r).1 ≤ rs ∧ (ru r).2.2 ≤ rs) : tT C T ru nr rs (np + 1 - np + rs) A np (np + 1) np := by
  have hd : np + 1 - np + rs = rs + 1 := by omega
  rw [hd]
  unfold tT tOK
  rw [h1, h2]
  exact ⟨Nat.le_refl _, by omega, hk, fun j hj => absurd hj (by rw [h0]; omega), h6, h7⟩
/-- constant and scale of a node -/
def cstR (t p : Nat) (c : Int64) (s : Int32) (R : jM) : jM := jrI (jrL R 2412 (vp_updL (jAL R 2412) (301 * t + p) c)) 2413 (upd (jAI R 2413) (301 * t + p) s)
theorem cstR_fr {t p : Nat} {c : Int64} {s : Int32} {R : jM} : Fr pNr R (cstR t p c s R) := ((Fr.refl).rL (by unfold pNr; omega)).rI (by unfold pNr; omega)
theorem cstR_at {t p : Nat} {c : Int64} {s : Int32} {R : jM} (z : Nat) : jAI (cstR t p c s R) 2408 z = jAI R 2408 z ∧ jAI (cstR t p c s R) 2409 z = jAI R 2409 z ∧ jAI (cstR t p c s R) 2410 z = jAI R 2410 z ∧ jAI (cstR t p c s R) 2411 z = jAI R 2411 z ∧ jAL (cstR t p c s R) 2412 z = (if z = 301 * t + p then c else jAL R 2412 z) ∧ jAI (cstR t p c s R) 2413 z = (if z = 301 * t + p then s else jAI R 2413 z) := by
  unfold cstR
  simp only [m_I_sI, m_L_sI, m_R_sI, m_AI_sI, m_AL_sI, m_AD_sI, m_AR_sI, m_n_sI, m_I_sL, m_L_sL, m_R_sL, m_AI_sL, m_AL_sL, m_AD_sL, m_AR_sL, m_n_sL, m_I_sR, m_L_sR, m_R_sR, m_AI_sR, m_AL_sR, m_AD_sR, m_AR_sR, m_n_sR, m_I_rI, m_L_rI, m_R_rI, m_AI_rI, m_AL_rI, m_AD_rI, m_AR_rI, m_n_rI, m_I_rL, m_L_rL, m_R_rL, m_AI_rL, m_AL_rL, m_AD_rL, m_AR_rL, m_n_rL, m_I_rD, m_L_rD, m_R_rD, m_AI_rD, m_AL_rD, m_AD_rD, m_AR_rD, m_n_rD, m_I_rR, m_L_rR, m_R_rR, m_AI_rR, m_AL_rR, m_AD_rR, m_AR_rR, m_n_rR, upd_if, updL_if, true_and, and_true, and_false, false_and, and_self, if_true, if_false, ite_self, Nat.reduceEqDiff, reduceIte, obt, jlt, jbt, jbd_ite, bind_ite]
theorem BS.cst {B : Nat → Int32} {e N T t : Nat} {ru : Nat → Nat × Nat × Nat} {rs nr : Nat} {A : Nat → Prop} {np cn : Nat} {kd : Int32} {C0 R0 C X : jM} (h : BS B e N T t ru rs nr A np np cn kd 0 C0 R0 0 (np + 1) C X) (c : Int64) (s : Int32) : BS B e N T t ru rs nr A np np cn kd 0 C0 R0 0 (np + 1) C (cstR t np c s X) := by
  obtain ⟨h1, h2, h3, h4, h5, h6⟩ := h
  have hp : np < 300 := by have := h1.2.1; omega
  have hF : Fr pNr X (cstR t np c s X) := cstR_fr
  have hS : St T t np cn C X C (cstR t np c s X) := ⟨Fr.refl, hF.mono (fun _ _ _ => pNr_R), oC.refl, ⟨fun z hz => by
    obtain ⟨y1, y2, y3, y4, y5, y6⟩ := cstR_at (t := t) (p := np) (c := c) (s := s) (R := X) z
    rw [if_neg (by omega)] at y5 y6
    exact ⟨y1, y2, y3, y4, y5, y6⟩, fun s _ => by rw [hF.ai (by unfold pNr; omega)]⟩, fun i _ => ⟨rfl, rfl, by rw [hF.al (by unfold pNr; omega)], by rw [hF.ai (by unfold pNr; omega)]⟩⟩
  refine ⟨h1.nd Fr.refl hF, h2.trans hS (Nat.le_refl _) (Nat.le_refl _), h3, h4, ⟨h5.1, (cstR_at _).1.trans h5.2.1, fun j a b => ?_⟩, fun _ => ⟨fun k a b => absurd b (by omega), fun k a b => absurd b (by omega), fun j hj => absurd hj (by omega)⟩⟩
  rw [← h5.2.2 j a b]
  obtain ⟨y1, y2, y3, y4, y5, y6⟩ := cstR_at (t := t) (p := np) (c := c) (s := s) (R := X) (301 * t + np)
  rcases (show j = 0 ∨ j = 1 ∨ j = 2 by omega) with z | z | z
  · rw [z]; exact y2
  · rw [z]; exact y3
  · rw [z]; exact y4
/-- the reference's P behind its node -/
noncomputable def prF (rc : Nat → Nat → Int32 → Int32 → jM → Option (Int32 × jM)) (v1 x28 x46 : Int32) (S45 : jM) : Option (Int32 × jM) := if x46 ≤ 0 then some (x28, S45) else (f_X12_want 2398 (140 : Int32) S45).bind (fun S48 => (jR S48 104 2398).bind (fun r50 => jbd (rc 0 2398 (v1 + (1 : Int32)) 0 S48) (fun x52 S53 => if jA r50 13 x28 = true then jlet (jrI S53 r50 (upd (jAI S53 r50) (x28).toNatClampNeg x52)) (fun S56 => if x46 ≤ (1 : Int32) then f_X12_primary_186 rc 2398 v1 x28 x46 S56 else (f_X12_want 2398 (144 : Int32) S56).bind (fun S58 => (jR S58 105 2398).bind (fun r60 => jbd (rc 0 2398 (v1 + (1 : Int32)) 0 S58) (fun x62 S63 => if jA r60 13 x28 = true then jlet (jrI S63 r60 (upd (jAI S63 r60) (x28).toNatClampNeg x62)) (fun S66 => f_X12_primary_186 rc 2398 v1 x28 x46 S66) else none)))) else none)))
theorem prim_r {B : Nat → Int32} {e N T t : Nat} {A : Nat → Prop} {np nr cn : Nat} {C R : jM} (h : PS B e N T t A np nr cn 0 C R) {q : Nat} (hq : jI R 100 2398 = nI q) (hq2 : q < 1602) (hE : entQ B e (tps B e q) q R) (rc : Nat → Nat → Int32 → Int32 → jM → Option (Int32 × jM)) (a : Int32) (n40 : tm (tkv B e (tps B e q)).1 ≠ 140) :
    f_X12_primary rc 2398 a R = jbd (f_X12_part 2398 R) (fun x20 S21 => if x20 = 0 then some ((-1 : Int32), S21) else (f_X12_now 2398 S21).bind (fun x24 => if x24 = (19 : Int32) then jbd (rc 7 2398 a 0 S21) (fun x70 S71 => some (x70, S71)) else if x24 = (40 : Int32) then jbd (f_X12_named 2398 S21) (fun x67 S68 => some (x67, S68)) else jbd (f_X12_node 2398 x24 S21) (fun x28 S29 => (jR S29 107 2398).bind (fun r31 => (jR S29 97 2398).bind (fun r33 => if jA r33 14 (jI S29 100 2398) = true then if jA r31 14 x28 = true then jlet (jrL S29 r31 (vp_updL (jAL S29 r31) (x28).toNatClampNeg (jAL S29 r33 (jI S29 100 2398).toNatClampNeg))) (fun S37 => (jR S37 108 2398).bind (fun r38 => (jR S37 98 2398).bind (fun r40 => if jA r40 13 (jI S37 100 2398) = true then if jA r38 13 x28 = true then jlet (jrI S37 r38 (upd (jAI S37 r38) (x28).toNatClampNeg (jAI S37 r40 (jI S37 100 2398).toNatClampNeg))) (fun S44 => jlet (jsI S44 100 2398 ((jI S44 100 2398) + (1 : Int32))) (fun S45 => jlet (f_X12_arguments x24) (fun x46 => prF rc a x28 x46 S45))) else none else none))) else none else none))))) := by
  unfold f_X12_primary
  rw [if_pos k_2398, h.fr0.2, if_pos (by decide), now_r h hq hq2 hE, obt, if_neg n40]
  rfl
theorem leaf_r {B : Nat → Int32} {e N T t : Nat} {A : Nat → Prop} {np nr cn : Nat} {C R : jM} (h : PS B e N T t A np nr cn 0 C R) {q : Nat} (hq : jI R 100 2398 = nI q) (hq2 : q < 1602) (hE : entQ B e (tps B e q) q R) (rc : Nat → Nat → Int32 → Int32 → jM → Option (Int32 × jM)) (a : Int32) (n40 : tm (tkv B e (tps B e q)).1 ≠ 140) (n19 : tm (tkv B e (tps B e q)).1 ≠ 19) (n4 : tm (tkv B e (tps B e q)).1 ≠ 40) (hp : np < 300)
    (p2 : f_X12_part 2398 R = some (1, jsI R 114 2398 (nI (np + 1)))) (p3 : f_X12_now 2398 (jsI R 114 2398 (nI (np + 1))) = some (tm (tkv B e (tps B e q)).1)) (p4 : f_X12_node 2398 (tm (tkv B e (tps B e q)).1) (jsI R 114 2398 (nI (np + 1))) = some (nI (301 * t + np), nR t np (tm (tkv B e (tps B e q)).1) (jsI R 114 2398 (nI (np + 1))))) :
    f_X12_primary rc 2398 a R = prF rc a (nI (301 * t + np)) (f_X12_arguments (tm (tkv B e (tps B e q)).1)) (cstR t np (jAL R 2406 q) (jAI R 2407 q) (jsI (nR t np (tm (tkv B e (tps B e q)).1) (jsI R 114 2398 (nI (np + 1)))) 100 2398 (nI (q + 1)))) := by
  rw [prim_r h hq hq2 hE rc a n40, p2, jbt, if_neg (by decide), p3, obt, if_neg n19, if_neg n4, p4, jbt]
  have hT := h.pt
  have hX : Lay (nR t np (tm (tkv B e (tps B e q)).1) (jsI R 114 2398 (nI (np + 1)))) := hT.2.1.fr (p := pPR) ((((((((Fr.refl).sI (by unfold pPR; omega)).rI (by unfold pPR; omega)).rI (by unfold pPR; omega)).rI (by unfold pPR; omega)).rI (by unfold pPR; omega)).rI (by unfold pPR; omega)).rL (by unfold pPR; omega)) (fun f a z => by unfold pPR at z; omega) (fun a z => by have := k16r a; unfold pPR at z; omega)
  have e100 : jI (nR t np (tm (tkv B e (tps B e q)).1) (jsI R 114 2398 (nI (np + 1)))) 100 2398 = nI q := by unfold nR; simp only [m_I_sI, m_L_sI, m_R_sI, m_AI_sI, m_AL_sI, m_AD_sI, m_AR_sI, m_n_sI, m_I_sL, m_L_sL, m_R_sL, m_AI_sL, m_AL_sL, m_AD_sL, m_AR_sL, m_n_sL, m_I_sR, m_L_sR, m_R_sR, m_AI_sR, m_AL_sR, m_AD_sR, m_AR_sR, m_n_sR, m_I_rI, m_L_rI, m_R_rI, m_AI_rI, m_AL_rI, m_AD_rI, m_AR_rI, m_n_rI, m_I_rL, m_L_rL, m_R_rL, m_AI_rL, m_AL_rL, m_AD_rL, m_AR_rL, m_n_rL, m_I_rD, m_L_rD, m_R_rD, m_AI_rD, m_AL_rD, m_AD_rD, m_AR_rD, m_n_rD, m_I_rR, m_L_rR, m_R_rR, m_AI_rR, m_AL_rR, m_AD_rR, m_AR_rR, m_n_rR, true_and, and_true, and_false, false_and, and_self, if_true, if_false, ite_self, Nat.reduceEqDiff, reduceIte, obt, jlt, jbt, jbd_ite, bind_ite]; exact hq
  have e2406 : jAL (nR t np (tm (tkv B e (tps B e q)).1) (jsI R 114 2398 (nI (np + 1)))) 2406 = jAL R 2406 := by unfold nR; simp only [m_I_sI, m_L_sI, m_R_sI, m_AI_sI, m_AL_sI, m_AD_sI, m_AR_sI, m_n_sI, m_I_sL, m_L_sL, m_R_sL, m_AI_sL, m_AL_sL, m_AD_sL, m_AR_sL, m_n_sL, m_I_sR, m_L_sR, m_R_sR, m_AI_sR, m_AL_sR, m_AD_sR, m_AR_sR, m_n_sR, m_I_rI, m_L_rI, m_R_rI, m_AI_rI, m_AL_rI, m_AD_rI, m_AR_rI, m_n_rI, m_I_rL, m_L_rL, m_R_rL, m_AI_rL, m_AL_rL, m_AD_rL, m_AR_rL, m_n_rL, m_I_rD, m_L_rD, m_R_rD, m_AI_rD, m_AL_rD, m_AD_rD, m_AR_rD, m_n_rD, m_I_rR, m_L_rR, m_R_rR, m_AI_rR, m_AL_rR, m_AD_rR, m_AR_rR, m_n_rR, true_and, and_true, and_false, false_and, and_self, if_true, if_false, ite_self, Nat.reduceEqDiff, reduceIte, obt, jlt, jbt, jbd_ite, bind_ite]
  have e2407 : jAI (nR t np (tm (tkv B e (tps B e q)).1) (jsI R 114 2398 (nI (np + 1)))) 2407 = jAI R 2407 := by unfold nR; simp only [m_I_sI, m_L_sI, m_R_sI, m_AI_sI, m_AL_sI, m_AD_sI, m_AR_sI, m_n_sI, m_I_sL, m_L_sL, m_R_sL, m_AI_sL, m_AL_sL, m_AD_sL, m_AR_sL, m_n_sL, m_I_sR, m_L_sR, m_R_sR, m_AI_sR, m_AL_sR, m_AD_sR, m_AR_sR, m_n_sR, m_I_rI, m_L_rI, m_R_rI, m_AI_rI, m_AL_rI, m_AD_rI, m_AR_rI, m_n_rI, m_I_rL, m_L_rL, m_R_rL, m_AI_rL, m_AL_rL, m_AD_rL, m_AR_rL, m_n_rL, m_I_rD, m_L_rD, m_R_rD, m_AI_rD, m_AL_rD, m_AD_rD, m_AR_rD, m_n_rD, m_I_rR, m_L_rR, m_R_rR, m_AI_rR, m_AL_rR, m_AD_rR, m_AR_rR, m_n_rR, true_and, and_true, and_false, false_and, and_self, if_true, if_false, ite_self, Nat.reduceEqDiff, reduceIte, obt, jlt, jbt, jbd_ite, bind_ite]
  obtain ⟨q1, q2, q3, q4, q5⟩ := qA hq2
  obtain ⟨a1, a2, a3, a4, a5, a6, a7, a8⟩ := nA hT.2.2.2.1 (show np < 301 by omega)
  rw [ly_107 hX, obt, ly_97 hX, obt, e100, if_pos q3, if_pos a6, jlt, a8, q5, e2406]
  simp only [m_R_rL, m_I_rL, m_AI_rL, m_I_rI, ly_108 hX, ly_98 hX, e100, e2407, q4, q5, a7, a8, obt, jlt, if_true, nJ_1 (show q + 1 < 2147483648 by omega)]
  rfl
