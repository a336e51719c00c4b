/-! PURE: the tape opened; a name taken -/
def pOp (t f a : Nat) : Prop := (t = 0 ∧ (f = 37 ∨ f = 38 ∨ f = 39 ∨ f = 40 ∨ f = 41 ∨ f = 43) ∧ a = 608) ∨ (t = 1 ∧ f = 42 ∧ a = 608)
theorem pTk_Op {t f a : Nat} (h : pTk t f a) : pOp t f a := by unfold pTk at h; unfold pOp; omega
theorem Lay.frO {S S' : jM} (h : Lay S) (hF : Fr pOp S S') : Lay S' := h.fr hF (fun f a z => by unfold pOp at z; omega) (fun a z => by unfold pOp at z; omega)
def opE (C : jM) : jM := jsI (jsI (jsI C 38 608 (jI C 37 608)) 39 608 0) 37 608 0
theorem open_c (C : jM) : f_X7_open 608 C = some (opE C) := by
  unfold f_X7_open opE
  rw [if_pos k_608, jlt, jlt, jlt]
theorem opE_fr (C : jM) : Fr pOp C (opE C) := ((((Fr.refl).sI (by unfold pOp; omega)).sI (by unfold pOp; omega)).sI (by unfold pOp; omega))
theorem open_ok {C R : jM} (hC : Lay C) (hR : Lay R) (hT : rT C R) : ∃ e : Nat, tOp (opE C) e ∧ jI (opE C) 39 608 = nI 0 ∧ cB (opE C) = cB C ∧ rOp (cB C) e R ∧ jI (opE C) 37 608 = 0 := by
  obtain ⟨t1, t2, t3, t4⟩ := hT
  obtain ⟨e, he⟩ : ∃ e : Nat, (jI C 37 608).toInt = e := ⟨(jI C 37 608).toInt.toNat, by omega⟩
  have hee : jI C 37 608 = nI e := by rw [i_eq, nI_toInt (by omega)]; exact he
  refine ⟨e, ⟨hC.frO (opE_fr C), ?_, by omega⟩, ?_, ?_, ⟨hR, by rw [← t1]; exact hee, by omega, fun j hj => t4 j (by omega)⟩, ?_⟩
  · unfold opE; simp only [m_I_sI, m_L_sI, m_R_sI, m_AI_sI, m_AL_sI, m_AD_sI, m_AR_sI, m_n_sI, m_I_sL, m_L_sL, m_R_sL, m_AI_sL, m_AL_sL, m_AD_sL, m_AR_sL, m_n_sL, m_I_sR, m_L_sR, m_R_sR, m_AI_sR, m_AL_sR, m_AD_sR, m_AR_sR, m_n_sR, m_I_rI, m_L_rI, m_R_rI, m_AI_rI, m_AL_rI, m_AD_rI, m_AR_rI, m_n_rI, m_I_rL, m_L_rL, m_R_rL, m_AI_rL, m_AL_rL, m_AD_rL, m_AR_rL, m_n_rL, m_I_rD, m_L_rD, m_R_rD, m_AI_rD, m_AL_rD, m_AD_rD, m_AR_rD, m_n_rD, m_I_rR, m_L_rR, m_R_rR, m_AI_rR, m_AL_rR, m_AD_rR, m_AR_rR, m_n_rR, true_and, and_true, and_false, false_and, and_self, if_true, if_false, ite_self, Nat.reduceEqDiff, reduceIte, obt, jlt, jbt, jbd_ite, bind_ite]; exact hee
  · unfold opE; simp only [m_I_sI, m_L_sI, m_R_sI, m_AI_sI, m_AL_sI, m_AD_sI, m_AR_sI, m_n_sI, m_I_sL, m_L_sL, m_R_sL, m_AI_sL, m_AL_sL, m_AD_sL, m_AR_sL, m_n_sL, m_I_sR, m_L_sR, m_R_sR, m_AI_sR, m_AL_sR, m_AD_sR, m_AR_sR, m_n_sR, m_I_rI, m_L_rI, m_R_rI, m_AI_rI, m_AL_rI, m_AD_rI, m_AR_rI, m_n_rI, m_I_rL, m_L_rL, m_R_rL, m_AI_rL, m_AL_rL, m_AD_rL, m_AR_rL, m_n_rL, m_I_rD, m_L_rD, m_R_rD, m_AI_rD, m_AL_rD, m_AD_rD, m_AR_rD, m_n_rD, m_I_rR, m_L_rR, m_R_rR, m_AI_rR, m_AL_rR, m_AD_rR, m_AR_rR, m_n_rR, true_and, and_true, and_false, false_and, and_self, if_true, if_false, ite_self, Nat.reduceEqDiff, reduceIte, obt, jlt, jbt, jbd_ite, bind_ite]; rfl
  · funext j; unfold cB; rw [(opE_fr C).ai (by unfold pOp; omega)]
  · unfold opE; simp only [m_I_sI, m_L_sI, m_R_sI, m_AI_sI, m_AL_sI, m_AD_sI, m_AR_sI, m_n_sI, m_I_sL, m_L_sL, m_R_sL, m_AI_sL, m_AL_sL, m_AD_sL, m_AR_sL, m_n_sL, m_I_sR, m_L_sR, m_R_sR, m_AI_sR, m_AL_sR, m_AD_sR, m_AR_sR, m_n_sR, m_I_rI, m_L_rI, m_R_rI, m_AI_rI, m_AL_rI, m_AD_rI, m_AR_rI, m_n_rI, m_I_rL, m_L_rL, m_R_rL, m_AI_rL, m_AL_rL, m_AD_rL, m_AR_rL, m_n_rL, m_I_rD, m_L_rD, m_R_rD, m_AI_rD, m_AL_rD, m_AD_rD, m_AR_rD, m_n_rD, m_I_rR, m_L_rR, m_R_rR, m_AI_rR, m_AL_rR, m_AD_rR, m_AR_rR, m_n_rR, true_and, and_true, and_false, false_and, and_self, if_true, if_false, ite_self, Nat.reduceEqDiff, reduceIte, obt, jlt, jbt, jbd_ite, bind_ite]
theorem cB_rng (C : jM) : ∀ j, ∃ m : Nat, m < 256 ∧ cB C j = nI m := fun j => and255 _
theorem tps_le (B : Nat → Int32) (e : Nat) (q : Nat) (h : ∀ z, z < q → (tkv B e (tps B e z)).1 ≠ 0) : tps B e q ≤ e := by
  induction q with
  | zero => exact (skB_le B e (e - 0) 0 (by omega)).2
  | succ q ih =>
    have hq := ih (fun z hz => h z (by omega))
    have hlt : tps B e q < e := Nat.lt_of_not_le (fun z => h q (by omega) ((tkv_0 B e _).mpr z))
    exact (skB_le B e _ _ (tkv_a (B := B) hlt).2).2
/-- the token behind the one at hand -/
theorem nxt_ok {B : Nat → Int32} {e q : Nat} {S : jM} (h : tOp S e) (hB : cB S = B) (ht : tokAt B e (tps B e q) S) (h0 : (tkv B e (tps B e q)).1 ≠ 0) (hle : tps B e q ≤ e) : ∃ S', f_X7_next_0 1100000 608 S = some S' ∧ Fr pTk S S' ∧ tokAt B e (tps B e (q + 1)) S' := by
  subst hB
  have hlt : tps (cB S) e q < e := Nat.lt_of_not_le (fun z => h0 ((tkv_0 (cB S) e _).mpr z))
  exact next_ok h ht.2.2.1 (tkv_a (B := cB S) hlt).2
theorem tm_2 {k : Int32} (h : k ∈ tks) : tm k = 40 ↔ k = 2 := ⟨fun z => tm_inj k h 2 (by decide) (z.trans (by decide)), fun z => by rw [z]; decide⟩
theorem takeName_ok {C R : jM} (hC : Lay C) (hR : Lay R) (hT : rT C R) : ∃ w C' R', f_X7_takeName 608 C = some (w, C') ∧ f_X12_takeName 2398 R = some (w, R') ∧ Fr pOp C C' ∧ Fr pTz R R' ∧ rT C' R' := by
  obtain ⟨e, o1, o2, o3, o4, o5⟩ := open_ok hC hR hT
  obtain ⟨N, R', r1, r2, r3, r4, r5, r6, r7⟩ := tokenize_ok (cB_rng C) o4
  obtain ⟨C1, c1, c2, c3⟩ := next_ok o1 o2 (by omega)
  have c3' : tokAt (cB C) e (tps (cB C) e 0) C1 := by rw [← o3]; exact c3
  have hin := tkv_in (cB C) e (tps (cB C) e 0)
  have hF1 : Fr pOp C C1 := (opE_fr C).trans (c2.mono (fun _ _ _ => pTk_Op))
  have rt : ∀ C', jI C' 37 608 = 0 → rT C' R' := fun C' h37 => ⟨by rw [h37, r4], by rw [h37]; decide, by rw [h37]; decide, fun j hj => by rw [h37] at hj; exact absurd hj (by rw [t_0]; omega)⟩
  have h37 : jI C1 37 608 = 0 := by rw [c2.i (by unfold pTk; omega)]; exact o5
  have hLR' : Lay R' := hR.frZ r2
  obtain ⟨qa1, qa2, qa3, qa4, qa5⟩ := qA (q := 0) (by omega)
  obtain ⟨qb1, qb2, qb3, qb4, qb5⟩ := qA (q := 1) (by omega)
  have n1 : nI 1 = (1 : Int32) := rfl
  rw [n0] at qa1 qa3 qa5
  rw [n1] at qb1 qb5
  have hent := (r3.2.2.1 0 (by have := r3.1; omega)).1
  have ecl : f_X7_takeName 608 C = if (tkv (cB C) e (tps (cB C) e 0)).1 = 2 then (f_X7_next_0 1100000 608 C1).bind (fun S8 => if (jI S8 40 608) = 0 then some (jL C1 42 608, S8) else some ((0 : Int64), S8)) else some ((0 : Int64), C1) := by
    unfold f_X7_takeName
    rw [if_pos k_608, open_c, obt, c1, obt, c3'.2.1]
    simp only [jlt]
  have erf : f_X12_takeName 2398 R = if (tkv (cB C) e (tps (cB C) e 0)).1 = 2 then (if jAI R' 2404 1 = 43 then some (jAL R' 2406 0, R') else some (0, R')) else some (0, R') := by
    unfold f_X12_takeName
    simp only [k_2398, r1, ly_95 hLR', ly_97 hLR', qa1, qa3, qa5, qb1, qb5, hent.1, tm_2 hin, true_and, and_true, and_false, false_and, and_self, if_true, if_false, ite_self, Nat.reduceEqDiff, reduceIte, obt, jlt, jbt, jbd_ite, bind_ite]
  rw [ecl, erf]
  by_cases c : (tkv (cB C) e (tps (cB C) e 0)).1 = 2
  · rw [if_pos c, if_pos c]
    have hN : 1 < N := by
      have h1 := r3.1
      refine Nat.lt_of_not_le (fun z => ?_)
      rcases r3.2.2.2.2 0 (by omega) with w | w
      · rw [c] at w; exact absurd w (by decide)
      · rw [c] at w; exact absurd w (by decide)
    have hle0 : tps (cB C) e 0 ≤ e := tps_le _ _ 0 (fun z hz => by omega)
    obtain ⟨C2, d1, d2, d3⟩ := nxt_ok (o1.f c2) (by rw [cB_f c2]; exact o3) c3' (by rw [c]; decide) hle0
    have hent1 := (r3.2.2.1 1 hN).1
    have hin1 := tkv_in (cB C) e (tps (cB C) e 1)
    have h37b : jI C2 37 608 = 0 := by rw [d2.i (by unfold pTk; omega)]; exact h37
    have hF2 : Fr pOp C C2 := hF1.trans (d2.mono (fun _ _ _ => pTk_Op))
    rw [d1, obt, d3.2.1, hent1.1]
    simp only [tm_0 hin1]
    by_cases c4 : (tkv (cB C) e (tps (cB C) e 1)).1 = 0
    · rw [if_pos c4, if_pos c4, hent.2.1 (.inl c), ← c3'.2.2.2.1 (.inl c)]
      exact ⟨_, C2, R', rfl, rfl, hF2, r2, rt C2 h37b⟩
    · rw [if_neg c4, if_neg c4]
      exact ⟨_, C2, R', rfl, rfl, hF2, r2, rt C2 h37b⟩
  · rw [if_neg c, if_neg c]
    exact ⟨_, C1, R', rfl, rfl, hF1, r2, rt C1 h37⟩
