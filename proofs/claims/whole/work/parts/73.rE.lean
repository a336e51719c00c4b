/-! PURE: the parser: an E -/
theorem node_end {T t p lo0 hi nr rs : Nat} {ru : Nat → Nat × Nat × Nat} {A : Nat → Prop} {kd : Int32} {C R : jM} (hN : ND T t p kd (tar kd) C R) (ht : t < 33) (hk : tkind kd) (hn : (kd ≠ 3 ∧ kd ≠ 4 ∧ kd ≠ 6 ∧ kd ≠ 7 ∧ kd ≠ 8) ∧ kd ≠ 146) (h0 : lo0 ≤ p) (hph : p < hi)
    (hin : ∀ j, j < tar kd → ∃ i, IN T t p j i C R ∧ ∃ lo hi', lo0 ≤ lo ∧ hi' ≤ hi ∧ hi' - lo < hi - lo0 ∧ tT C T ru nr rs (hi' - lo + rs) A lo hi' i) : rK C T R t p ∧ tT C T ru nr rs (hi - lo0 + rs) A lo0 hi p := by
  refine ⟨rK_in hN.1 hN.2.1 ht hn.1 (fun j hj => ?_) hN.2.2, ?_⟩
  · obtain ⟨i, i1, -⟩ := hin j hj
    exact ⟨i, i1.1, i1.2.1, i1.2.2⟩
  · obtain ⟨d, hd⟩ : ∃ d, hi - lo0 + rs = d + 1 := ⟨hi - lo0 + rs - 1, by omega⟩
    rw [hd]
    refine tT_in hN.1 h0 hph hk ⟨hn.1.2.2.1, hn.1.2.2.2.1, hn.2⟩ (fun j hj => ?_)
    obtain ⟨i, i1, lo, hi', l1, l2, l3, l4⟩ := hin j hj
    exact ⟨i, i1.2.1, tOK_m (Nat.le_refl _) (fun _ _ => rfl) _ A A lo hi' i d lo0 hi l4 (by omega) (fun _ z => z) l1 l2 (fun k _ _ => ⟨rfl, rfl, fun _ _ => rfl⟩)⟩
/-- the new part, as a node without inners -/
theorem ND.new {T t np : Nat} {kd km : Int32} {ct : Int64} {C C' R : jM} {w v : Int32} (hF : Fr pTk (nC T np kd ct C) C') (hm : km = kmap kd) : ND T t np kd 0 C' (jsI (nR t np km (jsI R 114 2398 w)) 100 2398 v) := by
  refine ⟨?_, ?_, fun j h1 h2 => ?_⟩
  · rw [hF.ai (by unfold pTk; omega)]; unfold nC; simp only [m_I_sI, m_L_sI, m_R_sI, m_AI_sI, m_AL_sI, m_AD_sI, m_AR_sI, m_n_sI, m_I_sL, m_L_sL, m_R_sL, m_AI_sL, m_AL_sL, m_AD_sL, m_AR_sL, m_n_sL, m_I_sR, m_L_sR, m_R_sR, m_AI_sR, m_AL_sR, m_AD_sR, m_AR_sR, m_n_sR, m_I_rI, m_L_rI, m_R_rI, m_AI_rI, m_AL_rI, m_AD_rI, m_AR_rI, m_n_rI, m_I_rL, m_L_rL, m_R_rL, m_AI_rL, m_AL_rL, m_AD_rL, m_AR_rL, m_n_rL, m_I_rD, m_L_rD, m_R_rD, m_AI_rD, m_AL_rD, m_AD_rD, m_AR_rD, m_n_rD, m_I_rR, m_L_rR, m_R_rR, m_AI_rR, m_AL_rR, m_AD_rR, m_AR_rR, m_n_rR, upd_if, true_and, and_true, and_false, false_and, and_self, if_true, if_false, ite_self, Nat.reduceEqDiff, reduceIte, obt, jlt, jbt, jbd_ite, bind_ite]
  · unfold nR; simp only [m_I_sI, m_L_sI, m_R_sI, m_AI_sI, m_AL_sI, m_AD_sI, m_AR_sI, m_n_sI, m_I_sL, m_L_sL, m_R_sL, m_AI_sL, m_AL_sL, m_AD_sL, m_AR_sL, m_n_sL, m_I_sR, m_L_sR, m_R_sR, m_AI_sR, m_AL_sR, m_AD_sR, m_AR_sR, m_n_sR, m_I_rI, m_L_rI, m_R_rI, m_AI_rI, m_AL_rI, m_AD_rI, m_AR_rI, m_n_rI, m_I_rL, m_L_rL, m_R_rL, m_AI_rL, m_AL_rL, m_AD_rL, m_AR_rL, m_n_rL, m_I_rD, m_L_rD, m_R_rD, m_AI_rD, m_AL_rD, m_AD_rD, m_AR_rD, m_n_rD, m_I_rR, m_L_rR, m_R_rR, m_AI_rR, m_AL_rR, m_AD_rR, m_AR_rR, m_n_rR, upd_if, true_and, and_true, and_false, false_and, and_self, if_true, if_false, ite_self, Nat.reduceEqDiff, reduceIte, obt, jlt, jbt, jbd_ite, bind_ite]; exact hm
  · unfold nR
    rcases (show j = 0 ∨ j = 1 ∨ j = 2 by omega) with z | z | z <;> (rw [z]; simp only [m_I_sI, m_L_sI, m_R_sI, m_AI_sI, m_AL_sI, m_AD_sI, m_AR_sI, m_n_sI, m_I_sL, m_L_sL, m_R_sL, m_AI_sL, m_AL_sL, m_AD_sL, m_AR_sL, m_n_sL, m_I_sR, m_L_sR, m_R_sR, m_AI_sR, m_AL_sR, m_AD_sR, m_AR_sR, m_n_sR, m_I_rI, m_L_rI, m_R_rI, m_AI_rI, m_AL_rI, m_AD_rI, m_AR_rI, m_n_rI, m_I_rL, m_L_rL, m_R_rL, m_AI_rL, m_AL_rL, m_AD_rL, m_AR_rL, m_n_rL, m_I_rD, m_L_rD, m_R_rD, m_AI_rD, m_AL_rD, m_AD_rD, m_AR_rD, m_n_rD, m_I_rR, m_L_rR, m_R_rR, m_AI_rR, m_AL_rR, m_AD_rR, m_AR_rR, m_n_rR, upd_if, Nat.reduceAdd, Nat.add_zero, true_and, and_true, and_false, false_and, and_self, if_true, if_false, ite_self, Nat.reduceEqDiff, reduceIte, obt, jlt, jbt, jbd_ite, bind_ite])
theorem pos_nR {t np q : Nat} {km w : Int32} {R : jM} (hq : jI R 100 2398 = nI q) (hq2 : q < 1602) : jI (nR t np km (jsI R 114 2398 w)) 100 2398 + 1 = nI (q + 1) := by
  unfold nR
  simp only [m_I_sI, m_L_sI, m_R_sI, m_AI_sI, m_AL_sI, m_AD_sI, m_AR_sI, m_n_sI, m_I_sL, m_L_sL, m_R_sL, m_AI_sL, m_AL_sL, m_AD_sL, m_AR_sL, m_n_sL, m_I_sR, m_L_sR, m_R_sR, m_AI_sR, m_AL_sR, m_AD_sR, m_AR_sR, m_n_sR, m_I_rI, m_L_rI, m_R_rI, m_AI_rI, m_AL_rI, m_AD_rI, m_AR_rI, m_n_rI, m_I_rL, m_L_rL, m_R_rL, m_AI_rL, m_AL_rL, m_AD_rL, m_AR_rL, m_n_rL, m_I_rD, m_L_rD, m_R_rD, m_AI_rD, m_AL_rD, m_AD_rD, m_AR_rD, m_n_rD, m_I_rR, m_L_rR, m_R_rR, m_AI_rR, m_AL_rR, m_AD_rR, m_AR_rR, m_n_rR, true_and, and_true, and_false, false_and, and_self, if_true, if_false, ite_self, Nat.reduceEqDiff, reduceIte, obt, jlt, jbt, jbd_ite, bind_ite]
  rw [hq, nJ_1 (by omega)]
theorem nfl {B : Nat → Int32} {e N T t : Nat} {A : Nat → Prop} {np nr cn : Nat} {fl : Int32} {C R : jM} (h : PS B e N T t A np nr cn fl C R) (hf : fl ≠ 0) : jI C 26 607 ≠ 0 ∧ ¬ jI R 101 2398 ≤ 0 := by
  have h14 := h.2.2.2.2.2.2.2.2.2.2.2.2.2.1
  refine ⟨by rw [h.fr0.1]; exact hf, ?_⟩
  rw [h.fr0.2, i_le, t_0]
  rw [Ne, i_eq, t_0] at hf
  omega
theorem flt_all {B : Nat → Int32} {e N T t : Nat} {ru : Nat → Nat × Nat × Nat} {rs nr : Nat} {A : Nat → Prop} {np cn : Nat} {fl fl' : Int32} {C R C' R' : jM} {x y : Int32} {fC fR : jM → Option (Int32 × jM)} (e1 : fC C = some (x, C')) (e2 : fR R = some (y, R')) (h : PS B e N T t A np nr cn fl' C' R') (hS : St T t np cn C R C' R') (hf : fl' ≠ 0) : ∃ x y C' R' np' fl', fC C = some (x, C') ∧ fR R = some (y, R') ∧ np ≤ np' ∧ PS B e N T t A np' nr cn fl' C' R' ∧ St T t np cn C R C' R' ∧
    (fl' = 0 → fl = 0 ∧ ∃ i, x = nI i ∧ y = nI (301 * t + i) ∧ np < np' ∧ Fin' T t np np' C' R' ∧ tT C' T ru nr rs (np' - np + rs) A np np' i) :=
  ⟨x, y, C', R', np, fl', e1, e2, Nat.le_refl _, h, hS, fun z => absurd z hf⟩
