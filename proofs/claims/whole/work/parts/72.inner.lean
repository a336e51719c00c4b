/-! PURE: the parser: an inner of a part is read and set -/
def ND (T t p : Nat) (kd : Int32) (m : Nat) (C R : jM) : Prop := jAI C (T + 1) p = kd ∧ jAI R 2408 (301 * t + p) = kmap kd ∧ ∀ j, m ≤ j → j < 3 → jAI R (2409 + j) (301 * t + p) = -1
def IN (T t p j i : Nat) (C R : jM) : Prop := i < 300 ∧ jAI C (T + 3) (3 * p + j) = nI i ∧ jAI R (2409 + j) (301 * t + p) = nI (301 * t + i)
theorem oR.at {t np p j : Nat} {R R' : jM} (h : oR t np R R') (hp : p < np) (hj : j < 3) : jAI R' (2409 + j) (301 * t + p) = jAI R (2409 + j) (301 * t + p) := by
  obtain ⟨y1, y2, y3, y4, y5, y6⟩ := h.1 (301 * t + p) (by omega)
  rcases (show j = 0 ∨ j = 1 ∨ j = 2 by omega) with z | z | z
  · rw [z]; exact y2
  · rw [z]; exact y3
  · rw [z]; exact y4
theorem ND.o {T t p np cn m : Nat} {kd : Int32} {C R C' R' : jM} (h : ND T t p kd m C R) (hS : St T t np cn C R C' R') (hp : p < np) : ND T t p kd m C' R' := by
  obtain ⟨x1, x2, x3⟩ := hS.2.2.1 p hp
  obtain ⟨y1, -⟩ := hS.2.2.2.1.1 (301 * t + p) (by omega)
  exact ⟨x1.trans h.1, y1.trans h.2.1, fun j h1 h2 => (hS.2.2.2.1.at hp h2).trans (h.2.2 j h1 h2)⟩
theorem IN.o {T t p np cn j i : Nat} {C R C' R' : jM} (h : IN T t p j i C R) (hS : St T t np cn C R C' R') (hp : p < np) (hj : j < 3) : IN T t p j i C' R' := by
  obtain ⟨x1, x2, x3⟩ := hS.2.2.1 p hp
  exact ⟨h.1, (x3 j hj).trans h.2.1, (hS.2.2.2.1.at hp hj).trans h.2.2⟩
theorem sR_at {t p j j' : Nat} {y : Int32} {R : jM} : jAI (sR t p (2409 + j) y R) (2409 + j') (301 * t + p) = if j' = j then y else jAI R (2409 + j') (301 * t + p) := by
  unfold sR
  rw [m_AI_rI]
  by_cases c : j' = j
  · rw [if_pos (by omega), if_pos c, upd_if, if_pos rfl]
  · rw [if_neg (by omega), if_neg c]
/-- one inner is set -/
theorem ND.set {T t p j : Nat} {kd x y : Int32} {C R : jM} (h : ND T t p kd j C R) : ND T t p kd (j + 1) (sC T p j x C) (sR t p (2409 + j) y R) := by
  refine ⟨?_, ?_, fun j' h1 h2 => ?_⟩
  · unfold sC; rw [m_AI_rI, if_neg (by omega)]; exact h.1
  · unfold sR; rw [m_AI_rI, if_neg (by omega)]; exact h.2.1
  · rw [sR_at, if_neg (by omega)]; exact h.2.2 j' (by omega) h2
theorem IN.new {T t p j i : Nat} {C R : jM} (hi : i < 300) : IN T t p j i (sC T p j (nI i) C) (sR t p (2409 + j) (nI (301 * t + i)) R) := by
  refine ⟨hi, ?_, ?_⟩
  · unfold sC; rw [m_AI_rI, if_pos rfl, upd_if, if_pos rfl]
  · rw [sR_at, if_pos rfl]
theorem IN.set {T t p j j' i : Nat} {x y : Int32} {C R : jM} (h : IN T t p j' i C R) (hj : j' ≠ j) : IN T t p j' i (sC T p j x C) (sR t p (2409 + j) y R) := by
  refine ⟨h.1, ?_, ?_⟩
  · unfold sC; rw [m_AI_rI, if_pos rfl, upd_if, if_neg (by omega)]; exact h.2.1
  · rw [sR_at, if_neg hj]; exact h.2.2
theorem oC.set {T p j np : Nat} {x : Int32} {C : jM} (hj : j < 3) : ∀ k, k ≠ p → jAI (sC T p j x C) (T + 1) k = jAI C (T + 1) k ∧ jAL (sC T p j x C) (T + 2) k = jAL C (T + 2) k ∧ ∀ j', j' < 3 → jAI (sC T p j x C) (T + 3) (3 * k + j') = jAI C (T + 3) (3 * k + j') := by
  intro k hk
  unfold sC
  simp only [m_I_sI, m_L_sI, m_R_sI, m_AI_sI, m_AL_sI, m_AD_sI, m_AR_sI, m_n_sI, m_I_sL, m_L_sL, m_R_sL, m_AI_sL, m_AL_sL, m_AD_sL, m_AR_sL, m_n_sL, m_I_sR, m_L_sR, m_R_sR, m_AI_sR, m_AL_sR, m_AD_sR, m_AR_sR, m_n_sR, m_I_rI, m_L_rI, m_R_rI, m_AI_rI, m_AL_rI, m_AD_rI, m_AR_rI, m_n_rI, m_I_rL, m_L_rL, m_R_rL, m_AI_rL, m_AL_rL, m_AD_rL, m_AR_rL, m_n_rL, m_I_rD, m_L_rD, m_R_rD, m_AI_rD, m_AL_rD, m_AD_rD, m_AR_rD, m_n_rD, m_I_rR, m_L_rR, m_R_rR, m_AI_rR, m_AL_rR, m_AD_rR, m_AR_rR, m_n_rR, true_and, and_true, and_false, false_and, and_self, if_true, if_false, ite_self, Nat.reduceEqDiff, reduceIte, obt, jlt, jbt, jbd_ite, bind_ite]
  rw [if_neg (by omega)]
  exact ⟨rfl, fun j' hj' => by rw [upd_if, if_neg (by omega)]⟩
theorem Fin'.set {T t lo hi p j : Nat} {x y : Int32} {C R : jM} (h : Fin' T t lo hi C R) (hp : p < lo) (hj : j < 3) : Fin' T t lo hi (sC T p j x C) (sR t p (2409 + j) y R) := by
  intro k h1 h2
  have hk := h k h1 h2
  obtain ⟨x1, x2, x3⟩ := oC.set (np := 0) (C := C) (x := x) (T := T) (p := p) hj k (by omega)
  have z0 : jAI (sC T p j x C) (T + 3) (3 * k) = jAI C (T + 3) (3 * k) := x3 0 (by omega)
  have r : ∀ a, a ≠ 2409 + j ∨ True → jAI (sR t p (2409 + j) y R) a (301 * t + k) = jAI R a (301 * t + k) := fun a _ => by
    unfold sR
    rw [m_AI_rI]
    by_cases c : a = 2409 + j
    · rw [if_pos c, upd_if, if_neg (by omega), c]
    · rw [if_neg c]
  have rl : jAL (sR t p (2409 + j) y R) = jAL R := by unfold sR; simp only [m_I_sI, m_L_sI, m_R_sI, m_AI_sI, m_AL_sI, m_AD_sI, m_AR_sI, m_n_sI, m_I_sL, m_L_sL, m_R_sL, m_AI_sL, m_AL_sL, m_AD_sL, m_AR_sL, m_n_sL, m_I_sR, m_L_sR, m_R_sR, m_AI_sR, m_AL_sR, m_AD_sR, m_AR_sR, m_n_sR, m_I_rI, m_L_rI, m_R_rI, m_AI_rI, m_AL_rI, m_AD_rI, m_AR_rI, m_n_rI, m_I_rL, m_L_rL, m_R_rL, m_AI_rL, m_AL_rL, m_AD_rL, m_AR_rL, m_n_rL, m_I_rD, m_L_rD, m_R_rD, m_AI_rD, m_AL_rD, m_AD_rD, m_AR_rD, m_n_rD, m_I_rR, m_L_rR, m_R_rR, m_AI_rR, m_AL_rR, m_AD_rR, m_AR_rR, m_n_rR]
  unfold rK at *
  rw [x1, x2, z0, x3 1 (by omega), x3 2 (by omega), r _ (.inr trivial), r _ (.inr trivial), r _ (.inr trivial), r _ (.inr trivial), r _ (.inr trivial), rl]
  exact hk
theorem tT.set {C : jM} {T : Nat} {ru : Nat → Nat × Nat × Nat} {nr rs d p j : Nat} {A : Nat → Prop} {lo hi k : Nat} {x : Int32} (h : tT C T ru nr rs d A lo hi k) (hp : p < lo ∨ hi ≤ p) (hj : j < 3) : tT (sC T p j x C) T ru nr rs d A lo hi k :=
  tOK_m (Nat.le_refl _) (fun _ _ => rfl) d A A lo hi k d lo hi h (Nat.le_refl _) (fun _ z => z) (Nat.le_refl _) (Nat.le_refl _) (fun k h1 h2 => oC.set (np := 0) hj k (by omega))
theorem inner_ok {B : Nat → Int32} {e N T t : Nat} {ru : Nat → Nat × Nat × Nat} {rs nr k : Nat} {fC fR : jM → Option (Int32 × jM)} (hL : LK B e N T t ru rs nr fC fR k) {A : Nat → Prop} {np cn p j : Nat} {fl : Int32} {C R : jM} (hrs : rs ≤ np) (hcn : cn ≤ k) (h : PS B e N T t A np nr cn fl C R) (hp : p < np) (hj : j < 3) :
    ∃ x y C' R' np' fl', fC C = some (x, C') ∧ fR R = some (y, R') ∧ f_X8_setInner T (nI p) (nI j) x C' = some (sC T p j x C') ∧ np ≤ np' ∧ PS B e N T t A np' nr cn fl' (sC T p j x C') (sR t p (2409 + j) y R') ∧ St T t p cn C R (sC T p j x C') (sR t p (2409 + j) y R') ∧
      (∀ kd, ND T t p kd j C R → ND T t p kd (j + 1) (sC T p j x C') (sR t p (2409 + j) y R')) ∧ (∀ j' i, j' < j → IN T t p j' i C R → IN T t p j' i (sC T p j x C') (sR t p (2409 + j) y R')) ∧
      (∀ lo hi d A' i, p < lo → hi ≤ np → Fin' T t lo hi C R ∧ tT C T ru nr rs d A' lo hi i → Fin' T t lo hi (sC T p j x C') (sR t p (2409 + j) y R') ∧ tT (sC T p j x C') T ru nr rs d A' lo hi i) ∧
      (fl' = 0 → fl = 0 ∧ ∃ i, np < np' ∧ IN T t p j i (sC T p j x C') (sR t p (2409 + j) y R') ∧ Fin' T t np np' (sC T p j x C') (sR t p (2409 + j) y R') ∧ tT (sC T p j x C') T ru nr rs (np' - np + rs) A np np' i) := by
  obtain ⟨x, y, C', R', np', fl', e1, e2, e3, e4, e5, e6⟩ := hL A np cn fl C R hrs hcn h
  have hT := e4.pt
  have h300 := e4.2.1
  have ha : 2409 + j = 2409 ∨ 2409 + j = 2410 ∨ 2409 + j = 2411 := by omega
  refine ⟨x, y, C', R', np', fl', e1, e2, set_c hT.1 hT.2.2.1 e4.2.2.2.2.1 h300 (by omega) hj x, e3, e4.nd sC_fr (sR_fr ha), ?_, fun kd hn => (hn.o e5 hp).set, fun j' i hj' hi => (hi.o e5 hp (by omega)).set (by omega), fun lo hi d A' i h1 h2 h3 => ⟨(h3.1.o e5 h2).set h1 hj, (h3.2.o e5.2.2.1 h2 (Nat.le_refl _) (Nat.le_refl _) (Nat.le_refl _)).set (.inl h1) hj⟩, fun z => ?_⟩
  · have e5' : St T t p cn C R C' R' := St.trans (a := p) (b := np) (cm := cn) St.refl e5 (by omega) (Nat.le_refl _)
    exact St.trans (b := p) (cm := cn) e5' (St.set hT.2.2.1 (Nat.le_refl _) (by omega) hj ha) (Nat.le_refl _) (Nat.le_refl _)
  · obtain ⟨z1, i, i1, i2, i3, i4, i5⟩ := e6 z
    subst i1
    subst i2
    have hi2 : i < np' := by
      unfold tT at i5
      obtain ⟨dd, hdd⟩ : ∃ dd, np' - np + rs = dd + 1 := ⟨np' - np + rs - 1, by omega⟩
      rw [hdd] at i5
      exact i5.2.1
    exact ⟨z1, i, i3, IN.new (by omega), i4.set (by omega) hj, i5.set (.inl (by omega)) hj⟩
