/-! PURE: the reference's tape, in tokens -/
noncomputable def tps (B : Nat → Int32) (e : Nat) : Nat → Nat
  | 0 => skB B e (e - 0) 0
  | q + 1 => skB B e (e - (tkv B e (tps B e q)).2.2.2) (tkv B e (tps B e q)).2.2.2
def Toks (B : Nat → Int32) (e N : Nat) (R : jM) : Prop := 1 ≤ N ∧ N ≤ 1601 ∧ (∀ q, q < N → entQ B e (tps B e q) q R ∧ jAI R 2405 q = nI (tps B e q)) ∧ (∀ q, q + 1 < N → (tkv B e (tps B e q)).1 ≠ 0 ∧ (tkv B e (tps B e q)).1 ≠ 1) ∧ (∀ q, q + 1 = N → (tkv B e (tps B e q)).1 = 0 ∨ (tkv B e (tps B e q)).1 = 1)
theorem skip_r {B : Nat → Int32} {R : jM} {e : Nat} (h : rOp B e R) (k24 : Nat → Int32 → Int32 → jM → Option jM) : ∀ n fuel i, i + n = e → n < fuel → f_X12_tokenize_36 k24 fuel 2398 (nI i) R = f_X12_tokenize_72 k24 2398 (nI (skB B e n i)) R := by
  have h3 := h.2.2.1
  intro n
  induction n with
  | zero =>
    intro fuel i h1 hf
    obtain ⟨f, rfl⟩ : ∃ f, fuel = f + 1 := ⟨fuel - 1, by omega⟩
    rw [f_X12_tokenize_36, if_pos k_2398, h.2.1, if_pos (by rw [nJ_le (by omega) (by omega)]; omega)]
    rfl
  | succ n ih =>
    intro fuel i h1 hf
    obtain ⟨f, rfl⟩ : ∃ f, fuel = f + 1 := ⟨fuel - 1, by omega⟩
    have hA : jA 2403 13 (nI i) = true := jA_n k_2403 (by rw [ln_2403]; omega) (by omega)
    have hs : skB B e (n + 1) i = if B i = 32 then skB B e n (i + 1) else if B i = 10 then skB B e n (i + 1) else i := by
      conv => lhs; unfold skB
      rw [if_pos (show i < e by omega)]
    rw [f_X12_tokenize_36, if_pos k_2398, h.2.1, if_neg (by rw [nJ_le (by omega) (by omega)]; omega), ly_93 h.1, obt, if_pos hA, obt, if_pos hA, nJ_cl (by omega), h.2.2.2 i (by omega), hs]
    unfold f_X12_tokenize_66
    rw [jlt, nJ_1 (by omega)]
    by_cases c1 : B i = 32
    · rw [if_pos c1, if_pos c1]; exact ih f (i + 1) (by omega) (by omega)
    · rw [if_neg c1, if_neg c1]
      by_cases c2 : B i = 10
      · rw [if_pos c2, if_pos c2]; exact ih f (i + 1) (by omega) (by omega)
      · rw [if_neg c2, if_neg c2]
theorem tm0 : tm 0 = 43 := by decide
theorem tm1 : tm 1 = 44 := by decide
theorem tm_0 {k : Int32} (h : k ∈ tks) : tm k = 43 ↔ k = 0 := ⟨fun z => tm_inj k h 0 (by decide) (z.trans tm0.symm), fun z => by rw [z]; exact tm0⟩
theorem tm_1 {k : Int32} (h : k ∈ tks) : tm k = 44 ↔ k = 1 := ⟨fun z => tm_inj k h 1 (by decide) (z.trans tm1.symm), fun z => by rw [z]; exact tm1⟩
def pT5 (t f a : Nat) : Prop := (t = 0 ∧ f = 99 ∧ a = 2398) ∨ (t = 3 ∧ 2404 ≤ a ∧ a ≤ 2407)
theorem pT5_Z {t f a : Nat} (h : pT5 t f a) : pTz t f a := by unfold pT5 at h; unfold pTz; omega
theorem pT3_5 {t f a : Nat} (h : pT3 t f a) : pT5 t f a := by unfold pT3 at h; unfold pT5; omega
theorem rOp.f5 {B : Nat → Int32} {e : Nat} {R R' : jM} (h : rOp B e R) (hF : Fr pT5 R R') : rOp B e R' := by
  refine ⟨h.1.frZ (hF.mono (fun _ _ _ => pT5_Z)), ?_, h.2.2.1, ?_⟩
  · rw [hF.i (by unfold pT5; omega)]; exact h.2.1
  · rw [hF.ai (by unfold pT5; omega)]; exact h.2.2.2
theorem tz_step {B : Nat → Int32} {e : Nat} (hB : ∀ j, ∃ m : Nat, m < 256 ∧ B j = nI m) {f i q : Nat} {v2 : Int32} {R : jM} (h : rOp B e R) (hq : jI R 99 2398 = nI q) (hie : i ≤ e) (hs : skB B e (e - i) i = tps B e q) (hq2 : q < 1602) (h43 : v2 ≠ 43) (h44 : v2 ≠ 44) : ∃ x R', f_X12_tokenize_24 (f + 1) 2398 (nI i) v2 R = f_X12_tokenize_24 f 2398 x (tm (tkv B e (tps B e q)).1) R' ∧ Fr pT5 R R' ∧ jI R' 99 2398 = nI (q + 1) ∧ entO R R' q ∧ entQ B e (tps B e q) q R' ∧ jAI R' 2405 q = nI (tps B e q) ∧ ((tkv B e (tps B e q)).1 ≠ 0 → (tkv B e (tps B e q)).1 ≠ 1 → x = nI (tkv B e (tps B e q)).2.2.2) := by
  have h3 := h.2.2.1
  obtain ⟨q1, q2, q3, q4, q5⟩ := qA hq2
  have hle := skB_le B e (e - i) i hie
  rw [hs] at hle
  have e0 := skip_r h (f_X12_tokenize_24 f) (e - i) 1100000 i (by omega) (by omega)
  rw [hs] at e0
  rw [f_X12_tokenize_24, if_neg h43, if_neg h44, e0]
  have hk := tkv_0 B e (tps B e q)
  generalize hp : tps B e q = p at *
  have hF1 : Fr pT5 R (jrI (jrL (jrI R 2405 (upd (jAI R 2405) q (nI p))) 2406 (vp_updL (jAL R 2406) q 0)) 2407 (upd (jAI R 2407) q 0)) := (((Fr.refl).rI (by unfold pT5; omega)).rL (by unfold pT5; omega)).rI (by unfold pT5; omega)
  have h1 := h.f5 hF1
  -- up to the token
  have e72 : f_X12_tokenize_72 (f_X12_tokenize_24 f) 2398 (nI p) R = if nI p = nI e then f_X12_tokenize_130 (f_X12_tokenize_24 f) 2398 (nI p) (jrI (jrI (jrL (jrI R 2405 (upd (jAI R 2405) q (nI p))) 2406 (vp_updL (jAL R 2406) q 0)) 2407 (upd (jAI R 2407) q 0)) 2404 (upd (jAI R 2404) q 43)) else jbd (f_X12_token 2398 (nI p) (jrI (jrL (jrI R 2405 (upd (jAI R 2405) q (nI p))) 2406 (vp_updL (jAL R 2406) q 0)) 2407 (upd (jAI R 2407) q 0))) (fun x23 S24 => f_X12_tokenize_130 (f_X12_tokenize_24 f) 2398 x23 S24) := by
    unfold f_X12_tokenize_72
    simp only [k_2398, ly_96 h.1, ly_97 h.1, ly_98 h.1, ly_95 h.1, hq, h.2.1, q1, q2, q3, q4, q5, m_I_sI, m_L_sI, m_R_sI, m_AI_sI, m_AL_sI, m_AD_sI, m_AR_sI, m_n_sI, m_I_sL, m_L_sL, m_R_sL, m_AI_sL, m_AL_sL, m_AD_sL, m_AR_sL, m_n_sL, m_I_sR, m_L_sR, m_R_sR, m_AI_sR, m_AL_sR, m_AD_sR, m_AR_sR, m_n_sR, m_I_rI, m_L_rI, m_R_rI, m_AI_rI, m_AL_rI, m_AD_rI, m_AR_rI, m_n_rI, m_I_rL, m_L_rL, m_R_rL, m_AI_rL, m_AL_rL, m_AD_rL, m_AR_rL, m_n_rL, m_I_rD, m_L_rD, m_R_rD, m_AI_rD, m_AL_rD, m_AD_rD, m_AR_rD, m_n_rD, m_I_rR, m_L_rR, m_R_rR, m_AI_rR, m_AL_rR, m_AD_rR, m_AR_rR, m_n_rR, true_and, and_true, and_false, false_and, and_self, if_true, if_false, ite_self, Nat.reduceEqDiff, reduceIte, obt, jlt, jbt, jbd_ite, bind_ite]
  have e130 : ∀ (x : Int32) (S : jM), Lay S → jI S 99 2398 = nI q → f_X12_tokenize_130 (f_X12_tokenize_24 f) 2398 x S = f_X12_tokenize_24 f 2398 x (jAI S 2404 q) (jsI S 99 2398 (nI (q + 1))) := by
    intro x S hS hSq
    unfold f_X12_tokenize_130
    simp only [k_2398, ly_95 hS, hSq, q1, q5, nJ_1 (show q + 1 < 2147483648 by omega), true_and, and_true, and_false, false_and, and_self, if_true, if_false, ite_self, Nat.reduceEqDiff, reduceIte, obt, jlt, jbt, jbd_ite, bind_ite]
  rw [e72]
  by_cases c : p < e
  · rw [if_neg (fun z => by rw [i_eq, nI_toInt (by omega), nI_toInt (by omega)] at z; omega)]
    obtain ⟨x, R2, t1, t2, t3, t4, t5⟩ := token_r h1 (q := q) (p := p) (by simp only [m_I_sI, m_L_sI, m_R_sI, m_AI_sI, m_AL_sI, m_AD_sI, m_AR_sI, m_n_sI, m_I_sL, m_L_sL, m_R_sL, m_AI_sL, m_AL_sL, m_AD_sL, m_AR_sL, m_n_sL, m_I_sR, m_L_sR, m_R_sR, m_AI_sR, m_AL_sR, m_AD_sR, m_AR_sR, m_n_sR, m_I_rI, m_L_rI, m_R_rI, m_AI_rI, m_AL_rI, m_AD_rI, m_AR_rI, m_n_rI, m_I_rL, m_L_rL, m_R_rL, m_AI_rL, m_AL_rL, m_AD_rL, m_AR_rL, m_n_rL, m_I_rD, m_L_rD, m_R_rD, m_AI_rD, m_AL_rD, m_AD_rD, m_AR_rD, m_n_rD, m_I_rR, m_L_rR, m_R_rR, m_AI_rR, m_AL_rR, m_AD_rR, m_AR_rR, m_n_rR]; exact hq) hq2 c (hB p)
    have hF2 : Fr pT5 R R2 := hF1.trans (t2.mono (fun _ _ _ => pT3_5))
    have h2 := h.f5 hF2
    have q99 : jI R2 99 2398 = nI q := by rw [t2.i (by unfold pT3; omega)]; simp only [m_I_sI, m_L_sI, m_R_sI, m_AI_sI, m_AL_sI, m_AD_sI, m_AR_sI, m_n_sI, m_I_sL, m_L_sL, m_R_sL, m_AI_sL, m_AL_sL, m_AD_sL, m_AR_sL, m_n_sL, m_I_sR, m_L_sR, m_R_sR, m_AI_sR, m_AL_sR, m_AD_sR, m_AR_sR, m_n_sR, m_I_rI, m_L_rI, m_R_rI, m_AI_rI, m_AL_rI, m_AD_rI, m_AR_rI, m_n_rI, m_I_rL, m_L_rL, m_R_rL, m_AI_rL, m_AL_rL, m_AD_rL, m_AR_rL, m_n_rL, m_I_rD, m_L_rD, m_R_rD, m_AI_rD, m_AL_rD, m_AD_rD, m_AR_rD, m_n_rD, m_I_rR, m_L_rR, m_R_rR, m_AI_rR, m_AL_rR, m_AD_rR, m_AR_rR, m_n_rR]; exact hq
    rw [t1, jbt, e130 x R2 h2.1 q99, t4.1]
    refine ⟨x, _, rfl, hF2.trans ((Fr.refl).sI (by unfold pT5; omega)), by simp only [m_I_sI, m_L_sI, m_R_sI, m_AI_sI, m_AL_sI, m_AD_sI, m_AR_sI, m_n_sI, m_I_sL, m_L_sL, m_R_sL, m_AI_sL, m_AL_sL, m_AD_sL, m_AR_sL, m_n_sL, m_I_sR, m_L_sR, m_R_sR, m_AI_sR, m_AL_sR, m_AD_sR, m_AR_sR, m_n_sR, m_I_rI, m_L_rI, m_R_rI, m_AI_rI, m_AL_rI, m_AD_rI, m_AR_rI, m_n_rI, m_I_rL, m_L_rL, m_R_rL, m_AI_rL, m_AL_rL, m_AD_rL, m_AR_rL, m_n_rL, m_I_rD, m_L_rD, m_R_rD, m_AI_rD, m_AL_rD, m_AD_rD, m_AR_rD, m_n_rD, m_I_rR, m_L_rR, m_R_rR, m_AI_rR, m_AL_rR, m_AD_rR, m_AR_rR, m_n_rR, true_and, and_true, and_false, false_and, and_self, if_true, if_false, ite_self, Nat.reduceEqDiff, reduceIte, obt, jlt, jbt, jbd_ite, bind_ite], fun z hz => ?_, t4, ?_, fun _ z => t5 z⟩
    · obtain ⟨a1, a2, a3, a4⟩ := t3 z hz
      simp only [m_I_sI, m_L_sI, m_R_sI, m_AI_sI, m_AL_sI, m_AD_sI, m_AR_sI, m_n_sI, m_I_sL, m_L_sL, m_R_sL, m_AI_sL, m_AL_sL, m_AD_sL, m_AR_sL, m_n_sL, m_I_sR, m_L_sR, m_R_sR, m_AI_sR, m_AL_sR, m_AD_sR, m_AR_sR, m_n_sR, m_I_rI, m_L_rI, m_R_rI, m_AI_rI, m_AL_rI, m_AD_rI, m_AR_rI, m_n_rI, m_I_rL, m_L_rL, m_R_rL, m_AI_rL, m_AL_rL, m_AD_rL, m_AR_rL, m_n_rL, m_I_rD, m_L_rD, m_R_rD, m_AI_rD, m_AL_rD, m_AD_rD, m_AR_rD, m_n_rD, m_I_rR, m_L_rR, m_R_rR, m_AI_rR, m_AL_rR, m_AD_rR, m_AR_rR, m_n_rR, true_and, and_true, and_false, false_and, and_self, if_true, if_false, ite_self, Nat.reduceEqDiff, reduceIte, obt, jlt, jbt, jbd_ite, bind_ite] at a1 a2 a3 a4 ⊢
      rw [a1, a2, a3, a4]
      simp only [upd_if, updL_if, if_neg hz, true_and, and_true, and_false, false_and, and_self, if_true, if_false, ite_self, Nat.reduceEqDiff, reduceIte, obt, jlt, jbt, jbd_ite, bind_ite]
    · show jAI R2 2405 q = nI p
      rw [t2.ai (by unfold pT3; omega)]
      simp only [m_I_sI, m_L_sI, m_R_sI, m_AI_sI, m_AL_sI, m_AD_sI, m_AR_sI, m_n_sI, m_I_sL, m_L_sL, m_R_sL, m_AI_sL, m_AL_sL, m_AD_sL, m_AR_sL, m_n_sL, m_I_sR, m_L_sR, m_R_sR, m_AI_sR, m_AL_sR, m_AD_sR, m_AR_sR, m_n_sR, m_I_rI, m_L_rI, m_R_rI, m_AI_rI, m_AL_rI, m_AD_rI, m_AR_rI, m_n_rI, m_I_rL, m_L_rL, m_R_rL, m_AI_rL, m_AL_rL, m_AD_rL, m_AR_rL, m_n_rL, m_I_rD, m_L_rD, m_R_rD, m_AI_rD, m_AL_rD, m_AD_rD, m_AR_rD, m_n_rD, m_I_rR, m_L_rR, m_R_rR, m_AI_rR, m_AL_rR, m_AD_rR, m_AR_rR, m_n_rR, upd_if, true_and, and_true, and_false, false_and, and_self, if_true, if_false, ite_self, Nat.reduceEqDiff, reduceIte, obt, jlt, jbt, jbd_ite, bind_ite]
  · have hpe : p = e := by omega
    rw [if_pos (by rw [hpe])]
    have k0 : (tkv B e p).1 = 0 := hk.mpr (by omega)
    have hF2 : Fr pT5 R (jrI (jrI (jrL (jrI R 2405 (upd (jAI R 2405) q (nI p))) 2406 (vp_updL (jAL R 2406) q 0)) 2407 (upd (jAI R 2407) q 0)) 2404 (upd (jAI R 2404) q 43)) := hF1.rI (by unfold pT5; omega)
    have h2 := h.f5 hF2
    rw [e130 _ _ h2.1 (by simp only [m_I_sI, m_L_sI, m_R_sI, m_AI_sI, m_AL_sI, m_AD_sI, m_AR_sI, m_n_sI, m_I_sL, m_L_sL, m_R_sL, m_AI_sL, m_AL_sL, m_AD_sL, m_AR_sL, m_n_sL, m_I_sR, m_L_sR, m_R_sR, m_AI_sR, m_AL_sR, m_AD_sR, m_AR_sR, m_n_sR, m_I_rI, m_L_rI, m_R_rI, m_AI_rI, m_AL_rI, m_AD_rI, m_AR_rI, m_n_rI, m_I_rL, m_L_rL, m_R_rL, m_AI_rL, m_AL_rL, m_AD_rL, m_AR_rL, m_n_rL, m_I_rD, m_L_rD, m_R_rD, m_AI_rD, m_AL_rD, m_AD_rD, m_AR_rD, m_n_rD, m_I_rR, m_L_rR, m_R_rR, m_AI_rR, m_AL_rR, m_AD_rR, m_AR_rR, m_n_rR]; exact hq)]
    refine ⟨nI p, jsI (jrI (jrI (jrL (jrI R 2405 (upd (jAI R 2405) q (nI p))) 2406 (vp_updL (jAL R 2406) q 0)) 2407 (upd (jAI R 2407) q 0)) 2404 (upd (jAI R 2404) q 43)) 99 2398 (nI (q + 1)), ?_, hF2.trans ((Fr.refl).sI (by unfold pT5; omega)), by simp only [m_I_sI, m_L_sI, m_R_sI, m_AI_sI, m_AL_sI, m_AD_sI, m_AR_sI, m_n_sI, m_I_sL, m_L_sL, m_R_sL, m_AI_sL, m_AL_sL, m_AD_sL, m_AR_sL, m_n_sL, m_I_sR, m_L_sR, m_R_sR, m_AI_sR, m_AL_sR, m_AD_sR, m_AR_sR, m_n_sR, m_I_rI, m_L_rI, m_R_rI, m_AI_rI, m_AL_rI, m_AD_rI, m_AR_rI, m_n_rI, m_I_rL, m_L_rL, m_R_rL, m_AI_rL, m_AL_rL, m_AD_rL, m_AR_rL, m_n_rL, m_I_rD, m_L_rD, m_R_rD, m_AI_rD, m_AL_rD, m_AD_rD, m_AR_rD, m_n_rD, m_I_rR, m_L_rR, m_R_rR, m_AI_rR, m_AL_rR, m_AD_rR, m_AR_rR, m_n_rR, true_and, and_true, and_false, false_and, and_self, if_true, if_false, ite_self, Nat.reduceEqDiff, reduceIte, obt, jlt, jbt, jbd_ite, bind_ite], fun z hz => ?_, ?_, ?_, fun z => absurd k0 z⟩
    · rw [k0, tm0]
      simp only [m_I_sI, m_L_sI, m_R_sI, m_AI_sI, m_AL_sI, m_AD_sI, m_AR_sI, m_n_sI, m_I_sL, m_L_sL, m_R_sL, m_AI_sL, m_AL_sL, m_AD_sL, m_AR_sL, m_n_sL, m_I_sR, m_L_sR, m_R_sR, m_AI_sR, m_AL_sR, m_AD_sR, m_AR_sR, m_n_sR, m_I_rI, m_L_rI, m_R_rI, m_AI_rI, m_AL_rI, m_AD_rI, m_AR_rI, m_n_rI, m_I_rL, m_L_rL, m_R_rL, m_AI_rL, m_AL_rL, m_AD_rL, m_AR_rL, m_n_rL, m_I_rD, m_L_rD, m_R_rD, m_AI_rD, m_AL_rD, m_AD_rD, m_AR_rD, m_n_rD, m_I_rR, m_L_rR, m_R_rR, m_AI_rR, m_AL_rR, m_AD_rR, m_AR_rR, m_n_rR, upd_if, true_and, and_true, and_false, false_and, and_self, if_true, if_false, ite_self, Nat.reduceEqDiff, reduceIte, obt, jlt, jbt, jbd_ite, bind_ite]
    · simp only [m_I_sI, m_L_sI, m_R_sI, m_AI_sI, m_AL_sI, m_AD_sI, m_AR_sI, m_n_sI, m_I_sL, m_L_sL, m_R_sL, m_AI_sL, m_AL_sL, m_AD_sL, m_AR_sL, m_n_sL, m_I_sR, m_L_sR, m_R_sR, m_AI_sR, m_AL_sR, m_AD_sR, m_AR_sR, m_n_sR, m_I_rI, m_L_rI, m_R_rI, m_AI_rI, m_AL_rI, m_AD_rI, m_AR_rI, m_n_rI, m_I_rL, m_L_rL, m_R_rL, m_AI_rL, m_AL_rL, m_AD_rL, m_AR_rL, m_n_rL, m_I_rD, m_L_rD, m_R_rD, m_AI_rD, m_AL_rD, m_AD_rD, m_AR_rD, m_n_rD, m_I_rR, m_L_rR, m_R_rR, m_AI_rR, m_AL_rR, m_AD_rR, m_AR_rR, m_n_rR, upd_if, updL_if, if_neg hz, true_and, and_true, and_false, false_and, and_self, if_true, if_false, ite_self, Nat.reduceEqDiff, reduceIte, obt, jlt, jbt, jbd_ite, bind_ite]
    · unfold entQ
      rw [k0]
      refine ⟨?_, fun z => absurd z (by decide), fun z => absurd z (by decide)⟩
      simp only [m_I_sI, m_L_sI, m_R_sI, m_AI_sI, m_AL_sI, m_AD_sI, m_AR_sI, m_n_sI, m_I_sL, m_L_sL, m_R_sL, m_AI_sL, m_AL_sL, m_AD_sL, m_AR_sL, m_n_sL, m_I_sR, m_L_sR, m_R_sR, m_AI_sR, m_AL_sR, m_AD_sR, m_AR_sR, m_n_sR, m_I_rI, m_L_rI, m_R_rI, m_AI_rI, m_AL_rI, m_AD_rI, m_AR_rI, m_n_rI, m_I_rL, m_L_rL, m_R_rL, m_AI_rL, m_AL_rL, m_AD_rL, m_AR_rL, m_n_rL, m_I_rD, m_L_rD, m_R_rD, m_AI_rD, m_AL_rD, m_AD_rD, m_AR_rD, m_n_rD, m_I_rR, m_L_rR, m_R_rR, m_AI_rR, m_AL_rR, m_AD_rR, m_AR_rR, m_n_rR, upd_if, true_and, and_true, and_false, false_and, and_self, if_true, if_false, ite_self, Nat.reduceEqDiff, reduceIte, obt, jlt, jbt, jbd_ite, bind_ite]
      exact tm0.symm
    · simp only [m_I_sI, m_L_sI, m_R_sI, m_AI_sI, m_AL_sI, m_AD_sI, m_AR_sI, m_n_sI, m_I_sL, m_L_sL, m_R_sL, m_AI_sL, m_AL_sL, m_AD_sL, m_AR_sL, m_n_sL, m_I_sR, m_L_sR, m_R_sR, m_AI_sR, m_AL_sR, m_AD_sR, m_AR_sR, m_n_sR, m_I_rI, m_L_rI, m_R_rI, m_AI_rI, m_AL_rI, m_AD_rI, m_AR_rI, m_n_rI, m_I_rL, m_L_rL, m_R_rL, m_AI_rL, m_AL_rL, m_AD_rL, m_AR_rL, m_n_rL, m_I_rD, m_L_rD, m_R_rD, m_AI_rD, m_AL_rD, m_AD_rD, m_AR_rD, m_n_rD, m_I_rR, m_L_rR, m_R_rR, m_AI_rR, m_AL_rR, m_AD_rR, m_AR_rR, m_n_rR, upd_if, true_and, and_true, and_false, false_and, and_self, if_true, if_false, ite_self, Nat.reduceEqDiff, reduceIte, obt, jlt, jbt, jbd_ite, bind_ite]
theorem tz_loop {B : Nat → Int32} {e : Nat} (hB : ∀ j, ∃ m : Nat, m < 256 ∧ B j = nI m) : ∀ n fuel i q v2 R, rOp B e R → jI R 99 2398 = nI q → i ≤ e → skB B e (e - i) i = tps B e q → q ≤ tps B e q → e - tps B e q ≤ n → n + 2 < fuel → v2 ≠ 43 → v2 ≠ 44 → (∀ z, z < q → entQ B e (tps B e z) z R ∧ jAI R 2405 z = nI (tps B e z)) → (∀ z, z < q → (tkv B e (tps B e z)).1 ≠ 0 ∧ (tkv B e (tps B e z)).1 ≠ 1) → ∃ N R', f_X12_tokenize_24 fuel 2398 (nI i) v2 R = some R' ∧ Fr pTz R R' ∧ Toks B e N R' ∧ jI R' 94 2398 = 0 ∧ jI R' 100 2398 = jI R 100 2398 ∧ jI R' 101 2398 = jI R 101 2398 ∧ jI R' 102 2398 = jI R 102 2398 := by
  intro n
  induction n with
  | zero => ?_
  | succ n ih => ?_
  all_goals
    intro fuel i q v2 R h hq hie hs hqp hn hf h43 h44 hE hK
    obtain ⟨f, rfl⟩ : ∃ f, fuel = (f + 1) + 1 := ⟨fuel - 2, by omega⟩
    have h3 := h.2.2.1
    have hle := skB_le B e (e - i) i hie
    rw [hs] at hle
    obtain ⟨x, R1, s1, s2, s3, s4, s5, s6, s7⟩ := tz_step (f := f + 1) hB h hq hie hs (by omega) h43 h44
    have hR1 := h.f5 s2
    have hin := tkv_in B e (tps B e q)
    have hE1 : ∀ z, z < q + 1 → entQ B e (tps B e z) z R1 ∧ jAI R1 2405 z = nI (tps B e z) := by
      intro z hz
      by_cases c : z = q
      · rw [c]; exact ⟨s5, s6⟩
      · obtain ⟨a1, a2, a3, a4⟩ := s4 z c
        have b := hE z (by omega)
        unfold entQ at b ⊢
        rw [a1, a2, a3, a4]
        exact b
    rw [s1]
    by_cases c01 : (tkv B e (tps B e q)).1 = 0 ∨ (tkv B e (tps B e q)).1 = 1
    · have hend : f_X12_tokenize_24 (f + 1) 2398 x (tm (tkv B e (tps B e q)).1) R1 = some (jsI R1 94 2398 0) := by
        rw [f_X12_tokenize_24]
        unfold f_X12_tokenize_153
        rw [if_pos k_2398, jlt]
        rcases c01 with c | c
        · rw [c, tm0, if_pos rfl]
        · rw [c, tm1, if_neg (by decide), if_pos rfl]
      refine ⟨q + 1, _, hend, (s2.mono (fun _ _ _ => pT5_Z)).trans ((Fr.refl).sI (by unfold pTz; omega)), ⟨by omega, by omega, fun z hz => hE1 z hz, fun z hz => hK z (by omega), fun z hz => by rw [show z = q by omega]; exact c01⟩, by simp only [m_I_sI, m_L_sI, m_R_sI, m_AI_sI, m_AL_sI, m_AD_sI, m_AR_sI, m_n_sI, m_I_sL, m_L_sL, m_R_sL, m_AI_sL, m_AL_sL, m_AD_sL, m_AR_sL, m_n_sL, m_I_sR, m_L_sR, m_R_sR, m_AI_sR, m_AL_sR, m_AD_sR, m_AR_sR, m_n_sR, m_I_rI, m_L_rI, m_R_rI, m_AI_rI, m_AL_rI, m_AD_rI, m_AR_rI, m_n_rI, m_I_rL, m_L_rL, m_R_rL, m_AI_rL, m_AL_rL, m_AD_rL, m_AR_rL, m_n_rL, m_I_rD, m_L_rD, m_R_rD, m_AI_rD, m_AL_rD, m_AD_rD, m_AR_rD, m_n_rD, m_I_rR, m_L_rR, m_R_rR, m_AI_rR, m_AL_rR, m_AD_rR, m_AR_rR, m_n_rR, true_and, and_true, and_false, false_and, and_self, if_true, if_false, ite_self, Nat.reduceEqDiff, reduceIte, obt, jlt, jbt, jbd_ite, bind_ite], ?_, ?_, ?_⟩
      · simp only [m_I_sI, m_L_sI, m_R_sI, m_AI_sI, m_AL_sI, m_AD_sI, m_AR_sI, m_n_sI, m_I_sL, m_L_sL, m_R_sL, m_AI_sL, m_AL_sL, m_AD_sL, m_AR_sL, m_n_sL, m_I_sR, m_L_sR, m_R_sR, m_AI_sR, m_AL_sR, m_AD_sR, m_AR_sR, m_n_sR, m_I_rI, m_L_rI, m_R_rI, m_AI_rI, m_AL_rI, m_AD_rI, m_AR_rI, m_n_rI, m_I_rL, m_L_rL, m_R_rL, m_AI_rL, m_AL_rL, m_AD_rL, m_AR_rL, m_n_rL, m_I_rD, m_L_rD, m_R_rD, m_AI_rD, m_AL_rD, m_AD_rD, m_AR_rD, m_n_rD, m_I_rR, m_L_rR, m_R_rR, m_AI_rR, m_AL_rR, m_AD_rR, m_AR_rR, m_n_rR, true_and, and_true, and_false, false_and, and_self, if_true, if_false, ite_self, Nat.reduceEqDiff, reduceIte, obt, jlt, jbt, jbd_ite, bind_ite]; exact s2.i (by unfold pT5; omega)
      · simp only [m_I_sI, m_L_sI, m_R_sI, m_AI_sI, m_AL_sI, m_AD_sI, m_AR_sI, m_n_sI, m_I_sL, m_L_sL, m_R_sL, m_AI_sL, m_AL_sL, m_AD_sL, m_AR_sL, m_n_sL, m_I_sR, m_L_sR, m_R_sR, m_AI_sR, m_AL_sR, m_AD_sR, m_AR_sR, m_n_sR, m_I_rI, m_L_rI, m_R_rI, m_AI_rI, m_AL_rI, m_AD_rI, m_AR_rI, m_n_rI, m_I_rL, m_L_rL, m_R_rL, m_AI_rL, m_AL_rL, m_AD_rL, m_AR_rL, m_n_rL, m_I_rD, m_L_rD, m_R_rD, m_AI_rD, m_AL_rD, m_AD_rD, m_AR_rD, m_n_rD, m_I_rR, m_L_rR, m_R_rR, m_AI_rR, m_AL_rR, m_AD_rR, m_AR_rR, m_n_rR, true_and, and_true, and_false, false_and, and_self, if_true, if_false, ite_self, Nat.reduceEqDiff, reduceIte, obt, jlt, jbt, jbd_ite, bind_ite]; exact s2.i (by unfold pT5; omega)
      · simp only [m_I_sI, m_L_sI, m_R_sI, m_AI_sI, m_AL_sI, m_AD_sI, m_AR_sI, m_n_sI, m_I_sL, m_L_sL, m_R_sL, m_AI_sL, m_AL_sL, m_AD_sL, m_AR_sL, m_n_sL, m_I_sR, m_L_sR, m_R_sR, m_AI_sR, m_AL_sR, m_AD_sR, m_AR_sR, m_n_sR, m_I_rI, m_L_rI, m_R_rI, m_AI_rI, m_AL_rI, m_AD_rI, m_AR_rI, m_n_rI, m_I_rL, m_L_rL, m_R_rL, m_AI_rL, m_AL_rL, m_AD_rL, m_AR_rL, m_n_rL, m_I_rD, m_L_rD, m_R_rD, m_AI_rD, m_AL_rD, m_AD_rD, m_AR_rD, m_n_rD, m_I_rR, m_L_rR, m_R_rR, m_AI_rR, m_AL_rR, m_AD_rR, m_AR_rR, m_n_rR, true_and, and_true, and_false, false_and, and_self, if_true, if_false, ite_self, Nat.reduceEqDiff, reduceIte, obt, jlt, jbt, jbd_ite, bind_ite]; exact s2.i (by unfold pT5; omega)
    · have k0 : (tkv B e (tps B e q)).1 ≠ 0 := fun z => c01 (.inl z)
      have k1 : (tkv B e (tps B e q)).1 ≠ 1 := fun z => c01 (.inr z)
      have hpe : tps B e q < e := by
        have := tkv_0 B e (tps B e q)
        exact Nat.lt_of_not_le (fun z => k0 (this.mpr z))
      have ha := tkv_a (B := B) hpe
      have hnx : skB B e (e - (tkv B e (tps B e q)).2.2.2) (tkv B e (tps B e q)).2.2.2 = tps B e (q + 1) := rfl
      have hl2 := skB_le B e (e - (tkv B e (tps B e q)).2.2.2) (tkv B e (tps B e q)).2.2.2 ha.2
      rw [hnx] at hl2
      first
        | (exfalso; omega)
        | (rw [s7 k0 k1]
           obtain ⟨N, R', y1, y2, y3, y4, y5, y6, y7⟩ := ih (f + 1) _ (q + 1) (tm (tkv B e (tps B e q)).1) R1 hR1 s3 ha.2 hnx (by omega) (by omega) (by omega) (fun z => k0 ((tm_0 hin).mp z)) (fun z => k1 ((tm_1 hin).mp z)) hE1 (fun z hz => by
             by_cases c : z = q
             · rw [c]; exact ⟨k0, k1⟩
             · exact hK z (by omega))
           refine ⟨N, R', y1, (s2.mono (fun _ _ _ => pT5_Z)).trans y2, y3, y4, ?_, ?_, ?_⟩
           · rw [y5]; exact s2.i (by unfold pT5; omega)
           · rw [y6]; exact s2.i (by unfold pT5; omega)
           · rw [y7]; exact s2.i (by unfold pT5; omega))
theorem tokenize_ok {B : Nat → Int32} {e : Nat} (hB : ∀ j, ∃ m : Nat, m < 256 ∧ B j = nI m) {R : jM} (h : rOp B e R) : ∃ N R', f_X12_tokenize 2398 R = some R' ∧ Fr pTz R R' ∧ Toks B e N R' ∧ jI R' 94 2398 = 0 ∧ jI R' 100 2398 = 0 ∧ jI R' 101 2398 = 0 ∧ jI R' 102 2398 = 0 := by
  have hF : Fr pTz R (jsI (jsI (jsI (jsI R 99 2398 0) 100 2398 0) 101 2398 0) 102 2398 0) := ((((Fr.refl).sI (by unfold pTz; omega)).sI (by unfold pTz; omega)).sI (by unfold pTz; omega)).sI (by unfold pTz; omega)
  have h3 := h.2.2.1
  have h1 : rOp B e (jsI (jsI (jsI (jsI R 99 2398 0) 100 2398 0) 101 2398 0) 102 2398 0) := ⟨h.1.frZ hF, by simp only [m_I_sI, m_L_sI, m_R_sI, m_AI_sI, m_AL_sI, m_AD_sI, m_AR_sI, m_n_sI, m_I_sL, m_L_sL, m_R_sL, m_AI_sL, m_AL_sL, m_AD_sL, m_AR_sL, m_n_sL, m_I_sR, m_L_sR, m_R_sR, m_AI_sR, m_AL_sR, m_AD_sR, m_AR_sR, m_n_sR, m_I_rI, m_L_rI, m_R_rI, m_AI_rI, m_AL_rI, m_AD_rI, m_AR_rI, m_n_rI, m_I_rL, m_L_rL, m_R_rL, m_AI_rL, m_AL_rL, m_AD_rL, m_AR_rL, m_n_rL, m_I_rD, m_L_rD, m_R_rD, m_AI_rD, m_AL_rD, m_AD_rD, m_AR_rD, m_n_rD, m_I_rR, m_L_rR, m_R_rR, m_AI_rR, m_AL_rR, m_AD_rR, m_AR_rR, m_n_rR, true_and, and_true, and_false, false_and, and_self, if_true, if_false, ite_self, Nat.reduceEqDiff, reduceIte, obt, jlt, jbt, jbd_ite, bind_ite]; exact h.2.1, h3, by simp only [m_I_sI, m_L_sI, m_R_sI, m_AI_sI, m_AL_sI, m_AD_sI, m_AR_sI, m_n_sI, m_I_sL, m_L_sL, m_R_sL, m_AI_sL, m_AL_sL, m_AD_sL, m_AR_sL, m_n_sL, m_I_sR, m_L_sR, m_R_sR, m_AI_sR, m_AL_sR, m_AD_sR, m_AR_sR, m_n_sR, m_I_rI, m_L_rI, m_R_rI, m_AI_rI, m_AL_rI, m_AD_rI, m_AR_rI, m_n_rI, m_I_rL, m_L_rL, m_R_rL, m_AI_rL, m_AL_rL, m_AD_rL, m_AR_rL, m_n_rL, m_I_rD, m_L_rD, m_R_rD, m_AI_rD, m_AL_rD, m_AD_rD, m_AR_rD, m_n_rD, m_I_rR, m_L_rR, m_R_rR, m_AI_rR, m_AL_rR, m_AD_rR, m_AR_rR, m_n_rR]; exact h.2.2.2⟩
  obtain ⟨N, R', y1, y2, y3, y4, y5, y6, y7⟩ := tz_loop hB e 1100000 0 0 0 _ h1 (by simp only [m_I_sI, m_L_sI, m_R_sI, m_AI_sI, m_AL_sI, m_AD_sI, m_AR_sI, m_n_sI, m_I_sL, m_L_sL, m_R_sL, m_AI_sL, m_AL_sL, m_AD_sL, m_AR_sL, m_n_sL, m_I_sR, m_L_sR, m_R_sR, m_AI_sR, m_AL_sR, m_AD_sR, m_AR_sR, m_n_sR, m_I_rI, m_L_rI, m_R_rI, m_AI_rI, m_AL_rI, m_AD_rI, m_AR_rI, m_n_rI, m_I_rL, m_L_rL, m_R_rL, m_AI_rL, m_AL_rL, m_AD_rL, m_AR_rL, m_n_rL, m_I_rD, m_L_rD, m_R_rD, m_AI_rD, m_AL_rD, m_AD_rD, m_AR_rD, m_n_rD, m_I_rR, m_L_rR, m_R_rR, m_AI_rR, m_AL_rR, m_AD_rR, m_AR_rR, m_n_rR, true_and, and_true, and_false, false_and, and_self, if_true, if_false, ite_self, Nat.reduceEqDiff, reduceIte, obt, jlt, jbt, jbd_ite, bind_ite]; rfl) (by omega) rfl (by omega) (by omega) (by omega) (by decide) (by decide) (fun z hz => by omega) (fun z hz => by omega)
  simp only [m_I_sI, m_L_sI, m_R_sI, m_AI_sI, m_AL_sI, m_AD_sI, m_AR_sI, m_n_sI, m_I_sL, m_L_sL, m_R_sL, m_AI_sL, m_AL_sL, m_AD_sL, m_AR_sL, m_n_sL, m_I_sR, m_L_sR, m_R_sR, m_AI_sR, m_AL_sR, m_AD_sR, m_AR_sR, m_n_sR, m_I_rI, m_L_rI, m_R_rI, m_AI_rI, m_AL_rI, m_AD_rI, m_AR_rI, m_n_rI, m_I_rL, m_L_rL, m_R_rL, m_AI_rL, m_AL_rL, m_AD_rL, m_AR_rL, m_n_rL, m_I_rD, m_L_rD, m_R_rD, m_AI_rD, m_AL_rD, m_AD_rD, m_AR_rD, m_n_rD, m_I_rR, m_L_rR, m_R_rR, m_AI_rR, m_AL_rR, m_AD_rR, m_AR_rR, m_n_rR, true_and, and_true, and_false, false_and, and_self, if_true, if_false, ite_self, Nat.reduceEqDiff, reduceIte, obt, jlt, jbt, jbd_ite, bind_ite] at y5 y6 y7
  refine ⟨N, R', ?_, hF.trans y2, y3, y4, y5, y6, y7⟩
  unfold f_X12_tokenize
  rw [if_pos k_2398, jlt, jlt, jlt, jlt]
  exact y1
