/-! PURE: the reference's tokens: one, and all of them -/
def pT3 (t f a : Nat) : Prop := t = 3 ∧ f = f ∧ (a = 2404 ∨ a = 2406 ∨ a = 2407)
theorem pT3_Z {t f a : Nat} (h : pT3 t f a) : pTz t f a := by unfold pT3 at h; unfold pTz; omega
theorem rOp.f3 {B : Nat → Int32} {e : Nat} {R R' : jM} (h : rOp B e R) (hF : Fr pT3 R R') : rOp B e R' := by
  refine ⟨h.1.frZ (hF.mono (fun _ _ _ => pT3_Z)), ?_, h.2.2.1, ?_⟩
  · rw [hF.i (by unfold pT3; omega)]; exact h.2.1
  · rw [hF.ai (by unfold pT3; omega)]; exact h.2.2.2
def entO (R R' : jM) (q : Nat) : Prop := ∀ z, z ≠ q → jAI R' 2404 z = jAI R 2404 z ∧ jAI R' 2405 z = jAI R 2405 z ∧ jAL R' 2406 z = jAL R 2406 z ∧ jAI R' 2407 z = jAI R 2407 z
def entQ (B : Nat → Int32) (e p q : Nat) (R : jM) : Prop := jAI R 2404 q = tm (tkv B e p).1 ∧ ((tkv B e p).1 = 2 ∨ (tkv B e p).1 = 3 ∨ (tkv B e p).1 = 4 → jAL R 2406 q = (tkv B e p).2.1) ∧ ((tkv B e p).1 = 4 → jAI R 2407 q = nI (tkv B e p).2.2.1)
theorem qA {q : Nat} (h : q < 1602) : jA 2404 13 (nI q) = true ∧ jA 2405 13 (nI q) = true ∧ jA 2406 14 (nI q) = true ∧ jA 2407 13 (nI q) = true ∧ (nI q).toNatClampNeg = q :=
  ⟨jA_n k_2404 (by rw [ln_2404]; omega) (by omega), jA_n k_2405 (by rw [ln_2405]; omega) (by omega), jA_n k_2406 (by rw [ln_2406]; omega) (by omega), jA_n k_2407 (by rw [ln_2407]; omega) (by omega), nJ_cl (by omega)⟩
def nmE (R : jM) (q : Nat) (s : Int32) (k : Int32) (w : Int64) : jM := jrL (jrI (jrI R 2407 (upd (jAI R 2407) q s)) 2404 (upd (jAI R 2404) q k)) 2406 (vp_updL (jAL R 2406) q w)
theorem num2_r {B : Nat → Int32} {R : jM} {e g j q : Nat} (h : rOp B e R) (hg : g ≤ 1600) (hq : jI R 99 2398 = nI q) (hq2 : q < 1602) : ∀ n fuel i v v', i + n = e → j + 1 ≤ i → n < fuel → (g ≤ 9 → i - (j + 1) ≤ 6 → v = v') → ∃ w, (g ≤ 9 → (diB B e n i v').1 - (j + 1) ≤ 6 → w = (diB B e n i v').2) ∧ f_X12_number_108 fuel 2398 (nI i) v (nI g) (nI j) R = some (nI (diB B e n i v').1, nmE R q (nI ((diB B e n i v').1 - j - 1)) (if 9 < g then 44 else if (diB B e n i v').1 - j ≤ 7 then 42 else 44) w) := by
  have h3 := h.2.2.1
  obtain ⟨q1, q2, q3, q4, q5⟩ := qA hq2
  have ends : ∀ (f i : Nat) (v : Int64), j + 1 ≤ i → i ≤ 1600 → (∃ x, f_X12_byteAt 2398 (nI i) R = some x ∧ f_X7_isDigit x = 0) → f_X12_number_108 (f + 1) 2398 (nI i) v (nI g) (nI j) R = some (nI i, nmE R q (nI (i - j - 1)) (if 9 < g then 44 else if i - j ≤ 7 then 42 else 44) v) := by
    intro f i v h1 h2 ⟨x, hx, hd⟩
    have a1 : (nI i : Int32) - nI j = nI (i - j) := nJ_sub (by omega) (by omega)
    have a2 : nI (i - j) - (1 : Int32) = nI (i - j - 1) := nJ_sub (b := 1) (by omega) (by omega)
    rw [f_X12_number_108]
    unfold f_X12_number_201 f_X12_number_208 f_X12_number_209 nmE
    simp only [k_2398, hx, isD_eq, hd, ly_98 h.1, ly_95 h.1, ly_97 h.1, hq, q1, q3, q4, q5, a1, a2, m_I_sI, m_L_sI, m_R_sI, m_AI_sI, m_AL_sI, m_AD_sI, m_AR_sI, m_n_sI, m_I_sL, m_L_sL, m_R_sL, m_AI_sL, m_AL_sL, m_AD_sL, m_AR_sL, m_n_sL, m_I_sR, m_L_sR, m_R_sR, m_AI_sR, m_AL_sR, m_AD_sR, m_AR_sR, m_n_sR, m_I_rI, m_L_rI, m_R_rI, m_AI_rI, m_AL_rI, m_AD_rI, m_AR_rI, m_n_rI, m_I_rL, m_L_rL, m_R_rL, m_AI_rL, m_AL_rL, m_AD_rL, m_AR_rL, m_n_rL, m_I_rD, m_L_rD, m_R_rD, m_AI_rD, m_AL_rD, m_AD_rD, m_AR_rD, m_n_rD, m_I_rR, m_L_rR, m_R_rR, m_AI_rR, m_AL_rR, m_AD_rR, m_AR_rR, m_n_rR, true_and, and_true, and_false, false_and, and_self, if_true, if_false, ite_self, Nat.reduceEqDiff, reduceIte, obt, jlt, jbt, jbd_ite, bind_ite]
    rw [show (9 : Int32) = nI 9 from rfl, show (7 : Int32) = nI 7 from rfl]
    simp only [nJ_lt (show 9 < 2147483648 by omega) (show g < 2147483648 by omega), nJ_le (show i - j < 2147483648 by omega) (show 7 < 2147483648 by omega)]
    split
    · rfl
    · split
      · rfl
      · rfl
  intro n
  induction n with
  | zero =>
    intro fuel i v v' h1 h2 hf hv
    obtain ⟨f, rfl⟩ : ∃ f, fuel = f + 1 := ⟨fuel - 1, by omega⟩
    have hb := byte_r h (i := i) (by omega)
    rw [if_neg (by omega)] at hb
    exact ⟨v, hv, ends f i v h2 (by omega) ⟨_, hb, by unfold f_X7_isDigit; decide⟩⟩
  | succ n ih =>
    intro fuel i v v' h1 h2 hf hv
    obtain ⟨f, rfl⟩ : ∃ f, fuel = f + 1 := ⟨fuel - 1, by omega⟩
    have hb := byte_r h (i := i) (by omega)
    rw [if_pos (show i < e by omega)] at hb
    by_cases c : f_X7_isDigit (B i) = 0
    · have hdi : diB B e (n + 1) i v' = (i, v') := by
        unfold diB
        rw [if_pos (show i < e by omega), if_pos c]
      rw [hdi]
      exact ⟨v, hv, ends f i v h2 (by omega) ⟨_, hb, c⟩⟩
    · have hdi : diB B e (n + 1) i v' = diB B e n (i + 1) (v' * 10 + (B i - 48).toInt64) := by
        conv => lhs; unfold diB
        rw [if_pos (show i < e by omega), if_neg c]
      have a1 : (nI i : Int32) - nI j = nI (i - j) := nJ_sub (by omega) (by omega)
      obtain ⟨r1, r2⟩ := dg_rng c
      rw [hdi, f_X12_number_108, if_pos k_2398, hb, obt, isD_eq, if_neg c, a1, obt]
      unfold f_X12_number_154 f_X12_number_155
      rw [jlt, jlt, nJ_1 (by omega), show (6 : Int32) = nI 6 from rfl, show (10 : Int32) = nI 10 from rfl]
      simp only [nJ_lt (show 6 < 2147483648 by omega) (show i - j < 2147483648 by omega), nJ_le (show 10 < 2147483648 by omega) (show g < 2147483648 by omega)]
      by_cases c2 : 6 < i - j
      · rw [if_pos c2]
        exact ih f (i + 1) v _ (by omega) (by omega) (by omega) (fun y z => by omega)
      · rw [if_neg c2]
        by_cases c3 : 10 ≤ g
        · rw [if_pos c3]
          exact ih f (i + 1) v _ (by omega) (by omega) (by omega) (fun y z => by omega)
        · rw [if_neg c3]
          exact ih f (i + 1) _ _ (by omega) (by omega) (by omega) (fun y z => by rw [dg_val r1 r2, hv (by omega) (by omega)])
theorem token_r {B : Nat → Int32} {R : jM} {e p q : Nat} (h : rOp B e R) (hq : jI R 99 2398 = nI q) (hq2 : q < 1602) (hpe : p < e) (hB : ∃ m : Nat, m < 256 ∧ B p = nI m) : ∃ x R', f_X12_token 2398 (nI p) R = some (x, R') ∧ Fr pT3 R R' ∧ entO R R' q ∧ entQ B e p q R' ∧ ((tkv B e p).1 ≠ 1 → x = nI (tkv B e p).2.2.2) := by
  have h3 := h.2.2.1
  obtain ⟨q1, q2, q3, q4, q5⟩ := qA hq2
  have hA : jA 2403 13 (nI p) = true := jA_n k_2403 (by rw [ln_2403]; omega) (by omega)
  have hid : ∀ o : Option (Int32 × jM), jbd o (fun x S => some (x, S)) = o := fun o => by cases o <;> rfl
  have hb1 := byte_r h (i := p + 1) (by omega)
  have e0 : f_X12_token 2398 (nI p) R = if f_X7_isLetter (B p) = 0 then (if f_X7_isDigit (B p) = 0 then (f_X12_byteAt 2398 (nI (p + 1)) R).bind (fun x51 => if B p = (33 : Int32) then (jR R 95 2398).bind (fun r60 => if x51 = (61 : Int32) then f_X12_token_151 (nI p) r60 (jI R 99 2398) (45 : Int32) R else f_X12_token_151 (nI p) r60 (jI R 99 2398) (44 : Int32) R) else if B p = (60 : Int32) then if x51 = (61 : Int32) then (jR R 95 2398).bind (fun r56 => if jA r56 13 (jI R 99 2398) = true then jlet (jrI R r56 (upd (jAI R r56) (jI R 99 2398).toNatClampNeg (46 : Int32))) (fun S59 => some (nI p + (2 : Int32), S59)) else none) else f_X12_token_184 2398 (nI p) (B p) R else f_X12_token_184 2398 (nI p) (B p) R) else f_X12_number 2398 (nI p) R) else f_X12_token_19 1100000 2398 (nI p) (nI p) 0 R := by
    unfold f_X12_token
    rw [if_pos k_2398, ly_93 h.1, obt, if_pos hA, jlt, nJ_cl (by omega), h.2.2.2 p hpe, isL_eq, isD_eq, hid, nJ_1 (by omega)]
  -- what a sign leaves
  have sgnE : ∀ (k : Int32) (a : Nat) (kr x : Int32), tkv B e p = (k, 0, 0, a) → (k ≠ 2 ∧ k ≠ 3 ∧ k ≠ 4) → tm k = kr → (k ≠ 1 → x = nI a) → f_X12_token 2398 (nI p) R = some (x, jrI R 2404 (upd (jAI R 2404) q kr)) → ∃ x R', f_X12_token 2398 (nI p) R = some (x, R') ∧ Fr pT3 R R' ∧ entO R R' q ∧ entQ B e p q R' ∧ ((tkv B e p).1 ≠ 1 → x = nI (tkv B e p).2.2.2) := by
    intro k a kr x e1 e2 e3 e4 e5
    refine ⟨_, _, e5, (Fr.refl).rI (by unfold pT3; omega), fun z hz => ?_, ?_, ?_⟩
    · simp only [m_I_sI, m_L_sI, m_R_sI, m_AI_sI, m_AL_sI, m_AD_sI, m_AR_sI, m_n_sI, m_I_sL, m_L_sL, m_R_sL, m_AI_sL, m_AL_sL, m_AD_sL, m_AR_sL, m_n_sL, m_I_sR, m_L_sR, m_R_sR, m_AI_sR, m_AL_sR, m_AD_sR, m_AR_sR, m_n_sR, m_I_rI, m_L_rI, m_R_rI, m_AI_rI, m_AL_rI, m_AD_rI, m_AR_rI, m_n_rI, m_I_rL, m_L_rL, m_R_rL, m_AI_rL, m_AL_rL, m_AD_rL, m_AR_rL, m_n_rL, m_I_rD, m_L_rD, m_R_rD, m_AI_rD, m_AL_rD, m_AD_rD, m_AR_rD, m_n_rD, m_I_rR, m_L_rR, m_R_rR, m_AI_rR, m_AL_rR, m_AD_rR, m_AR_rR, m_n_rR, true_and, and_true, and_false, false_and, and_self, if_true, if_false, ite_self, Nat.reduceEqDiff, reduceIte, obt, jlt, jbt, jbd_ite, bind_ite]
      rw [upd_if, if_neg hz]
    · unfold entQ
      rw [e1]
      refine ⟨?_, fun z => ?_, fun z => absurd z e2.2.2⟩
      · simp only [m_I_sI, m_L_sI, m_R_sI, m_AI_sI, m_AL_sI, m_AD_sI, m_AR_sI, m_n_sI, m_I_sL, m_L_sL, m_R_sL, m_AI_sL, m_AL_sL, m_AD_sL, m_AR_sL, m_n_sL, m_I_sR, m_L_sR, m_R_sR, m_AI_sR, m_AL_sR, m_AD_sR, m_AR_sR, m_n_sR, m_I_rI, m_L_rI, m_R_rI, m_AI_rI, m_AL_rI, m_AD_rI, m_AR_rI, m_n_rI, m_I_rL, m_L_rL, m_R_rL, m_AI_rL, m_AL_rL, m_AD_rL, m_AR_rL, m_n_rL, m_I_rD, m_L_rD, m_R_rD, m_AI_rD, m_AL_rD, m_AD_rD, m_AR_rD, m_n_rD, m_I_rR, m_L_rR, m_R_rR, m_AI_rR, m_AL_rR, m_AD_rR, m_AR_rR, m_n_rR, true_and, and_true, and_false, false_and, and_self, if_true, if_false, ite_self, Nat.reduceEqDiff, reduceIte, obt, jlt, jbt, jbd_ite, bind_ite]
        rw [upd_if, if_pos rfl]; exact e3.symm
      · rcases z with z | z | z
        · exact absurd z e2.1
        · exact absurd z e2.2.1
        · exact absurd z e2.2.2
    · rw [e1]; exact e4
  by_cases hl : f_X7_isLetter (B p) = 0
  · by_cases hd : f_X7_isDigit (B p) = 0
    · have ht : tkv B e p = (if B p = 60 ∧ p + 1 < e ∧ B (p + 1) = 61 then (9, 0, 0, p + 2)
           else if B p = 33 ∧ p + 1 < e ∧ B (p + 1) = 61 then (10, 0, 0, p + 2)
           else (if B p = 59 ∨ B p = 61 ∨ B p = 43 ∨ B p = 45 ∨ B p = 42 ∨ B p = 47 ∨ B p = 37 ∨ B p = 40 ∨ B p = 41 ∨ B p = 91 ∨ B p = 93 ∨ B p = 44 ∨ B p = 60 then B p else 1, 0, 0, p + 1)) := by
        unfold tkv
        rw [if_pos hpe, if_pos hl, if_pos hd]
      rw [if_pos hl, if_pos hd, hb1, obt] at e0
      have a2 : (nI p : Int32) + 2 = nI (p + 2) := nJ_add (b := 2) (by omega)
      have x61 : ((if p + 1 < e then B (p + 1) else 0) = (61 : Int32)) ↔ (p + 1 < e ∧ B (p + 1) = 61) := by
        by_cases c : p + 1 < e
        · rw [if_pos c]; exact ⟨fun z => ⟨c, z⟩, fun z => z.2⟩
        · rw [if_neg c]; exact ⟨fun z => absurd z (by decide), fun z => absurd z.1 c⟩
      simp only [x61] at e0
      have plain : ¬ B p = 33 → (tkv B e p = (if B p = 59 ∨ B p = 61 ∨ B p = 43 ∨ B p = 45 ∨ B p = 42 ∨ B p = 47 ∨ B p = 37 ∨ B p = 40 ∨ B p = 41 ∨ B p = 91 ∨ B p = 93 ∨ B p = 44 ∨ B p = 60 then B p else 1, 0, 0, p + 1)) → f_X12_token 2398 (nI p) R = f_X12_token_184 2398 (nI p) (B p) R → ∃ x R', f_X12_token 2398 (nI p) R = some (x, R') ∧ Fr pT3 R R' ∧ entO R R' q ∧ entQ B e p q R' ∧ ((tkv B e p).1 ≠ 1 → x = nI (tkv B e p).2.2.2) := by
        intro c33 ht2 e1
        have e267 : ∀ t0, f_X12_token_267 2398 (nI p) (B p) t0 R = some (nI (p + 1), jrI R 2404 (upd (jAI R 2404) q (if t0 = 0 then 44 else 100 + B p))) := by
          intro t0
          unfold f_X12_token_267 f_X12_token_291
          rw [if_pos k_2398, ly_95 h.1, obt, hq, nJ_1 (by omega)]
          by_cases c : t0 = 0
          · rw [if_pos c, if_pos c, if_pos q1, jlt, q5]
          · rw [if_neg c, if_neg c, if_pos q1, jlt, q5]
        by_cases cs : B p = 59 ∨ B p = 61 ∨ B p = 43 ∨ B p = 45 ∨ B p = 42 ∨ B p = 47 ∨ B p = 37 ∨ B p = 40 ∨ B p = 41 ∨ B p = 91 ∨ B p = 93 ∨ B p = 44 ∨ B p = 60
        · rw [if_pos cs] at ht2
          have kn : (B p ≠ 2 ∧ B p ≠ 3 ∧ B p ≠ 4) ∧ tm (B p) = 100 + B p := by
            rcases cs with c | c | c | c | c | c | c | c | c | c | c | c | c <;> (rw [c]; decide)
          refine sgnE _ _ _ (nI (p + 1)) ht2 kn.1 kn.2 (fun _ => rfl) ?_
          rw [e1]
          unfold f_X12_token_184 f_X12_token_262
          rw [e267 1, if_neg (show ¬ (1 : Int32) = 0 by decide), e267 0]
          rcases cs with c | c | c | c | c | c | c | c | c | c | c | c | c <;> (rw [c]; rfl)
        · rw [if_neg cs] at ht2
          refine sgnE _ _ 44 (nI (p + 1)) ht2 (by decide) (by decide) (fun z => absurd rfl z) ?_
          rw [e1]
          simp only [not_or] at cs
          obtain ⟨c1, c2, c3, c4, c5, c6, c7, c8, c9, c10, c11, c12, c13⟩ := cs
          unfold f_X12_token_184
          rw [if_neg c1, if_neg c2, if_neg c13, if_neg c3, if_neg c4, if_neg c5, if_neg c6, if_neg c7, if_neg c8, if_neg c9, if_neg c10, if_neg c11, if_neg c12, e267 0, if_pos rfl]
      by_cases c33 : B p = 33
      · rw [if_pos c33, ly_95 h.1, obt, hq] at e0
        unfold f_X12_token_151 at e0
        rw [if_pos q1, if_pos q1, jlt, jlt, q5, a2] at e0
        rw [if_neg (fun z => by rw [c33] at z; exact absurd z.1 (by decide))] at ht
        by_cases ceq : p + 1 < e ∧ B (p + 1) = 61
        · rw [if_pos ⟨c33, ceq⟩] at ht
          rw [if_pos ceq] at e0
          exact sgnE _ _ _ _ ht (by decide) (by decide) (fun _ => rfl) e0
        · rw [if_neg (fun z => ceq z.2), if_neg (by rw [c33]; decide)] at ht
          rw [if_neg ceq] at e0
          exact sgnE _ _ _ _ ht (by decide) (by decide) (fun z => absurd rfl z) e0
      · rw [if_neg c33] at e0
        by_cases c60 : B p = 60
        · rw [if_pos c60] at e0
          by_cases ceq : p + 1 < e ∧ B (p + 1) = 61
          · rw [if_pos ceq, ly_95 h.1, obt, hq, if_pos q1, jlt, q5, a2] at e0
            rw [if_pos ⟨c60, ceq⟩] at ht
            exact sgnE _ _ _ _ ht (by decide) (by decide) (fun _ => rfl) e0
          · rw [if_neg ceq] at e0
            rw [if_neg (fun z => ceq z.2), if_neg (fun z => ceq z.2)] at ht
            exact plain c33 ht e0
        · rw [if_neg c60] at e0
          rw [if_neg (fun z => c60 z.1), if_neg (fun z => c33 z.1)] at ht
          exact plain c33 ht e0
    · -- a number
      rw [if_pos hl, if_neg hd] at e0
      unfold f_X12_number at e0
      have hle := diB_le B e (e - p) p 0 (by omega)
      obtain ⟨w, hw, e1⟩ := num_r (p := p) h (by omega) (e - p) 1100000 p 0 0 (by omega) (by omega) (by omega) (fun _ => rfl)
      rw [e1, hq] at e0
      have ht : tkv B e p = (if (diB B e (e - p) p 0).1 + 1 < e ∧ B (diB B e (e - p) p 0).1 = 46 ∧ ¬ f_X7_isDigit (B ((diB B e (e - p) p 0).1 + 1)) = 0 then
          (if (diB B e (e - p) p 0).1 - p ≤ 9 ∧ (diB B e (e - ((diB B e (e - p) p 0).1 + 1)) ((diB B e (e - p) p 0).1 + 1) (diB B e (e - p) p 0).2).1 - ((diB B e (e - p) p 0).1 + 1) ≤ 6 then 4 else 1, (diB B e (e - ((diB B e (e - p) p 0).1 + 1)) ((diB B e (e - p) p 0).1 + 1) (diB B e (e - p) p 0).2).2, (diB B e (e - ((diB B e (e - p) p 0).1 + 1)) ((diB B e (e - p) p 0).1 + 1) (diB B e (e - p) p 0).2).1 - ((diB B e (e - p) p 0).1 + 1), (diB B e (e - ((diB B e (e - p) p 0).1 + 1)) ((diB B e (e - p) p 0).1 + 1) (diB B e (e - p) p 0).2).1)
         else (if (diB B e (e - p) p 0).1 - p ≤ 15 then 3 else 1, (diB B e (e - p) p 0).2, 0, (diB B e (e - p) p 0).1)) := by
        unfold tkv
        rw [if_pos hpe, if_pos hl, if_neg hd]
      generalize hr : diB B e (e - p) p 0 = r at *
      have hF1 : Fr pT3 R (jrI R 2404 (upd (jAI R 2404) q (if r.1 - p ≤ 15 then 41 else 44))) := (Fr.refl).rI (by unfold pT3; omega)
      have h2 := h.f3 hF1
      have bj := byte_r h2 (i := r.1) (by omega)
      have bj1 := byte_r h2 (i := r.1 + 1) (by omega)
      have a1 : (nI r.1 : Int32) - nI p = nI (r.1 - p) := nJ_sub (by omega) (by omega)
      unfold f_X12_number_73 at e0
      rw [if_pos q1, jlt, if_pos k_2398, q5, bj, obt, nJ_1 (by omega), bj1, obt, a1, jlt, jlt] at e0
      have e209 : f_X12_number_209 2398 (nI r.1) w (jrI R 2404 (upd (jAI R 2404) q (if r.1 - p ≤ 15 then 41 else 44))) = some (nI r.1, jrL (jrI R 2404 (upd (jAI R 2404) q (if r.1 - p ≤ 15 then 41 else 44))) 2406 (vp_updL (jAL R 2406) q w)) := by
        unfold f_X12_number_209
        simp only [k_2398, ly_97 h2.1, m_I_sI, m_L_sI, m_R_sI, m_AI_sI, m_AL_sI, m_AD_sI, m_AR_sI, m_n_sI, m_I_sL, m_L_sL, m_R_sL, m_AI_sL, m_AL_sL, m_AD_sL, m_AR_sL, m_n_sL, m_I_sR, m_L_sR, m_R_sR, m_AI_sR, m_AL_sR, m_AD_sR, m_AR_sR, m_n_sR, m_I_rI, m_L_rI, m_R_rI, m_AI_rI, m_AL_rI, m_AD_rI, m_AR_rI, m_n_rI, m_I_rL, m_L_rL, m_R_rL, m_AI_rL, m_AL_rL, m_AD_rL, m_AR_rL, m_n_rL, m_I_rD, m_L_rD, m_R_rD, m_AI_rD, m_AL_rD, m_AD_rD, m_AR_rD, m_n_rD, m_I_rR, m_L_rR, m_R_rR, m_AI_rR, m_AL_rR, m_AD_rR, m_AR_rR, m_n_rR, hq, q3, q5, true_and, and_true, and_false, false_and, and_self, if_true, if_false, ite_self, Nat.reduceEqDiff, reduceIte, obt, jlt, jbt, jbd_ite, bind_ite]
      rw [e209] at e0
      by_cases cc : r.1 + 1 < e ∧ B r.1 = 46 ∧ ¬ f_X7_isDigit (B (r.1 + 1)) = 0
      · rw [if_pos cc] at ht
        rw [if_pos (show r.1 < e by omega), if_pos cc.2.1, if_pos cc.1, isD_eq, if_neg cc.2.2] at e0
        obtain ⟨w2, hw2, e2⟩ := num2_r (j := r.1) h2 (g := r.1 - p) (by omega) (q := q) (by simp only [m_I_sI, m_L_sI, m_R_sI, m_AI_sI, m_AL_sI, m_AD_sI, m_AR_sI, m_n_sI, m_I_sL, m_L_sL, m_R_sL, m_AI_sL, m_AL_sL, m_AD_sL, m_AR_sL, m_n_sL, m_I_sR, m_L_sR, m_R_sR, m_AI_sR, m_AL_sR, m_AD_sR, m_AR_sR, m_n_sR, m_I_rI, m_L_rI, m_R_rI, m_AI_rI, m_AL_rI, m_AD_rI, m_AR_rI, m_n_rI, m_I_rL, m_L_rL, m_R_rL, m_AI_rL, m_AL_rL, m_AD_rL, m_AR_rL, m_n_rL, m_I_rD, m_L_rD, m_R_rD, m_AI_rD, m_AL_rD, m_AD_rD, m_AR_rD, m_n_rD, m_I_rR, m_L_rR, m_R_rR, m_AI_rR, m_AL_rR, m_AD_rR, m_AR_rR, m_n_rR]; exact hq) hq2 (e - (r.1 + 1)) 1100000 (r.1 + 1) w r.2 (by omega) (by omega) (by omega) (fun y z => hw (by omega))
        generalize hs : diB B e (e - (r.1 + 1)) (r.1 + 1) r.2 = s at *
        have hls : r.1 + 1 ≤ s.1 ∧ s.1 ≤ e := by rw [← hs]; exact diB_le B e (e - (r.1 + 1)) (r.1 + 1) r.2 (by omega)
        rw [e2] at e0
        refine ⟨_, _, e0, ?_, fun z hz => ?_, ?_, fun _ => by rw [ht]⟩
        · unfold nmE
          exact ((hF1.rI (by unfold pT3; omega)).rI (by unfold pT3; omega)).rL (by unfold pT3; omega)
        · unfold nmE
          simp only [m_I_sI, m_L_sI, m_R_sI, m_AI_sI, m_AL_sI, m_AD_sI, m_AR_sI, m_n_sI, m_I_sL, m_L_sL, m_R_sL, m_AI_sL, m_AL_sL, m_AD_sL, m_AR_sL, m_n_sL, m_I_sR, m_L_sR, m_R_sR, m_AI_sR, m_AL_sR, m_AD_sR, m_AR_sR, m_n_sR, m_I_rI, m_L_rI, m_R_rI, m_AI_rI, m_AL_rI, m_AD_rI, m_AR_rI, m_n_rI, m_I_rL, m_L_rL, m_R_rL, m_AI_rL, m_AL_rL, m_AD_rL, m_AR_rL, m_n_rL, m_I_rD, m_L_rD, m_R_rD, m_AI_rD, m_AL_rD, m_AD_rD, m_AR_rD, m_n_rD, m_I_rR, m_L_rR, m_R_rR, m_AI_rR, m_AL_rR, m_AD_rR, m_AR_rR, m_n_rR, true_and, and_true, and_false, false_and, and_self, if_true, if_false, ite_self, Nat.reduceEqDiff, reduceIte, obt, jlt, jbt, jbd_ite, bind_ite]
          rw [upd_if, upd_if, upd_if, updL_if, if_neg hz, if_neg hz, if_neg hz, if_neg hz]
          exact ⟨rfl, rfl, rfl⟩
        · unfold entQ nmE
          rw [ht]
          simp only [m_I_sI, m_L_sI, m_R_sI, m_AI_sI, m_AL_sI, m_AD_sI, m_AR_sI, m_n_sI, m_I_sL, m_L_sL, m_R_sL, m_AI_sL, m_AL_sL, m_AD_sL, m_AR_sL, m_n_sL, m_I_sR, m_L_sR, m_R_sR, m_AI_sR, m_AL_sR, m_AD_sR, m_AR_sR, m_n_sR, m_I_rI, m_L_rI, m_R_rI, m_AI_rI, m_AL_rI, m_AD_rI, m_AR_rI, m_n_rI, m_I_rL, m_L_rL, m_R_rL, m_AI_rL, m_AL_rL, m_AD_rL, m_AR_rL, m_n_rL, m_I_rD, m_L_rD, m_R_rD, m_AI_rD, m_AL_rD, m_AD_rD, m_AR_rD, m_n_rD, m_I_rR, m_L_rR, m_R_rR, m_AI_rR, m_AL_rR, m_AD_rR, m_AR_rR, m_n_rR, true_and, and_true, and_false, false_and, and_self, if_true, if_false, ite_self, Nat.reduceEqDiff, reduceIte, obt, jlt, jbt, jbd_ite, bind_ite]
          simp only [upd_if, updL_if, true_and, and_true, and_false, false_and, and_self, if_true, if_false, ite_self, Nat.reduceEqDiff, reduceIte, obt, jlt, jbt, jbd_ite, bind_ite]
          refine ⟨?_, fun z => ?_, fun z => ?_⟩
          · by_cases c1 : r.1 - p ≤ 9
            · rw [if_neg (show ¬ 9 < r.1 - p by omega)]
              by_cases c2 : s.1 - (r.1 + 1) ≤ 6
              · rw [if_pos (show s.1 - r.1 ≤ 7 by omega), if_pos ⟨c1, c2⟩]; decide
              · rw [if_neg (show ¬ s.1 - r.1 ≤ 7 by omega), if_neg (fun z => c2 z.2)]; decide
            · rw [if_pos (show 9 < r.1 - p by omega), if_neg (fun z => c1 z.1)]; decide
          · by_cases c1 : r.1 - p ≤ 9 ∧ s.1 - (r.1 + 1) ≤ 6
            · exact hw2 c1.1 c1.2
            · rw [if_neg c1] at z; exact absurd z (by decide)
          · congr 1
      · rw [if_neg cc] at ht
        have e3 : f_X12_token 2398 (nI p) R = some (nI r.1, jrL (jrI R 2404 (upd (jAI R 2404) q (if r.1 - p ≤ 15 then 41 else 44))) 2406 (vp_updL (jAL R 2406) q w)) := by
          rw [e0]
          by_cases c1 : r.1 < e
          · rw [if_pos c1]
            by_cases c2 : B r.1 = 46
            · rw [if_pos c2, isD_eq, if_pos]
              by_cases c3 : r.1 + 1 < e
              · rw [if_pos c3]
                exact Decidable.byContradiction (fun z => cc ⟨c3, c2, z⟩)
              · rw [if_neg c3]; unfold f_X7_isDigit; decide
            · rw [if_neg c2]
          · rw [if_neg c1, if_neg (by decide)]
        refine ⟨_, _, e3, (hF1.rL (by unfold pT3; omega)), fun z hz => ?_, ?_, fun _ => by rw [ht]⟩
        · simp only [m_I_sI, m_L_sI, m_R_sI, m_AI_sI, m_AL_sI, m_AD_sI, m_AR_sI, m_n_sI, m_I_sL, m_L_sL, m_R_sL, m_AI_sL, m_AL_sL, m_AD_sL, m_AR_sL, m_n_sL, m_I_sR, m_L_sR, m_R_sR, m_AI_sR, m_AL_sR, m_AD_sR, m_AR_sR, m_n_sR, m_I_rI, m_L_rI, m_R_rI, m_AI_rI, m_AL_rI, m_AD_rI, m_AR_rI, m_n_rI, m_I_rL, m_L_rL, m_R_rL, m_AI_rL, m_AL_rL, m_AD_rL, m_AR_rL, m_n_rL, m_I_rD, m_L_rD, m_R_rD, m_AI_rD, m_AL_rD, m_AD_rD, m_AR_rD, m_n_rD, m_I_rR, m_L_rR, m_R_rR, m_AI_rR, m_AL_rR, m_AD_rR, m_AR_rR, m_n_rR, true_and, and_true, and_false, false_and, and_self, if_true, if_false, ite_self, Nat.reduceEqDiff, reduceIte, obt, jlt, jbt, jbd_ite, bind_ite]
          rw [upd_if, updL_if, if_neg hz, if_neg hz]
          exact ⟨rfl, rfl⟩
        · unfold entQ
          rw [ht]
          simp only [m_I_sI, m_L_sI, m_R_sI, m_AI_sI, m_AL_sI, m_AD_sI, m_AR_sI, m_n_sI, m_I_sL, m_L_sL, m_R_sL, m_AI_sL, m_AL_sL, m_AD_sL, m_AR_sL, m_n_sL, m_I_sR, m_L_sR, m_R_sR, m_AI_sR, m_AL_sR, m_AD_sR, m_AR_sR, m_n_sR, m_I_rI, m_L_rI, m_R_rI, m_AI_rI, m_AL_rI, m_AD_rI, m_AR_rI, m_n_rI, m_I_rL, m_L_rL, m_R_rL, m_AI_rL, m_AL_rL, m_AD_rL, m_AR_rL, m_n_rL, m_I_rD, m_L_rD, m_R_rD, m_AI_rD, m_AL_rD, m_AD_rD, m_AR_rD, m_n_rD, m_I_rR, m_L_rR, m_R_rR, m_AI_rR, m_AL_rR, m_AD_rR, m_AR_rR, m_n_rR, true_and, and_true, and_false, false_and, and_self, if_true, if_false, ite_self, Nat.reduceEqDiff, reduceIte, obt, jlt, jbt, jbd_ite, bind_ite]
          rw [upd_if, updL_if, if_pos rfl, if_pos rfl]
          refine ⟨?_, fun z => ?_, fun z => ?_⟩
          · by_cases c1 : r.1 - p ≤ 15
            · rw [if_pos c1, if_pos c1]; decide
            · rw [if_neg c1, if_neg c1]; decide
          · by_cases c1 : r.1 - p ≤ 15
            · exact hw c1
            · rw [if_neg c1] at z; exact absurd z (by decide)
          · exfalso
            have z2 : (if r.1 - p ≤ 15 then (3 : Int32) else 1) = 4 := z
            split at z2 <;> exact absurd z2 (by decide)
  · rw [if_neg hl] at e0
    have hle := leB_le B e (e - p) p 0 (by omega)
    rw [let_r (p := p) h (by omega) (e - p) 1100000 p 0 (by omega) (by omega) (by omega), hq] at e0
    have ht : tkv B e p = (if (leB B e (e - p) p 0).1 - p ≤ 8 then wd (leB B e (e - p) p 0).2 else 1, (leB B e (e - p) p 0).2, 0, (leB B e (e - p) p 0).1) := by
      unfold tkv
      rw [if_pos hpe, if_neg hl]
    generalize hr : leB B e (e - p) p 0 = r at *
    have hF1 : Fr pT3 R (jrI R 2404 (upd (jAI R 2404) q (if r.1 - p ≤ 8 then f_X12_word r.2 else 44))) := (Fr.refl).rI (by unfold pT3; omega)
    unfold f_X12_token_87 at e0
    simp only [q1, k_2398, ly_97 (h.f3 hF1).1, q3, q5, m_I_sI, m_L_sI, m_R_sI, m_AI_sI, m_AL_sI, m_AD_sI, m_AR_sI, m_n_sI, m_I_sL, m_L_sL, m_R_sL, m_AI_sL, m_AL_sL, m_AD_sL, m_AR_sL, m_n_sL, m_I_sR, m_L_sR, m_R_sR, m_AI_sR, m_AL_sR, m_AD_sR, m_AR_sR, m_n_sR, m_I_rI, m_L_rI, m_R_rI, m_AI_rI, m_AL_rI, m_AD_rI, m_AR_rI, m_n_rI, m_I_rL, m_L_rL, m_R_rL, m_AI_rL, m_AL_rL, m_AD_rL, m_AR_rL, m_n_rL, m_I_rD, m_L_rD, m_R_rD, m_AI_rD, m_AL_rD, m_AD_rD, m_AR_rD, m_n_rD, m_I_rR, m_L_rR, m_R_rR, m_AI_rR, m_AL_rR, m_AD_rR, m_AR_rR, m_n_rR, hq, true_and, and_true, and_false, false_and, and_self, if_true, if_false, ite_self, Nat.reduceEqDiff, reduceIte, obt, jlt, jbt, jbd_ite, bind_ite] at e0
    refine ⟨_, _, e0, hF1.rL (by unfold pT3; omega), fun z hz => ?_, ?_, fun _ => by rw [ht]⟩
    · simp only [m_I_sI, m_L_sI, m_R_sI, m_AI_sI, m_AL_sI, m_AD_sI, m_AR_sI, m_n_sI, m_I_sL, m_L_sL, m_R_sL, m_AI_sL, m_AL_sL, m_AD_sL, m_AR_sL, m_n_sL, m_I_sR, m_L_sR, m_R_sR, m_AI_sR, m_AL_sR, m_AD_sR, m_AR_sR, m_n_sR, m_I_rI, m_L_rI, m_R_rI, m_AI_rI, m_AL_rI, m_AD_rI, m_AR_rI, m_n_rI, m_I_rL, m_L_rL, m_R_rL, m_AI_rL, m_AL_rL, m_AD_rL, m_AR_rL, m_n_rL, m_I_rD, m_L_rD, m_R_rD, m_AI_rD, m_AL_rD, m_AD_rD, m_AR_rD, m_n_rD, m_I_rR, m_L_rR, m_R_rR, m_AI_rR, m_AL_rR, m_AD_rR, m_AR_rR, m_n_rR, true_and, and_true, and_false, false_and, and_self, if_true, if_false, ite_self, Nat.reduceEqDiff, reduceIte, obt, jlt, jbt, jbd_ite, bind_ite]
      rw [upd_if, updL_if, if_neg hz, if_neg hz]
      exact ⟨rfl, rfl⟩
    · unfold entQ
      rw [ht]
      simp only [m_I_sI, m_L_sI, m_R_sI, m_AI_sI, m_AL_sI, m_AD_sI, m_AR_sI, m_n_sI, m_I_sL, m_L_sL, m_R_sL, m_AI_sL, m_AL_sL, m_AD_sL, m_AR_sL, m_n_sL, m_I_sR, m_L_sR, m_R_sR, m_AI_sR, m_AL_sR, m_AD_sR, m_AR_sR, m_n_sR, m_I_rI, m_L_rI, m_R_rI, m_AI_rI, m_AL_rI, m_AD_rI, m_AR_rI, m_n_rI, m_I_rL, m_L_rL, m_R_rL, m_AI_rL, m_AL_rL, m_AD_rL, m_AR_rL, m_n_rL, m_I_rD, m_L_rD, m_R_rD, m_AI_rD, m_AL_rD, m_AD_rD, m_AR_rD, m_n_rD, m_I_rR, m_L_rR, m_R_rR, m_AI_rR, m_AL_rR, m_AD_rR, m_AR_rR, m_n_rR, true_and, and_true, and_false, false_and, and_self, if_true, if_false, ite_self, Nat.reduceEqDiff, reduceIte, obt, jlt, jbt, jbd_ite, bind_ite]
      rw [upd_if, updL_if, if_pos rfl, if_pos rfl]
      refine ⟨?_, fun _ => rfl, fun z => ?_⟩
      · by_cases c1 : r.1 - p ≤ 8
        · rw [if_pos c1, if_pos c1, word_m]
        · rw [if_neg c1, if_neg c1]; decide
      · exfalso
        have z2 : (if r.1 - p ≤ 8 then wd r.2 else (1 : Int32)) = 4 := z
        split at z2
        · rcases wd_rng r.2 with w | w
          · rw [w] at z2; exact absurd z2 (by decide)
          · rw [z2] at w; revert w; decide
        · exact absurd z2 (by decide)
