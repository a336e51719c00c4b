/-! PURE: the class's next token -/
theorem iteP {α : Type} {P : α → Prop} {c : Prop} [Decidable c] {a b : α} (h1 : P a) (h2 : P b) : P (if c then a else b) := by
  split
  · exact h1
  · exact h2
theorem wd_rng (v : Int64) : wd v = 2 ∨ (128 ≤ (wd v).toInt ∧ (wd v).toInt ≤ 152) := by
  rw [wd_is]
  refine iteP (P := fun w : Int32 => w = 2 ∨ (128 ≤ w.toInt ∧ w.toInt ≤ 152)) (by decide) ?_
  refine iteP (P := fun w : Int32 => w = 2 ∨ (128 ≤ w.toInt ∧ w.toInt ≤ 152)) (by decide) ?_
  refine iteP (P := fun w : Int32 => w = 2 ∨ (128 ≤ w.toInt ∧ w.toInt ≤ 152)) (by decide) ?_
  refine iteP (P := fun w : Int32 => w = 2 ∨ (128 ≤ w.toInt ∧ w.toInt ≤ 152)) (by decide) ?_
  refine iteP (P := fun w : Int32 => w = 2 ∨ (128 ≤ w.toInt ∧ w.toInt ≤ 152)) (by decide) ?_
  refine iteP (P := fun w : Int32 => w = 2 ∨ (128 ≤ w.toInt ∧ w.toInt ≤ 152)) (by decide) ?_
  refine iteP (P := fun w : Int32 => w = 2 ∨ (128 ≤ w.toInt ∧ w.toInt ≤ 152)) (by decide) ?_
  refine iteP (P := fun w : Int32 => w = 2 ∨ (128 ≤ w.toInt ∧ w.toInt ≤ 152)) (by decide) ?_
  refine iteP (P := fun w : Int32 => w = 2 ∨ (128 ≤ w.toInt ∧ w.toInt ≤ 152)) (by decide) ?_
  refine iteP (P := fun w : Int32 => w = 2 ∨ (128 ≤ w.toInt ∧ w.toInt ≤ 152)) (by decide) ?_
  refine iteP (P := fun w : Int32 => w = 2 ∨ (128 ≤ w.toInt ∧ w.toInt ≤ 152)) (by decide) ?_
  refine iteP (P := fun w : Int32 => w = 2 ∨ (128 ≤ w.toInt ∧ w.toInt ≤ 152)) (by decide) ?_
  refine iteP (P := fun w : Int32 => w = 2 ∨ (128 ≤ w.toInt ∧ w.toInt ≤ 152)) (by decide) ?_
  refine iteP (P := fun w : Int32 => w = 2 ∨ (128 ≤ w.toInt ∧ w.toInt ≤ 152)) (by decide) ?_
  refine iteP (P := fun w : Int32 => w = 2 ∨ (128 ≤ w.toInt ∧ w.toInt ≤ 152)) (by decide) ?_
  refine iteP (P := fun w : Int32 => w = 2 ∨ (128 ≤ w.toInt ∧ w.toInt ≤ 152)) (by decide) ?_
  refine iteP (P := fun w : Int32 => w = 2 ∨ (128 ≤ w.toInt ∧ w.toInt ≤ 152)) (by decide) ?_
  refine iteP (P := fun w : Int32 => w = 2 ∨ (128 ≤ w.toInt ∧ w.toInt ≤ 152)) (by decide) ?_
  refine iteP (P := fun w : Int32 => w = 2 ∨ (128 ≤ w.toInt ∧ w.toInt ≤ 152)) (by decide) ?_
  refine iteP (P := fun w : Int32 => w = 2 ∨ (128 ≤ w.toInt ∧ w.toInt ≤ 152)) (by decide) ?_
  refine iteP (P := fun w : Int32 => w = 2 ∨ (128 ≤ w.toInt ∧ w.toInt ≤ 152)) (by decide) ?_
  refine iteP (P := fun w : Int32 => w = 2 ∨ (128 ≤ w.toInt ∧ w.toInt ≤ 152)) (by decide) ?_
  refine iteP (P := fun w : Int32 => w = 2 ∨ (128 ≤ w.toInt ∧ w.toInt ≤ 152)) (by decide) ?_
  refine iteP (P := fun w : Int32 => w = 2 ∨ (128 ≤ w.toInt ∧ w.toInt ≤ 152)) (by decide) ?_
  refine iteP (P := fun w : Int32 => w = 2 ∨ (128 ≤ w.toInt ∧ w.toInt ≤ 152)) (by decide) ?_
  exact .inl rfl
noncomputable def tkv (B : Nat → Int32) (e p : Nat) : Int32 × Int64 × Nat × Nat :=
  if p < e then
    (if f_X7_isLetter (B p) = 0 then
      (if f_X7_isDigit (B p) = 0 then
        (if B p = 60 ∧ p + 1 < e ∧ B (p + 1) = 61 then (9, 0, 0, p + 2)
         else if B p = 33 ∧ p + 1 < e ∧ B (p + 1) = 61 then (10, 0, 0, p + 2)
         else (if B p = 59 ∨ B p = 61 ∨ B p = 43 ∨ B p = 45 ∨ B p = 42 ∨ B p = 47 ∨ B p = 37 ∨ B p = 40 ∨ B p = 41 ∨ B p = 91 ∨ B p = 93 ∨ B p = 44 ∨ B p = 60 then B p else 1, 0, 0, p + 1))
       else
        (if (diB B e (e - p) p 0).1 + 1 < e ∧ B (diB B e (e - p) p 0).1 = 46 ∧ ¬ f_X7_isDigit (B ((diB B e (e - p) p 0).1 + 1)) = 0 then
          (if (diB B e (e - p) p 0).1 - p ≤ 9 ∧ (diB B e (e - ((diB B e (e - p) p 0).1 + 1)) ((diB B e (e - p) p 0).1 + 1) (diB B e (e - p) p 0).2).1 - ((diB B e (e - p) p 0).1 + 1) ≤ 6 then 4 else 1, (diB B e (e - ((diB B e (e - p) p 0).1 + 1)) ((diB B e (e - p) p 0).1 + 1) (diB B e (e - p) p 0).2).2, (diB B e (e - ((diB B e (e - p) p 0).1 + 1)) ((diB B e (e - p) p 0).1 + 1) (diB B e (e - p) p 0).2).1 - ((diB B e (e - p) p 0).1 + 1), (diB B e (e - ((diB B e (e - p) p 0).1 + 1)) ((diB B e (e - p) p 0).1 + 1) (diB B e (e - p) p 0).2).1)
         else (if (diB B e (e - p) p 0).1 - p ≤ 15 then 3 else 1, (diB B e (e - p) p 0).2, 0, (diB B e (e - p) p 0).1)))
     else (if (leB B e (e - p) p 0).1 - p ≤ 8 then wd (leB B e (e - p) p 0).2 else 1, (leB B e (e - p) p 0).2, 0, (leB B e (e - p) p 0).1))
  else (0, 0, 0, p)
theorem skB_le (B : Nat → Int32) (e : Nat) : ∀ n i, i ≤ e → i ≤ skB B e n i ∧ skB B e n i ≤ e := by
  intro n
  induction n with
  | zero => intro i h; exact ⟨Nat.le_refl _, h⟩
  | succ n ih =>
    intro i h
    unfold skB
    split
    · split
      · have := ih (i + 1) (by omega); omega
      · split
        · have := ih (i + 1) (by omega); omega
        · omega
    · omega
theorem leB_le (B : Nat → Int32) (e : Nat) : ∀ n i v, i ≤ e → i ≤ (leB B e n i v).1 ∧ (leB B e n i v).1 ≤ e := by
  intro n
  induction n with
  | zero => intro i v h; exact ⟨Nat.le_refl _, h⟩
  | succ n ih =>
    intro i v h
    unfold leB
    split
    · split
      · split
        · exact ⟨Nat.le_refl _, h⟩
        · have := ih (i + 1) (shC v (B i)) (by omega); omega
      · have := ih (i + 1) (shC v (B i)) (by omega); omega
    · exact ⟨Nat.le_refl _, h⟩
theorem diB_le (B : Nat → Int32) (e : Nat) : ∀ n i v, i ≤ e → i ≤ (diB B e n i v).1 ∧ (diB B e n i v).1 ≤ e := by
  intro n
  induction n with
  | zero => intro i v h; exact ⟨Nat.le_refl _, h⟩
  | succ n ih =>
    intro i v h
    unfold diB
    split
    · split
      · exact ⟨Nat.le_refl _, h⟩
      · have := ih (i + 1) (v * 10 + (B i - 48).toInt64) (by omega); omega
    · exact ⟨Nat.le_refl _, h⟩
def cB (S : jM) (j : Nat) : Int32 := jAI S 609 j &&& 255
theorem and255 (x : Int32) : ∃ m : Nat, m < 256 ∧ x &&& 255 = nI m := by
  refine ⟨(x &&& 255).toBitVec.toNat, ?_, ?_⟩
  · rw [Int32.toBitVec_and, BitVec.toNat_and]
    have : ((255 : Int32).toBitVec).toNat = 255 := by decide
    rw [this]
    have := @Nat.and_le_right x.toBitVec.toNat 255
    omega
  · have h : (x &&& 255).toBitVec.toNat < 256 := by
      rw [Int32.toBitVec_and, BitVec.toNat_and]
      have : ((255 : Int32).toBitVec).toNat = 255 := by decide
      rw [this]
      have := @Nat.and_le_right x.toBitVec.toNat 255
      omega
    rw [i_eq, nI_toInt (by omega)]
    show (x &&& 255).toBitVec.toInt = _
    rw [BitVec.toInt_eq_toNat_of_lt (by omega)]
def pTk (t f a : Nat) : Prop := (t = 0 ∧ (f = 39 ∨ f = 40 ∨ f = 41 ∨ f = 43) ∧ a = 608) ∨ (t = 1 ∧ f = 42 ∧ a = 608)
theorem Lay.frT {S S' : jM} (h : Lay S) (hF : Fr pTk S S') : Lay S' := h.fr hF (fun f a z => by unfold pTk at z; omega) (fun a z => by unfold pTk at z; omega)
/-- the tape is open: e bytes -/
def tOp (S : jM) (e : Nat) : Prop := Lay S ∧ jI S 38 608 = nI e ∧ e ≤ 1600
theorem tOp.f {S S' : jM} {e : Nat} (h : tOp S e) (hF : Fr pTk S S') : tOp S' e := ⟨h.1.frT hF, by rw [hF.i (by unfold pTk; omega)]; exact h.2.1, h.2.2⟩
theorem cB_f {S S' : jM} (hF : Fr pTk S S') : cB S' = cB S := by
  funext j; unfold cB; rw [hF.ai (by unfold pTk; omega)]
theorem byte_c {S : jM} {e i : Nat} (h : tOp S e) (hi : i < 2147483648) : f_X7_byteAt 608 (nI i) S = some (if i < e then cB S i else -1) := by
  obtain ⟨h1, h2, h3⟩ := h
  unfold f_X7_byteAt
  rw [if_neg (nI_neg hi), if_pos k_608, h2]
  by_cases c : i < e
  · have hA : jA 609 11 (nI i) = true := jA_n k_609 (by rw [ln_609]; omega) hi
    rw [if_neg (by rw [nJ_le (by omega) hi]; omega), if_neg (by rw [show (1600 : Int32) = nI 1600 from rfl, nJ_le (by omega) hi]; omega), ly_36 h1, obt, if_pos hA, if_pos c, nJ_cl hi]
    rfl
  · rw [if_pos (by rw [nJ_le (by omega) hi]; omega), if_neg c]
theorem m1L : f_X7_isLetter (-1) = 0 := by unfold f_X7_isLetter; decide
theorem m1D : f_X7_isDigit (-1) = 0 := by unfold f_X7_isDigit; decide
theorem frTI {S : jM} {f : Nat} {v : Int32} (hf : f = 39 ∨ f = 40 ∨ f = 41 ∨ f = 43) : Fr pTk S (jsI S f 608 v) := (Fr.refl).sI (by unfold pTk; omega)
theorem frTL {S : jM} {v : Int64} : Fr pTk S (jsL S 42 608 v) := (Fr.refl).sL (by unfold pTk; omega)
/-- letters -/
theorem let_loop {e : Nat} : ∀ n fuel i S, tOp S e → jI S 39 608 = nI i → i + n = e → n < fuel → ∃ S', f_X7_readLetters_5 fuel 608 S = f_X7_readLetters_78 608 S' ∧ Fr pTk S S' ∧ jI S' 39 608 = nI (leB (cB S) e n i (jL S 42 608)).1 ∧ jL S' 42 608 = (leB (cB S) e n i (jL S 42 608)).2 ∧ jI S' 41 608 = jI S 41 608 := by
  intro n
  induction n with
  | zero =>
    intro fuel i S h hi h1 h2
    obtain ⟨f, rfl⟩ : ∃ f, fuel = f + 1 := ⟨fuel - 1, by omega⟩
    have := h.2.2
    refine ⟨S, ?_, Fr.refl, hi, rfl, rfl⟩
    rw [f_X7_readLetters_5, if_pos k_608, h.2.1, hi, if_pos (by rw [nJ_le (by omega) (by omega)]; omega)]
  | succ n ih =>
    intro fuel i S h hi h1 h2
    obtain ⟨f, rfl⟩ : ∃ f, fuel = f + 1 := ⟨fuel - 1, by omega⟩
    have he := h.2.2
    have hb := byte_c h (i := i) (by omega)
    rw [if_pos (by omega)] at hb
    have step : f_X7_readLetters_44 (f_X7_readLetters_5 f) 608 S = f_X7_readLetters_5 f 608 (jsI (jsL S 42 608 (shC (jL S 42 608) (cB S i))) 39 608 (nI (i + 1))) := by
      unfold f_X7_readLetters_44
      rw [hi, hb]
      simp only [k_608, m_I_sL, hi, nJ_1 (show i + 1 < 2147483648 by omega), true_and, and_true, and_false, false_and, and_self, if_true, if_false, ite_self, Nat.reduceEqDiff, reduceIte, obt, jlt, jbt, jbd_ite, bind_ite]
      rfl
    have hF : Fr pTk S (jsI (jsL S 42 608 (shC (jL S 42 608) (cB S i))) 39 608 (nI (i + 1))) := frTL.trans (frTI (by omega))
    obtain ⟨S', g1, g2, g3, g4, g5⟩ := ih f (i + 1) _ (h.f hF) (by simp only [m_I_sI, m_L_sI, m_R_sI, m_AI_sI, m_AL_sI, m_AD_sI, m_AR_sI, m_n_sI, m_I_sL, m_L_sL, m_R_sL, m_AI_sL, m_AL_sL, m_AD_sL, m_AR_sL, m_n_sL, m_I_sR, m_L_sR, m_R_sR, m_AI_sR, m_AL_sR, m_AD_sR, m_AR_sR, m_n_sR, m_I_rI, m_L_rI, m_R_rI, m_AI_rI, m_AL_rI, m_AD_rI, m_AR_rI, m_n_rI, m_I_rL, m_L_rL, m_R_rL, m_AI_rL, m_AL_rL, m_AD_rL, m_AR_rL, m_n_rL, m_I_rD, m_L_rD, m_R_rD, m_AI_rD, m_AL_rD, m_AD_rD, m_AR_rD, m_n_rD, m_I_rR, m_L_rR, m_R_rR, m_AI_rR, m_AL_rR, m_AD_rR, m_AR_rR, m_n_rR, true_and, and_true, and_false, false_and, and_self, if_true, if_false, ite_self, Nat.reduceEqDiff, reduceIte, obt, jlt, jbt, jbd_ite, bind_ite]) (by omega) (by omega)
    rw [cB_f hF] at g3 g4
    simp only [m_I_sI, m_L_sI, m_R_sI, m_AI_sI, m_AL_sI, m_AD_sI, m_AR_sI, m_n_sI, m_I_sL, m_L_sL, m_R_sL, m_AI_sL, m_AL_sL, m_AD_sL, m_AR_sL, m_n_sL, m_I_sR, m_L_sR, m_R_sR, m_AI_sR, m_AL_sR, m_AD_sR, m_AR_sR, m_n_sR, m_I_rI, m_L_rI, m_R_rI, m_AI_rI, m_AL_rI, m_AD_rI, m_AR_rI, m_n_rI, m_I_rL, m_L_rL, m_R_rL, m_AI_rL, m_AL_rL, m_AD_rL, m_AR_rL, m_n_rL, m_I_rD, m_L_rD, m_R_rD, m_AI_rD, m_AL_rD, m_AD_rD, m_AR_rD, m_n_rD, m_I_rR, m_L_rR, m_R_rR, m_AI_rR, m_AL_rR, m_AD_rR, m_AR_rR, m_n_rR, true_and, and_true, and_false, false_and, and_self, if_true, if_false, ite_self, Nat.reduceEqDiff, reduceIte, obt, jlt, jbt, jbd_ite, bind_ite] at g3 g4 g5
    rw [f_X7_readLetters_5, if_pos k_608, h.2.1, hi, if_neg (by rw [nJ_le (by omega) (by omega)]; omega), hb, obt, obt]
    unfold leB
    rw [if_pos (show i < e by omega), step]
    by_cases c1 : f_X7_isLetter (cB S i) = 0
    · rw [if_pos c1, if_pos c1]
      by_cases c2 : f_X7_isDigit (cB S i) = 0
      · rw [if_pos c2, if_pos c2]
        exact ⟨S, rfl, Fr.refl, hi, rfl, rfl⟩
      · rw [if_neg c2, if_neg c2]
        exact ⟨S', g1, hF.trans g2, g3, g4, g5⟩
    · rw [if_neg c1, if_neg c1]
      exact ⟨S', g1, hF.trans g2, g3, g4, g5⟩

/-- digits -/
theorem dg_ne {b : Int32} (h : ¬ f_X7_isDigit b = 0) : ¬ b = 46 := fun z => h (by rw [z]; unfold f_X7_isDigit; decide)
theorem dg_step {e f i : Nat} {v1 : Int32} {S : jM} (h : tOp S e) (hi : jI S 39 608 = nI i) (he : i < e) (hd : ¬ f_X7_isDigit (cB S i) = 0) {d : Nat} (hdd : jI S 43 608 = nI d) (hd2 : d < 2000000) :
    f_X7_readDigits_12 (f + 1) 608 v1 S = f_X7_readDigits_12 f 608 v1 (jsI (jsI (jsL S 42 608 (jL S 42 608 * 10 + (cB S i - 48).toInt64)) 43 608 (nI (if v1 = 0 then d else d + 1))) 39 608 (nI (i + 1))) := by
  have h3 := h.2.2
  have hb := byte_c h (i := i) (by omega)
  rw [if_pos he] at hb
  rw [f_X7_readDigits_12, if_pos k_608, h.2.1, hi, if_neg (by rw [nJ_le (by omega) (by omega)]; omega), hb, obt, obt, if_neg hd]
  unfold f_X7_readDigits_70 f_X7_readDigits_127 f_X7_readDigits_131
  rw [hi, hb]
  simp only [k_608, dg_ne hd, m_I_sI, m_L_sI, m_R_sI, m_AI_sI, m_AL_sI, m_AD_sI, m_AR_sI, m_n_sI, m_I_sL, m_L_sL, m_R_sL, m_AI_sL, m_AL_sL, m_AD_sL, m_AR_sL, m_n_sL, m_I_sR, m_L_sR, m_R_sR, m_AI_sR, m_AL_sR, m_AD_sR, m_AR_sR, m_n_sR, m_I_rI, m_L_rI, m_R_rI, m_AI_rI, m_AL_rI, m_AD_rI, m_AR_rI, m_n_rI, m_I_rL, m_L_rL, m_R_rL, m_AI_rL, m_AL_rL, m_AD_rL, m_AR_rL, m_n_rL, m_I_rD, m_L_rD, m_R_rD, m_AI_rD, m_AL_rD, m_AD_rD, m_AR_rD, m_n_rD, m_I_rR, m_L_rR, m_R_rR, m_AI_rR, m_AL_rR, m_AD_rR, m_AR_rR, m_n_rR, hi, hdd, nJ_1 (show i + 1 < 2147483648 by omega), nJ_1 (show d + 1 < 2147483648 by omega), true_and, and_true, and_false, false_and, and_self, if_true, if_false, ite_self, Nat.reduceEqDiff, reduceIte, obt, jlt, jbt, jbd_ite, bind_ite]
  by_cases c : v1 = 0
  · rw [if_pos c, if_pos c, Int32.add_zero]
  · rw [if_neg c, if_neg c]
theorem dg_fr {S : jM} {c : Int64} {d i : Int32} : Fr pTk S (jsI (jsI (jsL S 42 608 c) 43 608 d) 39 608 i) := (frTL.trans (frTI (by omega))).trans (frTI (by omega))
theorem dig_loop {e : Nat} {v1 : Int32} : ∀ n fuel i d S, tOp S e → jI S 39 608 = nI i → i + n = e → n < fuel → jI S 43 608 = nI d → d + n < 2000000 → ∃ S' f', f_X7_readDigits_12 fuel 608 v1 S = f_X7_readDigits_12 (f' + 1) 608 v1 S' ∧ Fr pTk S S' ∧ jI S' 39 608 = nI (diB (cB S) e n i (jL S 42 608)).1 ∧ jL S' 42 608 = (diB (cB S) e n i (jL S 42 608)).2 ∧ jI S' 41 608 = jI S 41 608 ∧ jI S' 43 608 = nI (if v1 = 0 then d else d + ((diB (cB S) e n i (jL S 42 608)).1 - i)) ∧ ((diB (cB S) e n i (jL S 42 608)).1 < e → f_X7_isDigit (cB S (diB (cB S) e n i (jL S 42 608)).1) = 0) ∧ e ≤ (diB (cB S) e n i (jL S 42 608)).1 + f' := by
  intro n
  induction n with
  | zero =>
    intro fuel i d S h hi h1 h2 h3 h4
    obtain ⟨f, rfl⟩ : ∃ f, fuel = f + 1 := ⟨fuel - 1, by omega⟩
    refine ⟨S, f, rfl, Fr.refl, hi, rfl, rfl, ?_, fun z => ?_, ?_⟩
    · unfold diB
      rw [h3]
      split
      · rfl
      · congr 1; omega
    · unfold diB at z; omega
    · unfold diB; show e ≤ i + f; omega
  | succ n ih =>
    intro fuel i d S h hi h1 h2 h3 h4
    obtain ⟨f, rfl⟩ : ∃ f, fuel = f + 1 := ⟨fuel - 1, by omega⟩
    by_cases c : f_X7_isDigit (cB S i) = 0
    · have hdi : diB (cB S) e (n + 1) i (jL S 42 608) = (i, jL S 42 608) := by
        unfold diB
        rw [if_pos (show i < e by omega), if_pos c]
      rw [hdi]
      refine ⟨S, f, rfl, Fr.refl, hi, rfl, rfl, ?_, fun _ => c, ?_⟩
      · rw [h3]
        split
        · rfl
        · congr 1; omega
      · show e ≤ i + f; omega
    · have hdi : diB (cB S) e (n + 1) i (jL S 42 608) = diB (cB S) e n (i + 1) (jL S 42 608 * 10 + (cB S i - 48).toInt64) := by
        conv => lhs; unfold diB
        rw [if_pos (show i < e by omega), if_neg c]
      obtain ⟨S', f', g1, g2, g3, g4, g5, g6, g7, g8⟩ := ih f (i + 1) (if v1 = 0 then d else d + 1) _ (h.f (dg_fr (S := S) (c := jL S 42 608 * 10 + (cB S i - 48).toInt64) (d := nI (if v1 = 0 then d else d + 1)) (i := nI (i + 1)))) (by simp only [m_I_sI, m_L_sI, m_R_sI, m_AI_sI, m_AL_sI, m_AD_sI, m_AR_sI, m_n_sI, m_I_sL, m_L_sL, m_R_sL, m_AI_sL, m_AL_sL, m_AD_sL, m_AR_sL, m_n_sL, m_I_sR, m_L_sR, m_R_sR, m_AI_sR, m_AL_sR, m_AD_sR, m_AR_sR, m_n_sR, m_I_rI, m_L_rI, m_R_rI, m_AI_rI, m_AL_rI, m_AD_rI, m_AR_rI, m_n_rI, m_I_rL, m_L_rL, m_R_rL, m_AI_rL, m_AL_rL, m_AD_rL, m_AR_rL, m_n_rL, m_I_rD, m_L_rD, m_R_rD, m_AI_rD, m_AL_rD, m_AD_rD, m_AR_rD, m_n_rD, m_I_rR, m_L_rR, m_R_rR, m_AI_rR, m_AL_rR, m_AD_rR, m_AR_rR, m_n_rR, true_and, and_true, and_false, false_and, and_self, if_true, if_false, ite_self, Nat.reduceEqDiff, reduceIte, obt, jlt, jbt, jbd_ite, bind_ite]) (by omega) (by omega) (by simp only [m_I_sI, m_L_sI, m_R_sI, m_AI_sI, m_AL_sI, m_AD_sI, m_AR_sI, m_n_sI, m_I_sL, m_L_sL, m_R_sL, m_AI_sL, m_AL_sL, m_AD_sL, m_AR_sL, m_n_sL, m_I_sR, m_L_sR, m_R_sR, m_AI_sR, m_AL_sR, m_AD_sR, m_AR_sR, m_n_sR, m_I_rI, m_L_rI, m_R_rI, m_AI_rI, m_AL_rI, m_AD_rI, m_AR_rI, m_n_rI, m_I_rL, m_L_rL, m_R_rL, m_AI_rL, m_AL_rL, m_AD_rL, m_AR_rL, m_n_rL, m_I_rD, m_L_rD, m_R_rD, m_AI_rD, m_AL_rD, m_AD_rD, m_AR_rD, m_n_rD, m_I_rR, m_L_rR, m_R_rR, m_AI_rR, m_AL_rR, m_AD_rR, m_AR_rR, m_n_rR, true_and, and_true, and_false, false_and, and_self, if_true, if_false, ite_self, Nat.reduceEqDiff, reduceIte, obt, jlt, jbt, jbd_ite, bind_ite]) (by split <;> omega)
      rw [cB_f dg_fr] at g3 g4 g6 g7 g8
      simp only [m_I_sI, m_L_sI, m_R_sI, m_AI_sI, m_AL_sI, m_AD_sI, m_AR_sI, m_n_sI, m_I_sL, m_L_sL, m_R_sL, m_AI_sL, m_AL_sL, m_AD_sL, m_AR_sL, m_n_sL, m_I_sR, m_L_sR, m_R_sR, m_AI_sR, m_AL_sR, m_AD_sR, m_AR_sR, m_n_sR, m_I_rI, m_L_rI, m_R_rI, m_AI_rI, m_AL_rI, m_AD_rI, m_AR_rI, m_n_rI, m_I_rL, m_L_rL, m_R_rL, m_AI_rL, m_AL_rL, m_AD_rL, m_AR_rL, m_n_rL, m_I_rD, m_L_rD, m_R_rD, m_AI_rD, m_AL_rD, m_AD_rD, m_AR_rD, m_n_rD, m_I_rR, m_L_rR, m_R_rR, m_AI_rR, m_AL_rR, m_AD_rR, m_AR_rR, m_n_rR, true_and, and_true, and_false, false_and, and_self, if_true, if_false, ite_self, Nat.reduceEqDiff, reduceIte, obt, jlt, jbt, jbd_ite, bind_ite] at g3 g4 g5 g6 g7 g8
      rw [dg_step h hi (by omega) c h3 (by omega), hdi]
      refine ⟨S', f', g1, dg_fr.trans g2, g3, g4, g5, ?_, g7, g8⟩
      have hle := (diB_le (cB S) e n (i + 1) (jL S 42 608 * 10 + (cB S i - 48).toInt64) (by omega)).1
      rw [g6]
      by_cases cv : v1 = 0
      · rw [if_pos cv, if_pos cv, if_pos cv]
      · rw [if_neg cv, if_neg cv, if_neg cv]; congr 1; omega
def tokAt (B : Nat → Int32) (e p : Nat) (S : jM) : Prop := jI S 41 608 = nI p ∧ jI S 40 608 = (tkv B e p).1 ∧ jI S 39 608 = nI (tkv B e p).2.2.2 ∧ ((tkv B e p).1 = 2 ∨ (tkv B e p).1 = 3 ∨ (tkv B e p).1 = 4 → jL S 42 608 = (tkv B e p).2.1) ∧ ((tkv B e p).1 = 4 → jI S 43 608 = nI (tkv B e p).2.2.1)
theorem let_ok {e p : Nat} {S : jM} (h : tOp S e) (hi : jI S 39 608 = nI p) (h41 : jI S 41 608 = nI p) (he : p < e) (hl : ¬ f_X7_isLetter (cB S p) = 0) : ∃ S', f_X7_readLetters 608 S = some S' ∧ Fr pTk S S' ∧ tokAt (cB S) e p S' := by
  have h3 := h.2.2
  obtain ⟨S', g1, g2, g3, g4, g5⟩ := let_loop (e - p) 1100000 p (jsL S 42 608 0) (h.f frTL) (by simp only [m_I_sI, m_L_sI, m_R_sI, m_AI_sI, m_AL_sI, m_AD_sI, m_AR_sI, m_n_sI, m_I_sL, m_L_sL, m_R_sL, m_AI_sL, m_AL_sL, m_AD_sL, m_AR_sL, m_n_sL, m_I_sR, m_L_sR, m_R_sR, m_AI_sR, m_AL_sR, m_AD_sR, m_AR_sR, m_n_sR, m_I_rI, m_L_rI, m_R_rI, m_AI_rI, m_AL_rI, m_AD_rI, m_AR_rI, m_n_rI, m_I_rL, m_L_rL, m_R_rL, m_AI_rL, m_AL_rL, m_AD_rL, m_AR_rL, m_n_rL, m_I_rD, m_L_rD, m_R_rD, m_AI_rD, m_AL_rD, m_AD_rD, m_AR_rD, m_n_rD, m_I_rR, m_L_rR, m_R_rR, m_AI_rR, m_AL_rR, m_AD_rR, m_AR_rR, m_n_rR]; exact hi) (by omega) (by omega)
  rw [cB_f frTL] at g3 g4
  simp only [m_I_sI, m_L_sI, m_R_sI, m_AI_sI, m_AL_sI, m_AD_sI, m_AR_sI, m_n_sI, m_I_sL, m_L_sL, m_R_sL, m_AI_sL, m_AL_sL, m_AD_sL, m_AR_sL, m_n_sL, m_I_sR, m_L_sR, m_R_sR, m_AI_sR, m_AL_sR, m_AD_sR, m_AR_sR, m_n_sR, m_I_rI, m_L_rI, m_R_rI, m_AI_rI, m_AL_rI, m_AD_rI, m_AR_rI, m_n_rI, m_I_rL, m_L_rL, m_R_rL, m_AI_rL, m_AL_rL, m_AD_rL, m_AR_rL, m_n_rL, m_I_rD, m_L_rD, m_R_rD, m_AI_rD, m_AL_rD, m_AD_rD, m_AR_rD, m_n_rD, m_I_rR, m_L_rR, m_R_rR, m_AI_rR, m_AL_rR, m_AD_rR, m_AR_rR, m_n_rR, true_and, and_true, and_false, false_and, and_self, if_true, if_false, ite_self, Nat.reduceEqDiff, reduceIte, obt, jlt, jbt, jbd_ite, bind_ite] at g3 g4 g5
  have hle := leB_le (cB S) e (e - p) p 0 (by omega)
  have ht : tkv (cB S) e p = (if (leB (cB S) e (e - p) p 0).1 - p ≤ 8 then wd (leB (cB S) e (e - p) p 0).2 else 1, (leB (cB S) e (e - p) p 0).2, 0, (leB (cB S) e (e - p) p 0).1) := by
    unfold tkv
    rw [if_pos he, if_neg hl]
  refine ⟨jsI S' 40 608 (tkv (cB S) e p).1, ?_, (frTL.trans g2).trans (frTI (by omega)), ?_⟩
  · unfold f_X7_readLetters
    rw [if_pos k_608, jlt, g1]
    unfold f_X7_readLetters_78 f_X7_readLetters_104
    rw [if_pos k_608, g3, g5, h41, nJ_sub (by omega) hle.1, g4, word_c, ht]
    simp only [k_608, show (8 : Int32) = nI 8 from rfl, nJ_le (show (leB (cB S) e (e - p) p 0).1 - p < 2147483648 by omega) (show 8 < 2147483648 by omega), true_and, and_true, and_false, false_and, and_self, if_true, if_false, ite_self, Nat.reduceEqDiff, reduceIte, obt, jlt, jbt, jbd_ite, bind_ite]
    split
    · rfl
    · rfl
  · unfold tokAt
    simp only [m_I_sI, m_L_sI, m_R_sI, m_AI_sI, m_AL_sI, m_AD_sI, m_AR_sI, m_n_sI, m_I_sL, m_L_sL, m_R_sL, m_AI_sL, m_AL_sL, m_AD_sL, m_AR_sL, m_n_sL, m_I_sR, m_L_sR, m_R_sR, m_AI_sR, m_AL_sR, m_AD_sR, m_AR_sR, m_n_sR, m_I_rI, m_L_rI, m_R_rI, m_AI_rI, m_AL_rI, m_AD_rI, m_AR_rI, m_n_rI, m_I_rL, m_L_rL, m_R_rL, m_AI_rL, m_AL_rL, m_AD_rL, m_AR_rL, m_n_rL, m_I_rD, m_L_rD, m_R_rD, m_AI_rD, m_AL_rD, m_AD_rD, m_AR_rD, m_n_rD, m_I_rR, m_L_rR, m_R_rR, m_AI_rR, m_AL_rR, m_AD_rR, m_AR_rR, m_n_rR, true_and, and_true, and_false, false_and, and_self, if_true, if_false, ite_self, Nat.reduceEqDiff, reduceIte, obt, jlt, jbt, jbd_ite, bind_ite]
    rw [ht]
    refine ⟨?_, g3, fun _ => g4, fun z => ?_⟩
    · rw [g5]; exact h41
    · exfalso
      have : (if (leB (cB S) e (e - p) p 0).1 - p ≤ 8 then wd (leB (cB S) e (e - p) p 0).2 else (1 : Int32)) ≠ 4 := by
        split
        · rcases wd_rng (leB (cB S) e (e - p) p 0).2 with w | w
          · rw [w]; decide
          · intro w2; rw [w2] at w; revert w; decide
        · decide
      exact this z

theorem dig_end {S : jM} {v1 : Int32} {e j : Nat} {f : Nat} (h : tOp S e) (hi : jI S 39 608 = nI j) (hj : j ≤ e) (hd : j < e → f_X7_isDigit (cB S j) = 0) : f_X7_readDigits_12 (f + 1) 608 v1 S = if j + 1 < e ∧ cB S j = 46 ∧ ¬ f_X7_isDigit (cB S (j + 1)) = 0 ∧ v1 = 0 then f_X7_readDigits_12 f 608 1 (jsI S 39 608 (nI (j + 1))) else f_X7_readDigits_144 608 v1 S := by
  have h3 := h.2.2
  have hb := byte_c h (i := j) (by omega)
  have hb1 := byte_c h (i := j + 1) (by omega)
  rw [f_X7_readDigits_12, if_pos k_608, h.2.1, hi]
  by_cases c : j < e
  · rw [if_pos c] at hb
    rw [if_neg (by rw [nJ_le (by omega) (by omega)]; omega), hb, obt, if_pos (hd c), obt, nJ_1 (by omega), hb1]
    by_cases c2 : cB S j = 46
    · rw [if_pos c2, obt]
      by_cases c3 : j + 1 < e
      · rw [if_pos c3]
        by_cases c4 : f_X7_isDigit (cB S (j + 1)) = 0
        · rw [if_pos c4, if_neg (fun z => z.2.2.1 c4)]
        · rw [if_neg c4]
          by_cases c5 : v1 = 0
          · rw [if_pos c5, if_pos ⟨c3, c2, c4, c5⟩]
            unfold f_X7_readDigits_70 f_X7_readDigits_131
            rw [if_pos k_608, hi, hb, obt, if_pos c2, if_pos k_608, jlt, nJ_1 (by omega)]
          · rw [if_neg c5, if_neg (fun z => c5 z.2.2.2)]
      · rw [if_neg c3, if_pos m1D, if_neg (fun z => c3 z.1)]
    · rw [if_neg c2, if_neg (fun z => c2 z.2.1)]
  · rw [if_pos (by rw [nJ_le (by omega) (by omega)]; omega), if_neg (fun z => c (by omega))]
theorem dig_ok {e p : Nat} {S : jM} (h : tOp S e) (hi : jI S 39 608 = nI p) (h41 : jI S 41 608 = nI p) (he : p < e) (hl : f_X7_isLetter (cB S p) = 0) (hd : ¬ f_X7_isDigit (cB S p) = 0) : ∃ S', f_X7_readDigits 608 S = some S' ∧ Fr pTk S S' ∧ tokAt (cB S) e p S' := by
  have h3 := h.2.2
  have hF0 : Fr pTk S (jsI (jsL S 42 608 0) 43 608 0) := frTL.trans (frTI (by omega))
  obtain ⟨S1, f1, g1, g2, g3, g4, g5, g6, g7, g8⟩ := dig_loop (v1 := 0) (e := e) (e - p) 1100000 p 0 _ (h.f hF0) (by simp only [m_I_sI, m_L_sI, m_R_sI, m_AI_sI, m_AL_sI, m_AD_sI, m_AR_sI, m_n_sI, m_I_sL, m_L_sL, m_R_sL, m_AI_sL, m_AL_sL, m_AD_sL, m_AR_sL, m_n_sL, m_I_sR, m_L_sR, m_R_sR, m_AI_sR, m_AL_sR, m_AD_sR, m_AR_sR, m_n_sR, m_I_rI, m_L_rI, m_R_rI, m_AI_rI, m_AL_rI, m_AD_rI, m_AR_rI, m_n_rI, m_I_rL, m_L_rL, m_R_rL, m_AI_rL, m_AL_rL, m_AD_rL, m_AR_rL, m_n_rL, m_I_rD, m_L_rD, m_R_rD, m_AI_rD, m_AL_rD, m_AD_rD, m_AR_rD, m_n_rD, m_I_rR, m_L_rR, m_R_rR, m_AI_rR, m_AL_rR, m_AD_rR, m_AR_rR, m_n_rR]; exact hi) (by omega) (by omega) (by simp only [m_I_sI, m_L_sI, m_R_sI, m_AI_sI, m_AL_sI, m_AD_sI, m_AR_sI, m_n_sI, m_I_sL, m_L_sL, m_R_sL, m_AI_sL, m_AL_sL, m_AD_sL, m_AR_sL, m_n_sL, m_I_sR, m_L_sR, m_R_sR, m_AI_sR, m_AL_sR, m_AD_sR, m_AR_sR, m_n_sR, m_I_rI, m_L_rI, m_R_rI, m_AI_rI, m_AL_rI, m_AD_rI, m_AR_rI, m_n_rI, m_I_rL, m_L_rL, m_R_rL, m_AI_rL, m_AL_rL, m_AD_rL, m_AR_rL, m_n_rL, m_I_rD, m_L_rD, m_R_rD, m_AI_rD, m_AL_rD, m_AD_rD, m_AR_rD, m_n_rD, m_I_rR, m_L_rR, m_R_rR, m_AI_rR, m_AL_rR, m_AD_rR, m_AR_rR, m_n_rR, true_and, and_true, and_false, false_and, and_self, if_true, if_false, ite_self, Nat.reduceEqDiff, reduceIte, obt, jlt, jbt, jbd_ite, bind_ite]; rfl) (by omega)
  rw [cB_f hF0] at g3 g4 g6 g7 g8
  simp only [m_I_sI, m_L_sI, m_R_sI, m_AI_sI, m_AL_sI, m_AD_sI, m_AR_sI, m_n_sI, m_I_sL, m_L_sL, m_R_sL, m_AI_sL, m_AL_sL, m_AD_sL, m_AR_sL, m_n_sL, m_I_sR, m_L_sR, m_R_sR, m_AI_sR, m_AL_sR, m_AD_sR, m_AR_sR, m_n_sR, m_I_rI, m_L_rI, m_R_rI, m_AI_rI, m_AL_rI, m_AD_rI, m_AR_rI, m_n_rI, m_I_rL, m_L_rL, m_R_rL, m_AI_rL, m_AL_rL, m_AD_rL, m_AR_rL, m_n_rL, m_I_rD, m_L_rD, m_R_rD, m_AI_rD, m_AL_rD, m_AD_rD, m_AR_rD, m_n_rD, m_I_rR, m_L_rR, m_R_rR, m_AI_rR, m_AL_rR, m_AD_rR, m_AR_rR, m_n_rR, true_and, and_true, and_false, false_and, and_self, if_true, if_false, ite_self, Nat.reduceEqDiff, reduceIte, obt, jlt, jbt, jbd_ite, bind_ite] at g3 g4 g5 g6 g7 g8
  have hle := diB_le (cB S) e (e - p) p 0 (by omega)
  generalize hr : diB (cB S) e (e - p) p 0 = r at *
  have hF1 : Fr pTk S S1 := hF0.trans g2
  have hend := dig_end (v1 := 0) (f := f1) (h.f hF1) g3 hle.2 (by rw [cB_f hF1]; exact g7)
  rw [cB_f hF1] at hend
  have e0 : f_X7_readDigits 608 S = f_X7_readDigits_12 (f1 + 1) 608 0 S1 := by
    unfold f_X7_readDigits
    rw [if_pos k_608, jlt, jlt, g1]
  by_cases cc : r.1 + 1 < e ∧ cB S r.1 = 46 ∧ ¬ f_X7_isDigit (cB S (r.1 + 1)) = 0
  · rw [if_pos ⟨cc.1, cc.2.1, cc.2.2, rfl⟩] at hend
    have hF2 : Fr pTk S1 (jsI S1 39 608 (nI (r.1 + 1))) := frTI (by omega)
    obtain ⟨S2, f2, q1, q2, q3, q4, q5, q6, q7, q8⟩ := dig_loop (v1 := 1) (e := e) (e - (r.1 + 1)) f1 (r.1 + 1) 0 _ ((h.f hF1).f hF2) (by simp only [m_I_sI, m_L_sI, m_R_sI, m_AI_sI, m_AL_sI, m_AD_sI, m_AR_sI, m_n_sI, m_I_sL, m_L_sL, m_R_sL, m_AI_sL, m_AL_sL, m_AD_sL, m_AR_sL, m_n_sL, m_I_sR, m_L_sR, m_R_sR, m_AI_sR, m_AL_sR, m_AD_sR, m_AR_sR, m_n_sR, m_I_rI, m_L_rI, m_R_rI, m_AI_rI, m_AL_rI, m_AD_rI, m_AR_rI, m_n_rI, m_I_rL, m_L_rL, m_R_rL, m_AI_rL, m_AL_rL, m_AD_rL, m_AR_rL, m_n_rL, m_I_rD, m_L_rD, m_R_rD, m_AI_rD, m_AL_rD, m_AD_rD, m_AR_rD, m_n_rD, m_I_rR, m_L_rR, m_R_rR, m_AI_rR, m_AL_rR, m_AD_rR, m_AR_rR, m_n_rR, true_and, and_true, and_false, false_and, and_self, if_true, if_false, ite_self, Nat.reduceEqDiff, reduceIte, obt, jlt, jbt, jbd_ite, bind_ite]) (by omega) (by omega) (by simp only [m_I_sI, m_L_sI, m_R_sI, m_AI_sI, m_AL_sI, m_AD_sI, m_AR_sI, m_n_sI, m_I_sL, m_L_sL, m_R_sL, m_AI_sL, m_AL_sL, m_AD_sL, m_AR_sL, m_n_sL, m_I_sR, m_L_sR, m_R_sR, m_AI_sR, m_AL_sR, m_AD_sR, m_AR_sR, m_n_sR, m_I_rI, m_L_rI, m_R_rI, m_AI_rI, m_AL_rI, m_AD_rI, m_AR_rI, m_n_rI, m_I_rL, m_L_rL, m_R_rL, m_AI_rL, m_AL_rL, m_AD_rL, m_AR_rL, m_n_rL, m_I_rD, m_L_rD, m_R_rD, m_AI_rD, m_AL_rD, m_AD_rD, m_AR_rD, m_n_rD, m_I_rR, m_L_rR, m_R_rR, m_AI_rR, m_AL_rR, m_AD_rR, m_AR_rR, m_n_rR, true_and, and_true, and_false, false_and, and_self, if_true, if_false, ite_self, Nat.reduceEqDiff, reduceIte, obt, jlt, jbt, jbd_ite, bind_ite]; exact g6) (by omega)
    rw [cB_f hF2, cB_f hF1] at q3 q4 q6 q7 q8
    simp only [m_I_sI, m_L_sI, m_R_sI, m_AI_sI, m_AL_sI, m_AD_sI, m_AR_sI, m_n_sI, m_I_sL, m_L_sL, m_R_sL, m_AI_sL, m_AL_sL, m_AD_sL, m_AR_sL, m_n_sL, m_I_sR, m_L_sR, m_R_sR, m_AI_sR, m_AL_sR, m_AD_sR, m_AR_sR, m_n_sR, m_I_rI, m_L_rI, m_R_rI, m_AI_rI, m_AL_rI, m_AD_rI, m_AR_rI, m_n_rI, m_I_rL, m_L_rL, m_R_rL, m_AI_rL, m_AL_rL, m_AD_rL, m_AR_rL, m_n_rL, m_I_rD, m_L_rD, m_R_rD, m_AI_rD, m_AL_rD, m_AD_rD, m_AR_rD, m_n_rD, m_I_rR, m_L_rR, m_R_rR, m_AI_rR, m_AL_rR, m_AD_rR, m_AR_rR, m_n_rR, true_and, and_true, and_false, false_and, and_self, if_true, if_false, ite_self, Nat.reduceEqDiff, reduceIte, obt, jlt, jbt, jbd_ite, bind_ite] at q3 q4 q5 q6 q7 q8
    rw [g4] at q3 q4 q6 q7 q8
    have hls := diB_le (cB S) e (e - (r.1 + 1)) (r.1 + 1) r.2 (by omega)
    have ht : tkv (cB S) e p = (if r.1 - p ≤ 9 ∧ (diB (cB S) e (e - (r.1 + 1)) (r.1 + 1) r.2).1 - (r.1 + 1) ≤ 6 then 4 else 1, (diB (cB S) e (e - (r.1 + 1)) (r.1 + 1) r.2).2, (diB (cB S) e (e - (r.1 + 1)) (r.1 + 1) r.2).1 - (r.1 + 1), (diB (cB S) e (e - (r.1 + 1)) (r.1 + 1) r.2).1) := by
      unfold tkv
      rw [if_pos he, if_pos hl, if_neg hd, hr, if_pos cc]
    generalize hs : diB (cB S) e (e - (r.1 + 1)) (r.1 + 1) r.2 = s at *
    have hF3 : Fr pTk S S2 := (hF1.trans hF2).trans q2
    have hend2 := dig_end (v1 := 1) (f := f2) (h.f hF3) q3 hls.2 (by rw [cB_f hF3]; exact q7)
    rw [if_neg (fun z => absurd z.2.2.2 (by decide))] at hend2
    rw [if_neg (by decide), Nat.zero_add] at q6
    refine ⟨jsI S2 40 608 (tkv (cB S) e p).1, ?_, hF3.trans (frTI (by omega)), ?_⟩
    · rw [e0, hend, q1, hend2, ht]
      unfold f_X7_readDigits_144 f_X7_readDigits_162 f_X7_readDigits_193 f_X7_readDigits_194
      have a1 : (nI s.1 - nI p : Int32) - 1 = nI (s.1 - p - 1) := by
        rw [nJ_sub (by omega) (by omega), show (1 : Int32) = nI 1 from rfl, nJ_sub (by omega) (by omega)]
      have a2 : nI (s.1 - p - 1) - nI (s.1 - (r.1 + 1)) = nI (r.1 - p) := by
        rw [nJ_sub (by omega) (by omega)]; congr 1; omega
      simp only [k_608, q3, q5, g5, h41, a1, a2, q6, jlt, show ((1 : Int32) = 0) = False from by decide, if_false, if_true, show (9 : Int32) = nI 9 from rfl, show (6 : Int32) = nI 6 from rfl, nJ_lt (show 9 < 2147483648 by omega) (show r.1 - p < 2147483648 by omega), nJ_lt (show 6 < 2147483648 by omega) (show s.1 - (r.1 + 1) < 2147483648 by omega)]
      by_cases c1 : 9 < r.1 - p
      · rw [if_pos c1, if_neg (by omega)]
      · rw [if_neg c1]
        by_cases c2 : 6 < s.1 - (r.1 + 1)
        · rw [if_pos c2, if_neg (by omega)]
        · rw [if_neg c2, if_pos (by omega)]
    · unfold tokAt
      simp only [m_I_sI, m_L_sI, m_R_sI, m_AI_sI, m_AL_sI, m_AD_sI, m_AR_sI, m_n_sI, m_I_sL, m_L_sL, m_R_sL, m_AI_sL, m_AL_sL, m_AD_sL, m_AR_sL, m_n_sL, m_I_sR, m_L_sR, m_R_sR, m_AI_sR, m_AL_sR, m_AD_sR, m_AR_sR, m_n_sR, m_I_rI, m_L_rI, m_R_rI, m_AI_rI, m_AL_rI, m_AD_rI, m_AR_rI, m_n_rI, m_I_rL, m_L_rL, m_R_rL, m_AI_rL, m_AL_rL, m_AD_rL, m_AR_rL, m_n_rL, m_I_rD, m_L_rD, m_R_rD, m_AI_rD, m_AL_rD, m_AD_rD, m_AR_rD, m_n_rD, m_I_rR, m_L_rR, m_R_rR, m_AI_rR, m_AL_rR, m_AD_rR, m_AR_rR, m_n_rR, true_and, and_true, and_false, false_and, and_self, if_true, if_false, ite_self, Nat.reduceEqDiff, reduceIte, obt, jlt, jbt, jbd_ite, bind_ite]
      rw [ht]
      exact ⟨by rw [q5, g5]; exact h41, q3, fun _ => q4, fun _ => q6⟩
  · rw [if_neg (fun z => cc ⟨z.1, z.2.1, z.2.2.1⟩)] at hend
    have ht : tkv (cB S) e p = (if r.1 - p ≤ 15 then 3 else 1, r.2, 0, r.1) := by
      unfold tkv
      rw [if_pos he, if_pos hl, if_neg hd, hr, if_neg cc]
    refine ⟨jsI S1 40 608 (tkv (cB S) e p).1, ?_, hF1.trans (frTI (by omega)), ?_⟩
    · rw [e0, hend, ht]
      unfold f_X7_readDigits_144 f_X7_readDigits_162 f_X7_readDigits_212
      have a1 : (nI r.1 - nI p : Int32) - 0 = nI (r.1 - p) := by
        rw [nJ_sub (by omega) (by omega), Int32.sub_zero]
      simp only [k_608, g3, g5, h41, a1, jlt, if_true, show (15 : Int32) = nI 15 from rfl, nJ_lt (show 15 < 2147483648 by omega) (show r.1 - p < 2147483648 by omega)]
      by_cases c1 : 15 < r.1 - p
      · rw [if_pos c1, if_neg (by omega)]
      · rw [if_neg c1, if_pos (by omega)]
    · unfold tokAt
      simp only [m_I_sI, m_L_sI, m_R_sI, m_AI_sI, m_AL_sI, m_AD_sI, m_AR_sI, m_n_sI, m_I_sL, m_L_sL, m_R_sL, m_AI_sL, m_AL_sL, m_AD_sL, m_AR_sL, m_n_sL, m_I_sR, m_L_sR, m_R_sR, m_AI_sR, m_AL_sR, m_AD_sR, m_AR_sR, m_n_sR, m_I_rI, m_L_rI, m_R_rI, m_AI_rI, m_AL_rI, m_AD_rI, m_AR_rI, m_n_rI, m_I_rL, m_L_rL, m_R_rL, m_AI_rL, m_AL_rL, m_AD_rL, m_AR_rL, m_n_rL, m_I_rD, m_L_rD, m_R_rD, m_AI_rD, m_AL_rD, m_AD_rD, m_AR_rD, m_n_rD, m_I_rR, m_L_rR, m_R_rR, m_AI_rR, m_AL_rR, m_AD_rR, m_AR_rR, m_n_rR, true_and, and_true, and_false, false_and, and_self, if_true, if_false, ite_self, Nat.reduceEqDiff, reduceIte, obt, jlt, jbt, jbd_ite, bind_ite]
      rw [ht]
      refine ⟨by rw [g5]; exact h41, g3, fun _ => g4, fun z => ?_⟩
      have z2 : (if r.1 - p ≤ 15 then (3 : Int32) else 1) = 4 := z
      exfalso
      split at z2
      · exact absurd z2 (by decide)
      · exact absurd z2 (by decide)

theorem sgn_c {b : Int32} (hb : ∃ m : Nat, m < 256 ∧ b = nI m) (h33 : ¬ b = 33) : (f_J0_indexOf_0f7a4 1 ((b.toUInt32 % 65536).toInt32)).bind (fun x4 => some (decide (0 ≤ x4))) = some (decide (b = 59 ∨ b = 61 ∨ b = 43 ∨ b = 45 ∨ b = 42 ∨ b = 47 ∨ b = 37 ∨ b = 40 ∨ b = 41 ∨ b = 91 ∨ b = 93 ∨ b = 44 ∨ b = 60)) := by
  obtain ⟨m, hm, rfl⟩ := hb
  have h := sgn_ok ⟨m, hm⟩
  have e : ∀ k : Nat, k < 256 → (nI m = nI k ↔ m = k) := fun k hk => by
    rw [i_eq, nI_toInt (by omega), nI_toInt (by omega)]; omega
  have m33 : ¬ m = 33 := fun z => h33 ((e 33 (by omega)).mpr z)
  cases hx : f_J0_indexOf_0f7a4 1 ((nI m).toUInt32 % 65536).toInt32 with
  | none => rw [hx] at h; cases h
  | some x =>
    rw [hx] at h
    have h2 : decide (0 ≤ x) = decide (m = 59 ∨ m = 61 ∨ m = 43 ∨ m = 45 ∨ m = 42 ∨ m = 47 ∨ m = 37 ∨ m = 40 ∨ m = 41 ∨ m = 91 ∨ m = 93 ∨ m = 44 ∨ m = 60 ∨ m = 33) := by injection h
    rw [obt, h2]
    congr 1
    refine decide_eq_decide.mpr ?_
    rw [show (59 : Int32) = nI 59 from rfl, show (61 : Int32) = nI 61 from rfl, show (43 : Int32) = nI 43 from rfl, show (45 : Int32) = nI 45 from rfl, show (42 : Int32) = nI 42 from rfl, show (47 : Int32) = nI 47 from rfl, show (37 : Int32) = nI 37 from rfl, show (40 : Int32) = nI 40 from rfl, show (41 : Int32) = nI 41 from rfl, show (91 : Int32) = nI 91 from rfl, show (93 : Int32) = nI 93 from rfl, show (44 : Int32) = nI 44 from rfl, show (60 : Int32) = nI 60 from rfl]
    rw [e 59 (by omega), e 61 (by omega), e 43 (by omega), e 45 (by omega), e 42 (by omega), e 47 (by omega), e 37 (by omega), e 40 (by omega), e 41 (by omega), e 91 (by omega), e 93 (by omega), e 44 (by omega), e 60 (by omega)]
    omega
theorem sgn_ok2 {e p : Nat} {S : jM} (h : tOp S e) (hi : jI S 39 608 = nI p) (h41 : jI S 41 608 = nI p) (he : p < e) (hl : f_X7_isLetter (cB S p) = 0) (hd : f_X7_isDigit (cB S p) = 0) : ∃ S', f_X7_readSign 608 (cB S p) S = some S' ∧ Fr pTk S S' ∧ tokAt (cB S) e p S' := by
  have h3 := h.2.2
  have hb1 := byte_c h (i := p + 1) (by omega)
  have hrng := and255 (jAI S 609 p)
  have ht : tkv (cB S) e p = (if cB S p = 60 ∧ p + 1 < e ∧ cB S (p + 1) = 61 then (9, 0, 0, p + 2)
         else if cB S p = 33 ∧ p + 1 < e ∧ cB S (p + 1) = 61 then (10, 0, 0, p + 2)
         else (if cB S p = 59 ∨ cB S p = 61 ∨ cB S p = 43 ∨ cB S p = 45 ∨ cB S p = 42 ∨ cB S p = 47 ∨ cB S p = 37 ∨ cB S p = 40 ∨ cB S p = 41 ∨ cB S p = 91 ∨ cB S p = 93 ∨ cB S p = 44 ∨ cB S p = 60 then cB S p else 1, 0, 0, p + 1)) := by
    unfold tkv
    rw [if_pos he, if_pos hl, if_pos hd]
  -- the answer, once the sign and what it is are known
  have fin : ∀ (k : Int32) (a : Nat), tkv (cB S) e p = (k, 0, 0, a) → (k ≠ 2 ∧ k ≠ 3 ∧ k ≠ 4) → (f_X7_readSign 608 (cB S p) S = some (jsI (jsI S 39 608 (nI a)) 40 608 k) ∨ f_X7_readSign 608 (cB S p) S = some (jsI (jsI (jsI S 39 608 (nI (p + 1))) 40 608 k) 39 608 (nI a))) → ∃ S', f_X7_readSign 608 (cB S p) S = some S' ∧ Fr pTk S S' ∧ tokAt (cB S) e p S' := by
    intro k a e1 e2 e3
    have hno : ∀ X : Prop, (k = 2 ∨ k = 3 ∨ k = 4 → X) := fun X z => by
      rcases z with z | z | z
      · exact absurd z e2.1
      · exact absurd z e2.2.1
      · exact absurd z e2.2.2
    rcases e3 with e3 | e3
    · refine ⟨_, e3, (frTI (by omega)).trans (frTI (by omega)), ?_⟩
      unfold tokAt
      rw [e1]
      simp only [m_I_sI, m_L_sI, m_R_sI, m_AI_sI, m_AL_sI, m_AD_sI, m_AR_sI, m_n_sI, m_I_sL, m_L_sL, m_R_sL, m_AI_sL, m_AL_sL, m_AD_sL, m_AR_sL, m_n_sL, m_I_sR, m_L_sR, m_R_sR, m_AI_sR, m_AL_sR, m_AD_sR, m_AR_sR, m_n_sR, m_I_rI, m_L_rI, m_R_rI, m_AI_rI, m_AL_rI, m_AD_rI, m_AR_rI, m_n_rI, m_I_rL, m_L_rL, m_R_rL, m_AI_rL, m_AL_rL, m_AD_rL, m_AR_rL, m_n_rL, m_I_rD, m_L_rD, m_R_rD, m_AI_rD, m_AL_rD, m_AD_rD, m_AR_rD, m_n_rD, m_I_rR, m_L_rR, m_R_rR, m_AI_rR, m_AL_rR, m_AD_rR, m_AR_rR, m_n_rR, true_and, and_true, and_false, false_and, and_self, if_true, if_false, ite_self, Nat.reduceEqDiff, reduceIte, obt, jlt, jbt, jbd_ite, bind_ite]
      exact ⟨h41, hno _, fun z => absurd z e2.2.2⟩
    · refine ⟨_, e3, ((frTI (by omega)).trans (frTI (by omega))).trans (frTI (by omega)), ?_⟩
      unfold tokAt
      rw [e1]
      simp only [m_I_sI, m_L_sI, m_R_sI, m_AI_sI, m_AL_sI, m_AD_sI, m_AR_sI, m_n_sI, m_I_sL, m_L_sL, m_R_sL, m_AI_sL, m_AL_sL, m_AD_sL, m_AR_sL, m_n_sL, m_I_sR, m_L_sR, m_R_sR, m_AI_sR, m_AL_sR, m_AD_sR, m_AR_sR, m_n_sR, m_I_rI, m_L_rI, m_R_rI, m_AI_rI, m_AL_rI, m_AD_rI, m_AR_rI, m_n_rI, m_I_rL, m_L_rL, m_R_rL, m_AI_rL, m_AL_rL, m_AD_rL, m_AR_rL, m_n_rL, m_I_rD, m_L_rD, m_R_rD, m_AI_rD, m_AL_rD, m_AD_rD, m_AR_rD, m_n_rD, m_I_rR, m_L_rR, m_R_rR, m_AI_rR, m_AL_rR, m_AD_rR, m_AR_rR, m_n_rR, true_and, and_true, and_false, false_and, and_self, if_true, if_false, ite_self, Nat.reduceEqDiff, reduceIte, obt, jlt, jbt, jbd_ite, bind_ite]
      exact ⟨h41, hno _, fun z => absurd z e2.2.2⟩
  have hsgn : ¬ cB S p = 33 → ∀ (S1 : jM), f_X7_readSign_89 608 (cB S p) S1 = some (jsI S1 40 608 (if cB S p = 59 ∨ cB S p = 61 ∨ cB S p = 43 ∨ cB S p = 45 ∨ cB S p = 42 ∨ cB S p = 47 ∨ cB S p = 37 ∨ cB S p = 40 ∨ cB S p = 41 ∨ cB S p = 91 ∨ cB S p = 93 ∨ cB S p = 44 ∨ cB S p = 60 then cB S p else 1)) := by
    intro c33 S1
    have hs := sgn_c (b := cB S p) hrng c33
    unfold f_X7_readSign_89 f_X7_readSign_106 f_X7_readSign_111
    rw [if_neg c33]
    cases hx : f_J0_indexOf_0f7a4 1 ((cB S p).toUInt32 % 65536).toInt32 with
    | none => rw [hx] at hs; cases hs
    | some x =>
      rw [hx, obt] at hs
      have hs2 := Option.some.inj hs
      have hs3 := decide_eq_decide.mp hs2
      simp only [k_608, obt, jlt, if_true, hs3]
      split
      · rfl
      · rfl
  have kn : ∀ k : Int32, (k = cB S p ∧ ¬ f_X7_isLetter k ≠ 0 ∧ (k = 59 ∨ k = 61 ∨ k = 43 ∨ k = 45 ∨ k = 42 ∨ k = 47 ∨ k = 37 ∨ k = 40 ∨ k = 41 ∨ k = 91 ∨ k = 93 ∨ k = 44 ∨ k = 60)) ∨ k = 1 → (k ≠ 2 ∧ k ≠ 3 ∧ k ≠ 4) := by
    intro k hk
    rcases hk with ⟨-, -, hk⟩ | hk
    · rcases hk with hk | hk | hk | hk | hk | hk | hk | hk | hk | hk | hk | hk | hk <;> (rw [hk]; decide)
    · rw [hk]; decide
  have hkk : (if cB S p = 59 ∨ cB S p = 61 ∨ cB S p = 43 ∨ cB S p = 45 ∨ cB S p = 42 ∨ cB S p = 47 ∨ cB S p = 37 ∨ cB S p = 40 ∨ cB S p = 41 ∨ cB S p = 91 ∨ cB S p = 93 ∨ cB S p = 44 ∨ cB S p = 60 then cB S p else 1) ≠ 2 ∧ (if cB S p = 59 ∨ cB S p = 61 ∨ cB S p = 43 ∨ cB S p = 45 ∨ cB S p = 42 ∨ cB S p = 47 ∨ cB S p = 37 ∨ cB S p = 40 ∨ cB S p = 41 ∨ cB S p = 91 ∨ cB S p = 93 ∨ cB S p = 44 ∨ cB S p = 60 then cB S p else 1) ≠ 3 ∧ (if cB S p = 59 ∨ cB S p = 61 ∨ cB S p = 43 ∨ cB S p = 45 ∨ cB S p = 42 ∨ cB S p = 47 ∨ cB S p = 37 ∨ cB S p = 40 ∨ cB S p = 41 ∨ cB S p = 91 ∨ cB S p = 93 ∨ cB S p = 44 ∨ cB S p = 60 then cB S p else 1) ≠ 4 := by
    split
    · rename_i c
      exact kn _ (.inl ⟨rfl, fun z => z hl, c⟩)
    · exact kn _ (.inr rfl)
  have hat : (nI p : Int32) + 1 = nI (p + 1) := nJ_1 (by omega)
  have hat2 : (nI (p + 1) : Int32) + 1 = nI (p + 2) := nJ_1 (by omega)
  by_cases ceq : p + 1 < e ∧ cB S (p + 1) = 61
  · rw [if_pos ceq.1] at hb1
    have e0 : f_X7_readSign 608 (cB S p) S = f_X7_readSign_20 608 (cB S p) 1 S := by
      unfold f_X7_readSign
      rw [if_pos k_608, hi, hat, hb1, obt, if_pos ceq.2]
    by_cases c60 : cB S p = 60
    · rw [if_pos ⟨c60, ceq⟩] at ht
      refine fin _ _ ht (by decide) (.inr ?_)
      rw [e0]
      unfold f_X7_readSign_20
      simp only [k_608, hi, hat, c60, show ((1 : Int32) = 0) = False from by decide, m_I_sI, m_L_sI, m_R_sI, m_AI_sI, m_AL_sI, m_AD_sI, m_AR_sI, m_n_sI, m_I_sL, m_L_sL, m_R_sL, m_AI_sL, m_AL_sL, m_AD_sL, m_AR_sL, m_n_sL, m_I_sR, m_L_sR, m_R_sR, m_AI_sR, m_AL_sR, m_AD_sR, m_AR_sR, m_n_sR, m_I_rI, m_L_rI, m_R_rI, m_AI_rI, m_AL_rI, m_AD_rI, m_AR_rI, m_n_rI, m_I_rL, m_L_rL, m_R_rL, m_AI_rL, m_AL_rL, m_AD_rL, m_AR_rL, m_n_rL, m_I_rD, m_L_rD, m_R_rD, m_AI_rD, m_AL_rD, m_AD_rD, m_AR_rD, m_n_rD, m_I_rR, m_L_rR, m_R_rR, m_AI_rR, m_AL_rR, m_AD_rR, m_AR_rR, m_n_rR, hat2, true_and, and_true, and_false, false_and, and_self, if_true, if_false, ite_self, Nat.reduceEqDiff, reduceIte, obt, jlt, jbt, jbd_ite, bind_ite]
    · rw [if_neg (fun z => c60 z.1)] at ht
      by_cases c33 : cB S p = 33
      · rw [if_pos ⟨c33, ceq⟩] at ht
        refine fin _ _ ht (by decide) (.inr ?_)
        rw [e0]
        unfold f_X7_readSign_20 f_X7_readSign_60
        simp only [k_608, hi, hat, c33, show ((33 : Int32) = 60) = False from by decide, show ((1 : Int32) = 0) = False from by decide, m_I_sI, m_L_sI, m_R_sI, m_AI_sI, m_AL_sI, m_AD_sI, m_AR_sI, m_n_sI, m_I_sL, m_L_sL, m_R_sL, m_AI_sL, m_AL_sL, m_AD_sL, m_AR_sL, m_n_sL, m_I_sR, m_L_sR, m_R_sR, m_AI_sR, m_AL_sR, m_AD_sR, m_AR_sR, m_n_sR, m_I_rI, m_L_rI, m_R_rI, m_AI_rI, m_AL_rI, m_AD_rI, m_AR_rI, m_n_rI, m_I_rL, m_L_rL, m_R_rL, m_AI_rL, m_AL_rL, m_AD_rL, m_AR_rL, m_n_rL, m_I_rD, m_L_rD, m_R_rD, m_AI_rD, m_AL_rD, m_AD_rD, m_AR_rD, m_n_rD, m_I_rR, m_L_rR, m_R_rR, m_AI_rR, m_AL_rR, m_AD_rR, m_AR_rR, m_n_rR, hat2, true_and, and_true, and_false, false_and, and_self, if_true, if_false, ite_self, Nat.reduceEqDiff, reduceIte, obt, jlt, jbt, jbd_ite, bind_ite]
      · rw [if_neg (fun z => c33 z.1)] at ht
        refine fin _ _ ht hkk (.inl ?_)
        rw [e0]
        unfold f_X7_readSign_20 f_X7_readSign_60
        simp only [k_608, hi, hat, c60, c33, hsgn c33, true_and, and_true, and_false, false_and, and_self, if_true, if_false, ite_self, Nat.reduceEqDiff, reduceIte, obt, jlt, jbt, jbd_ite, bind_ite]
  · have e0 : f_X7_readSign 608 (cB S p) S = f_X7_readSign_20 608 (cB S p) 0 S := by
      unfold f_X7_readSign
      rw [if_pos k_608, hi, hat, hb1, obt, if_neg]
      by_cases c : p + 1 < e
      · rw [if_pos c]; exact fun z => ceq ⟨c, z⟩
      · rw [if_neg c]; decide
    rw [if_neg (fun z => ceq z.2), if_neg (fun z => ceq z.2)] at ht
    refine fin _ _ ht hkk (.inl ?_)
    rw [e0]
    unfold f_X7_readSign_20
    rw [if_pos k_608, jlt, hi, hat]
    have e60 : f_X7_readSign_60 608 (cB S p) 0 (jsI S 39 608 (nI (p + 1))) = f_X7_readSign_89 608 (cB S p) (jsI S 39 608 (nI (p + 1))) := by
      unfold f_X7_readSign_60
      rw [if_pos rfl, ite_self]
    rw [if_pos rfl, e60, ite_self]
    by_cases c33 : cB S p = 33
    · unfold f_X7_readSign_89 f_X7_readSign_106 f_X7_readSign_111
      rw [if_pos c33, if_pos k_608, jlt, if_neg]
      rw [c33]; decide
    · exact hsgn c33 _
