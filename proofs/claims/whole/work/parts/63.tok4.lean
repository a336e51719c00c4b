/-! PURE: the reference's tokens -/
def tks : List Int32 := [0, 1, 2, 3, 4, 9, 10, 59, 61, 43, 45, 42, 47, 37, 40, 41, 91, 93, 44, 60, 128, 129, 130, 131, 132, 133, 134, 135, 136, 137, 138, 139, 140, 141, 142, 143, 144, 145, 146, 147, 148, 149, 150, 151, 152]
theorem tm_inj : ∀ a ∈ tks, ∀ b ∈ tks, tm a = tm b → a = b := by decide +kernel
theorem wd_in (v : Int64) : wd v ∈ tks := by
  rw [wd_is]
  refine iteP (P := fun w : Int32 => w ∈ tks) (by decide) ?_
  refine iteP (P := fun w : Int32 => w ∈ tks) (by decide) ?_
  refine iteP (P := fun w : Int32 => w ∈ tks) (by decide) ?_
  refine iteP (P := fun w : Int32 => w ∈ tks) (by decide) ?_
  refine iteP (P := fun w : Int32 => w ∈ tks) (by decide) ?_
  refine iteP (P := fun w : Int32 => w ∈ tks) (by decide) ?_
  refine iteP (P := fun w : Int32 => w ∈ tks) (by decide) ?_
  refine iteP (P := fun w : Int32 => w ∈ tks) (by decide) ?_
  refine iteP (P := fun w : Int32 => w ∈ tks) (by decide) ?_
  refine iteP (P := fun w : Int32 => w ∈ tks) (by decide) ?_
  refine iteP (P := fun w : Int32 => w ∈ tks) (by decide) ?_
  refine iteP (P := fun w : Int32 => w ∈ tks) (by decide) ?_
  refine iteP (P := fun w : Int32 => w ∈ tks) (by decide) ?_
  refine iteP (P := fun w : Int32 => w ∈ tks) (by decide) ?_
  refine iteP (P := fun w : Int32 => w ∈ tks) (by decide) ?_
  refine iteP (P := fun w : Int32 => w ∈ tks) (by decide) ?_
  refine iteP (P := fun w : Int32 => w ∈ tks) (by decide) ?_
  refine iteP (P := fun w : Int32 => w ∈ tks) (by decide) ?_
  refine iteP (P := fun w : Int32 => w ∈ tks) (by decide) ?_
  refine iteP (P := fun w : Int32 => w ∈ tks) (by decide) ?_
  refine iteP (P := fun w : Int32 => w ∈ tks) (by decide) ?_
  refine iteP (P := fun w : Int32 => w ∈ tks) (by decide) ?_
  refine iteP (P := fun w : Int32 => w ∈ tks) (by decide) ?_
  refine iteP (P := fun w : Int32 => w ∈ tks) (by decide) ?_
  refine iteP (P := fun w : Int32 => w ∈ tks) (by decide) ?_
  decide

theorem tkv_in (B : Nat → Int32) (e p : Nat) : (tkv B e p).1 ∈ tks := by
  have hs : ∀ b : Int32, (if b = 59 ∨ b = 61 ∨ b = 43 ∨ b = 45 ∨ b = 42 ∨ b = 47 ∨ b = 37 ∨ b = 40 ∨ b = 41 ∨ b = 91 ∨ b = 93 ∨ b = 44 ∨ b = 60 then b else 1) ∈ tks := by
    intro b
    split
    · rename_i c
      rcases c with c | c | c | c | c | c | c | c | c | c | c | c | c <;> (rw [c]; decide)
    · decide
  unfold tkv
  split
  · split
    · split
      · split
        · show (9 : Int32) ∈ tks; decide
        · split
          · show (10 : Int32) ∈ tks; decide
          · exact hs _
      · split
        · show (if _ then (4 : Int32) else 1) ∈ tks
          split <;> decide
        · show (if _ then (3 : Int32) else 1) ∈ tks
          split <;> decide
    · show (if _ then wd _ else 1) ∈ tks
      split
      · exact wd_in _
      · decide
  · show (0 : Int32) ∈ tks
    decide
theorem tkv_0 (B : Nat → Int32) (e p : Nat) : (tkv B e p).1 = 0 ↔ e ≤ p := by
  by_cases c : p < e
  · have : (tkv B e p).1 ≠ 0 := by
      unfold tkv
      rw [if_pos c]
      split
      · split
        · split
          · show (9 : Int32) ≠ 0; decide
          · split
            · show (10 : Int32) ≠ 0; decide
            · show (if _ then B p else 1) ≠ 0
              split
              · rename_i c
                rcases c with c | c | c | c | c | c | c | c | c | c | c | c | c <;> (rw [c]; decide)
              · decide
        · split
          · show (if _ then (4 : Int32) else 1) ≠ 0
            split <;> decide
          · show (if _ then (3 : Int32) else 1) ≠ 0
            split <;> decide
      · show (if _ then wd _ else 1) ≠ 0
        split
        · rename_i c
          rcases wd_rng (leB B e (e - p) p 0).2 with w | w
          · rw [w]; decide
          · intro w2; rw [w2] at w; revert w; decide
        · decide
    exact ⟨fun z => absurd z this, fun z => by omega⟩
  · unfold tkv
    rw [if_neg c]
    exact ⟨fun _ => by omega, fun _ => rfl⟩
theorem tkv_a {B : Nat → Int32} {e p : Nat} (h : p < e) : p < (tkv B e p).2.2.2 ∧ (tkv B e p).2.2.2 ≤ e := by
  unfold tkv
  rw [if_pos h]
  split
  · split
    · split
      · show p < p + 2 ∧ p + 2 ≤ e; omega
      · split
        · show p < p + 2 ∧ p + 2 ≤ e; omega
        · show p < p + 1 ∧ p + 1 ≤ e; omega
    · rename_i c1 c2
      have hd : p < (diB B e (e - p) p 0).1 ∧ (diB B e (e - p) p 0).1 ≤ e := by
        obtain ⟨n, hn⟩ : ∃ n, e - p = n + 1 := ⟨e - p - 1, by omega⟩
        rw [hn]
        unfold diB
        rw [if_pos h, if_neg c2]
        have := diB_le B e n (p + 1) (0 * 10 + (B p - 48).toInt64) (by omega)
        omega
      split
      · rename_i c3
        have := diB_le B e (e - ((diB B e (e - p) p 0).1 + 1)) ((diB B e (e - p) p 0).1 + 1) (diB B e (e - p) p 0).2 (by omega)
        exact ⟨by show p < (diB B e (e - ((diB B e (e - p) p 0).1 + 1)) ((diB B e (e - p) p 0).1 + 1) (diB B e (e - p) p 0).2).1; omega, this.2⟩
      · exact hd
  · rename_i c1
    obtain ⟨n, hn⟩ : ∃ n, e - p = n + 1 := ⟨e - p - 1, by omega⟩
    rw [hn]
    show p < (leB B e (n + 1) p 0).1 ∧ (leB B e (n + 1) p 0).1 ≤ e
    unfold leB
    rw [if_pos h, if_neg c1]
    have := leB_le B e n (p + 1) (shC 0 (B p)) (by omega)
    omega
/-- the reference's tape is open -/
def rOp (B : Nat → Int32) (e : Nat) (R : jM) : Prop := Lay R ∧ jI R 94 2398 = nI e ∧ e ≤ 1600 ∧ ∀ j, j < e → jAI R 2403 j = B j
def pTz (t f a : Nat) : Prop := (t = 0 ∧ (f = 94 ∨ f = 99 ∨ f = 100 ∨ f = 101 ∨ f = 102) ∧ a = 2398) ∨ (t = 3 ∧ 2404 ≤ a ∧ a ≤ 2407)
theorem Lay.frZ {S S' : jM} (h : Lay S) (hF : Fr pTz S S') : Lay S' := h.fr hF (fun f a z => by unfold pTz at z; omega) (fun a z => by have := k16r a; unfold pTz at z; omega)
theorem byte_r {B : Nat → Int32} {R : jM} {e i : Nat} (h : rOp B e R) (hi : i < 2147483648) : f_X12_byteAt 2398 (nI i) R = some (if i < e then B i else 0) := by
  obtain ⟨h1, h2, h3, h4⟩ := h
  unfold f_X12_byteAt
  rw [if_pos k_2398, h2]
  by_cases c : i < e
  · have hA : jA 2403 13 (nI i) = true := jA_n k_2403 (by rw [ln_2403]; omega) hi
    rw [if_neg (by rw [nJ_le (by omega) hi]; omega), ly_93 h1, obt, if_pos hA, if_pos c, nJ_cl hi, h4 i c]
  · rw [if_pos (by rw [nJ_le (by omega) hi]; omega), if_neg c]
theorem let_r {B : Nat → Int32} {R : jM} {e p : Nat} (h : rOp B e R) (hpe : p ≤ e) : ∀ n fuel i v, i + n = e → p ≤ i → n < fuel → f_X12_token_19 fuel 2398 (nI p) (nI i) v R = f_X12_token_87 2398 (nI (leB B e n i v).1) (leB B e n i v).2 2404 (jI R 99 2398) (if (leB B e n i v).1 - p ≤ 8 then f_X12_word (leB B e n i v).2 else 44) R := by
  have h3 := h.2.2.1
  intro n
  induction n with
  | zero =>
    intro fuel i v h1 h2 hf
    obtain ⟨f, rfl⟩ : ∃ f, fuel = f + 1 := ⟨fuel - 1, by omega⟩
    have hb := byte_r h (i := i) (by omega)
    rw [if_neg (by omega)] at hb
    rw [f_X12_token_19, if_pos k_2398, hb, obt, obt, isL_eq, isD_eq, if_pos (by unfold f_X7_isLetter; decide), if_pos (by unfold f_X7_isDigit; decide), ly_95 h.1, obt, nJ_sub (by omega) h2]
    unfold leB
    rw [show (8 : Int32) = nI 8 from rfl]
    simp only [nJ_le (show i - p < 2147483648 by omega) (show 8 < 2147483648 by omega)]
    split
    · rfl
    · rfl
  | succ n ih =>
    intro fuel i v h1 h2 hf
    obtain ⟨f, rfl⟩ : ∃ f, fuel = f + 1 := ⟨fuel - 1, by omega⟩
    have hb := byte_r h (i := i) (by omega)
    rw [if_pos (show i < e by omega)] at hb
    have hst : f_X12_token_41 (f_X12_token_19 f) 2398 (nI p) (nI i) v R = f_X12_token_19 f 2398 (nI p) (nI (i + 1)) (shC v (B i)) R := by
      unfold f_X12_token_41
      rw [if_pos k_2398, hb, obt, jlt, jlt, nJ_1 (by omega)]
      rfl
    have hih := ih f (i + 1) (shC v (B i)) (by omega) (by omega) (by omega)
    have hle : leB B e (n + 1) i v = if f_X7_isLetter (B i) = 0 then (if f_X7_isDigit (B i) = 0 then (i, v) else leB B e n (i + 1) (shC v (B i))) else leB B e n (i + 1) (shC v (B i)) := by
      conv => lhs; unfold leB
      rw [if_pos (show i < e by omega)]
    rw [f_X12_token_19, if_pos k_2398, hb, obt, obt, isL_eq, isD_eq, hst, hih, ly_95 h.1, obt, nJ_sub (by omega) h2, hle]
    by_cases c1 : f_X7_isLetter (B i) = 0
    · rw [if_pos c1, if_pos c1]
      by_cases c2 : f_X7_isDigit (B i) = 0
      · rw [if_pos c2, if_pos c2, show (8 : Int32) = nI 8 from rfl]
        simp only [nJ_le (show i - p < 2147483648 by omega) (show 8 < 2147483648 by omega)]
        split
        · rfl
        · rfl
      · rw [if_neg c2, if_neg c2]
    · rw [if_neg c1, if_neg c1]
theorem dg_val {v : Int64} {b : Int32} (h1 : 0 ≤ b.toInt) (h2 : b.toInt ≤ 255) : (((10 : Int64) * v) + (b.toInt64)) - (48 : Int64) = v * 10 + (b - 48).toInt64 := by
  have : (b - 48).toInt64 = b.toInt64 - 48 := by
    rw [l_eq, i2l_toInt, i_sub (by rw [show (48 : Int32).toInt = 48 from rfl]; omega) (by rw [show (48 : Int32).toInt = 48 from rfl]; omega), l_sub (by rw [i2l_toInt, show (48 : Int64).toInt = 48 from rfl]; omega) (by rw [i2l_toInt, show (48 : Int64).toInt = 48 from rfl]; omega), i2l_toInt]
    rfl
  rw [this, Int64.mul_comm 10 v, Int64.sub_eq_add_neg, Int64.sub_eq_add_neg, Int64.add_assoc]
theorem dg_rng {b : Int32} (h : ¬ f_X7_isDigit b = 0) : 0 ≤ b.toInt ∧ b.toInt ≤ 255 := by
  unfold f_X7_isDigit at h
  by_cases c1 : b < 48
  · rw [if_pos c1] at h; exact absurd rfl h
  · rw [if_neg c1] at h
    by_cases c2 : 57 < b
    · rw [if_pos c2] at h; exact absurd rfl h
    · rw [i_lt, show (48 : Int32).toInt = 48 from rfl] at c1
      rw [i_lt, show (57 : Int32).toInt = 57 from rfl] at c2
      omega
theorem num_r {B : Nat → Int32} {R : jM} {e p : Nat} (h : rOp B e R) (hpe : p ≤ e) : ∀ n fuel i v v', i + n = e → p ≤ i → n < fuel → (i - p ≤ 15 → v = v') → ∃ w, ((diB B e n i v').1 - p ≤ 15 → w = (diB B e n i v').2) ∧ f_X12_number_4 fuel 2398 (nI p) (nI i) v R = f_X12_number_73 2398 (nI p) (nI (diB B e n i v').1) w 2404 (jI R 99 2398) (if (diB B e n i v').1 - p ≤ 15 then 41 else 44) R := by
  have h3 := h.2.2.1
  intro n
  induction n with
  | zero =>
    intro fuel i v v' h1 h2 hf hv
    obtain ⟨f, rfl⟩ : ∃ f, fuel = f + 1 := ⟨fuel - 1, by omega⟩
    have hb := byte_r h (i := i) (by omega)
    rw [if_neg (by omega)] at hb
    refine ⟨v, hv, ?_⟩
    rw [f_X12_number_4, if_pos k_2398, hb, obt, isD_eq, if_pos (by unfold f_X7_isDigit; decide), ly_95 h.1, obt, nJ_sub (by omega) h2]
    unfold diB
    rw [show (15 : Int32) = nI 15 from rfl]
    simp only [nJ_le (show i - p < 2147483648 by omega) (show 15 < 2147483648 by omega)]
    split
    · rfl
    · rfl
  | succ n ih =>
    intro fuel i v v' h1 h2 hf hv
    obtain ⟨f, rfl⟩ : ∃ f, fuel = f + 1 := ⟨fuel - 1, by omega⟩
    have hb := byte_r h (i := i) (by omega)
    rw [if_pos (show i < e by omega)] at hb
    by_cases c : f_X7_isDigit (B i) = 0
    · have hdi : diB B e (n + 1) i v' = (i, v') := by
        unfold diB
        rw [if_pos (show i < e by omega), if_pos c]
      rw [hdi]
      refine ⟨v, hv, ?_⟩
      rw [f_X12_number_4, if_pos k_2398, hb, obt, isD_eq, if_pos c, ly_95 h.1, obt, nJ_sub (by omega) h2]
      rw [show (15 : Int32) = nI 15 from rfl]
      simp only [nJ_le (show i - p < 2147483648 by omega) (show 15 < 2147483648 by omega)]
      split
      · rfl
      · rfl
    · have hdi : diB B e (n + 1) i v' = diB B e n (i + 1) (v' * 10 + (B i - 48).toInt64) := by
        conv => lhs; unfold diB
        rw [if_pos (show i < e by omega), if_neg c]
      rw [hdi, f_X12_number_4, if_pos k_2398, hb, obt, isD_eq, if_neg c, nJ_sub (by omega) h2, obt]
      unfold f_X12_number_43
      rw [jlt, jlt, nJ_1 (by omega), show (15 : Int32) = nI 15 from rfl]
      simp only [nJ_le (show 15 < 2147483648 by omega) (show i - p < 2147483648 by omega)]
      obtain ⟨r1, r2⟩ := dg_rng c
      by_cases c2 : 15 ≤ i - p
      · rw [if_pos c2]
        exact ih f (i + 1) v _ (by omega) (by omega) (by omega) (fun z => by omega)
      · rw [if_neg c2]
        exact ih f (i + 1) _ _ (by omega) (by omega) (by omega) (fun z => by rw [dg_val r1 r2, hv (by omega)])
