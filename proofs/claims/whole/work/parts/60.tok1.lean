/-! PURE: the tokens of a tape -/
abbrev bL (b : Int32) : Prop := ¬ f_X7_isLetter b = 0
abbrev bD (b : Int32) : Prop := ¬ f_X7_isDigit b = 0
def skB (B : Nat → Int32) (e : Nat) : Nat → Nat → Nat
  | 0, i => i
  | n + 1, i => if i < e then (if B i = 32 then skB B e n (i + 1) else if B i = 10 then skB B e n (i + 1) else i) else i
def shC (v : Int64) (b : Int32) : Int64 := (v <<< ((8 : Int32).toInt64 &&& 63)) ||| b.toInt64
noncomputable def leB (B : Nat → Int32) (e : Nat) : Nat → Nat → Int64 → Nat × Int64
  | 0, i, v => (i, v)
  | n + 1, i, v => if i < e then (if f_X7_isLetter (B i) = 0 then (if f_X7_isDigit (B i) = 0 then (i, v) else leB B e n (i + 1) (shC v (B i))) else leB B e n (i + 1) (shC v (B i))) else (i, v)
noncomputable def diB (B : Nat → Int32) (e : Nat) : Nat → Nat → Int64 → Nat × Int64
  | 0, i, v => (i, v)
  | n + 1, i, v => if i < e then (if f_X7_isDigit (B i) = 0 then (i, v) else diB B e n (i + 1) (v * 10 + (B i - 48).toInt64)) else (i, v)
/-- the words -/
def wscan (v : Int64) : List Int32 → Int32 → Int64 → Int32
  | [], _, _ => 2
  | c :: l, w, k => if c = 32 then (if k = v then w else wscan v l (w + 1) 0) else wscan v l w (shC k c)
def wch : List Int32 := jbyt.getD 0 []
theorem wch_len : wch.length = 116 := by decide +kernel
theorem len0 : f_J0_length_8abf5 0 = some (nI 116) := by decide +kernel
theorem wch_at : ∀ i : Fin 116, f_J0_charAt_5068e 0 (nI i.val) = some (wch.getD i.val 0) := by decide +kernel
theorem word_loop (v : Int64) : ∀ n fuel i w k, i + n = 116 → n < fuel → f_X7_wordOrName_9 fuel v w k (nI i) = some (wscan v (wch.drop i) w k) := by
  intro n
  induction n with
  | zero =>
    intro fuel i w k h1 h2
    obtain ⟨f, rfl⟩ : ∃ f, fuel = f + 1 := ⟨fuel - 1, by omega⟩
    have hi : i = 116 := by omega
    subst hi
    rw [f_X7_wordOrName_9, len0, obt, if_pos (by rw [nJ_le (by omega) (by omega)]; omega), List.drop_of_length_le (by rw [wch_len]; omega)]
    rfl
  | succ n ih =>
    intro fuel i w k h1 h2
    obtain ⟨f, rfl⟩ : ∃ f, fuel = f + 1 := ⟨fuel - 1, by omega⟩
    have hl : i < wch.length := by rw [wch_len]; omega
    have hat := wch_at ⟨i, by omega⟩
    have hge : wch.getD i 0 = wch[i] := by rw [List.getD, List.getElem?_eq_getElem hl]; rfl
    have hat : f_J0_charAt_5068e 0 (nI i) = some wch[i] := by rw [← hge]; exact hat
    rw [f_X7_wordOrName_9, len0, obt, if_neg (by rw [nJ_le (by omega) (by omega)]; omega), hat, obt, List.drop_eq_getElem_cons hl]
    unfold f_X7_wordOrName_60
    simp only [nJ_1 (show i + 1 < 2147483648 by omega), jlt]
    show _ = some (if wch[i] = 32 then (if k = v then w else wscan v (wch.drop (i + 1)) (w + 1) 0) else wscan v (wch.drop (i + 1)) w (shC k wch[i]))
    by_cases c : wch[i] = 32
    · rw [if_pos c, if_pos c]
      by_cases c2 : k = v
      · rw [if_pos c2, if_pos c2]
      · rw [if_neg c2, if_neg c2]
        exact ih f (i + 1) _ _ (by omega) (by omega)
    · rw [if_neg c, if_neg c]
      exact ih f (i + 1) _ _ (by omega) (by omega)
def wd (v : Int64) : Int32 := wscan v wch 128 0
theorem word_c (v : Int64) : f_X7_wordOrName v = some (wd v) := by
  unfold f_X7_wordOrName wd
  exact word_loop v 116 1100000 0 128 0 (by omega) (by omega)
theorem wch_is : wch = [98, 101, 115, 116, 32, 98, 111, 114, 110, 32, 99, 101, 105, 108, 32, 100, 97, 121, 32, 101, 108, 115, 101, 32, 102, 108, 111, 111, 114, 32, 102, 114, 111, 109, 32, 105, 102, 32, 106, 111, 105, 110, 32, 108, 97, 115, 116, 32, 108, 101, 110, 32, 109, 97, 120, 32, 109, 105, 110, 32, 110, 101, 97, 114, 32, 111, 102, 32, 114, 101, 97, 108, 32, 114, 111, 111, 116, 32, 114, 117, 108, 101, 32, 115, 117, 109, 32, 116, 104, 101, 110, 32, 116, 111, 32, 116, 114, 121, 32, 119, 104, 111, 108, 101, 32, 119, 105, 116, 104, 32, 122, 101, 114, 111, 115, 32] := by decide +kernel
theorem wsp (v : Int64) (l : List Int32) (w : Int32) (k : Int64) : wscan v (32 :: l) w k = if k = v then w else wscan v l (w + 1) 0 := rfl
theorem wst (v : Int64) (c : Int32) (l : List Int32) (w : Int32) (k : Int64) (h : ¬ c = 32) : wscan v (c :: l) w k = wscan v l w (shC k c) := if_neg h
/-- the kinds of the class's tokens, and of the reference's -/
def tm (k : Int32) : Int32 := if k = 0 then 43 else if k = 1 then 44 else if k = 2 then 40 else if k = 3 then 41 else if k = 4 then 42 else if k = 9 then 46 else if k = 10 then 45 else if 128 ≤ k then k - 127 else 100 + k
theorem sgn_ok : ∀ c : Fin 256, (f_J0_indexOf_0f7a4 1 ((nI c.val).toUInt32 % 65536).toInt32).map (fun x => decide (0 ≤ x)) = some (decide (c.val = 59 ∨ c.val = 61 ∨ c.val = 43 ∨ c.val = 45 ∨ c.val = 42 ∨ c.val = 47 ∨ c.val = 37 ∨ c.val = 40 ∨ c.val = 41 ∨ c.val = 91 ∨ c.val = 93 ∨ c.val = 44 ∨ c.val = 60 ∨ c.val = 33)) := by decide +kernel
theorem wd_is (v : Int64) : wd v = if (1650815860 : Int64) = v then 128 else if (1651470958 : Int64) = v then 129 else if (1667590508 : Int64) = v then 130 else if (6578553 : Int64) = v then 131 else if (1701606245 : Int64) = v then 132 else if (439905906546 : Int64) = v then 133 else if (1718775661 : Int64) = v then 134 else if (26982 : Int64) = v then 135 else if (1785686382 : Int64) = v then 136 else if (1818325876 : Int64) = v then 137 else if (7103854 : Int64) = v then 138 else if (7168376 : Int64) = v then 139 else if (7170414 : Int64) = v then 140 else if (1852137842 : Int64) = v then 141 else if (28518 : Int64) = v then 142 else if (1919246700 : Int64) = v then 143 else if (1919905652 : Int64) = v then 144 else if (1920298085 : Int64) = v then 145 else if (7566701 : Int64) = v then 146 else if (1952998766 : Int64) = v then 147 else if (29807 : Int64) = v then 148 else if (7631481 : Int64) = v then 149 else if (512853240933 : Int64) = v then 150 else if (2003399784 : Int64) = v then 151 else if (525688008563 : Int64) = v then 152 else 2 := by
  unfold wd
  rw [wch_is]
  rw [wst v 98 _ _ _ (by decide), wst v 101 _ _ _ (by decide), wst v 115 _ _ _ (by decide), wst v 116 _ _ _ (by decide),  wsp, show shC (shC (shC (shC (0) 98) 101) 115) 116 = (1650815860 : Int64) from by decide, show (128 : Int32) + 1 = 129 from by decide]
  by_cases c0 : (1650815860 : Int64) = v
  · rw [if_pos c0, if_pos c0]
  rw [if_neg c0, if_neg c0]
  rw [wst v 98 _ _ _ (by decide), wst v 111 _ _ _ (by decide), wst v 114 _ _ _ (by decide), wst v 110 _ _ _ (by decide),  wsp, show shC (shC (shC (shC (0) 98) 111) 114) 110 = (1651470958 : Int64) from by decide, show (129 : Int32) + 1 = 130 from by decide]
  by_cases c1 : (1651470958 : Int64) = v
  · rw [if_pos c1, if_pos c1]
  rw [if_neg c1, if_neg c1]
  rw [wst v 99 _ _ _ (by decide), wst v 101 _ _ _ (by decide), wst v 105 _ _ _ (by decide), wst v 108 _ _ _ (by decide),  wsp, show shC (shC (shC (shC (0) 99) 101) 105) 108 = (1667590508 : Int64) from by decide, show (130 : Int32) + 1 = 131 from by decide]
  by_cases c2 : (1667590508 : Int64) = v
  · rw [if_pos c2, if_pos c2]
  rw [if_neg c2, if_neg c2]
  rw [wst v 100 _ _ _ (by decide), wst v 97 _ _ _ (by decide), wst v 121 _ _ _ (by decide),  wsp, show shC (shC (shC (0) 100) 97) 121 = (6578553 : Int64) from by decide, show (131 : Int32) + 1 = 132 from by decide]
  by_cases c3 : (6578553 : Int64) = v
  · rw [if_pos c3, if_pos c3]
  rw [if_neg c3, if_neg c3]
  rw [wst v 101 _ _ _ (by decide), wst v 108 _ _ _ (by decide), wst v 115 _ _ _ (by decide), wst v 101 _ _ _ (by decide),  wsp, show shC (shC (shC (shC (0) 101) 108) 115) 101 = (1701606245 : Int64) from by decide, show (132 : Int32) + 1 = 133 from by decide]
  by_cases c4 : (1701606245 : Int64) = v
  · rw [if_pos c4, if_pos c4]
  rw [if_neg c4, if_neg c4]
  rw [wst v 102 _ _ _ (by decide), wst v 108 _ _ _ (by decide), wst v 111 _ _ _ (by decide), wst v 111 _ _ _ (by decide), wst v 114 _ _ _ (by decide),  wsp, show shC (shC (shC (shC (shC (0) 102) 108) 111) 111) 114 = (439905906546 : Int64) from by decide, show (133 : Int32) + 1 = 134 from by decide]
  by_cases c5 : (439905906546 : Int64) = v
  · rw [if_pos c5, if_pos c5]
  rw [if_neg c5, if_neg c5]
  rw [wst v 102 _ _ _ (by decide), wst v 114 _ _ _ (by decide), wst v 111 _ _ _ (by decide), wst v 109 _ _ _ (by decide),  wsp, show shC (shC (shC (shC (0) 102) 114) 111) 109 = (1718775661 : Int64) from by decide, show (134 : Int32) + 1 = 135 from by decide]
  by_cases c6 : (1718775661 : Int64) = v
  · rw [if_pos c6, if_pos c6]
  rw [if_neg c6, if_neg c6]
  rw [wst v 105 _ _ _ (by decide), wst v 102 _ _ _ (by decide),  wsp, show shC (shC (0) 105) 102 = (26982 : Int64) from by decide, show (135 : Int32) + 1 = 136 from by decide]
  by_cases c7 : (26982 : Int64) = v
  · rw [if_pos c7, if_pos c7]
  rw [if_neg c7, if_neg c7]
  rw [wst v 106 _ _ _ (by decide), wst v 111 _ _ _ (by decide), wst v 105 _ _ _ (by decide), wst v 110 _ _ _ (by decide),  wsp, show shC (shC (shC (shC (0) 106) 111) 105) 110 = (1785686382 : Int64) from by decide, show (136 : Int32) + 1 = 137 from by decide]
  by_cases c8 : (1785686382 : Int64) = v
  · rw [if_pos c8, if_pos c8]
  rw [if_neg c8, if_neg c8]
  rw [wst v 108 _ _ _ (by decide), wst v 97 _ _ _ (by decide), wst v 115 _ _ _ (by decide), wst v 116 _ _ _ (by decide),  wsp, show shC (shC (shC (shC (0) 108) 97) 115) 116 = (1818325876 : Int64) from by decide, show (137 : Int32) + 1 = 138 from by decide]
  by_cases c9 : (1818325876 : Int64) = v
  · rw [if_pos c9, if_pos c9]
  rw [if_neg c9, if_neg c9]
  rw [wst v 108 _ _ _ (by decide), wst v 101 _ _ _ (by decide), wst v 110 _ _ _ (by decide),  wsp, show shC (shC (shC (0) 108) 101) 110 = (7103854 : Int64) from by decide, show (138 : Int32) + 1 = 139 from by decide]
  by_cases c10 : (7103854 : Int64) = v
  · rw [if_pos c10, if_pos c10]
  rw [if_neg c10, if_neg c10]
  rw [wst v 109 _ _ _ (by decide), wst v 97 _ _ _ (by decide), wst v 120 _ _ _ (by decide),  wsp, show shC (shC (shC (0) 109) 97) 120 = (7168376 : Int64) from by decide, show (139 : Int32) + 1 = 140 from by decide]
  by_cases c11 : (7168376 : Int64) = v
  · rw [if_pos c11, if_pos c11]
  rw [if_neg c11, if_neg c11]
  rw [wst v 109 _ _ _ (by decide), wst v 105 _ _ _ (by decide), wst v 110 _ _ _ (by decide),  wsp, show shC (shC (shC (0) 109) 105) 110 = (7170414 : Int64) from by decide, show (140 : Int32) + 1 = 141 from by decide]
  by_cases c12 : (7170414 : Int64) = v
  · rw [if_pos c12, if_pos c12]
  rw [if_neg c12, if_neg c12]
  rw [wst v 110 _ _ _ (by decide), wst v 101 _ _ _ (by decide), wst v 97 _ _ _ (by decide), wst v 114 _ _ _ (by decide),  wsp, show shC (shC (shC (shC (0) 110) 101) 97) 114 = (1852137842 : Int64) from by decide, show (141 : Int32) + 1 = 142 from by decide]
  by_cases c13 : (1852137842 : Int64) = v
  · rw [if_pos c13, if_pos c13]
  rw [if_neg c13, if_neg c13]
  rw [wst v 111 _ _ _ (by decide), wst v 102 _ _ _ (by decide),  wsp, show shC (shC (0) 111) 102 = (28518 : Int64) from by decide, show (142 : Int32) + 1 = 143 from by decide]
  by_cases c14 : (28518 : Int64) = v
  · rw [if_pos c14, if_pos c14]
  rw [if_neg c14, if_neg c14]
  rw [wst v 114 _ _ _ (by decide), wst v 101 _ _ _ (by decide), wst v 97 _ _ _ (by decide), wst v 108 _ _ _ (by decide),  wsp, show shC (shC (shC (shC (0) 114) 101) 97) 108 = (1919246700 : Int64) from by decide, show (143 : Int32) + 1 = 144 from by decide]
  by_cases c15 : (1919246700 : Int64) = v
  · rw [if_pos c15, if_pos c15]
  rw [if_neg c15, if_neg c15]
  rw [wst v 114 _ _ _ (by decide), wst v 111 _ _ _ (by decide), wst v 111 _ _ _ (by decide), wst v 116 _ _ _ (by decide),  wsp, show shC (shC (shC (shC (0) 114) 111) 111) 116 = (1919905652 : Int64) from by decide, show (144 : Int32) + 1 = 145 from by decide]
  by_cases c16 : (1919905652 : Int64) = v
  · rw [if_pos c16, if_pos c16]
  rw [if_neg c16, if_neg c16]
  rw [wst v 114 _ _ _ (by decide), wst v 117 _ _ _ (by decide), wst v 108 _ _ _ (by decide), wst v 101 _ _ _ (by decide),  wsp, show shC (shC (shC (shC (0) 114) 117) 108) 101 = (1920298085 : Int64) from by decide, show (145 : Int32) + 1 = 146 from by decide]
  by_cases c17 : (1920298085 : Int64) = v
  · rw [if_pos c17, if_pos c17]
  rw [if_neg c17, if_neg c17]
  rw [wst v 115 _ _ _ (by decide), wst v 117 _ _ _ (by decide), wst v 109 _ _ _ (by decide),  wsp, show shC (shC (shC (0) 115) 117) 109 = (7566701 : Int64) from by decide, show (146 : Int32) + 1 = 147 from by decide]
  by_cases c18 : (7566701 : Int64) = v
  · rw [if_pos c18, if_pos c18]
  rw [if_neg c18, if_neg c18]
  rw [wst v 116 _ _ _ (by decide), wst v 104 _ _ _ (by decide), wst v 101 _ _ _ (by decide), wst v 110 _ _ _ (by decide),  wsp, show shC (shC (shC (shC (0) 116) 104) 101) 110 = (1952998766 : Int64) from by decide, show (147 : Int32) + 1 = 148 from by decide]
  by_cases c19 : (1952998766 : Int64) = v
  · rw [if_pos c19, if_pos c19]
  rw [if_neg c19, if_neg c19]
  rw [wst v 116 _ _ _ (by decide), wst v 111 _ _ _ (by decide),  wsp, show shC (shC (0) 116) 111 = (29807 : Int64) from by decide, show (148 : Int32) + 1 = 149 from by decide]
  by_cases c20 : (29807 : Int64) = v
  · rw [if_pos c20, if_pos c20]
  rw [if_neg c20, if_neg c20]
  rw [wst v 116 _ _ _ (by decide), wst v 114 _ _ _ (by decide), wst v 121 _ _ _ (by decide),  wsp, show shC (shC (shC (0) 116) 114) 121 = (7631481 : Int64) from by decide, show (149 : Int32) + 1 = 150 from by decide]
  by_cases c21 : (7631481 : Int64) = v
  · rw [if_pos c21, if_pos c21]
  rw [if_neg c21, if_neg c21]
  rw [wst v 119 _ _ _ (by decide), wst v 104 _ _ _ (by decide), wst v 111 _ _ _ (by decide), wst v 108 _ _ _ (by decide), wst v 101 _ _ _ (by decide),  wsp, show shC (shC (shC (shC (shC (0) 119) 104) 111) 108) 101 = (512853240933 : Int64) from by decide, show (150 : Int32) + 1 = 151 from by decide]
  by_cases c22 : (512853240933 : Int64) = v
  · rw [if_pos c22, if_pos c22]
  rw [if_neg c22, if_neg c22]
  rw [wst v 119 _ _ _ (by decide), wst v 105 _ _ _ (by decide), wst v 116 _ _ _ (by decide), wst v 104 _ _ _ (by decide),  wsp, show shC (shC (shC (shC (0) 119) 105) 116) 104 = (2003399784 : Int64) from by decide, show (151 : Int32) + 1 = 152 from by decide]
  by_cases c23 : (2003399784 : Int64) = v
  · rw [if_pos c23, if_pos c23]
  rw [if_neg c23, if_neg c23]
  rw [wst v 122 _ _ _ (by decide), wst v 101 _ _ _ (by decide), wst v 114 _ _ _ (by decide), wst v 111 _ _ _ (by decide), wst v 115 _ _ _ (by decide),  wsp, show shC (shC (shC (shC (shC (0) 122) 101) 114) 111) 115 = (525688008563 : Int64) from by decide, show (152 : Int32) + 1 = 153 from by decide]
  by_cases c24 : (525688008563 : Int64) = v
  · rw [if_pos c24, if_pos c24]
  rw [if_neg c24, if_neg c24]
  rfl
