/-! PURE: the parser: all of it -/
theorem gP0 {d : Nat} {a : Int32} : g_P (d + 1) 0 607 a 0 = f_X4_readE (g_P d) 607 a := by funext S; rw [g_P]; rfl
theorem gP1 {d : Nat} {a : Int32} : g_P (d + 1) 1 607 a 0 = f_X4_readC (g_P d) 607 a := by funext S; rw [g_P]; rfl
theorem gP2 {d : Nat} {a : Int32} : g_P (d + 1) 2 607 a 0 = f_X4_readA (g_P d) 607 a := by funext S; rw [g_P]; rfl
theorem gP3 {d : Nat} {a : Int32} : g_P (d + 1) 3 607 a 0 = f_X4_readM (g_P d) 607 a := by funext S; rw [g_P]; rfl
theorem gP4 {d : Nat} {a : Int32} : g_P (d + 1) 4 607 a 0 = f_X4_readU (g_P d) 607 a := by funext S; rw [g_P]; rfl
theorem gP5 {d : Nat} {a : Int32} : g_P (d + 1) 5 607 a 0 = f_X4_readP (g_P d) 607 a := by funext S; rw [g_P]; rfl
theorem gP6 {d : Nat} {a : Int32} : g_P (d + 1) 6 607 a 0 = f_X4_readSum (g_P d) 607 a := by funext S; rw [g_P]; rfl
theorem gP7 {d : Nat} {a : Int32} : g_P (d + 1) 7 607 a 0 = f_X4_readFunction (g_P d) 607 a := by funext S; rw [g_P]; rfl
theorem gE0 {d : Nat} {a : Int32} : g_E (d + 1) 0 2398 a 0 = f_X12_expression (g_E d) 2398 a := by funext S; rw [g_E]; rfl
theorem gE1 {d : Nat} {a : Int32} : g_E (d + 1) 1 2398 a 0 = f_X12_ifElse (g_E d) 2398 a := by funext S; rw [g_E]; rfl
theorem gE2 {d : Nat} {a : Int32} : g_E (d + 1) 2 2398 a 0 = f_X12_compared (g_E d) 2398 a := by funext S; rw [g_E]; rfl
theorem gE3 {d : Nat} {a : Int32} : g_E (d + 1) 3 2398 a 0 = f_X12_added (g_E d) 2398 a := by funext S; rw [g_E]; rfl
theorem gE4 {d : Nat} {a : Int32} : g_E (d + 1) 4 2398 a 0 = f_X12_multiplied (g_E d) 2398 a := by funext S; rw [g_E]; rfl
theorem gE5 {d : Nat} {a : Int32} : g_E (d + 1) 5 2398 a 0 = f_X12_unary (g_E d) 2398 a := by funext S; rw [g_E]; rfl
theorem gE6 {d : Nat} {a : Int32} : g_E (d + 1) 6 2398 a 0 = f_X12_primary (g_E d) 2398 a := by funext S; rw [g_E]; rfl
theorem gE7 {d : Nat} {a : Int32} : g_E (d + 1) 7 2398 a 0 = f_X12_sum (g_E d) 2398 a := by funext S; rw [g_E]; rfl
theorem flt_r2 {R : jM} (hf : ¬ jI R 101 2398 ≤ 0) (k : Int32) (d : Nat) : g_E (d + 4) 2 2398 k 0 R = some (-1, R) ∧ g_E (d + 1) 6 2398 k 0 R = some (-1, R) := by
  refine ⟨?_, ?_⟩
  · rw [gE2]
    unfold f_X12_compared
    rw [if_pos k_2398, (flt_r hf k d).2.1, jbt]
    simp only [rltI hf, true_and, and_true, and_false, false_and, and_self, if_true, if_false, ite_self, Nat.reduceEqDiff, reduceIte, obt, jlt, jbt, jbd_ite, bind_ite]
  · rw [gE6]
    unfold f_X12_primary
    rw [if_pos k_2398, if_neg hf]
theorem EU_ok {B : Nat → Int32} {e N T t : Nat} {ru : Nat → Nat × Nat × Nat} {rs nr : Nat} (hru : ∀ r, r < nr → (ru r).1 ≤ rs ∧ (ru r).2.2 ≤ rs) : ∀ m k, k + m = 20 → ∀ dC dR, 5 * m + 10 ≤ dC → 5 * m + 10 ≤ dR →
    LK B e N T t ru rs nr (g_P dC 0 607 (nI k) 0) (g_E dR 0 2398 (nI k) 0) k ∧ LK B e N T t ru rs nr (g_P dC 4 607 (nI k) 0) (g_E dR 5 2398 (nI k) 0) k := by
  intro m
  induction m with
  | zero =>
    intro k hk dC dR hC hR
    obtain ⟨dC, rfl⟩ : ∃ x, dC = x + 10 := ⟨dC - 10, by omega⟩
    obtain ⟨dR, rfl⟩ : ∃ x, dR = x + 10 := ⟨dR - 10, by omega⟩
    have hn : ¬ k < 20 := by omega
    refine ⟨?_, ?_⟩
    · rw [gP0, gE0]
      exact LK_E (rcR2 := g_E (dR + 8)) (fun z => absurd z hn) (fun z => absurd z hn) (fun R => by rw [gE1]) (fun z => absurd z hn) (fun C h1 h2 => (flt_c h1 h2 _ _).1) (fun R h1 => (flt_r2 h1 _ _).1) (by omega)
    · rw [gP4, gE5]
      exact LK_U (by omega) (fun z => absurd z hn) (fun z => absurd z hn) (fun z => absurd z hn) (fun C h1 h2 => (flt_c h1 h2 _ _).1) (fun C h1 h2 => (flt_c h1 h2 _ (dC + 8)).2.2.2) (fun R h1 => (flt_r2 h1 _ _).2)
  | succ m ih =>
    intro k hk dC dR hC hR
    obtain ⟨dC, rfl⟩ : ∃ x, dC = x + 10 := ⟨dC - 10, by omega⟩
    obtain ⟨dR, rfl⟩ : ∃ x, dR = x + 10 := ⟨dR - 10, by omega⟩
    have IH : ∀ x y, dC + 5 ≤ x → dR + 5 ≤ y → LK B e N T t ru rs nr (g_P x 0 607 (nI (k + 1)) 0) (g_E y 0 2398 (nI (k + 1)) 0) (k + 1) ∧ LK B e N T t ru rs nr (g_P x 4 607 (nI (k + 1)) 0) (g_E y 5 2398 (nI (k + 1)) 0) (k + 1) := fun x y hx hy => ih (k + 1) (by omega) x y (by omega) (by omega)
    have k20 : k < 20 := by omega
    have hM : LK B e N T t ru rs nr (g_P (dC + 7) 3 607 (nI k) 0) (g_E (dR + 7) 4 2398 (nI k) 0) k := by
      rw [gP3, gE4]
      exact LK_M k20 (IH (dC + 6) (dR + 6) (by omega) (by omega)).2 (fun C h1 h2 => (flt_c h1 h2 _ (dC + 5)).2.2.2) (fun R h1 => (flt_r h1 _ (dR + 5)).2.2.2)
    have hA : LK B e N T t ru rs nr (g_P (dC + 8) 2 607 (nI k) 0) (g_E (dR + 8) 3 2398 (nI k) 0) k := by
      rw [gP2, gE3]
      exact LK_A hM (fun C h1 h2 => (flt_c h1 h2 _ (dC + 5)).2.2.1) (fun R h1 => (flt_r h1 _ (dR + 5)).2.2.1)
    have hCC : LK B e N T t ru rs nr (g_P (dC + 9) 1 607 (nI k) 0) (g_E (dR + 9) 2 2398 (nI k) 0) k := by
      rw [gP1, gE2]
      exact LK_C hA (fun C h1 h2 => (flt_c h1 h2 _ (dC + 5)).2.1) (fun R h1 => (flt_r h1 _ (dR + 5)).2.1)
    refine ⟨?_, ?_⟩
    · rw [gP0, gE0]
      exact LK_E (rcR2 := g_E (dR + 8)) (fun _ => (IH (dC + 9) (dR + 9) (by omega) (by omega)).1) (fun _ => (IH (dC + 9) (dR + 8) (by omega) (by omega)).1) (fun R => by rw [gE1]) (fun _ => hCC) (fun C h1 h2 => (flt_c h1 h2 _ _).1) (fun R h1 => (flt_r2 h1 _ _).1) (by omega)
    · rw [gP4, gE5]
      refine LK_U (by omega) (fun _ => (IH (dC + 9) (dR + 9) (by omega) (by omega)).1) (fun _ => (IH (dC + 9) (dR + 9) (by omega) (by omega)).2) (fun _ => ?_) (fun C h1 h2 => (flt_c h1 h2 _ _).1) (fun C h1 h2 => (flt_c h1 h2 _ (dC + 8)).2.2.2) (fun R h1 => (flt_r2 h1 _ _).2)
      rw [gP5, gE6]
      refine P_ok k20 hru (IH (dC + 8) (dR + 8) (by omega) (by omega)).1 ?_ ?_
      · rw [gP6, gE7]
        exact LKsum k20 (IH (dC + 7) (dR + 7) (by omega) (by omega)).1 (IH (dC + 7) (dR + 7) (by omega) (by omega)).2 (fun C h1 h2 => (flt_c h1 h2 _ (dC + 4)).1)
      · rw [gP7]
        intro A np cn C R a b c d
        have := F_ok k20 (rcC := g_P (dC + 7)) (rcR := g_E (dR + 8)) (IH (dC + 7) (dR + 8) (by omega) (by omega)).1 (fun C h1 h2 => (flt_c h1 h2 _ (dC + 4)).1) A np cn C R a b c d
        exact this
theorem E_ok {B : Nat → Int32} {e N T t : Nat} {ru : Nat → Nat × Nat × Nat} {rs nr : Nat} (hru : ∀ r, r < nr → (ru r).1 ≤ rs ∧ (ru r).2.2 ≤ rs) : LK B e N T t ru rs nr (f_X4_readE (g_P 300) 607 0) (f_X12_expression (g_E 300) 2398 0) 0 := by
  have h := (EU_ok (B := B) (e := e) (N := N) (T := T) (t := t) hru 20 0 (by omega) 301 301 (by omega) (by omega)).1
  rw [gP0, gE0] at h
  exact h
