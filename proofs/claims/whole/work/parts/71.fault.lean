/-! PURE: the parsers behind a fault; what begins a U, what begins an E -/
noncomputable def bU (k : Int32) : Int32 := if k = 2 then 1 else if k = 3 then 1 else if k = 4 then 1 else if k = 40 then 1 else if k = 45 then 1 else if k = 131 then 1 else if k = 146 then 1 else if (f_X7_arity k) ≤ 0 then 0 else 1
theorem beg_c {C : jM} (hC : Lay C) : f_X4_beginsU 607 C = some (bU (jI C 40 608)) := by
  unfold f_X4_beginsU bU
  simp only [k_607, k_608, ly_24 hC, true_and, and_true, and_false, false_and, and_self, if_true, if_false, ite_self, Nat.reduceEqDiff, reduceIte, obt, jlt, jbt, jbd_ite, bind_ite]
  repeat' split
  all_goals first | rfl | (exfalso; contradiction)
theorem bU_tm : ∀ k ∈ tks, (if tm k = 145 then (1 : Int32) else if tm k = 41 then 1 else if tm k = 42 then 1 else if tm k = 140 then 1 else if tm k = 40 then 1 else if tm k = 4 then 1 else if tm k = 19 then 1 else if (f_X12_isFunction (tm k)) = 0 then 0 else 1) = bU k := by decide +kernel
theorem beg_r {B : Nat → Int32} {e N T t : Nat} {A : Nat → Prop} {np nr cn : Nat} {C R : jM} (h : PS B e N T t A np nr cn 0 C R) {q : Nat} (hq : jI R 100 2398 = nI q) (hq2 : q < 1602) (hE : entQ B e (tps B e q) q R) : f_X12_beginsUnary 2398 R = some (bU (tkv B e (tps B e q)).1) := by
  unfold f_X12_beginsUnary f_X12_beginsUnary_55
  rw [if_pos k_2398, now_r h hq hq2 hE, obt, ← bU_tm _ (tkv_in _ _ _)]
  repeat' split
  all_goals first | rfl | (exfalso; contradiction)
theorem e_c {C : jM} (hC : Lay C) (rc : Nat → Nat → Int32 → Int32 → jM → Option (Int32 × jM)) (k : Int32) : f_X4_readE rc 607 k C = jbd (f_X4_mayBegin 607 (if jI C 40 608 = 135 ∨ jI C 40 608 = 149 then 1 else bU (jI C 40 608)) k C) (fun x40 S41 => if x40 = 0 then some (-1, S41) else if jI C 40 608 = 135 then f_X4_readE_82 rc 607 k 1 S41 else if jI C 40 608 = 149 then f_X4_readE_82 rc 607 k 0 S41 else rc 1 607 k 0 S41) := by
  have hid : ∀ o : Option (Int32 × jM), jbd o (fun x S => some (x, S)) = o := fun o => by cases o <;> rfl
  unfold f_X4_readE f_X4_readE_18 f_X4_readE_37 f_X4_readE_54 f_X4_readE_59
  simp only [k_607, k_608, ly_24 hC, hid, true_and, and_true, and_false, false_and, and_self, if_true, if_false, ite_self, Nat.reduceEqDiff, reduceIte, obt, jlt, jbt, jbd_ite, bind_ite]
  by_cases c1 : jI C 40 608 = 135
  · rw [if_pos c1, c1]
    simp only [show ((135 : Int32) = 149) = False from by decide, show ((1 : Int32) = 0) = False from by decide, true_or, true_and, and_true, and_false, false_and, and_self, if_true, if_false, ite_self, Nat.reduceEqDiff, reduceIte, obt, jlt, jbt, jbd_ite, bind_ite]
  · rw [if_neg c1]
    by_cases c2 : jI C 40 608 = 149
    · rw [if_pos c2, c2]
      simp only [show ((149 : Int32) = 135) = False from by decide, show ((1 : Int32) = 0) = False from by decide, or_true, true_and, and_true, and_false, false_and, and_self, if_true, if_false, ite_self, Nat.reduceEqDiff, reduceIte, obt, jlt, jbt, jbd_ite, bind_ite]
    · rw [if_neg c2]
      simp only [c1, c2, or_self, beg_c hC, true_and, and_true, and_false, false_and, and_self, if_true, if_false, ite_self, Nat.reduceEqDiff, reduceIte, obt, jlt, jbt, jbd_ite, bind_ite]
      by_cases c3 : bU (jI C 40 608) = 0
      · rw [if_pos c3, c3]
      · rw [if_neg c3]
        have : bU (jI C 40 608) = 1 := by
          unfold bU at c3 ⊢
          repeat' split
          all_goals first | rfl | (exfalso; simp_all)
        rw [this]
theorem may_flt {C : jM} (hC : Lay C) (hf : jI C 26 607 ≠ 0) (x k : Int32) : f_X4_mayBegin 607 x k C = some (0, C) := by
  have hr : ∀ c, f_X4_refuse 607 c C = some C := fun c => by
    unfold f_X4_refuse
    rw [if_pos k_607, if_neg hf]
  unfold f_X4_mayBegin f_X4_mayBegin_22 f_X4_refuseToken f_X4_refuseToken_17
  simp only [k_607, k_608, ly_24 hC, hr, hf, true_and, and_true, and_false, false_and, and_self, if_true, if_false, ite_self, Nat.reduceEqDiff, reduceIte, obt, jlt, jbt, jbd_ite, bind_ite]
theorem fltE {C : jM} (hC : Lay C) (hf : jI C 26 607 ≠ 0) (rc : Nat → Nat → Int32 → Int32 → jM → Option (Int32 × jM)) (k : Int32) : f_X4_readE rc 607 k C = some (-1, C) := by
  rw [e_c hC, may_flt hC hf, jbt, if_pos rfl]
theorem fltU {C : jM} (hC : Lay C) (hf : jI C 26 607 ≠ 0) (rc : Nat → Nat → Int32 → Int32 → jM → Option (Int32 × jM)) (k : Int32) : f_X4_readU rc 607 k C = some (-1, C) := by
  unfold f_X4_readU
  rw [if_pos k_607, beg_c hC, obt, may_flt hC hf, jbt, if_pos rfl]
theorem fltM {C : jM} (hC : Lay C) (hf : jI C 26 607 ≠ 0) {rc : Nat → Nat → Int32 → Int32 → jM → Option (Int32 × jM)} {k : Int32} (hrc : rc 4 607 (k + 1) 0 C = some (-1, C)) : f_X4_readM rc 607 k C = some (-1, C) := by
  have hn : ∀ K, f_X4_isNext 607 K C = some 0 := fun K => by
    unfold f_X4_isNext
    rw [if_pos k_607, if_neg hf]
  unfold f_X4_readM
  rw [if_pos k_607, hrc, jbt, f_X4_readM_10, if_neg (by decide), if_pos k_607, hn, obt, if_pos rfl, hn, obt, if_pos rfl, hn, obt, if_pos rfl]
theorem fltA {C : jM} (hC : Lay C) (hf : jI C 26 607 ≠ 0) {rc : Nat → Nat → Int32 → Int32 → jM → Option (Int32 × jM)} {k : Int32} (hrc : rc 3 607 k 0 C = some (-1, C)) : f_X4_readA rc 607 k C = some (-1, C) := by
  have hn : ∀ K, f_X4_isNext 607 K C = some 0 := fun K => by
    unfold f_X4_isNext
    rw [if_pos k_607, if_neg hf]
  unfold f_X4_readA
  rw [if_pos k_607, hrc, jbt, f_X4_readA_8, if_neg (by decide), if_pos k_607, hn, obt, if_pos rfl, hn, obt, if_pos rfl]
/-- the class behind a fault: sel 0, 2, 3, 4 -/
theorem flt_c {C : jM} (hC : Lay C) (hf : jI C 26 607 ≠ 0) (k : Int32) (d : Nat) : g_P (d + 3) 0 607 k 0 C = some (-1, C) ∧ g_P (d + 3) 2 607 k 0 C = some (-1, C) ∧ g_P (d + 2) 3 607 k 0 C = some (-1, C) ∧ g_P (d + 1) 4 607 k 0 C = some (-1, C) := by
  have h4 : ∀ (d : Nat) (k : Int32), g_P (d + 1) 4 607 k 0 C = some (-1, C) := fun d k => by
    rw [g_P]
    exact fltU hC hf _ k
  have h3 : ∀ (d : Nat) (k : Int32), g_P (d + 2) 3 607 k 0 C = some (-1, C) := fun d k => by
    rw [g_P]
    exact fltM hC hf (h4 d _)
  refine ⟨?_, ?_, h3 d k, h4 d k⟩
  · rw [g_P]
    exact fltE hC hf _ k
  · rw [g_P]
    exact fltA hC hf (h3 d _)
theorem rltE {R : jM} (hf : ¬ jI R 101 2398 ≤ 0) (rc : Nat → Nat → Int32 → Int32 → jM → Option (Int32 × jM)) (k : Int32) : f_X12_expression rc 2398 k R = some (-1, R) := by
  unfold f_X12_expression
  rw [if_pos k_2398, if_neg hf]
theorem rltU {R : jM} (hf : ¬ jI R 101 2398 ≤ 0) (rc : Nat → Nat → Int32 → Int32 → jM → Option (Int32 × jM)) (k : Int32) : f_X12_unary rc 2398 k R = some (-1, R) := by
  unfold f_X12_unary
  rw [if_pos k_2398, if_neg hf]
theorem rltI {R : jM} (hf : ¬ jI R 101 2398 ≤ 0) (K : Int32) : f_X12_is 2398 K R = some 0 := by
  unfold f_X12_is
  rw [if_pos k_2398, if_neg (fun z => hf (by rw [z]; decide))]
theorem flt_r {R : jM} (hf : ¬ jI R 101 2398 ≤ 0) (k : Int32) (d : Nat) : g_E (d + 3) 0 2398 k 0 R = some (-1, R) ∧ g_E (d + 3) 3 2398 k 0 R = some (-1, R) ∧ g_E (d + 2) 4 2398 k 0 R = some (-1, R) ∧ g_E (d + 1) 5 2398 k 0 R = some (-1, R) := by
  have h5 : ∀ (d : Nat) (k : Int32), g_E (d + 1) 5 2398 k 0 R = some (-1, R) := fun d k => by
    rw [g_E]
    exact rltU hf _ k
  have h4 : ∀ (d : Nat) (k : Int32), g_E (d + 2) 4 2398 k 0 R = some (-1, R) := fun d k => by
    rw [g_E]
    show f_X12_multiplied _ 2398 k R = _
    unfold f_X12_multiplied
    rw [if_pos k_2398, h5 d, jbt, f_X12_multiplied_8, if_pos k_2398, rltI hf, obt, if_pos rfl, rltI hf, obt, if_pos rfl, rltI hf, obt, if_pos rfl]
  refine ⟨?_, ?_, h4 d k, h5 d k⟩
  · rw [g_E]
    exact rltE hf _ k
  · rw [g_E]
    show f_X12_added _ 2398 k R = _
    unfold f_X12_added
    rw [if_pos k_2398, h4 d, jbt, f_X12_added_6, if_pos k_2398, rltI hf, obt, if_pos rfl, rltI hf, obt, if_pos rfl]
