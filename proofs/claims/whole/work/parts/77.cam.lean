/-! PURE: the parser: C, A, M -/
theorem pk {α : Type} {P : Prop} {iP : Decidable P} {a b : Option α} : ((if P then some (1 : Int32) else some 0).bind (fun x => if x = 0 then a else b)) = if P then b else a := by
  by_cases c : P
  · rw [if_pos c, if_pos c, obt, if_neg (by decide)]
  · rw [if_neg c, if_neg c, obt, if_pos rfl]
theorem opOK.mono {B : Nat → Int32} {e N T t : Nat} {ru : Nat → Nat × Nat × Nat} {rs nr k : Nat} {sC sR : (Int32 → jM → Option (Int32 × jM)) → Int32 → jM → Option (Int32 × jM)} {P Q : Int32 → Prop} (h : opOK B e N T t ru rs nr k sC sR P) (hq : ∀ K, Q K → P K) : opOK B e N T t ru rs nr k sC sR Q :=
  fun A lo np cn C0 R0 C R i a b c d x => h A lo np cn C0 R0 C R i a b c d (hq _ x)
def isC (K : Int32) : Prop := K = 60 ∨ K = 9 ∨ K = 61 ∨ K = 10
def isA (K : Int32) : Prop := K = 43 ∨ K = 45
def isM (K : Int32) : Prop := K = 42 ∨ K = 47 ∨ K = 37
theorem tmC : ∀ K ∈ tks, (tm K = 160 ↔ K = 60) ∧ (tm K = 46 ↔ K = 9) ∧ (tm K = 161 ↔ K = 61) ∧ (tm K = 45 ↔ K = 10) ∧ (tm K = 143 ↔ K = 43) ∧ (tm K = 145 ↔ K = 45) ∧ (tm K = 142 ↔ K = 42) ∧ (tm K = 147 ↔ K = 47) ∧ (tm K = 137 ↔ K = 37) ∧ (tm K = 191 ↔ K = 91) := by decide +kernel
theorem c42 {rc : Nat → Nat → Int32 → Int32 → jM → Option (Int32 × jM)} {a l : Int32} {S : jM} : f_X4_readC_42 rc 607 a l S = opC (rc 2 607 a 0) (fun x S => some (x, S)) l S := by
  unfold f_X4_readC_42 opC
  rw [if_pos k_607]
theorem r44 {rc : Nat → Nat → Int32 → Int32 → jM → Option (Int32 × jM)} {a l : Int32} {S : jM} : f_X12_compared_44 rc 2398 a l S = opR (rc 3 2398 a 0) (fun x S => some (x, S)) l S := by
  unfold f_X12_compared_44 opR
  rw [if_pos k_2398]
theorem LK_C {B : Nat → Int32} {e N T t : Nat} {ru : Nat → Nat × Nat × Nat} {rs nr k : Nat} {rcC rcR : Nat → Nat → Int32 → Int32 → jM → Option (Int32 × jM)} (hA : LK B e N T t ru rs nr (rcC 2 607 (nI k) 0) (rcR 3 2398 (nI k) 0) k)
    (fc : ∀ C, Lay C → jI C 26 607 ≠ 0 → rcC 2 607 (nI k) 0 C = some (-1, C)) (fr : ∀ R, ¬ jI R 101 2398 ≤ 0 → rcR 3 2398 (nI k) 0 R = some (-1, R)) : LK B e N T t ru rs nr (f_X4_readC rcC 607 (nI k)) (f_X12_compared rcR 2398 (nI k)) k := by
  intro A np cn fl C R hrs hcn h
  show LC B e N T t ru rs nr A np cn fl C R _ _
  obtain ⟨x, y, C1, R1, np1, fl1, e1, e2, e3, e4, e5, e6⟩ := hA A np cn fl C R hrs hcn h
  by_cases cf : fl1 = 0
  · subst cf
    obtain ⟨f0, i, rfl, rfl, f1, f2, f3⟩ := e6 rfl
    obtain ⟨t1, t2, t3, t4, -⟩ := tmC _ e4.tks
    have cc : f_X4_readC rcC 607 (nI k) C = if jI C1 40 608 = 60 then opC (rcC 2 607 (nI k) 0) (fun x S => some (x, S)) (nI i) C1 else if jI C1 40 608 = 9 then opC (rcC 2 607 (nI k) 0) (fun x S => some (x, S)) (nI i) C1 else if jI C1 40 608 = 61 then opC (rcC 2 607 (nI k) 0) (fun x S => some (x, S)) (nI i) C1 else if jI C1 40 608 = 10 then opC (rcC 2 607 (nI k) 0) (fun x S => some (x, S)) (nI i) C1 else some (nI i, C1) := by
      unfold f_X4_readC
      rw [if_pos k_607, e1, jbt]
      simp only [is_c e4, pk, c42]
    have cr : f_X12_compared rcR 2398 (nI k) R = if jI C1 40 608 = 60 then opR (rcR 3 2398 (nI k) 0) (fun x S => some (x, S)) (nI (301 * t + i)) R1 else if jI C1 40 608 = 9 then opR (rcR 3 2398 (nI k) 0) (fun x S => some (x, S)) (nI (301 * t + i)) R1 else if jI C1 40 608 = 61 then opR (rcR 3 2398 (nI k) 0) (fun x S => some (x, S)) (nI (301 * t + i)) R1 else if jI C1 40 608 = 10 then opR (rcR 3 2398 (nI k) 0) (fun x S => some (x, S)) (nI (301 * t + i)) R1 else some (nI (301 * t + i), R1) := by
      unfold f_X12_compared
      rw [if_pos k_2398, e2, jbt]
      simp only [is_r e4, pk, r44, t1, t2, t3, t4]
    by_cases cp : isC (jI C1 40 608)
    · have hc2 : f_X4_readC rcC 607 (nI k) C = opC (rcC 2 607 (nI k) 0) (fun x S => some (x, S)) (nI i) C1 := by
        rw [cc]; unfold isC at cp
        repeat' split
        all_goals first | rfl | (exfalso; simp_all)
      have hr2 : f_X12_compared rcR 2398 (nI k) R = opR (rcR 3 2398 (nI k) 0) (fun x S => some (x, S)) (nI (301 * t + i)) R1 := by
        rw [cr]; unfold isC at cp
        repeat' split
        all_goals first | rfl | (exfalso; simp_all)
      obtain ⟨x', y', C', R', np', fl', s1, s2, s3, s4, s5, s6⟩ := (op_ok hA fc fr) A np np1 cn C R C1 R1 i hrs hcn e3 e4 (by unfold isC at cp; unfold isOp; rcases cp with z | z | z | z <;> (rw [z]; decide)) e5 f2 f3
      rw [hc2, hr2, s1]
      have s2' : opR (rcR 3 2398 (nI k) 0) (fun x S => some (x, S)) (nI (301 * t + i)) R1 = some (y', R') := by
        rcases s2 with s2 | ⟨-, s2⟩
        · exact s2 _
        · exact s2 _
      rw [s2']
      refine ⟨x', y', C', R', np', fl', rfl, rfl, by omega, s4, s5, fun z => ?_⟩
      obtain ⟨t1, i', t2, t3, t4, t5⟩ := s6 z
      exact ⟨f0, i', t2, t3, by omega, t4, t5⟩
    · have hc2 : f_X4_readC rcC 607 (nI k) C = some (nI i, C1) := by
        rw [cc]; unfold isC at cp
        repeat' split
        all_goals first | rfl | (exfalso; simp_all)
      have hr2 : f_X12_compared rcR 2398 (nI k) R = some (nI (301 * t + i), R1) := by
        rw [cr]; unfold isC at cp
        repeat' split
        all_goals first | rfl | (exfalso; simp_all)
      rw [hc2, hr2]
      exact ⟨_, _, C1, R1, np1, 0, rfl, rfl, e3, e4, e5, fun _ => ⟨f0, i, rfl, rfl, f1, f2, f3⟩⟩
  · obtain ⟨n1, n2⟩ := nfl e4 cf
    refine LC.flt (x := x) (y := y) ?_ ?_ e3 e4 e5 cf
    · unfold f_X4_readC
      rw [if_pos k_607, e1, jbt]
      simp only [nx_flt n1, true_and, and_true, and_false, false_and, and_self, if_true, if_false, ite_self, Nat.reduceEqDiff, reduceIte, obt, jlt, jbt, jbd_ite, bind_ite]
    · unfold f_X12_compared
      rw [if_pos k_2398, e2, jbt]
      simp only [rltI n2, true_and, and_true, and_false, false_and, and_self, if_true, if_false, ite_self, Nat.reduceEqDiff, reduceIte, obt, jlt, jbt, jbd_ite, bind_ite]
theorem opcA {rc : Nat → Nat → Int32 → Int32 → jM → Option (Int32 × jM)} {k8 : Nat → Int32 → Int32 → Int32 → jM → Option (Int32 × jM)} {a l c : Int32} {S : jM} : f_X4_readA_33 rc k8 607 a l c S = opC (rc 3 607 a 0) (fun x S => k8 607 a x (c + 1) S) l S := by
  unfold f_X4_readA_33 opC
  rw [if_pos k_607]
  simp only [jlt]
theorem oprA {rc : Nat → Nat → Int32 → Int32 → jM → Option (Int32 × jM)} {k6 : Nat → Int32 → Int32 → jM → Option (Int32 × jM)} {a l : Int32} {S : jM} : f_X12_added_26 rc k6 2398 a l S = opR (rc 4 2398 a 0) (fun x S => k6 2398 a x S) l S := by
  unfold f_X12_added_26 opR f_X12_added_54
  rw [if_pos k_2398]
theorem opcM {rc : Nat → Nat → Int32 → Int32 → jM → Option (Int32 × jM)} {k8 : Nat → Int32 → Int32 → Int32 → jM → Option (Int32 × jM)} {a l c : Int32} {S : jM} : f_X4_readM_44 rc k8 607 a l c S = opC (rc 4 607 (a + 1) 0) (fun x S => k8 607 a x (c + 1) S) l S := by
  unfold f_X4_readM_44 opC
  rw [if_pos k_607]
  simp only [jlt]
theorem oprM {rc : Nat → Nat → Int32 → Int32 → jM → Option (Int32 × jM)} {k6 : Nat → Int32 → Int32 → jM → Option (Int32 × jM)} {a l : Int32} {S : jM} : f_X12_multiplied_38 rc k6 2398 a l S = opR (rc 5 2398 (a + 1) 0) (fun x S => k6 2398 a x S) l S := by
  unfold f_X12_multiplied_38 opR f_X12_multiplied_68
  rw [if_pos k_2398]
theorem LK_A {B : Nat → Int32} {e N T t : Nat} {ru : Nat → Nat × Nat × Nat} {rs nr k : Nat} {rcC rcR : Nat → Nat → Int32 → Int32 → jM → Option (Int32 × jM)} (hM : LK B e N T t ru rs nr (rcC 3 607 (nI k) 0) (rcR 4 2398 (nI k) 0) k)
    (fc : ∀ C, Lay C → jI C 26 607 ≠ 0 → rcC 3 607 (nI k) 0 C = some (-1, C)) (fr : ∀ R, ¬ jI R 101 2398 ≤ 0 → rcR 4 2398 (nI k) 0 R = some (-1, R)) : LK B e N T t ru rs nr (f_X4_readA rcC 607 (nI k)) (f_X12_added rcR 2398 (nI k)) k := by
  intro A np cn fl C R hrs hcn h
  show LC B e N T t ru rs nr A np cn fl C R _ _
  obtain ⟨x, y, C1, R1, np1, fl1, e1, e2, e3, e4, e5, e6⟩ := hM A np cn fl C R hrs hcn h
  have ec : f_X4_readA rcC 607 (nI k) C = f_X4_readA_8 rcC 1100000 607 (nI k) x (nI 0) C1 := by
    unfold f_X4_readA
    rw [if_pos k_607, e1, jbt]
    rfl
  have er : f_X12_added rcR 2398 (nI k) R = f_X12_added_6 rcR 1100000 2398 (nI k) y R1 := by
    unfold f_X12_added
    rw [if_pos k_2398, e2, jbt]
  rw [ec, er]
  refine loop_ok ((op_ok hM fc fr).mono (Q := isA) (fun K z => by unfold isA at z; unfold isOp; rcases z with z | z <;> (rw [z]; decide))) (lc := fun n l c S => f_X4_readA_8 rcC n 607 (nI k) l c S) (lr := fun n l S => f_X12_added_6 rcR n 2398 (nI k) l S) (fun A n l c np cn fl C R h hc => ⟨fun z => ?_, fun z => ?_⟩) (fun A n l np cn fl C R h => ⟨fun z => ?_, fun z => ?_⟩) hrs hcn 300 1100000 1100000 np1 0 fl1 x y C1 R1 (by omega) (by omega) (by omega) e3 ?_ e4 e5 (fun z => ?_)
  · obtain ⟨rfl, hp⟩ := z
    show f_X4_readA_8 rcC (n + 1) 607 (nI k) l c C = _
    rw [f_X4_readA_8, if_neg hc, if_pos k_607]
    simp only [is_c h, pk, opcA]
    unfold isA at hp
    repeat' split
    all_goals first | rfl | (exfalso; simp_all)
  · show f_X4_readA_8 rcC (n + 1) 607 (nI k) l c C = _
    rw [f_X4_readA_8, if_neg hc, if_pos k_607]
    by_cases cf : fl = 0
    · subst cf
      simp only [is_c h, pk, opcA]
      unfold isA at z
      repeat' split
      all_goals first | rfl | (exfalso; simp_all)
    · simp only [nx_flt (nfl h cf).1, true_and, and_true, and_false, false_and, and_self, if_true, if_false, ite_self, Nat.reduceEqDiff, reduceIte, obt, jlt, jbt, jbd_ite, bind_ite]
  · obtain ⟨rfl, hp⟩ := z
    show f_X12_added_6 rcR (n + 1) 2398 (nI k) l R = _
    rw [f_X12_added_6, if_pos k_2398]
    obtain ⟨-, -, -, -, t5, t6, -⟩ := tmC _ h.tks
    simp only [is_r h, pk, oprA, t5, t6]
    unfold isA at hp
    repeat' split
    all_goals first | rfl | (exfalso; simp_all)
  · show f_X12_added_6 rcR (n + 1) 2398 (nI k) l R = _
    rw [f_X12_added_6, if_pos k_2398]
    by_cases cf : fl = 0
    · subst cf
      obtain ⟨-, -, -, -, t5, t6, -⟩ := tmC _ h.tks
      simp only [is_r h, pk, oprA, t5, t6]
      unfold isA at z
      repeat' split
      all_goals first | rfl | (exfalso; simp_all)
    · simp only [rltI (nfl h cf).2, true_and, and_true, and_false, false_and, and_self, if_true, if_false, ite_self, Nat.reduceEqDiff, reduceIte, obt, jlt, jbt, jbd_ite, bind_ite]
  · by_cases cf : fl1 = 0
    · obtain ⟨f0, i, i1, i2, f1, f2, f3⟩ := e6 cf
      exact .inl (by omega)
    · exact .inr ⟨cf, by omega⟩
  · obtain ⟨f0, i, i1, i2, f1, f2, f3⟩ := e6 z
    exact ⟨f0, f1, i, i1, i2, f2, f3⟩
theorem LK_M {B : Nat → Int32} {e N T t : Nat} {ru : Nat → Nat × Nat × Nat} {rs nr k : Nat} {rcC rcR : Nat → Nat → Int32 → Int32 → jM → Option (Int32 × jM)} (hk : k < 20) (hU : LK B e N T t ru rs nr (rcC 4 607 (nI (k + 1)) 0) (rcR 5 2398 (nI (k + 1)) 0) (k + 1))
    (fc : ∀ C, Lay C → jI C 26 607 ≠ 0 → rcC 4 607 (nI (k + 1)) 0 C = some (-1, C)) (fr : ∀ R, ¬ jI R 101 2398 ≤ 0 → rcR 5 2398 (nI (k + 1)) 0 R = some (-1, R)) : LK B e N T t ru rs nr (f_X4_readM rcC 607 (nI k)) (f_X12_multiplied rcR 2398 (nI k)) k := by
  intro A np cn fl C R hrs hcn h
  show LC B e N T t ru rs nr A np cn fl C R _ _
  have s1 : (nI k : Int32) + 1 = nI (k + 1) := nJ_1 (by omega)
  obtain ⟨x, y, C1, R1, np1, fl1, e1, e2, e3, e4, e5, e6⟩ := hU A np cn fl C R hrs (by omega) h
  have ec : f_X4_readM rcC 607 (nI k) C = f_X4_readM_10 rcC 1100000 607 (nI k) x (nI 0) C1 := by
    unfold f_X4_readM
    rw [if_pos k_607, s1, e1, jbt]
    rfl
  have er : f_X12_multiplied rcR 2398 (nI k) R = f_X12_multiplied_8 rcR 1100000 2398 (nI k) y R1 := by
    unfold f_X12_multiplied
    rw [if_pos k_2398, s1, e2, jbt]
  rw [ec, er]
  refine loop_ok ((op_ok hU fc fr).mono (Q := isM) (fun K z => by unfold isM at z; unfold isOp; rcases z with z | z | z <;> (rw [z]; decide))) (lc := fun n l c S => f_X4_readM_10 rcC n 607 (nI k) l c S) (lr := fun n l S => f_X12_multiplied_8 rcR n 2398 (nI k) l S) (fun A n l c np cn fl C R h hc => ⟨fun z => ?_, fun z => ?_⟩) (fun A n l np cn fl C R h => ⟨fun z => ?_, fun z => ?_⟩) hrs (by omega) 300 1100000 1100000 np1 0 fl1 x y C1 R1 (by omega) (by omega) (by omega) e3 ?_ e4 e5 (fun z => ?_)
  · obtain ⟨rfl, hp⟩ := z
    show f_X4_readM_10 rcC (n + 1) 607 (nI k) l c C = _
    rw [f_X4_readM_10, if_neg hc, if_pos k_607]
    simp only [is_c h, pk, opcM, s1]
    unfold isM at hp
    repeat' split
    all_goals first | rfl | (exfalso; simp_all)
  · show f_X4_readM_10 rcC (n + 1) 607 (nI k) l c C = _
    rw [f_X4_readM_10, if_neg hc, if_pos k_607]
    by_cases cf : fl = 0
    · subst cf
      simp only [is_c h, pk, opcM]
      unfold isM at z
      repeat' split
      all_goals first | rfl | (exfalso; simp_all)
    · simp only [nx_flt (nfl h cf).1, true_and, and_true, and_false, false_and, and_self, if_true, if_false, ite_self, Nat.reduceEqDiff, reduceIte, obt, jlt, jbt, jbd_ite, bind_ite]
  · obtain ⟨rfl, hp⟩ := z
    show f_X12_multiplied_8 rcR (n + 1) 2398 (nI k) l R = _
    rw [f_X12_multiplied_8, if_pos k_2398]
    obtain ⟨-, -, -, -, -, -, t5, t6, t7, -⟩ := tmC _ h.tks
    simp only [is_r h, pk, oprM, t5, t6, t7, s1]
    unfold isM at hp
    repeat' split
    all_goals first | rfl | (exfalso; simp_all)
  · show f_X12_multiplied_8 rcR (n + 1) 2398 (nI k) l R = _
    rw [f_X12_multiplied_8, if_pos k_2398]
    by_cases cf : fl = 0
    · subst cf
      obtain ⟨-, -, -, -, -, -, t5, t6, t7, -⟩ := tmC _ h.tks
      simp only [is_r h, pk, oprM, t5, t6, t7]
      unfold isM at z
      repeat' split
      all_goals first | rfl | (exfalso; simp_all)
    · simp only [rltI (nfl h cf).2, true_and, and_true, and_false, false_and, and_self, if_true, if_false, ite_self, Nat.reduceEqDiff, reduceIte, obt, jlt, jbt, jbd_ite, bind_ite]
  · by_cases cf : fl1 = 0
    · obtain ⟨f0, i, i1, i2, f1, f2, f3⟩ := e6 cf
      exact .inl (by omega)
    · exact .inr ⟨cf, by omega⟩
  · obtain ⟨f0, i, i1, i2, f1, f2, f3⟩ := e6 z
    exact ⟨f0, f1, i, i1, i2, f2, f3⟩
