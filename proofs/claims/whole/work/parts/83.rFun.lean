/-! PURE: the parser: a function -/
theorem fn_tm : ∀ K ∈ tks, f_X7_arity K ≤ 0 ∨ ((f_X12_arguments (tm K) = f_X7_arity K ∧ tm K = kmap K ∧ K ≠ 0 ∧ K ≠ 1 ∧ tm K ≠ 140 ∧ tm K ≠ 19 ∧ tm K ≠ 40 ∧ ((K ≠ 3 ∧ K ≠ 4 ∧ K ≠ 6 ∧ K ≠ 7 ∧ K ≠ 8) ∧ K ≠ 146)) ∧ ((f_X7_arity K = 1 ∧ 1 = tar K) ∨ (f_X7_arity K = 2 ∧ 2 = tar K) ∨ (f_X7_arity K = 3 ∧ 3 = tar K))) := by decide +kernel
theorem fn_tk : ∀ K ∈ tks, f_X7_arity K ≤ 0 ∨ tkind K := by unfold tkind; decide +kernel
theorem F_ok {B : Nat → Int32} {e N T t : Nat} {ru : Nat → Nat × Nat × Nat} {rs nr k : Nat} {rcC rcR : Nat → Nat → Int32 → Int32 → jM → Option (Int32 × jM)} (hk : k < 20)
    (hE : LK B e N T t ru rs nr (rcC 0 607 (nI (k + 1)) 0) (rcR 0 2398 (nI (k + 1)) 0) (k + 1)) (fE : ∀ C, Lay C → jI C 26 607 ≠ 0 → rcC 0 607 (nI (k + 1)) 0 C = some (-1, C)) :
    ∀ (A : Nat → Prop) (np cn : Nat) (C R : jM), rs ≤ np → cn ≤ k → PS B e N T t A np nr cn 0 C R → ¬ f_X7_arity (jI C 40 608) ≤ 0 → LC B e N T t ru rs nr A np cn 0 C R (f_X4_readFunction rcC 607 (nI k) C) (f_X12_primary rcR 2398 (nI k) R) := by
  intro A np cn C R hrs hcn h har
  have hT := h.pt
  have s1 : (nI k : Int32) + 1 = nI (k + 1) := nJ_1 (by omega)
  obtain ⟨q, q1, q2, q3, q4, q5, q6, q7, q8, q9, q10, q11⟩ := h.tk
  have eK : (tkv B e (tps B e q)).1 = jI C 40 608 := q4.2.1.symm
  obtain ⟨⟨g1, g2, g3, g4, g5, g6, g7, g8⟩, g9⟩ := (fn_tm _ h.tks).resolve_left har
  have gk := (fn_tk _ h.tks).resolve_left har
  rw [← eK] at g1 g5 g6 g7
  have ec : f_X4_readFunction rcC 607 (nI k) C = jbd (f_X4_part 607 (jI C 40 608) (0 : Int64) C) (fun x27 S28 => f_X4_readFunction_27 rcC 1100000 607 (nI k) (f_X7_arity (jI C 40 608)) x27 (0 : Int32) S28) := by
    unfold f_X4_readFunction
    rw [if_pos k_607, ly_24 hT.1, obt, if_pos k_608, jlt, obt, if_pos k_608]
  rw [ec]
  rcases BS.new (ru := ru) (rs := rs) h St.refl (Nat.le_refl _) (fun k a b => absurd b (by omega)) q3 q2 (by rw [eK]; exact g3) (by rw [eK]; exact g4) (jI C 40 608) (tm (tkv B e (tps B e q)).1) 0 (by rw [eK]; exact g2) with ⟨C1, R1, fl1, p1, p2, p3, p4, p5⟩ | ⟨C1, R1, R2, R3, p1, p2, p3, p4, p5, b1, -, -, z6, z7⟩
  · obtain ⟨n1, n2⟩ := nfl p4 p3
    have hT1 := p4.pt
    refine LC.flt (x := -1) (y := -1) ?_ (by rw [prim_r h q3 q2 q5 rcR (nI k) g5, p2, jbt, if_pos rfl]) (Nat.le_refl _) p4 p5 p3
    rw [p1, jbt]
    have e46 : ∀ n a c K, f_X4_readFunction_46 rcC (f_X4_readFunction_27 rcC n) 607 (nI k) a (-1) c 607 K C1 = f_X4_readFunction_27 rcC n 607 (nI k) a (-1) (c + 1) C1 := fun n a c K => by
      unfold f_X4_readFunction_46
      simp only [k_607, tk_flt n1, hT1.2.2.2.2.2.1, s1, fE C1 hT1.1 n1, hT1.2.2.1, set_m, true_and, and_true, and_false, false_and, and_self, if_true, if_false, ite_self, Nat.reduceEqDiff, reduceIte, obt, jlt, jbt, jbd_ite, bind_ite]
    have e27 : ∀ n a c, f_X4_readFunction_27 rcC (n + 1) 607 (nI k) a (-1) c C1 = if a ≤ c then some (-1, C1) else f_X4_readFunction_27 rcC n 607 (nI k) a (-1) (c + 1) C1 := fun n a c => by
      rw [f_X4_readFunction_27]
      simp only [k_607, tk_flt n1, e46, true_and, and_true, and_false, false_and, and_self, if_true, if_false, ite_self, Nat.reduceEqDiff, reduceIte, obt, jlt, jbt, jbd_ite, bind_ite]
    rcases g9 with ⟨g9, -⟩ | ⟨g9, -⟩ | ⟨g9, -⟩
    · rw [g9, e27, if_neg (by decide), e27, if_pos (by decide)]
    · rw [g9, e27, if_neg (by decide), e27, if_neg (by decide), e27, if_pos (by decide)]
    · rw [g9, e27, if_neg (by decide), e27, if_neg (by decide), e27, if_neg (by decide), e27, if_pos (by decide)]
  · subst z6
    subst z7
    rw [pos_nR q3 q2] at p5
    subst p5
    have hp : np < 300 := by have := b1.1.2.1; omega
    rw [p1, jbt, leaf_r h q3 q2 q5 rcR (nI k) g5 g6 g7 hp p2 p3 p4, g1]
    have b0 := b1.cst (jAL R 2406 q) (jAI R 2407 q)
    clear b1
    generalize cstR t np (jAL R 2406 q) (jAI R 2407 q) (jsI (nR t np (tm (tkv B e (tps B e q)).1) (jsI R 114 2398 (nI (np + 1)))) 100 2398 (nI (q + 1))) = R4 at b0 ⊢
    obtain ⟨C2, R5, f1, t1, t2, b2⟩ := b0.take (by decide) 40 140 (by decide) (by decide) (by decide) (by decide)
    obtain ⟨x1, y1, C3, R6, C4, R7, np1, f2, i1, i2, i3, i4, -, -, b3⟩ := b2.inner hE hrs (by omega) (by decide) 0 rfl 2409 rfl
    rcases g9 with ⟨g9, g10⟩ | ⟨g9, g10⟩ | ⟨g9, g10⟩
    · obtain ⟨C5, R8, f3, t3, t4, b4⟩ := b3.take (by decide) 41 141 (by decide) (by decide) (by decide) (by decide)
      refine b4.lc g10 gk g8 ?_ ?_
      · rw [g9, f_X4_readFunction_27, if_neg (by decide), if_pos rfl]
        unfold f_X4_readFunction_46
        simp only [k_607, t1, b2.ly, s1, i1, i3, true_and, and_true, and_false, false_and, and_self, if_true, if_false, ite_self, Nat.reduceEqDiff, reduceIte, obt, jlt, jbt, jbd_ite, bind_ite]
        rw [f_X4_readFunction_27, if_pos (by decide), if_pos k_607, t3, obt]
      · rw [eK, g9]
        unfold prF f_X12_primary_186 f_X12_primary_212
        simp only [k_2398, t2, b2.ly, b2.at, s1, i2, i4, t4, show ((1 : Int32) ≤ 0) = False from by decide, show ((1 : Int32) ≤ 1) = True from by decide, show ((1 : Int32) ≤ 2) = True from by decide, true_and, and_true, and_false, false_and, and_self, if_true, if_false, ite_self, Nat.reduceEqDiff, reduceIte, obt, jlt, jbt, jbd_ite, bind_ite]
    · obtain ⟨C5, R8, f3, t3, t4, b4⟩ := b3.take (by decide) 44 144 (by decide) (by decide) (by decide) (by decide)
      obtain ⟨x2, y2, C6, R9, C7, R10, np2, f4, i5, i6, i7, i8, -, -, b5⟩ := b4.inner hE hrs (by omega) (by decide) (0 + 1) rfl 2410 rfl
      obtain ⟨C8, R11, f5, t5, t6, b6⟩ := b5.take (by decide) 41 141 (by decide) (by decide) (by decide) (by decide)
      refine b6.lc g10 gk g8 ?_ ?_
      · rw [g9, f_X4_readFunction_27, if_neg (by decide), if_pos rfl]
        unfold f_X4_readFunction_46
        simp only [k_607, t1, b2.ly, s1, i1, i3, true_and, and_true, and_false, false_and, and_self, if_true, if_false, ite_self, Nat.reduceEqDiff, reduceIte, obt, jlt, jbt, jbd_ite, bind_ite]
        rw [f_X4_readFunction_27, if_neg (by decide), if_neg (by decide)]
        unfold f_X4_readFunction_46
        simp only [k_607, t3, b4.ly, s1, i5, i7, true_and, and_true, and_false, false_and, and_self, if_true, if_false, ite_self, Nat.reduceEqDiff, reduceIte, obt, jlt, jbt, jbd_ite, bind_ite]
        rw [f_X4_readFunction_27, if_pos (by decide), if_pos k_607, t5, obt]
      · rw [eK, g9]
        unfold prF f_X12_primary_186 f_X12_primary_212
        simp only [k_2398, t2, b2.ly, b2.at, b4.ly, s1, i2, i4, t4, i6, i8, t6, show ((2 : Int32) ≤ 0) = False from by decide, show ((2 : Int32) ≤ 1) = False from by decide, show ((2 : Int32) ≤ 2) = True from by decide, true_and, and_true, and_false, false_and, and_self, if_true, if_false, ite_self, Nat.reduceEqDiff, reduceIte, obt, jlt, jbt, jbd_ite, bind_ite]
    · obtain ⟨C5, R8, f3, t3, t4, b4⟩ := b3.take (by decide) 44 144 (by decide) (by decide) (by decide) (by decide)
      obtain ⟨x2, y2, C6, R9, C7, R10, np2, f4, i5, i6, i7, i8, -, -, b5⟩ := b4.inner hE hrs (by omega) (by decide) (0 + 1) rfl 2410 rfl
      obtain ⟨C8, R11, f5, t5, t6, b6⟩ := b5.take (by decide) 44 144 (by decide) (by decide) (by decide) (by decide)
      obtain ⟨x3, y3, C9, R12, C10, R13, np3, f6, i9, i10, i11, i12, -, -, b7⟩ := b6.inner hE hrs (by omega) (by decide) (0 + 1 + 1) rfl 2411 rfl
      obtain ⟨C11, R14, f7, t7, t8, b8⟩ := b7.take (by decide) 41 141 (by decide) (by decide) (by decide) (by decide)
      refine b8.lc g10 gk g8 ?_ ?_
      · rw [g9, f_X4_readFunction_27, if_neg (by decide), if_pos rfl]
        unfold f_X4_readFunction_46
        simp only [k_607, t1, b2.ly, s1, i1, i3, true_and, and_true, and_false, false_and, and_self, if_true, if_false, ite_self, Nat.reduceEqDiff, reduceIte, obt, jlt, jbt, jbd_ite, bind_ite]
        rw [f_X4_readFunction_27, if_neg (by decide), if_neg (by decide)]
        unfold f_X4_readFunction_46
        simp only [k_607, t3, b4.ly, s1, i5, i7, true_and, and_true, and_false, false_and, and_self, if_true, if_false, ite_self, Nat.reduceEqDiff, reduceIte, obt, jlt, jbt, jbd_ite, bind_ite]
        rw [f_X4_readFunction_27, if_neg (by decide), if_neg (by decide)]
        unfold f_X4_readFunction_46
        simp only [k_607, t5, b6.ly, s1, i9, i11, true_and, and_true, and_false, false_and, and_self, if_true, if_false, ite_self, Nat.reduceEqDiff, reduceIte, obt, jlt, jbt, jbd_ite, bind_ite]
        rw [f_X4_readFunction_27, if_pos (by decide), if_pos k_607, t7, obt]
      · rw [eK, g9]
        unfold prF f_X12_primary_186 f_X12_primary_212
        simp only [k_2398, t2, b2.ly, b2.at, b4.ly, b6.ly, s1, i2, i4, t4, i6, i8, t6, i10, i12, t8, show ((3 : Int32) ≤ 0) = False from by decide, show ((3 : Int32) ≤ 1) = False from by decide, show ((3 : Int32) ≤ 2) = False from by decide, true_and, and_true, and_false, false_and, and_self, if_true, if_false, ite_self, Nat.reduceEqDiff, reduceIte, obt, jlt, jbt, jbd_ite, bind_ite]
