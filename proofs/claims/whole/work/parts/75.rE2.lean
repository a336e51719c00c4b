/-! PURE: the parser: an E, both -/
theorem LK_E {B : Nat → Int32} {e N T t : Nat} {ru : Nat → Nat × Nat × Nat} {rs nr k : Nat} {rcC rcR rcR2 : Nat → Nat → Int32 → Int32 → jM → Option (Int32 × jM)}
    (hE : k < 20 → LK B e N T t ru rs nr (rcC 0 607 (nI (k + 1)) 0) (rcR 0 2398 (nI (k + 1)) 0) (k + 1)) (hE2 : k < 20 → LK B e N T t ru rs nr (rcC 0 607 (nI (k + 1)) 0) (rcR2 0 2398 (nI (k + 1)) 0) (k + 1)) (hI : ∀ R, rcR 1 2398 (nI k) 0 R = f_X12_ifElse rcR2 2398 (nI k) R) (hC : k < 20 → LK B e N T t ru rs nr (rcC 1 607 (nI k) 0) (rcR 2 2398 (nI k) 0) k)
    (fC : ∀ C, Lay C → jI C 26 607 ≠ 0 → rcC 0 607 (nI (k + 1)) 0 C = some (-1, C)) (fR : ∀ R, ¬ jI R 101 2398 ≤ 0 → rcR 2 2398 (nI k) 0 R = some (-1, R)) (hk : k ≤ 20) : LK B e N T t ru rs nr (f_X4_readE rcC 607 (nI k)) (f_X12_expression rcR 2398 (nI k)) k := by
  intro A np cn fl C R hrs hcn h
  show LC B e N T t ru rs nr A np cn fl C R _ _
  have hid : ∀ o : Option (Int32 × jM), jbd o (fun x S => some (x, S)) = o := fun o => by cases o <;> rfl
  by_cases cf : fl = 0
  · subst cf
    obtain ⟨q, q1, q2, q3, q4, q5, q6, q7, q8, q9, q10, q11⟩ := h.tk
    obtain ⟨a1, a2, a3, a4, a5⟩ := qA q2
    have hT := h.pt
    have t8 : tm (tkv B e (tps B e q)).1 = 8 ↔ (tkv B e (tps B e q)).1 = 135 := ⟨fun z => tm_inj _ q7 135 (by decide) (z.trans (by decide)), fun z => by rw [z]; decide⟩
    have t22 : tm (tkv B e (tps B e q)).1 = 22 ↔ (tkv B e (tps B e q)).1 = 149 := ⟨fun z => tm_inj _ q7 149 (by decide) (z.trans (by decide)), fun z => by rw [z]; decide⟩
    -- behind a fault
    have e61f : ∀ (R1 : jM), ¬ jI R1 101 2398 ≤ 0 → f_X12_expression_61 rcR 2398 (nI k) R1 = some (-1, R1) := by
      intro R1 hR1
      unfold f_X12_expression_61
      rw [if_pos k_2398, rltI hR1, obt, if_pos rfl, rltI hR1, obt, if_pos rfl, fR R1 hR1, jbt]
    have er : f_X12_expression rcR 2398 (nI k) R = if bU (tkv B e (tps B e q)).1 = 0 ∧ (tkv B e (tps B e q)).1 ≠ 135 ∧ (tkv B e (tps B e q)).1 ≠ 149 then (f_X12_wrong 2398 R).bind (fun S56 => f_X12_expression_61 rcR 2398 (nI k) S56) else f_X12_expression_41 rcR 2398 (nI k) R := by
      unfold f_X12_expression
      rw [if_pos k_2398, h.fr0.2, if_pos (by decide), beg_r h q3 q2 q5, obt, now_r h q3 q2 q5, obt, obt]
      simp only [t8, t22]
      by_cases c1 : bU (tkv B e (tps B e q)).1 = 0
      · rw [if_pos c1]
        by_cases c2 : (tkv B e (tps B e q)).1 = 135
        · rw [if_pos c2, if_neg (fun z => z.2.1 c2)]
        · rw [if_neg c2]
          by_cases c3 : (tkv B e (tps B e q)).1 = 149
          · rw [if_pos c3, if_neg (fun z => z.2.2 c3)]
          · rw [if_neg c3, if_pos ⟨c1, c2, c3⟩]
      · rw [if_neg c1, if_neg (fun z => c1 z.1)]
    have ec := e_c hT.1 rcC (nI k)
    rw [q4.2.1] at ec
    by_cases cw : bU (tkv B e (tps B e q)).1 = 0 ∧ (tkv B e (tps B e q)).1 ≠ 135 ∧ (tkv B e (tps B e q)).1 ≠ 149
    · obtain ⟨C', R', fl', w1, w2, w3, w4, w5⟩ := wrong_ok h
      obtain ⟨n1, n2⟩ := nfl w4 w3
      refine LC.flt (x := -1) (y := -1) ?_ ?_ (Nat.le_refl _) w4 w5 w3
      · rw [ec, if_neg (fun z => z.elim cw.2.1 cw.2.2), cw.1]
        unfold f_X4_mayBegin f_X4_mayBegin_22
        rw [if_pos rfl, if_pos k_607, w1, obt, if_pos k_607, if_neg n1, jbt, if_pos rfl]
      · rw [er, if_pos cw, w2, obt, e61f R' n2]
    · rw [if_neg cw] at er
      have hbe : (if (tkv B e (tps B e q)).1 = 135 ∨ (tkv B e (tps B e q)).1 = 149 then (1 : Int32) else bU (tkv B e (tps B e q)).1) ≠ 0 := by
        by_cases c : (tkv B e (tps B e q)).1 = 135 ∨ (tkv B e (tps B e q)).1 = 149
        · rw [if_pos c]; decide
        · rw [if_neg c]
          intro z
          exact cw ⟨z, fun y => c (.inl y), fun y => c (.inr y)⟩
      have hlt : nI k < (20 : Int32) ↔ k < 20 := by rw [show (20 : Int32) = nI 20 from rfl, nJ_lt (by omega) (by omega)]
      by_cases ck : k < 20
      · have ec2 : f_X4_readE rcC 607 (nI k) C = if (tkv B e (tps B e q)).1 = 135 then f_X4_readE_82 rcC 607 (nI k) 1 C else if (tkv B e (tps B e q)).1 = 149 then f_X4_readE_82 rcC 607 (nI k) 0 C else rcC 1 607 (nI k) 0 C := by
          rw [ec]
          unfold f_X4_mayBegin f_X4_mayBegin_22
          rw [if_neg hbe, if_pos (hlt.mpr ck), if_pos k_607, h.fr0.1, if_pos rfl, jbt, if_neg (by decide)]
        have er2 : f_X12_expression rcR 2398 (nI k) R = f_X12_expression_61 rcR 2398 (nI k) R := by
          rw [er]
          unfold f_X12_expression_41
          rw [if_pos (hlt.mpr ck)]
        have isr : ∀ K, f_X12_is 2398 K R = if tm (tkv B e (tps B e q)).1 = K then some 1 else some 0 := by
          intro K
          unfold f_X12_is
          rw [if_pos k_2398, h.fr0.2, if_pos rfl, ly_95 hT.2.1, obt, q3, if_pos a1, a5, q5.1]
        rw [ec2, er2]
        by_cases c1 : (tkv B e (tps B e q)).1 = 135
        · rw [if_pos c1]
          have s1 : (nI k : Int32) + 1 = nI (k + 1) := nJ_1 (by omega)
          have e61 : f_X12_expression_61 rcR 2398 (nI k) R = f_X12_ifElse rcR2 2398 (nI k) R := by
            unfold f_X12_expression_61
            rw [if_pos k_2398, isr, if_pos (t8.mpr c1), obt, if_neg (by decide), hid, hI]
          rw [e61]
          rcases BS.new (ru := ru) (rs := rs) h St.refl (Nat.le_refl _) (fun k a b => absurd b (by omega)) q3 q2 (by rw [c1]; decide) (by rw [c1]; decide) 135 8 0 (by decide) with ⟨C1, R1, fl1, p1, p2, p3, p4, p5⟩ | ⟨C1, R1, R2, R3, p1, p2, p3, p4, p5, b1, -⟩
          · obtain ⟨n1, n2⟩ := nfl p4 p3
            refine LC.flt (x := -1) (y := -1) ?_ ?_ (Nat.le_refl _) p4 p5 p3
            · have hT1 := p4.pt
              unfold f_X4_readE_82 f_X4_readE_152
              simp only [k_607, k_608, ly_24 hT.1, q4.2.1, c1, p1, hT1.2.2.2.2.2.1, s1, fC C1 hT1.1 n1, hT1.2.2.1, set_m, tk_flt n1, show ((1 : Int32) = 0) = False from by decide, true_and, and_true, and_false, false_and, and_self, if_true, if_false, ite_self, Nat.reduceEqDiff, reduceIte, obt, jlt, jbt, jbd_ite, bind_ite]
            · unfold f_X12_ifElse
              rw [if_pos k_2398, p2, jbt, if_pos rfl]
          · obtain ⟨x1, y1, C2, R4, C3, R5, np1, fl1, i1, i2, i3, i4, -, -, b2⟩ := b1.inner (hE2 ck) hrs (by omega) (by decide) 0 rfl 2409 rfl
            obtain ⟨C4, R6, fl2, t1, t2, b3⟩ := b2.take (by decide) 147 20 (by decide) (by decide) (by decide) (by decide)
            obtain ⟨x2, y2, C5, R7, C6, R8, np2, fl3, i5, i6, i7, i8, -, -, b4⟩ := b3.inner (hE2 ck) hrs (by omega) (by decide) (0 + 1) rfl 2410 rfl
            obtain ⟨C7, R9, fl4, t3, t4, b5⟩ := b4.take (by decide) 132 5 (by decide) (by decide) (by decide) (by decide)
            obtain ⟨x3, y3, C8, R10, C9, R11, np3, fl5, i9, i10, i11, i12, -, -, b6⟩ := b5.inner (hE2 ck) hrs (by omega) (by decide) (0 + 1 + 1) rfl 2411 rfl
            refine b6.lc (by decide) (by unfold tkind; decide) (by decide) ?_ ?_
            · unfold f_X4_readE_82 f_X4_readE_152
              simp only [k_607, k_608, ly_24 hT.1, q4.2.1, c1, p1, s1, b1.ly, b2.ly, b3.ly, b4.ly, b5.ly, i1, i3, t1, i5, i7, t3, i9, i11, show ((1 : Int32) = 0) = False from by decide, true_and, and_true, and_false, false_and, and_self, if_true, if_false, ite_self, Nat.reduceEqDiff, reduceIte, obt, jlt, jbt, jbd_ite, bind_ite]
            · unfold f_X12_ifElse
              simp only [k_2398, p2, p4, p5, s1, b1.ly, b1.at, b2.ly, b3.ly, b4.ly, b5.ly, i2, i4, t2, i6, i8, t4, i10, i12, show ((1 : Int32) = 0) = False from by decide, true_and, and_true, and_false, false_and, and_self, if_true, if_false, ite_self, Nat.reduceEqDiff, reduceIte, obt, jlt, jbt, jbd_ite, bind_ite]
        · by_cases c2 : (tkv B e (tps B e q)).1 = 149
          · rw [if_neg c1, if_pos c2]
            have s1 : (nI k : Int32) + 1 = nI (k + 1) := nJ_1 (by omega)
            have e61 : f_X12_expression_61 rcR 2398 (nI k) R = jbd (f_X12_part 2398 R) (fun x11 S12 => if x11 = 0 then some ((-1 : Int32), S12) else jbd (f_X12_node 2398 (22 : Int32) S12) (fun x15 S16 => jlet (jsI S16 100 2398 ((jI S16 100 2398) + (1 : Int32))) (fun S18 => (jR S18 104 2398).bind (fun r19 => jbd (rcR 0 2398 (nI k + (1 : Int32)) 0 S18) (fun x21 S22 => if jA r19 13 x15 = true then jlet (jrI S22 r19 (upd (jAI S22 r19) (x15).toNatClampNeg x21)) (fun S25 => (f_X12_want 2398 (5 : Int32) S25).bind (fun S26 => (jR S26 105 2398).bind (fun r28 => jbd (rcR 0 2398 (nI k + (1 : Int32)) 0 S26) (fun x30 S31 => if jA r28 13 x15 = true then jlet (jrI S31 r28 (upd (jAI S31 r28) (x15).toNatClampNeg x30)) (fun S34 => some (x15, S34)) else none)))) else none))))) := by
              unfold f_X12_expression_61
              rw [if_pos k_2398, isr, if_neg (fun z => c1 (t8.mp z)), obt, if_pos rfl, isr, if_pos (t22.mpr c2), obt, if_neg (by decide)]
            rw [e61]
            rcases BS.new (ru := ru) (rs := rs) h St.refl (Nat.le_refl _) (fun k a b => absurd b (by omega)) q3 q2 (by rw [c2]; decide) (by rw [c2]; decide) 149 22 0 (by decide) with ⟨C1, R1, fl1, p1, p2, p3, p4, p5⟩ | ⟨C1, R1, R2, R3, p1, p2, p3, p4, p5, b1, -⟩
            · obtain ⟨n1, n2⟩ := nfl p4 p3
              refine LC.flt (x := -1) (y := -1) ?_ ?_ (Nat.le_refl _) p4 p5 p3
              · have hT1 := p4.pt
                unfold f_X4_readE_82 f_X4_readE_152
                simp only [k_607, k_608, ly_24 hT.1, q4.2.1, c2, p1, hT1.2.2.2.2.2.1, s1, fC C1 hT1.1 n1, hT1.2.2.1, set_m, tk_flt n1, show ((1 : Int32) = 0) = False from by decide, true_and, and_true, and_false, false_and, and_self, if_true, if_false, ite_self, Nat.reduceEqDiff, reduceIte, obt, jlt, jbt, jbd_ite, bind_ite]
              · rw [p2, jbt, if_pos rfl]
            · obtain ⟨x1, y1, C2, R4, C3, R5, np1, fl1, i1, i2, i3, i4, -, -, b2⟩ := b1.inner (hE ck) hrs (by omega) (by decide) 0 rfl 2409 rfl
              obtain ⟨C4, R6, fl2, t1, t2, b3⟩ := b2.take (by decide) 132 5 (by decide) (by decide) (by decide) (by decide)
              obtain ⟨x2, y2, C5, R7, C6, R8, np2, fl3, i5, i6, i7, i8, -, -, b4⟩ := b3.inner (hE ck) hrs (by omega) (by decide) (0 + 1) rfl 2410 rfl
              refine b4.lc (by decide) (by unfold tkind; decide) (by decide) ?_ ?_
              · unfold f_X4_readE_82 f_X4_readE_152
                simp only [k_607, k_608, ly_24 hT.1, q4.2.1, c2, p1, s1, b1.ly, b2.ly, b3.ly, i1, i3, t1, i5, i7, true_and, and_true, and_false, false_and, and_self, if_true, if_false, ite_self, Nat.reduceEqDiff, reduceIte, obt, jlt, jbt, jbd_ite, bind_ite]
              · simp only [k_2398, p2, p4, p5, s1, b1.ly, b1.at, b2.ly, b3.ly, i2, i4, t2, i6, i8, show ((1 : Int32) = 0) = False from by decide, true_and, and_true, and_false, false_and, and_self, if_true, if_false, ite_self, Nat.reduceEqDiff, reduceIte, obt, jlt, jbt, jbd_ite, bind_ite]
          · have e61 : f_X12_expression_61 rcR 2398 (nI k) R = rcR 2 2398 (nI k) 0 R := by
              unfold f_X12_expression_61
              rw [if_pos k_2398, isr, if_neg (fun z => c1 (t8.mp z)), obt, if_pos rfl, isr, if_neg (fun z => c2 (t22.mp z)), obt, if_pos rfl, hid]
            rw [if_neg c1, if_neg c2, e61]
            exact hC ck A np cn 0 C R hrs hcn h
      · obtain ⟨C', R', q', r1, r2, r3, r4, r5, r6⟩ := fail4_ok h (c := 4) (by decide)
        obtain ⟨n1, n2⟩ := nfl r5 (by decide)
        refine LC.flt (x := -1) (y := -1) ?_ ?_ (Nat.le_refl _) r5 r6 (by decide)
        · rw [ec]
          unfold f_X4_mayBegin f_X4_mayBegin_22
          rw [if_neg hbe, if_neg (fun z => ck (hlt.mp z)), if_pos k_607, r1, obt, if_pos k_607, if_neg n1, jbt, if_pos rfl]
        · rw [er]
          unfold f_X12_expression_41
          rw [if_neg (fun z => ck (hlt.mp z)), if_pos k_2398, ly_96 hT.2.1, obt, r2, if_pos r3, r4, obt, e61f R' n2]
  · obtain ⟨n1, n2⟩ := nfl h cf
    exact LC.flt (fltE h.pt.1 n1 rcC (nI k)) (rltE n2 rcR (nI k)) (Nat.le_refl _) h St.refl cf
