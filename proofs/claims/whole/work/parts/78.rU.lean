/-! PURE: the parser: U -/
noncomputable def inC (a : Int32) (f : jM → Option (Int32 × jM)) (KK : Int32 → jM → Option (Int32 × jM)) (l : Int32) (S : jM) : Option (Int32 × jM) := jbd (f_X4_part 607 (91 : Int32) (0 : Int64) S) (fun x6 S7 => (jR S7 25 607).bind (fun r9 => if jK r9 = 6 then (f_X8_setInner r9 x6 (0 : Int32) l S7).bind (fun S11 => (jR S11 25 607).bind (fun r14 => jbd (f S11) (fun x16 S17 => if jK r14 = 6 then (f_X8_setInner r14 x6 (1 : Int32) x16 S17).bind (fun S19 => (f_X4_take 607 (93 : Int32) S19).bind (fun S22 => KK x6 S22)) else none))) else none))
noncomputable def inR (a : Int32) (f : jM → Option (Int32 × jM)) (KK : Int32 → jM → Option (Int32 × jM)) (l : Int32) (S : jM) : Option (Int32 × jM) := jbd (f_X12_part 2398 S) (fun x5 S6 => if x5 = 0 then some ((-1 : Int32), S6) else jbd (f_X12_node 2398 (51 : Int32) S6) (fun x9 S10 => jlet (jsI S10 100 2398 ((jI S10 100 2398) + (1 : Int32))) (fun S12 => (jR S12 104 2398).bind (fun r13 => if jA r13 13 x9 = true then jlet (jrI S12 r13 (upd (jAI S12 r13) (x9).toNatClampNeg l)) (fun S16 => (jR S16 105 2398).bind (fun r17 => jbd (f S16) (fun x19 S20 => if jA r17 13 x9 = true then jlet (jrI S20 r17 (upd (jAI S20 r17) (x9).toNatClampNeg x19)) (fun S23 => (f_X12_want 2398 (193 : Int32) S23).bind (fun S24 => KK x9 S24)) else none))) else none))))
theorem in_ok {B : Nat → Int32} {e N T t : Nat} {ru : Nat → Nat × Nat × Nat} {rs nr k : Nat} {a : Int32} {fC fR : jM → Option (Int32 × jM)} (hL : LK B e N T t ru rs nr fC fR (k + 1))
    (fc : ∀ C, Lay C → jI C 26 607 ≠ 0 → fC C = some (-1, C)) : opOK B e N T t ru rs nr k (inC a fC) (inR a fR) (fun K => K = 91) := by
  intro A lo np cn C0 R0 C R i hrs hcn hlo h hP hS hF hT2
  obtain ⟨q, q1, q2, q3, q4, q5, q6, q7, q8, q9, q10, q11⟩ := h.tk
  have eK : (tkv B e (tps B e q)).1 = 91 := q4.2.1.symm.trans hP
  rcases BS.new (ru := ru) (rs := rs) h hS hlo hF q3 q2 (by rw [eK]; decide) (by rw [eK]; decide) 91 51 0 (by decide) with ⟨C1, R1, fl1, p1, p2, p3, p4, p5⟩ | ⟨C1, R1, R2, R3, p1, p2, p3, p4, p5, b1, b1t, -⟩
  · obtain ⟨n1, n2⟩ := nfl p4 p3
    have hT1 := p4.pt
    refine ⟨-1, -1, C1, R1, np, fl1, fun KK => ?_, .inr ⟨p3, fun KK => ?_⟩, Nat.le_refl _, p4, p5, fun z => absurd z p3⟩
    · unfold inC
      simp only [k_607, k_608, p1, hT1.2.2.2.2.2.1, fc C1 hT1.1 n1, hT1.2.2.1, set_m, tk_flt n1, true_and, and_true, and_false, false_and, and_self, if_true, if_false, ite_self, Nat.reduceEqDiff, reduceIte, obt, jlt, jbt, jbd_ite, bind_ite]
    · unfold inR
      simp only [k_2398, p2, true_and, and_true, and_false, false_and, and_self, if_true, if_false, ite_self, Nat.reduceEqDiff, reduceIte, obt, jlt, jbt, jbd_ite, bind_ite]
  · obtain ⟨C2, R4, i1, i2, b2⟩ := b1.left (tT_lt hT2).2 (b1t i hT2)
    obtain ⟨x2, y2, C5, R7, C6, R8, np2, fl3, i5, i6, i7, i8, i9, i10, b4⟩ := b2.inner hL (by omega) (by omega) (by decide) 1 rfl 2410 rfl
    obtain ⟨C7, R9, fl4, t3, t4, b5⟩ := b4.take (by decide) 93 193 (by decide) (by decide) (by decide) (by decide)
    obtain ⟨w1, w2, w3, w4, w5⟩ := b5.fin (by decide) (by unfold tkind; decide) (by decide)
    refine ⟨nI np, nI (301 * t + np), C7, R9, np2, fl4, fun KK => ?_, .inl (fun KK => ?_), by omega, w1, w2, fun z => ⟨w4, np, rfl, rfl, w5 z⟩⟩
    · unfold inC
      simp only [k_607, k_608, p1, b1.ly, b2.ly, i1, i5, i7, t3, true_and, and_true, and_false, false_and, and_self, if_true, if_false, ite_self, Nat.reduceEqDiff, reduceIte, obt, jlt, jbt, jbd_ite, bind_ite]
    · unfold inR
      simp only [k_2398, p2, p4, p5, b1.ly, b1.at, b2.ly, i2, i6, i8, t4, show ((1 : Int32) = 0) = False from by decide, true_and, and_true, and_false, false_and, and_self, if_true, if_false, ite_self, Nat.reduceEqDiff, reduceIte, obt, jlt, jbt, jbd_ite, bind_ite]
theorem LK_U {B : Nat → Int32} {e N T t : Nat} {ru : Nat → Nat × Nat × Nat} {rs nr k : Nat} {rcC rcR : Nat → Nat → Int32 → Int32 → jM → Option (Int32 × jM)} (hk : k ≤ 20)
    (hE : k < 20 → LK B e N T t ru rs nr (rcC 0 607 (nI (k + 1)) 0) (rcR 0 2398 (nI (k + 1)) 0) (k + 1)) (hU : k < 20 → LK B e N T t ru rs nr (rcC 4 607 (nI (k + 1)) 0) (rcR 5 2398 (nI (k + 1)) 0) (k + 1)) (hP : k < 20 → ∀ (A : Nat → Prop) (np cn : Nat) (C R : jM), rs ≤ np → cn ≤ k → PS B e N T t A np nr cn 0 C R → bU (jI C 40 608) ≠ 0 → jI C 40 608 ≠ 45 → LC B e N T t ru rs nr A np cn 0 C R (rcC 5 607 (nI k) 0 C) (rcR 6 2398 (nI k) 0 R))
    (fE : ∀ C, Lay C → jI C 26 607 ≠ 0 → rcC 0 607 (nI (k + 1)) 0 C = some (-1, C)) (fU : ∀ C, Lay C → jI C 26 607 ≠ 0 → rcC 4 607 (nI (k + 1)) 0 C = some (-1, C)) (fP : ∀ R, ¬ jI R 101 2398 ≤ 0 → rcR 6 2398 (nI k) 0 R = some (-1, R)) : LK B e N T t ru rs nr (f_X4_readU rcC 607 (nI k)) (f_X12_unary rcR 2398 (nI k)) k := by
  intro A np cn fl C R hrs hcn h
  show LC B e N T t ru rs nr A np cn fl C R _ _
  by_cases cf : fl = 0
  · subst cf
    have hT := h.pt
    obtain ⟨q, q1, q2, q3, q4, q5, q6, q7, q8, q9, q10, q11⟩ := h.tk
    have eK : (tkv B e (tps B e q)).1 = jI C 40 608 := q4.2.1.symm
    have hlt : nI k < (20 : Int32) ↔ k < 20 := by rw [show (20 : Int32) = nI 20 from rfl, nJ_lt (by omega) (by omega)]
    have hbr := beg_r h q3 q2 q5
    rw [eK] at hbr
    have s1 : (nI k : Int32) + 1 = nI (k + 1) := nJ_1 (by omega)
    have u43 : ∀ R1, ¬ jI R1 101 2398 ≤ 0 → f_X12_unary_43 rcR 2398 (nI k) R1 = some (-1, R1) := fun R1 hR1 => by
      unfold f_X12_unary_43
      rw [if_pos k_2398, rltI hR1, obt, if_pos rfl, fP R1 hR1, jbt, f_X12_unary_100, if_pos k_2398, rltI hR1, obt, if_pos rfl]
    by_cases cb : bU (jI C 40 608) = 0
    · obtain ⟨C', R', fl', w1, w2, w3, w4, w5⟩ := wrong_ok h
      obtain ⟨n1, n2⟩ := nfl w4 w3
      refine LC.flt (x := -1) (y := -1) ?_ ?_ (Nat.le_refl _) w4 w5 w3
      · unfold f_X4_readU
        rw [if_pos k_607, beg_c hT.1, obt, cb]
        unfold f_X4_mayBegin f_X4_mayBegin_22
        rw [if_pos rfl, if_pos k_607, w1, obt, if_pos k_607, if_neg n1, jbt, if_pos rfl]
      · unfold f_X12_unary
        rw [if_pos k_2398, h.fr0.2, if_pos (by decide), hbr, obt, if_pos cb, w2, obt, u43 R' n2]
    · by_cases ck : k < 20
      · have ec : f_X4_readU rcC 607 (nI k) C = if jI C 40 608 = 45 then jbd (f_X4_part 607 (5 : Int32) (0 : Int64) C) (fun x39 S40 => (jR S40 25 607).bind (fun r42 => jbd (rcC 4 607 (nI (k + 1)) 0 S40) (fun x44 S45 => if jK r42 = 6 then (f_X8_setInner r42 x39 (0 : Int32) x44 S45).bind (fun S47 => some (x39, S47)) else none))) else jbd (rcC 5 607 (nI k) 0 C) (fun x36 S37 => f_X4_readU_59 rcC 1100000 607 (nI k) x36 (0 : Int32) S37) := by
          unfold f_X4_readU
          rw [if_pos k_607, beg_c hT.1, obt]
          unfold f_X4_mayBegin f_X4_mayBegin_22
          rw [if_neg cb, if_pos (hlt.mpr ck), if_pos k_607, h.fr0.1, if_pos rfl, jbt, if_neg (by decide), ly_24 hT.1, obt, if_pos k_608, s1]
        have er : f_X12_unary rcR 2398 (nI k) R = f_X12_unary_43 rcR 2398 (nI k) R := by
          unfold f_X12_unary
          rw [if_pos k_2398, h.fr0.2, if_pos (by decide), hbr, obt, if_neg cb, if_pos (hlt.mpr ck)]
        obtain ⟨-, -, -, -, -, t6, -⟩ := tmC _ h.tks
        rw [ec, er]
        by_cases c45 : jI C 40 608 = 45
        · rw [if_pos c45]
          rcases BS.new (ru := ru) (rs := rs) h St.refl (Nat.le_refl _) (fun k a b => absurd b (by omega)) q3 q2 (by rw [eK, c45]; decide) (by rw [eK, c45]; decide) 5 47 0 (by decide) with ⟨C1, R1, fl1, p1, p2, p3, p4, p5⟩ | ⟨C1, R1, R2, R3, p1, p2, p3, p4, p5, b1, -⟩
          · obtain ⟨n1, n2⟩ := nfl p4 p3
            have hT1 := p4.pt
            refine LC.flt (x := -1) (y := -1) ?_ ?_ (Nat.le_refl _) p4 p5 p3
            · simp only [k_607, k_608, p1, hT1.2.2.2.2.2.1, fU C1 hT1.1 n1, hT1.2.2.1, set_m, true_and, and_true, and_false, false_and, and_self, if_true, if_false, ite_self, Nat.reduceEqDiff, reduceIte, obt, jlt, jbt, jbd_ite, bind_ite]
            · unfold f_X12_unary_43
              rw [if_pos k_2398, is_r h, if_pos (t6.mpr c45), obt, if_neg (by decide), p2, jbt, if_pos rfl]
          · obtain ⟨x1, y1, C2, R4, C3, R5, np1, fl1, i1, i2, i3, i4, -, -, b2⟩ := b1.inner (hU ck) hrs (by omega) (by decide) 0 rfl 2409 rfl
            refine b2.lc (by decide) (by unfold tkind; decide) (by decide) ?_ ?_
            · simp only [k_607, k_608, p1, b1.ly, i1, i3, true_and, and_true, and_false, false_and, and_self, if_true, if_false, ite_self, Nat.reduceEqDiff, reduceIte, obt, jlt, jbt, jbd_ite, bind_ite]
            · unfold f_X12_unary_43
              rw [if_pos k_2398, is_r h, if_pos (t6.mpr c45), obt, if_neg (by decide)]
              simp only [k_2398, p2, p4, p5, s1, b1.ly, b1.at, i2, i4, show ((1 : Int32) = 0) = False from by decide, true_and, and_true, and_false, false_and, and_self, if_true, if_false, ite_self, Nat.reduceEqDiff, reduceIte, obt, jlt, jbt, jbd_ite, bind_ite]
        · rw [if_neg c45]
          obtain ⟨x, y, C1, R1, np1, fl1, e1, e2, e3, e4, e5, e6⟩ := hP ck A np cn C R hrs hcn h cb c45
          have ec2 : jbd (rcC 5 607 (nI k) 0 C) (fun x36 S37 => f_X4_readU_59 rcC 1100000 607 (nI k) x36 (0 : Int32) S37) = f_X4_readU_59 rcC 1100000 607 (nI k) x (nI 0) C1 := by
            rw [e1, jbt]
            rfl
          have er2 : f_X12_unary_43 rcR 2398 (nI k) R = f_X12_unary_100 rcR 1100000 2398 (nI k) y R1 := by
            unfold f_X12_unary_43
            rw [if_pos k_2398, is_r h, if_neg (fun z => c45 (t6.mp z)), obt, if_pos rfl, e2, jbt]
          rw [ec2, er2]
          refine loop_ok (in_ok (a := nI k) (hE ck) fE) (lc := fun n l c S => f_X4_readU_59 rcC n 607 (nI k) l c S) (lr := fun n l S => f_X12_unary_100 rcR n 2398 (nI k) l S) (fun A n l c np cn fl C R h hc => ⟨fun z => ?_, fun z => ?_⟩) (fun A n l np cn fl C R h => ⟨fun z => ?_, fun z => ?_⟩) hrs (by omega) 300 1100000 1100000 np1 0 fl1 x y C1 R1 (by omega) (by omega) (by omega) e3 ?_ e4 e5 (fun z => ?_)
          · obtain ⟨rfl, hp⟩ := z
            show f_X4_readU_59 rcC (n + 1) 607 (nI k) l c C = _
            rw [f_X4_readU_59, if_neg hc, if_pos k_607, is_c h, if_pos hp, obt, if_neg (by decide), s1]
            unfold inC
            simp only [jlt]
          · show f_X4_readU_59 rcC (n + 1) 607 (nI k) l c C = _
            rw [f_X4_readU_59, if_neg hc, if_pos k_607]
            by_cases cf : fl = 0
            · subst cf
              rw [is_c h, if_neg (fun y => z ⟨rfl, y⟩), obt, if_pos rfl]
            · simp only [nx_flt (nfl h cf).1, true_and, and_true, and_false, false_and, and_self, if_true, if_false, ite_self, Nat.reduceEqDiff, reduceIte, obt, jlt, jbt, jbd_ite, bind_ite]
          · obtain ⟨rfl, hp⟩ := z
            show f_X12_unary_100 rcR (n + 1) 2398 (nI k) l R = _
            obtain ⟨-, -, -, -, -, -, -, -, -, t10⟩ := tmC _ h.tks
            rw [f_X12_unary_100, if_pos k_2398, is_r h, if_pos (t10.mpr hp), obt, if_neg (by decide), s1]
            rfl
          · show f_X12_unary_100 rcR (n + 1) 2398 (nI k) l R = _
            rw [f_X12_unary_100, if_pos k_2398]
            by_cases cf : fl = 0
            · subst cf
              obtain ⟨-, -, -, -, -, -, -, -, -, t10⟩ := tmC _ h.tks
              rw [is_r h, if_neg (fun y => z ⟨rfl, t10.mp y⟩), obt, if_pos rfl]
            · simp only [rltI (nfl h cf).2, true_and, and_true, and_false, false_and, and_self, if_true, if_false, ite_self, Nat.reduceEqDiff, reduceIte, obt, jlt, jbt, jbd_ite, bind_ite]
          · by_cases cf : fl1 = 0
            · obtain ⟨f0, i, i1, i2, f1, f2, f3⟩ := e6 cf
              exact .inl (by omega)
            · exact .inr ⟨cf, by omega⟩
          · obtain ⟨f0, i, i1, i2, f1, f2, f3⟩ := e6 z
            exact ⟨f0, f1, i, i1, i2, f2, f3⟩
      · obtain ⟨C', R', q', r1, r2, r3, r4, r5, r6⟩ := fail4_ok h (c := 4) (by decide)
        obtain ⟨n1, n2⟩ := nfl r5 (by decide)
        refine LC.flt (x := -1) (y := -1) ?_ ?_ (Nat.le_refl _) r5 r6 (by decide)
        · unfold f_X4_readU
          rw [if_pos k_607, beg_c hT.1, obt]
          unfold f_X4_mayBegin f_X4_mayBegin_22
          rw [if_neg cb, if_neg (fun z => ck (hlt.mp z)), if_pos k_607, r1, obt, if_pos k_607, if_neg n1, jbt, if_pos rfl]
        · unfold f_X12_unary
          rw [if_pos k_2398, h.fr0.2, if_pos (by decide), hbr, obt, if_neg cb, if_neg (fun z => ck (hlt.mp z)), ly_96 hT.2.1, obt, r2, if_pos r3, r4, obt, u43 R' n2]
  · obtain ⟨n1, n2⟩ := nfl h cf
    exact LC.flt (fltU h.pt.1 n1 rcC (nI k)) (rltU n2 rcR (nI k)) (Nat.le_refl _) h St.refl cf
