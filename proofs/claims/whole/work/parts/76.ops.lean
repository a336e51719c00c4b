/-! PURE: the parser: operators, and the loops of A, M, U -/
theorem tT_lt {C : jM} {T : Nat} {ru : Nat → Nat × Nat × Nat} {nr rs d : Nat} {A : Nat → Prop} {lo hi k : Nat} (h : tT C T ru nr rs d A lo hi k) : lo ≤ k ∧ k < hi := by
  unfold tT at h
  cases d with
  | zero => exact absurd h (fun z => z)
  | succ d => exact ⟨h.1, h.2.1⟩
theorem is_c {B : Nat → Int32} {e N T t : Nat} {A : Nat → Prop} {np nr cn : Nat} {C R : jM} (h : PS B e N T t A np nr cn 0 C R) (K : Int32) : f_X4_isNext 607 K C = if jI C 40 608 = K then some 1 else some 0 := by
  unfold f_X4_isNext
  simp only [k_607, h.fr0.1, ly_24 h.pt.1, k_608, obt, if_true]
theorem is_r {B : Nat → Int32} {e N T t : Nat} {A : Nat → Prop} {np nr cn : Nat} {C R : jM} (h : PS B e N T t A np nr cn 0 C R) (km : Int32) : f_X12_is 2398 km R = if tm (jI C 40 608) = km then some 1 else some 0 := by
  obtain ⟨q, q1, q2, q3, q4, q5, q6, q7, q8, q9, q10, q11⟩ := h.tk
  obtain ⟨a1, a2, a3, a4, a5⟩ := qA q2
  unfold f_X12_is
  simp only [k_2398, h.fr0.2, ly_95 h.pt.2.1, q3, a1, a5, q5.1, obt, if_true, q4.2.1]
theorem PS.tks {B : Nat → Int32} {e N T t : Nat} {A : Nat → Prop} {np nr cn : Nat} {C R : jM} (h : PS B e N T t A np nr cn 0 C R) : jI C 40 608 ∈ tks := by
  obtain ⟨q, q1, q2, q3, q4, q5, q6, q7, q8, q9, q10, q11⟩ := h.tk
  rw [q4.2.1]; exact q7
noncomputable def opC (f : jM → Option (Int32 × jM)) (KK : Int32 → jM → Option (Int32 × jM)) (l : Int32) (S : jM) : Option (Int32 × jM) := (jR S 24 607).bind (fun r2 => if jK r2 = 5 then jbd (f_X4_part 607 (jI S 40 r2) (0 : Int64) S) (fun x5 S6 => (jR S6 25 607).bind (fun r8 => if jK r8 = 6 then (f_X8_setInner r8 x5 (0 : Int32) l S6).bind (fun S10 => (jR S10 25 607).bind (fun r13 => jbd (f S10) (fun x15 S16 => if jK r13 = 6 then (f_X8_setInner r13 x5 (1 : Int32) x15 S16).bind (fun S18 => KK x5 S18) else none))) else none)) else none)
noncomputable def opR (f : jM → Option (Int32 × jM)) (KK : Int32 → jM → Option (Int32 × jM)) (l : Int32) (S : jM) : Option (Int32 × jM) := jbd (f_X12_operator 2398 l S) (fun x1 S2 => jbd (f S2) (fun x5 S6 => if (jI S6 101 2398) = 0 then (jR S6 105 2398).bind (fun r9 => if jA r9 13 x1 = true then jlet (jrI S6 r9 (upd (jAI S6 r9) (x1).toNatClampNeg x5)) (fun S12 => KK x1 S12) else none) else KK x1 S6))
def opOK (B : Nat → Int32) (e N T t : Nat) (ru : Nat → Nat × Nat × Nat) (rs nr k : Nat) (stepC stepR : (Int32 → jM → Option (Int32 × jM)) → Int32 → jM → Option (Int32 × jM)) (P : Int32 → Prop) : Prop :=
  ∀ (A : Nat → Prop) (lo np cn : Nat) (C0 R0 C R : jM) (i : Nat), rs ≤ lo → cn ≤ k → lo ≤ np → PS B e N T t A np nr cn 0 C R → P (jI C 40 608) → St T t lo cn C0 R0 C R → Fin' T t lo np C R → tT C T ru nr rs (np - lo + rs) A lo np i →
    ∃ x y C' R' np' fl', (∀ KK, stepC KK (nI i) C = KK x C') ∧ ((∀ KK, stepR KK (nI (301 * t + i)) R = KK y R') ∨ (fl' ≠ 0 ∧ ∀ KK, stepR KK (nI (301 * t + i)) R = some (y, R'))) ∧ np ≤ np' ∧ PS B e N T t A np' nr cn fl' C' R' ∧ St T t lo cn C0 R0 C' R' ∧
      (fl' = 0 → np < np' ∧ ∃ i', x = nI i' ∧ y = nI (301 * t + i') ∧ Fin' T t lo np' C' R' ∧ tT C' T ru nr rs (np' - lo + rs) A lo np' i')
/-- the signs between two -/
def isOp (K : Int32) : Prop := K = 43 ∨ K = 45 ∨ K = 42 ∨ K = 47 ∨ K = 37 ∨ K = 60 ∨ K = 9 ∨ K = 61 ∨ K = 10
theorem isOp_ok {K : Int32} (h : isOp K) : 2 = tar K ∧ tm K = kmap K ∧ tkind K ∧ ((K ≠ 3 ∧ K ≠ 4 ∧ K ≠ 6 ∧ K ≠ 7 ∧ K ≠ 8) ∧ K ≠ 146) ∧ K ≠ 0 ∧ K ≠ 1 := by
  unfold isOp at h
  rcases h with h | h | h | h | h | h | h | h | h <;> (subst h; exact ⟨by decide, by decide, by unfold tkind; decide, by decide, by decide, by decide⟩)
theorem op_ok {B : Nat → Int32} {e N T t : Nat} {ru : Nat → Nat × Nat × Nat} {rs nr k : Nat} {fC fR : jM → Option (Int32 × jM)} (hL : LK B e N T t ru rs nr fC fR k)
    (fc : ∀ C, Lay C → jI C 26 607 ≠ 0 → fC C = some (-1, C)) (fr : ∀ R, ¬ jI R 101 2398 ≤ 0 → fR R = some (-1, R)) : opOK B e N T t ru rs nr k (opC fC) (opR fR) isOp := by
  intro A lo np cn C0 R0 C R i hrs hcn hlo h hP hS hF hT2
  obtain ⟨o1, o2, o3, o4, o5, o6⟩ := isOp_ok hP
  obtain ⟨q, q1, q2, q3, q4, q5, q6, q7, q8, q9, q10, q11⟩ := h.tk
  have eK : (tkv B e (tps B e q)).1 = jI C 40 608 := q4.2.1.symm
  rcases BS.new (ru := ru) (rs := rs) h hS hlo hF q3 q2 (by rw [eK]; exact o5) (by rw [eK]; exact o6) (jI C 40 608) (tm (jI C 40 608)) 0 o2 with ⟨C1, R1, fl1, p1, p2, p3, p4, p5⟩ | ⟨C1, R1, R2, R3, p1, p2, p3, p4, p5, b1, b1t, -⟩
  · obtain ⟨n1, n2⟩ := nfl p4 p3
    have hT1 := p4.pt
    refine ⟨-1, -1, C1, R1, np, fl1, fun KK => ?_, .inl (fun KK => ?_), Nat.le_refl _, p4, p5, fun z => absurd z p3⟩
    · unfold opC
      simp only [k_607, k_608, ly_24 h.pt.1, p1, hT1.2.2.2.2.2.1, fc C1 hT1.1 n1, hT1.2.2.1, set_m, true_and, and_true, and_false, false_and, and_self, if_true, if_false, ite_self, Nat.reduceEqDiff, reduceIte, obt, jlt, jbt, jbd_ite, bind_ite]
    · have n3 : ¬ jI R1 101 2398 = 0 := fun z => n2 (by rw [z]; decide)
      unfold opR f_X12_operator
      simp only [k_2398, p2, fr R1 n2, n3, true_and, and_true, and_false, false_and, and_self, if_true, if_false, ite_self, Nat.reduceEqDiff, reduceIte, obt, jlt, jbt, jbd_ite, bind_ite]
  · obtain ⟨C2, R4, i1, i2, b2⟩ := b1.left (tT_lt hT2).2 (b1t i hT2)
    obtain ⟨x2, y2, C5, R7, C6, R8, np2, fl3, i5, i6, i7, i8, i9, i10, b4⟩ := b2.inner hL (by omega) hcn (by decide) 1 rfl 2410 rfl
    obtain ⟨w1, w2, w3, w4, w5⟩ := b4.fin o1 o3 o4
    have ec : ∀ KK, opC fC KK (nI i) C = KK (nI np) C6 := fun KK => by
      unfold opC
      simp only [k_607, k_608, ly_24 h.pt.1, p1, b1.ly, b2.ly, i1, i5, i7, true_and, and_true, and_false, false_and, and_self, if_true, if_false, ite_self, Nat.reduceEqDiff, reduceIte, obt, jlt, jbt, jbd_ite, bind_ite]
    rw [eK] at p3
    by_cases cf : fl3 = 0
    · refine ⟨nI np, nI (301 * t + np), C6, R8, np2, fl3, ec, .inl (fun KK => ?_), by omega, w1, w2, fun z => ⟨w4, np, rfl, rfl, w5 z⟩⟩
      rw [cf] at i10
      have l5 := ly_105 i9.1.pt.2.1
      unfold opR f_X12_operator
      simp only [k_2398, p2, p3, p4, p5, b1.ly, b1.at, i2, i6, i10, l5, i8, show ((1 : Int32) = 0) = False from by decide, true_and, and_true, and_false, false_and, and_self, if_true, if_false, ite_self, Nat.reduceEqDiff, reduceIte, obt, jlt, jbt, jbd_ite, bind_ite]
    · obtain ⟨g1, g2⟩ := i9
      refine ⟨nI np, nI (301 * t + np), C6, R7, np2, fl3, ec, .inl (fun KK => ?_), by omega, g1, g2, fun z => absurd z cf⟩
      unfold opR f_X12_operator
      simp only [k_2398, p2, p3, p4, p5, b1.ly, b1.at, i2, i6, i10, cf, show ((1 : Int32) = 0) = False from by decide, true_and, and_true, and_false, false_and, and_self, if_true, if_false, ite_self, Nat.reduceEqDiff, reduceIte, obt, jlt, jbt, jbd_ite, bind_ite]
theorem loop_ok {B : Nat → Int32} {e N T t : Nat} {ru : Nat → Nat × Nat × Nat} {rs nr k : Nat} {stepC stepR : (Int32 → jM → Option (Int32 × jM)) → Int32 → jM → Option (Int32 × jM)} {P : Int32 → Prop} (hop : opOK B e N T t ru rs nr k stepC stepR P)
    {lc : Nat → Int32 → Int32 → jM → Option (Int32 × jM)} {lr : Nat → Int32 → jM → Option (Int32 × jM)}
    (hc : ∀ A n l c np cn fl C R, PS B e N T t A np nr cn fl C R → ¬ (300 : Int32) < c → (fl = 0 ∧ P (jI C 40 608) → lc (n + 1) l c C = stepC (fun x S => lc n x (c + 1) S) l C) ∧ (¬ (fl = 0 ∧ P (jI C 40 608)) → lc (n + 1) l c C = some (l, C)))
    (hr : ∀ A n l np cn fl C R, PS B e N T t A np nr cn fl C R → (fl = 0 ∧ P (jI C 40 608) → lr (n + 1) l R = stepR (fun x S => lr n x S) l R) ∧ (¬ (fl = 0 ∧ P (jI C 40 608)) → lr (n + 1) l R = some (l, R)))
    {A : Nat → Prop} {lo cn : Nat} {fl0 : Int32} {C0 R0 : jM} (hrs : rs ≤ lo) (hcn : cn ≤ k) :
    ∀ g n n' np c fl x y C R, g + 1 < n → g + 1 < n' → 300 ≤ np + g → lo ≤ np → c < np ∨ fl ≠ 0 ∧ c ≤ 300 → PS B e N T t A np nr cn fl C R → St T t lo cn C0 R0 C R → (fl = 0 → fl0 = 0 ∧ lo < np ∧ ∃ i, x = nI i ∧ y = nI (301 * t + i) ∧ Fin' T t lo np C R ∧ tT C T ru nr rs (np - lo + rs) A lo np i) →
      LC B e N T t ru rs nr A lo cn fl0 C0 R0 (lc n x (nI c) C) (lr n' y R) := by
  intro g
  induction g with
  | zero =>
    intro n n' np c fl x y C R hn hn' hg hlo hcc h hS hi
    obtain ⟨n, rfl⟩ : ∃ m, n = m + 1 + 1 := ⟨n - 2, by omega⟩
    obtain ⟨n', rfl⟩ : ∃ m, n' = m + 1 + 1 := ⟨n' - 2, by omega⟩
    have h300 := h.2.1
    have hc3 : ¬ (300 : Int32) < nI c := by rw [show (300 : Int32) = nI 300 from rfl, nJ_lt (by omega) (by omega)]; omega
    obtain ⟨c1, c2⟩ := hc A (n + 1) x (nI c) np cn fl C R h hc3
    obtain ⟨r1, r2⟩ := hr A (n' + 1) y np cn fl C R h
    by_cases cp : fl = 0 ∧ P (jI C 40 608)
    · rw [c1 cp, r1 cp]
      obtain ⟨rfl, cP⟩ := cp
      have hc5 : c < np := hcc.resolve_right (fun z => z.1 rfl)
      obtain ⟨f0, fl1, i, rfl, rfl, hF, hT⟩ := hi rfl
      obtain ⟨x', y', C', R', np', fl', s1, s2, s3, s4, s5, s6⟩ := hop A lo np cn C0 R0 C R i hrs hcn hlo h cP hS hF hT
      have hf : fl' ≠ 0 := fun z => by have := s4.2.1; have := (s6 z).1; omega
      have hc4 : ¬ (300 : Int32) < nI c + 1 := by rw [nJ_1 (by omega), show (300 : Int32) = nI 300 from rfl, nJ_lt (by omega) (by omega)]; omega
      rw [s1, (hc A n x' (nI c + 1) np' cn fl' C' R' s4 hc4).2 (fun z => hf z.1)]
      rcases s2 with s2 | ⟨-, s2⟩
      · rw [s2, (hr A n' y' np' cn fl' C' R' s4).2 (fun z => hf z.1)]
        exact LC.flt rfl rfl (by omega) s4 s5 hf
      · rw [s2]
        exact LC.flt rfl rfl (by omega) s4 s5 hf
    · rw [c2 cp, r2 cp]
      exact ⟨x, y, C, R, np, fl, rfl, rfl, hlo, h, hS, fun z => by obtain ⟨f0, f1, i, i1, i2, i3, i4⟩ := hi z; exact ⟨f0, i, i1, i2, f1, i3, i4⟩⟩
  | succ g ih =>
    intro n n' np c fl x y C R hn hn' hg hlo hcc h hS hi
    obtain ⟨n, rfl⟩ : ∃ m, n = m + 1 + 1 := ⟨n - 2, by omega⟩
    obtain ⟨n', rfl⟩ : ∃ m, n' = m + 1 + 1 := ⟨n' - 2, by omega⟩
    have h300 := h.2.1
    have hc3 : ¬ (300 : Int32) < nI c := by rw [show (300 : Int32) = nI 300 from rfl, nJ_lt (by omega) (by omega)]; omega
    obtain ⟨c1, c2⟩ := hc A (n + 1) x (nI c) np cn fl C R h hc3
    obtain ⟨r1, r2⟩ := hr A (n' + 1) y np cn fl C R h
    by_cases cp : fl = 0 ∧ P (jI C 40 608)
    · rw [c1 cp, r1 cp]
      obtain ⟨rfl, cP⟩ := cp
      have hc5 : c < np := hcc.resolve_right (fun z => z.1 rfl)
      obtain ⟨f0, fl1, i, rfl, rfl, hF, hT⟩ := hi rfl
      obtain ⟨x', y', C', R', np', fl', s1, s2, s3, s4, s5, s6⟩ := hop A lo np cn C0 R0 C R i hrs hcn hlo h cP hS hF hT
      have hc4 : ¬ (300 : Int32) < nI c + 1 := by rw [nJ_1 (by omega), show (300 : Int32) = nI 300 from rfl, nJ_lt (by omega) (by omega)]; omega
      by_cases hf : fl' = 0
      · obtain ⟨t1, i', t2, t3, t4, t5⟩ := s6 hf
        rw [s1, nJ_1 (by omega)]
        rcases s2 with s2 | ⟨hne, s2⟩
        · rw [s2]
          exact ih (n + 1) (n' + 1) np' (c + 1) fl' x' y' C' R' (by omega) (by omega) (by omega) (by omega) (.inl (by omega)) s4 s5 (fun _ => ⟨f0, by omega, i', t2, t3, t4, t5⟩)
        · exact absurd hf hne
      · rw [s1, (hc A n x' (nI c + 1) np' cn fl' C' R' s4 hc4).2 (fun z => hf z.1)]
        rcases s2 with s2 | ⟨-, s2⟩
        · rw [s2, (hr A n' y' np' cn fl' C' R' s4).2 (fun z => hf z.1)]
          exact LC.flt rfl rfl (by omega) s4 s5 hf
        · rw [s2]
          exact LC.flt rfl rfl (by omega) s4 s5 hf
    · rw [c2 cp, r2 cp]
      exact ⟨x, y, C, R, np, fl, rfl, rfl, hlo, h, hS, fun z => by obtain ⟨f0, f1, i, i1, i2, i3, i4⟩ := hi z; exact ⟨f0, i, i1, i2, f1, i3, i4⟩⟩
