/-! PURE: the parser: a text's rules, one by one -/
def pXC (T t f a : Nat) : Prop := pPC T t f a ∨ (t = 0 ∧ (f = 44 ∨ f = 45 ∨ f = 49) ∧ a = T) ∨ (t = 3 ∧ (a = T + 4 ∨ a = T + 5))
def pXR (t f a : Nat) : Prop := pPR t f a ∨ (t = 0 ∧ f = 113 ∧ a = 2398) ∨ (t = 3 ∧ (a = 2415 ∨ a = 2416 ∨ a = 2417))
def oRX (t : Nat) (R R' : jM) : Prop := ∀ s, s < 33 → s ≠ t → sX R R' s
theorem oRX.refl {t : Nat} {R : jM} : oRX t R R := fun _ _ _ => ⟨rfl, fun _ _ => ⟨rfl, rfl, rfl, rfl, rfl, rfl⟩, fun _ _ => ⟨rfl, rfl⟩⟩
theorem oRX.trans {t : Nat} {R R1 R2 : jM} (h : oRX t R R1) (k : oRX t R1 R2) : oRX t R R2 := fun s h1 h2 => by
  obtain ⟨a1, a2, a3⟩ := h s h1 h2
  obtain ⟨b1, b2, b3⟩ := k s h1 h2
  refine ⟨b1.trans a1, fun j hj => ?_, fun j hj => ?_⟩
  · obtain ⟨x1, x2, x3, x4, x5, x6⟩ := a2 j hj
    obtain ⟨y1, y2, y3, y4, y5, y6⟩ := b2 j hj
    exact ⟨y1.trans x1, y2.trans x2, y3.trans x3, y4.trans x4, y5.trans x5, y6.trans x6⟩
  · obtain ⟨x1, x2⟩ := a3 j hj
    obtain ⟨y1, y2⟩ := b3 j hj
    exact ⟨y1.trans x1, y2.trans x2⟩
theorem St.ox {T t np cn : Nat} {C R C' R' : jM} (h : St T t np cn C R C' R') (hnp : np ≤ 300) (ht : t < 33) : oRX t R R' := fun s h1 h2 => by
  refine ⟨by rw [h.2.1.ai (by unfold pPR; omega)], fun j hj => h.2.2.2.1.1 _ (by omega), fun j hj => ⟨by rw [h.2.1.al (by unfold pPR; omega)], by rw [h.2.1.ai (by unfold pPR; omega)]⟩⟩
/-- the rules that were read -/
def RU (T t np nr : Nat) (ru : Nat → Nat × Nat × Nat) (C R : jM) : Prop := ∀ r, r < nr → (ru r).1 ≤ np ∧ (ru r).2.2 ≤ np ∧ ∃ k, jAI C (T + 5) r = nI k ∧ jAI R 2417 (24 * t + r) = nI (301 * t + k) ∧ tOK (jAI C (T + 1)) (jAL C (T + 2)) (jAI C (T + 3)) ru nr (ru r).2.1 (ru r).1 (fun _ => False) (ru r).2.1 (ru r).2.2 k
def TS (B : Nat → Int32) (e N T t : Nat) (C0 R0 : jM) (np nr : Nat) (fl : Int32) (C R : jM) : Prop :=
  PS B e N T t (fun _ => False) np nr 0 fl C R ∧ Fr (pXC T) C0 C ∧ Fr pXR R0 R ∧ oRX t R0 R ∧ jI C 44 T = -1 ∧ (fl = 0 → Fin' T t 0 np C R ∧ ∃ ru, RU T t np nr ru C R)
theorem RU.o {T t np nr cn : Nat} {ru : Nat → Nat × Nat × Nat} {C R C' R' : jM} (h : RU T t np nr ru C R) (hS : St T t np cn C R C' R') (hk : jK T = 6) : RU T t np nr ru C' R' := fun r hr => by
  have kt := kd_text hk
  have l16 := ln_616
  have l17 := ln_617
  have n5 : T + 5 ≠ 616 ∧ T + 5 ≠ 617 := ⟨fun z => by have l := kt.2.2.2.2.2; rw [z] at l; omega, fun z => by have l := kt.2.2.2.2.2; rw [z] at l; omega⟩
  obtain ⟨a1, a2, k, a3, a4, a5⟩ := h r hr
  refine ⟨a1, a2, k, ?_, ?_, ?_⟩
  · rw [hS.1.ai (by unfold pPC; omega)]; exact a3
  · rw [hS.2.1.ai (by unfold pPR; omega)]; exact a4
  · exact tOK_m (Nat.le_refl _) (fun _ _ => rfl) _ _ _ _ _ _ _ _ _ a5 (Nat.le_refl _) (fun _ z => z) (Nat.le_refl _) (Nat.le_refl _) (fun k h1 h2 => hS.2.2.1 k (by omega))
/-- behind something that touches no older part -/
theorem TS.o {B : Nat → Int32} {e N T t : Nat} {C0 R0 : jM} {np np' nr : Nat} {fl fl' : Int32} {C R C' R' : jM} (h : TS B e N T t C0 R0 np nr fl C R) (hP : PS B e N T t (fun _ => False) np' nr 0 fl' C' R') (hS : St T t np 0 C R C' R') (hf : fl' = 0 → fl = 0 ∧ np' = np) : TS B e N T t C0 R0 np' nr fl' C' R' := by
  obtain ⟨h1, h2, h3, h4, h5, h6⟩ := h
  have hk := hP.pt.2.2.1
  have n607 : T ≠ 607 := fun z => by rw [z, k_607] at hk; omega
  have n608 : T ≠ 608 := fun z => by rw [z, k_608] at hk; omega
  refine ⟨hP, h2.trans (hS.1.mono (fun _ _ _ => .inl)), h3.trans (hS.2.1.mono (fun _ _ _ => .inl)), h4.trans (hS.ox h1.2.1 h1.pt.2.2.2.1), ?_, fun z => ?_⟩
  · rw [hS.1.i (by unfold pPC; omega)]; exact h5
  · obtain ⟨z1, z2⟩ := hf z
    obtain ⟨g1, ru, g2⟩ := h6 z1
    subst z2
    exact ⟨g1.o hS (Nat.le_refl _), ru, g2.o hS hk⟩
noncomputable def p84 (k31 : Nat → Int32 → jM → Option jM) (i : Int32) (S18 : jM) : Option jM := (jR S18 24 607).bind (fun r21 => if jK r21 = 5 then jlet (jL S18 42 r21) (fun x24 => (jR S18 24 607).bind (fun r25 => if jK r25 = 5 then if (jI S18 40 r25) = (2 : Int32) then (jR S18 25 607).bind (fun r29 => if jK r29 = 6 then (f_X8_ruleNamed r29 x24 S18).bind (fun x31 => if x31 = (-1 : Int32) then f_X4_parse_127 k31 607 i x24 S18 else (f_X4_refuse 607 (3 : Int32) S18).bind (fun S35 => f_X4_parse_127 k31 607 i x24 S35)) else none) else f_X4_parse_127 k31 607 i x24 S18 else none)) else none)
theorem p84_is {k31 : Nat → Int32 → jM → Option jM} {i : Int32} {S : jM} : f_X4_parse_84 k31 607 i S = (f_X4_take 607 145 S).bind (fun S18 => p84 k31 i S18) := by
  unfold f_X4_parse_84
  rw [if_pos k_607]
  rfl
noncomputable def p86 (t : Nat) (k29 : Nat → Int32 → jM → Option jM) (S35 : jM) : Option jM := (f_X12_is 2398 (40 : Int32) S35).bind (fun x38 => if x38 = 0 then f_X12_readText_132 k29 2398 (nI t) S35 else (jR S35 97 2398).bind (fun r41 => if jA r41 14 (jI S35 100 2398) = true then (f_X12_findRule 2398 (nI t) (jAL S35 r41 (jI S35 100 2398).toNatClampNeg) S35).bind (fun x44 => if x44 < 0 then f_X12_readText_132 k29 2398 (nI t) S35 else (jR S35 96 2398).bind (fun r47 => if jA r47 13 (jI S35 100 2398) = true then (f_X12_fail 2398 (3 : Int32) (jAI S35 r47 (jI S35 100 2398).toNatClampNeg) S35).bind (fun S50 => f_X12_readText_132 k29 2398 (nI t) S50) else none)) else none))
theorem p86_is {t : Nat} {k29 : Nat → Int32 → jM → Option jM} {S : jM} : f_X12_readText_86 k29 2398 (nI t) S = (f_X12_want 2398 18 S).bind (fun S35 => p86 t k29 S35) := by
  unfold f_X12_readText_86
  rw [if_pos k_2398]
  rfl
/-- the name of a rule, told already or not -/
theorem chk_ok {B : Nat → Int32} {e N T t : Nat} {A : Nat → Prop} {np nr cn : Nat} {fl : Int32} {C R : jM} (h : PS B e N T t A np nr cn fl C R) : ∃ C2 R2 fl2, (∀ k31 i, p84 k31 i C = f_X4_parse_127 k31 607 i (jL C 42 608) C2) ∧ (∀ k29, p86 t k29 R = f_X12_readText_132 k29 2398 (nI t) R2) ∧ PS B e N T t A np nr cn fl2 C2 R2 ∧ St T t np cn C R C2 R2 ∧ (fl2 = 0 → fl = 0 ∧ C2 = C ∧ R2 = R) := by
  have hT := h.pt
  have hh := h
  obtain ⟨-, z1, z2, z3, z4, z5, z6, z7, z8, z9, z10, -⟩ := hh
  by_cases cf : fl = 0
  · subst cf
    obtain ⟨q, q1, q2, q3, q4, q5, q6, q7, q8, q9, q10, q11⟩ := h.tk
    obtain ⟨a1, a2, a3, a4, a5⟩ := qA q2
    have t2 : tm (jI C 40 608) = 40 ↔ jI C 40 608 = 2 := tm_2 h.tks
    by_cases c2 : jI C 40 608 = 2
    · have eN : jL C 42 608 = jAL R 2406 q := by rw [q4.2.2.2.1 (.inl (by rw [← q4.2.1]; exact c2)), q5.2.1 (.inl (by rw [← q4.2.1]; exact c2))]
      obtain ⟨r, r1, r2, r3⟩ := rule_lk hT.1 hT.2.1 hT.2.2.1 hT.2.2.2.1 z2 z5 z6 z9 (jL C 42 608)
      rw [eN] at r1 r2 r3
      rcases r3 with r3 | ⟨i, i1, i2, -⟩
      · subst r3
        refine ⟨C, R, 0, fun k31 i => ?_, fun k29 => ?_, h, St.refl, fun _ => ⟨rfl, rfl, rfl⟩⟩
        · unfold p84
          rw [ly_24 hT.1, obt, if_pos k_608, jlt, obt, if_pos k_608, if_pos c2, hT.2.2.2.2.2.1, obt, if_pos hT.2.2.1, eN, r1, obt, if_pos rfl]
        · unfold p86
          rw [is_r h, if_pos (t2.mpr c2), obt, if_neg (by decide), ly_97 hT.2.1, obt, q3, if_pos a3, a5, r2, obt, if_pos (by decide)]
      · obtain ⟨C', R', q', w1, w2, w3, w4, w5, w6⟩ := fail4_ok h (c := 3) (by decide)
        have rn : r ≠ -1 := by rw [i2]; rw [Ne, i_eq, nI_toInt (by omega), show (-1 : Int32).toInt = -1 from rfl]; omega
        refine ⟨C', R', 3, fun k31 i => ?_, fun k29 => ?_, w5, w6, fun z => absurd z (by decide)⟩
        · unfold p84
          rw [ly_24 hT.1, obt, if_pos k_608, jlt, obt, if_pos k_608, if_pos c2, hT.2.2.2.2.2.1, obt, if_pos hT.2.2.1, eN, r1, obt, if_neg rn, w1, obt]
        · unfold p86
          rw [is_r h, if_pos (t2.mpr c2), obt, if_neg (by decide), ly_97 hT.2.1, obt, w2]
          have hqq : nI q' = nI q := w2.symm.trans q3
          rw [hqq, if_pos a3, a5, r2, obt, if_neg (by rw [i2]; exact nI_neg (by omega)), ly_96 hT.2.1, obt, if_pos a2]
          rw [hqq, a5] at w4
          rw [w4, obt]
    · refine ⟨C, R, 0, fun k31 i => ?_, fun k29 => ?_, h, St.refl, fun _ => ⟨rfl, rfl, rfl⟩⟩
      · unfold p84
        rw [ly_24 hT.1, obt, if_pos k_608, jlt, obt, if_pos k_608, if_neg c2]
      · unfold p86
        rw [is_r h, if_neg (fun z => c2 (t2.mp z)), obt, if_pos rfl]
  · obtain ⟨n1, n2⟩ := nfl h cf
    refine ⟨C, R, fl, fun k31 i => ?_, fun k29 => ?_, h, St.refl, fun z => absurd z cf⟩
    · unfold p84
      rw [ly_24 hT.1, obt, if_pos k_608, jlt, obt, if_pos k_608]
      by_cases c2 : jI C 40 608 = 2
      · obtain ⟨r, r1, r2, r3⟩ := rule_lk hT.1 hT.2.1 hT.2.2.1 hT.2.2.2.1 z2 z5 z6 z9 (jL C 42 608)
        rw [if_pos c2, hT.2.2.2.2.2.1, obt, if_pos hT.2.2.1, r1, obt, refused h cf, obt]
        by_cases c3 : r = -1
        · rw [if_pos c3]
        · rw [if_neg c3]
      · rw [if_neg c2]
    · unfold p86
      rw [rltI n2, obt, if_pos rfl]
noncomputable def bdC (k31 : Nat → Int32 → jM → Option jM) (v1 : Int32) (S : jM) : Option jM := (jR S 24 607).bind (fun r44 => if jK r44 = 5 then if (jI S 40 r44) = (145 : Int32) then (jR S 25 607).bind (fun r48 => if jK r48 = 6 then if (jI S 49 r48) = (24 : Int32) then (f_X4_refuse 607 (4 : Int32) S).bind (fun S52 => f_X4_parse_84 k31 607 v1 S52) else f_X4_parse_84 k31 607 v1 S else none) else f_X4_parse_84 k31 607 v1 S else none)
noncomputable def bdR (k29 : Nat → Int32 → jM → Option jM) (v1 : Int32) (S : jM) : Option jM := (f_X12_now 2398 S).bind (fun x57 => if x57 = (18 : Int32) then (jR S 110 2398).bind (fun r60 => if jA r60 13 v1 = true then if (jAI S r60 (v1).toNatClampNeg) = (24 : Int32) then (jR S 96 2398).bind (fun r64 => if jA r64 13 (jI S 100 2398) = true then (f_X12_fail 2398 (4 : Int32) (jAI S r64 (jI S 100 2398).toNatClampNeg) S).bind (fun S67 => f_X12_readText_86 k29 2398 v1 S67) else none) else f_X12_readText_86 k29 2398 v1 S else none) else (f_X12_wrong 2398 S).bind (fun S69 => f_X12_readText_86 k29 2398 v1 S69))
theorem beg_ok {B : Nat → Int32} {e N T t : Nat} {A : Nat → Prop} {np nr cn : Nat} {C R : jM} (h : PS B e N T t A np nr cn 0 C R) : ∃ C1 R1 fl1, (∀ k31 i, bdC k31 i C = p84 k31 i C1) ∧ (∀ k29, bdR k29 (nI t) R = p86 t k29 R1) ∧ PS B e N T t A np nr cn fl1 C1 R1 ∧ St T t np cn C R C1 R1 ∧ (fl1 = 0 → nr < 24) := by
  have hT := h.pt
  have hh := h
  obtain ⟨-, z1, z2, z3, z4, z5, z6, z7, z8, z9, z10, -⟩ := hh
  obtain ⟨q, q1, q2, q3, q4, q5, q6, q7, q8, q9, q10, q11⟩ := h.tk
  have eK : (tkv B e (tps B e q)).1 = jI C 40 608 := q4.2.1.symm
  have hnow := now_r h q3 q2 q5
  rw [eK] at hnow
  have t18 : tm (jI C 40 608) = 18 ↔ jI C 40 608 = 145 := ⟨fun z => tm_inj _ h.tks 145 (by decide) (z.trans (by decide)), fun z => by rw [z]; decide⟩
  have a15 : jA 2415 13 (nI t) = true := jA_n k_2415 (by rw [ln_2415]; have := hT.2.2.2.1; omega) (by have := hT.2.2.2.1; omega)
  have c15 : (nI t).toNatClampNeg = t := nJ_cl (by have := hT.2.2.2.1; omega)
  have n24 : nI nr = (24 : Int32) ↔ nr = 24 := by rw [show (24 : Int32) = nI 24 from rfl, i_eq, nI_toInt (by omega), nI_toInt (by omega)]; omega
  by_cases c1 : jI C 40 608 = 145
  · by_cases c2 : nr = 24
    · obtain ⟨C', R', q', w1, w2, w3, w4, w5, w6⟩ := fail4_ok h (c := 4) (by decide)
      obtain ⟨n1, n2⟩ := nfl w5 (by decide)
      refine ⟨C', R', 4, fun k31 i => ?_, fun k29 => ?_, w5, w6, fun z => absurd z (by decide)⟩
      · unfold bdC
        rw [ly_24 hT.1, obt, if_pos k_608, if_pos c1, hT.2.2.2.2.2.1, obt, if_pos hT.2.2.1, z5, if_pos (n24.mpr c2), w1, obt, p84_is, tk_flt n1, obt]
      · unfold bdR
        rw [hnow, obt, if_pos (t18.mpr c1), ly_110 hT.2.1, obt, if_pos a15, c15, z6, if_pos (n24.mpr c2), ly_96 hT.2.1, obt, w2, if_pos w3, w4, obt, p86_is, wt_flt n2, obt]
    · obtain ⟨C1, R1, fl1, t1, t2, t3, t4, t5⟩ := take_ok h (K := 145) (km := 18) (by decide) (by decide) (by decide) (by decide)
      refine ⟨C1, R1, fl1, fun k31 i => ?_, fun k29 => ?_, t3, t4, fun _ => by omega⟩
      · unfold bdC
        rw [ly_24 hT.1, obt, if_pos k_608, if_pos c1, hT.2.2.2.2.2.1, obt, if_pos hT.2.2.1, z5, if_neg (fun z => c2 (n24.mp z)), p84_is, t1, obt]
      · unfold bdR
        rw [hnow, obt, if_pos (t18.mpr c1), ly_110 hT.2.1, obt, if_pos a15, c15, z6, if_neg (fun z => c2 (n24.mp z)), p86_is, t2, obt]
  · obtain ⟨C1, R1, fl1, t1, t2, t3, t4, t5⟩ := take_ok h (K := 145) (km := 18) (by decide) (by decide) (by decide) (by decide)
    have hf : fl1 ≠ 0 := fun z => c1 (take_K h t1 t3 z)
    obtain ⟨n1, n2⟩ := nfl t3 hf
    have hw : f_X12_wrong 2398 R = some R1 := by
      have hid : ∀ o : Option jM, (o.bind fun S1 => some S1) = o := fun o => by cases o <;> rfl
      obtain ⟨a1, a2, a3, a4, a5⟩ := qA q2
      unfold f_X12_want at t2
      rw [if_pos k_2398, h.fr0.2, if_pos rfl, ly_95 hT.2.1, obt, q3, if_pos a1, a5, q5.1, eK, if_neg (fun z => c1 (t18.mp z)), hid] at t2
      exact t2
    refine ⟨C1, R1, fl1, fun k31 i => ?_, fun k29 => ?_, t3, t4, fun z => absurd z hf⟩
    · unfold bdC
      rw [ly_24 hT.1, obt, if_pos k_608, if_neg c1, p84_is, t1, obt]
    · unfold bdR
      rw [hnow, obt, if_neg (fun z => c1 (t18.mp z)), hw, obt, p86_is, wt_flt n2, obt]
