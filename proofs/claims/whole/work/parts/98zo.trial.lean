/-! PURE: trial -/
theorem rX_wk {F : Nat} {C C' R R' : jM} {T t : Nat} (hF : isF F) (hT : isT T) (h : rX C T R t) (hC : Fr (pWk F) C C') (hR : Fr qGa R R') : rX C' T R' t := by
  have hn := hF.n
  have hb : T = 610 ∨ (619 ≤ T ∧ T ≤ 805) := hT.2
  have hs : ∀ j, j < 6 → sP C C' (T + j) := fun j hj => hC.sP (fun t f z => by unfold pWk pBg pW at z; unfold isF at hF; omega)
  exact h.c (hs 0 (by omega)) (hs 1 (by omega)) (hs 2 (by omega)) (hs 3 (by omega)) (hs 4 (by omega)) (hs 5 (by omega)) (hR.sX (fun a h1 h2 => by unfold qGa; omega) t)
/-- the text that is in force, or none -/
def tO (C R : jM) (o : Option Nat) (b : Int32) : Prop := (o = none ∧ b = -1) ∨ ∃ T t : Nat, o = some T ∧ b = nI t ∧ isT T ∧ t < 33 ∧ rX C T R t
theorem tO_wk {F : Nat} {C C' R R' : jM} {o : Option Nat} {b : Int32} (hF : isF F) (h : tO C R o b) (hC : Fr (pWk F) C C') (hR : Fr qGa R R') : tO C' R' o b := by
  rcases h with h | ⟨T, t, h1, h2, h3, h4, h5⟩
  · exact .inl h
  · exact .inr ⟨T, t, h1, h2, h3, h4, rX_wk hF h3 h5 hC hR⟩
theorem wdo_ok {C R : jM} {o : Option Nat} {b : Int32} {F : Nat} (hC : Lay C) (hR : Lay R) (hF : isF F) (ho : tO C R o b) (hP : rP C R) (hf : rF C R) (who due day : Int32) : ∃ C2 R2, f_X10_work 811 F o 6583653 who due day C = some C2 ∧ f_X12_workDue 2398 b who due day R = some (jI C2 7 F, R2) ∧ Fr (pWk F) C C2 ∧ Fr qGa R R2 ∧ (∀ f, 150 ≤ f → f ≤ 155 → jI R2 f 2398 = jI R f 2398) ∧ jAI R2 2437 = jAI R 2437 ∧ (∀ s, s < 226 → sS R R2 s) ∧
    (jI C2 7 F = 0 → ∃ r s, r < 24 ∧ jI C2 6 F = nI r ∧ jI R2 156 2398 = nI s ∧ s < 1500 ∧ (s ≤ 200 ∨ 226 ≤ s) ∧ VR (jI C 31 1).toInt C2 (F + 5 + 2 * r) R2 s) := by
  rcases ho with ⟨h1, h2⟩ | ⟨T, t, h1, h2, h3, h4, h5⟩
  · subst h1 h2
    obtain ⟨C2, q1, q2, q3⟩ := work_no hC hF 6583653 who due day
    refine ⟨C2, R, q1, ?_, q2.mono (fun _ _ _ z => .inl z), Fr.refl, fun _ _ _ => rfl, rfl, fun _ _ => sS.refl, fun z => absurd (q3.symm.trans z) (by decide)⟩
    unfold f_X12_workDue f_X12_workDue_16
    rw [if_neg (by decide), if_neg (by decide), q3]
  · subst h1 h2
    exact wd_ok hC hR hF h3 h4 h5 hP hf who due day
/-- one member: the two alike -/
theorem mem_ok {C R : jM} {T : Nat} {o : Option Nat} {b : Int32} (hC : Lay C) (hR : Lay R) (h : Rel C R) (hT : isT T) (hX : rX C T R 32) (ho : tO C R o b) (who due day : Int32) : ∃ C1 C2 R1 R2 R3 z, f_X10_work 811 2071 (some T) 6583653 who due day C = some C1 ∧ f_X10_work 811 2124 o 6583653 who due day C1 = some C2 ∧ f_X1_endsLike 2071 2124 C2 = some z ∧
    f_X12_workDue 2398 32 who due day R = some (jI C1 7 2071, R1) ∧ (if jI C1 7 2071 = 0 then f_X12_copy 2398 225 (jI R1 156 2398) R1 else some R1) = some R2 ∧ f_X12_workDue 2398 b who due day R2 = some (jI C2 7 2124, R3) ∧
    (if jI C1 7 2071 = jI C2 7 2124 then if jI C1 7 2071 = 0 then f_X12_areAlike 2398 225 (jI R3 156 2398) R3 else some 1 else some 0) = some z ∧ Lay C1 ∧ Lay C2 ∧ Rel C2 R3 ∧ Fr pC C C2 ∧ Fr pR R R3 ∧ rX C2 T R3 32 ∧ tO C2 R3 o b ∧ jR C2 25 607 = jR C 25 607 := by
  have hF1 : isF 2071 := .inr (.inl rfl)
  have hF2 : isF 2124 := .inr (.inr rfl)
  have n32 : (32 : Int32) = nI 32 := rfl
  obtain ⟨C1, R1, a1, a2, a3, a4, a5, a6, a7, a8⟩ := wd_ok hC hR hF1 hT (by omega) hX h.P h.F who due day
  obtain ⟨g1, g2, g3⟩ := Rel.case h hF1 (by decide) a3 a4 a5 a6 (fun s hs => a7 s (by omega))
  have hC1 : Lay C1 := hC.frC g2
  have hR1 : Lay R1 := hR.frR g3
  have hX1 := rX_wk hF1 hT hX a3 a4
  have ho1 := tO_wk hF1 ho a3 a4
  have e31 : jI C1 31 1 = jI C 31 1 := a3.i (by unfold pWk pBg pW; omega)
  have kn : ∀ R2, Fr qV R1 R2 → Fr qGa R1 R2 := fun R2 q => q.mono (fun t f a z => by unfold qV at z; unfold qGa; omega)
  -- the copy
  obtain ⟨R2, b1, b2, b3, b4⟩ : ∃ R2, (if jI C1 7 2071 = 0 then f_X12_copy 2398 225 (jI R1 156 2398) R1 else some R1) = some R2 ∧ Fr qV R1 R2 ∧ (∀ z, z ≠ 225 → sS R1 R2 z) ∧ (jI C1 7 2071 = 0 → ∃ r, r < 24 ∧ jI C1 6 2071 = nI r ∧ VR (jI C 31 1).toInt C1 (2071 + 5 + 2 * r) R2 225) := by
    by_cases c : jI C1 7 2071 = 0
    · obtain ⟨r, s, r1, r2, r3, r4, -, r6⟩ := a8 c
      obtain ⟨R2, b1, b2, b3, b4⟩ := copy_vr hR1 (s := 225) (q := s) (by omega) r4 (v := 225) (w := jI R1 156 2398) (by decide) (by rw [r3, nI_toInt (by omega)])
      exact ⟨R2, by rw [if_pos c]; exact b1, b2, b3, fun _ => ⟨r, r1, r2, b4 _ _ _ r6⟩⟩
    · exact ⟨R1, by rw [if_neg c], Fr.refl, fun _ _ => sS.refl, fun z => absurd z c⟩
  have b5 : Fr qGa R1 R2 := kn R2 b2
  obtain ⟨g4, g5, g6⟩ := Rel.case g1 hF1 (by decide) (C' := C1) Fr.refl b5 (fun f _ _ => b2.i (by unfold qV; omega)) (b2.ai (by unfold qV; omega)) (fun s hs => b3 s (by omega))
  have hR2 : Lay R2 := hR1.frR g6
  have hX2 := rX_wk hF1 hT hX1 Fr.refl b5
  have ho2 := tO_wk hF1 ho1 Fr.refl b5
  obtain ⟨C2, R3, d1, d2, d3, d4, d5, d6, d7, d8⟩ := wdo_ok hC1 hR2 hF2 ho2 g4.P g4.F who due day
  obtain ⟨g7, g8, g9⟩ := Rel.case g4 hF2 (by decide) d3 d4 d5 d6 (fun s hs => d7 s (by omega))
  have hC2 : Lay C2 := hC1.frC g8
  have hR3 : Lay R3 := hR2.frR g9
  have e7 : jI C2 7 2071 = jI C1 7 2071 := d3.i (by unfold pWk pBg pW; omega)
  have e6 : jI C2 6 2071 = jI C1 6 2071 := d3.i (by unfold pWk pBg pW; omega)
  obtain ⟨z, z1, z2⟩ : ∃ z, f_X1_endsLike 2071 2124 C2 = some z ∧ (if jI C1 7 2071 = jI C2 7 2124 then if jI C1 7 2071 = 0 then f_X12_areAlike 2398 225 (jI R3 156 2398) R3 else some 1 else some 0) = some z := by
    unfold f_X1_endsLike f_X1_endsLike_44
    rw [if_pos k_2071, if_pos k_2124, e7]
    by_cases c : jI C1 7 2071 = jI C2 7 2124
    · rw [if_pos c, if_pos c]
      by_cases c0 : jI C1 7 2071 = 0
      · obtain ⟨r, r1, r2, r3⟩ := b4 c0
        obtain ⟨q, s, q1, q2, q3, q4, -, q6⟩ := d8 (by rw [← c]; exact c0)
        have l1 : jR C2 14 2071 = some 2075 := (hC2.2.2.2.2.2.1 2071 hF1.k).2.2.2.1
        have l2 : jR C2 14 2124 = some 2128 := (hC2.2.2.2.2.2.1 2124 hF2.k).2.2.2.1
        have m1 : jAR C2 2075 r = some (2071 + 5 + 2 * r) := (hC2.2.2.2.2.2.1 2071 hF1.k).2.2.2.2 r r1
        have m2 : jAR C2 2128 q = some (2124 + 5 + 2 * q) := (hC2.2.2.2.2.2.1 2124 hF2.k).2.2.2.2 q q1
        obtain ⟨-, -, -, aa, ca⟩ := aC hF1 r1
        obtain ⟨-, -, -, ab, cb⟩ := aC hF2 q1
        have hv : VR (jI C 31 1).toInt C2 (2071 + 5 + 2 * r) R3 225 := r3.c (d3.sP (fun t f => by unfold pWk pBg pW; omega)) (d3.sP (fun t f => by unfold pWk pBg pW; omega)) (d7 225 (by omega))
        rw [e31] at q6
        obtain ⟨x, x1, x2, x3⟩ := like_ok hC2 hR3 (hF1.fig r1) (hF2.fig q1) hv q6 (by omega) q4
        have n225 : (225 : Int32) = nI 225 := rfl
        rw [if_pos c0, if_pos c0, l1, obt, e6, r2, if_pos aa, ca, m1, obt, l2, obt, q2, if_pos ab, cb, m2, obt, if_pos (hF1.fig r1), x1, obt, q3, n225, x2]
        by_cases cx : x = 0
        · rw [if_pos cx]
          exact ⟨0, rfl, by rw [cx]⟩
        · rw [if_neg cx]
          rcases x3 with x3 | x3
          · exact absurd x3 cx
          · exact ⟨1, rfl, by rw [x3]⟩
      · rw [if_neg c0, if_neg c0]
        exact ⟨1, rfl, rfl⟩
    · rw [if_neg c, if_neg c]
      exact ⟨0, rfl, rfl⟩
  exact ⟨C1, C2, R1, R2, R3, z, a1, d1, z1, by rw [n32]; exact a2, b1, d2, z2, hC1, hC2, g7, g2.trans g8, g3.trans (g6.trans g9), rX_wk hF2 hT hX2 d3 d4, tO_wk hF2 ho2 d3 d4, (d3.r (by unfold pWk pBg pW; omega)).trans (a3.r (by unfold pWk pBg pW; omega))⟩
theorem t77_s {fu : Nat} {day due v5 m : Int32} {o : Option Nat} {S C1 C2 : jM} {T : Nat} {z : Int32} (hS : Lay S) (h1 : Lay C1) (h2 : Lay C2) (hm : ¬ (10 : Int32) ≤ m) (hT : jR S 25 607 = some T) (w1 : f_X10_work 811 2071 (some T) 6583653 m due day S = some C1) (w2 : f_X10_work 811 2124 o 6583653 m due day C1 = some C2) (hz : f_X1_endsLike 2071 2124 C2 = some z) :
    f_X11_trial_77 (fu + 1) 0 due day o v5 m S = f_X11_trial_77 fu 0 due day o (if z = 0 then v5 ||| ((1 : Int32) <<< (m &&& 31)) else v5) (m + 1) C2 := by
  rw [f_X11_trial_77, if_neg hm, if_pos k_0, ly_74 hS, obt, ly_76 hS, obt, ly_71 hS, obt, if_pos k_607, hT, obt, if_pos k_811, w1, obt, ly_74 h1, obt, ly_77 h1, obt, if_pos k_811, w2, obt, ly_76 h2, obt, ly_77 h2, obt, if_pos k_2071, hz, obt]
  unfold f_X11_trial_152
  by_cases c : z = 0
  · rw [if_pos c, if_pos c, jlt, jlt]
  · rw [if_neg c, if_neg c, jlt]
theorem t80_s {fu : Nat} {day due v5 m b : Int32} {S R1 R2 R3 : jM} {x y z : Int32} (hm : ¬ (10 : Int32) ≤ m) (w1 : f_X12_workDue 2398 32 m due day S = some (x, R1)) (w2 : (if x = 0 then f_X12_copy 2398 225 (jI R1 156 2398) R1 else some R1) = some R2) (w3 : f_X12_workDue 2398 b m due day R2 = some (y, R3))
    (w4 : (if x = y then if x = 0 then f_X12_areAlike 2398 225 (jI R3 156 2398) R3 else some 1 else some 0) = some z) :
    f_X12_trial_80 (fu + 1) 2398 due day b v5 m S = f_X12_trial_80 fu 2398 due day b (if z = 0 then v5 ||| ((1 : Int32) <<< (m &&& 31)) else v5) (m + 1) R3 := by
  have key : ∀ Q, Q = R2 → f_X12_trial_115 (f_X12_trial_80 fu) 2398 due day b v5 m x Q = f_X12_trial_80 fu 2398 due day b (if z = 0 then v5 ||| ((1 : Int32) <<< (m &&& 31)) else v5) (m + 1) R3 := fun Q hQ => by
    subst hQ
    have t0 : f_X12_trial_157 (f_X12_trial_80 fu) 2398 due day b v5 m R3 = f_X12_trial_80 fu 2398 due day b (v5 ||| ((1 : Int32) <<< (m &&& 31))) (m + 1) R3 := by
      unfold f_X12_trial_157 f_X12_trial_158 f_X12_trial_175
      rw [if_pos rfl, jlt, jlt]
    have t1 : f_X12_trial_153 (f_X12_trial_80 fu) 2398 due day b v5 m R3 = f_X12_trial_80 fu 2398 due day b v5 (m + 1) R3 := by
      unfold f_X12_trial_153 f_X12_trial_158 f_X12_trial_175
      rw [if_neg (by decide), jlt, jlt, Int32.or_zero]
    unfold f_X12_trial_115
    rw [if_pos k_2398, w3, jbt, t0, t1]
    by_cases c : x = y
    · rw [if_pos c] at w4 ⊢
      by_cases c0 : x = 0
      · rw [if_pos c0] at w4 ⊢
        rw [w4, obt]
        by_cases cz : z = 0
        · rw [if_pos cz, if_pos cz]
        · rw [if_neg cz, if_neg cz]
      · rw [if_neg c0] at w4 ⊢
        injection w4 with w4
        rw [← w4, if_neg (by decide)]
    · rw [if_neg c] at w4 ⊢
      injection w4 with w4
      rw [← w4, if_pos rfl]
  rw [f_X12_trial_80, if_neg hm, if_pos k_2398, w1, jbt]
  by_cases c : x = 0
  · rw [if_pos c] at w2 ⊢
    rw [w2, obt]
    exact key R2 rfl
  · rw [if_neg c] at w2 ⊢
    injection w2 with w2
    exact key R1 w2
theorem tr_loop {T : Nat} {o : Option Nat} {b due day : Int32} (hT : isT T) : ∀ (m fu fu2 i : Nat) (v5 : Int32) (C R : jM), i + m = 10 → m < fu → m < fu2 → Lay C → Lay R → Rel C R → jR C 25 607 = some T → rX C T R 32 → tO C R o b → ∃ x C' R', f_X11_trial_77 fu 0 due day o v5 (nI i) C = some (x, C') ∧ f_X12_trial_80 fu2 2398 due day b v5 (nI i) R = some (x, R') ∧ Rel C' R' ∧ Fr pC C C' ∧ Fr pR R R' := by
  intro m
  induction m with
  | zero =>
    intro fu fu2 i v5 C R hi hf hf2 hC hR h h25 hX ho
    obtain ⟨fu, rfl⟩ : ∃ z, fu = z + 1 := ⟨fu - 1, by omega⟩
    obtain ⟨fu2, rfl⟩ : ∃ z, fu2 = z + 1 := ⟨fu2 - 1, by omega⟩
    have e : (10 : Int32) ≤ nI i := by rw [i_le, nI_toInt (by omega), show (10 : Int32).toInt = 10 from rfl]; omega
    rw [f_X11_trial_77, f_X12_trial_80, if_pos e, if_pos e]
    exact ⟨_, _, _, rfl, rfl, h.fr_self⟩
  | succ m ih =>
    intro fu fu2 i v5 C R hi hf hf2 hC hR h h25 hX ho
    obtain ⟨fu, rfl⟩ : ∃ z, fu = z + 1 := ⟨fu - 1, by omega⟩
    obtain ⟨fu2, rfl⟩ : ∃ z, fu2 = z + 1 := ⟨fu2 - 1, by omega⟩
    have e : ¬ (10 : Int32) ≤ nI i := by rw [i_le, nI_toInt (by omega), show (10 : Int32).toInt = 10 from rfl]; omega
    obtain ⟨C1, C2, R1, R2, R3, z, q1, q2, q3, q4, q5, q6, q7, q8, q9, q10, q11, q12, q13, q14, q15⟩ := mem_ok hC hR h hT hX ho (nI i) due day
    rw [t77_s hC q8 q9 e h25 q1 q2 q3, t80_s e q4 q5 q6 q7, nJ_1 (by omega)]
    obtain ⟨x, C', R', k1, k2, k3, k4, k5⟩ := ih fu fu2 (i + 1) (if z = 0 then v5 ||| ((1 : Int32) <<< (nI i &&& 31)) else v5) C2 R3 (by omega) (by omega) (by omega) q9 (hR.frR q12) q10 (q15.trans h25) q13 q14
    exact ⟨x, C', R', k1, k2, k3, q11.trans k4, q12.trans k5⟩
theorem q_trial {C R : jM} (hC : Lay C) (hR : Lay R) (h : Rel C R) (v d day : Int32) : Sim (f_X11_trial 0 v d day) (f_X12_trial 2398 v d day) C R := by
  obtain ⟨e, N, R0, t1, t2, t3, t4, t5, t6, hR0, h0, f1, f2⟩ := rel_open hC hR h
  have hC0 : Lay (opE C) := t2.1
  generalize hCe : opE C = C0 at *
  have hN := h0.N
  have aI : (if 0 ≤ day.toInt ∧ day.toInt ≤ (jI C0 82 0).toInt then (1 : Int32) else 0) = 0 ↔ ¬ (0 ≤ day.toInt ∧ day.toInt ≤ (jI C0 82 0).toInt) := t_if
  have aI' : f_X12_in day.toInt64 0 (jI R0 139 2398).toInt64 = 0 ↔ ¬ (0 ≤ day.toInt ∧ day.toInt ≤ (jI C0 82 0).toInt) := by rw [in0, i2l_toInt, i2l_toInt, ← hN.1]; exact Iff.rfl
  unfold Sim
  unfold f_X11_trial f_X12_trial
  rw [if_pos k_0, ly_72 hC, obt, if_pos k_608, open_c, obt, hCe, if_pos k_2398, t1, obt]
  by_cases c1 : 0 ≤ v.toInt ∧ v.toInt ≤ 3
  · rw [if_neg (by rw [p_isScheme]; omega)]
    by_cases c2 : 0 ≤ d.toInt ∧ d.toInt ≤ 389
    · rw [if_neg (by rw [p_isDay]; omega), if_neg (by rw [in0, i2l_toInt]; exact fun z => z c1), p_mDay, obt, if_neg (by rw [t_if]; exact fun z => z c2), p_isPast, obt]
      by_cases c3 : 0 ≤ day.toInt ∧ day.toInt ≤ (jI C0 82 0).toInt
      · rw [if_neg (fun z => aI.mp z c3), if_neg (fun z => aI'.mp z c3)]
        obtain ⟨sg, hE⟩ := rE_iff.mp h0.E
        have hsg := hE.1 32 (by omega)
        have hT := hE.2.2.1
        have hk6 := k_txt hsg
        have n32 : (32 : Int32) = nI 32 := rfl
        rw [ly_71 hC0, obt, if_pos k_607]
        obtain ⟨C1, R1, np, nr, fl, p1, p2, p3⟩ := parse_ok t2 t3 rfl hR0 t4 t5 t6 hT hk6 (t := 32) (by omega)
        obtain ⟨g1, g2, g3, g4⟩ := parse_rel h0 hE p3
        have hL1 := p3.1.pt.1
        have hLR1 := p3.1.pt.2.1
        rw [p1, obt, n32, p2, obt, ly_71 hL1, obt, if_pos k_607, p3.1.fr0.1, p3.1.fr0.2]
        by_cases cf : fl = 0
        · subst cf
          have hrX : rX C1 (txt (sg 32)) (jsI R1 149 2398 0) 32 := p3.rX
          have hLR : Lay (jsI R1 149 2398 0) := hR0.frR g4
          obtain ⟨o, b, w1, w2, w3⟩ := tif_ok hL1 hLR g1 (v := v) (d := d) c1
          have ho : tO C1 (jsI R1 149 2398 0) o b := by
            rcases w3 with ⟨z1, z2⟩ | ⟨k, z1, z2, z3, z4⟩
            · exact .inl ⟨z1, z2⟩
            · have hs4 : v.toInt.toNat < 4 := by omega
              have hi := g1.1 (8 * v.toInt.toNat + k) (by omega)
              refine .inr ⟨txt (sg (8 * v.toInt.toNat + k)), 8 * v.toInt.toNat + k, z4, nI_is (by omega) (by omega), isT_txt hi, by omega, ?_⟩
              obtain ⟨-, y⟩ := g1.2.2.2.2 v.toInt.toNat k hs4 z1
              rcases y with ⟨-, -, -, -, y⟩ | ⟨y, -⟩
              · exact y
              · exact absurd z2 (by omega)
          obtain ⟨x, C', R', k1, k2, k3, k4, k5⟩ := tr_loop (isT_txt hsg) (due := d) (day := day) 10 1100000 1100000 0 0 C1 (jsI R1 149 2398 0) (by omega) (by omega) (by omega) hL1 hLR g2 g1.2.2.1 hrX ho
          have n0 : (0 : Int32) = nI 0 := rfl
          rw [if_pos rfl, if_pos (by decide), w1, obt, jlt, w2, obt]
          refine ⟨x, C', R', ?_, ?_, k3, f1.trans (g3.trans k4), f2.trans (g4.trans k5)⟩
          · exact k1
          · exact k2
        · obtain ⟨n1, n2⟩ := nfl p3.1 cf
          have hle : ¬ fl ≤ 0 := by rw [← p3.1.fr0.2]; exact n2
          have h27 := p3.1.2.2.2.2.2.2.2.2.2.2.2.2.2.2.1 cf
          rw [if_neg cf, if_neg hle, obt, if_pos k_607]
          unfold f_X12_toldText
          rw [if_pos k_2398, jlt, p3.1.fr0.2, jbt, h27]
          exact ⟨_, _, _, rfl, rfl, g2, f1.trans g3, f2.trans g4⟩
      · rw [if_pos (aI.mpr c3), if_pos (aI'.mpr c3)]
        exact ⟨_, _, _, rfl, rfl, h0, f1, f2⟩
    · rw [if_pos (by rw [p_isDay]; omega), if_neg (by rw [in0, i2l_toInt]; exact fun z => z c1), p_mDay, obt, if_pos (by rw [t_if]; exact c2)]
      exact ⟨_, _, _, rfl, rfl, h0, f1, f2⟩
  · rw [if_pos (by rw [p_isScheme]; omega), if_pos (by rw [in0, i2l_toInt]; exact c1)]
    exact ⟨_, _, _, rfl, rfl, h0, f1, f2⟩
