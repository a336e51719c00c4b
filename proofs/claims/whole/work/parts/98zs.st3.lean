/-! PURE: the start: the house -/
def LPl (L : List (Nat × Nat × Nat)) (S : jM) : Prop := ∀ q ∈ L, jR S q.1 q.2.1 = some q.2.2
theorem LPl.fb {L : List (Nat × Nat × Nat)} {S S' : jM} {n : Nat} (h : LPl L S) (hF : FB n S S') (hn : ∀ q ∈ L, q.2.1 < n) : LPl L S' := fun q hq => ((hF q.2.1 (hn q hq)).1 q.1).trans (h q hq)
theorem LPl.sR {L : List (Nat × Nat × Nat)} {S : jM} {f a : Nat} {v : Option Nat} (h : LPl L S) (hn : ∀ q ∈ L, q.2.1 ≠ a) : LPl L (jsR S f a v) := fun q hq => by
  have := hn q hq
  simp only [m_I_sI, m_L_sI, m_R_sI, m_AI_sI, m_AL_sI, m_AD_sI, m_AR_sI, m_n_sI, m_I_sL, m_L_sL, m_R_sL, m_AI_sL, m_AL_sL, m_AD_sL, m_AR_sL, m_n_sL, m_I_sR, m_L_sR, m_R_sR, m_AI_sR, m_AL_sR, m_AD_sR, m_AR_sR, m_n_sR, m_I_rI, m_L_rI, m_R_rI, m_AI_rI, m_AL_rI, m_AD_rI, m_AR_rI, m_n_rI, m_I_rL, m_L_rL, m_R_rL, m_AI_rL, m_AL_rL, m_AD_rL, m_AR_rL, m_n_rL, m_I_rD, m_L_rD, m_R_rD, m_AI_rD, m_AL_rD, m_AD_rD, m_AR_rD, m_n_rD, m_I_rR, m_L_rR, m_R_rR, m_AI_rR, m_AL_rR, m_AD_rR, m_AR_rR, m_n_rR, this, and_false, if_false]
  exact h q hq
theorem LPl.new {L : List (Nat × Nat × Nat)} {S : jM} (h : LPl L S) (hn : ∀ q ∈ L, q.2.1 ≠ jn S) : LPl L (jnew S) := fun q hq => by
  rw [nw_R, if_neg (hn q hq)]
  exact h q hq
theorem k14_pay : (List.range 201).all (fun j => decide (jK (2196 + j) = if j = 0 then 20 else 14)) = true := by decide +kernel
theorem kpay {b : Nat} (h1 : 2196 ≤ b) (h2 : b < 2397) : jK b = if b = 2196 then 20 else 14 := by
  have := List.all_eq_true.mp k14_pay (b - 2196) (List.mem_range.mpr (by omega))
  rw [show 2196 + (b - 2196) = b from by omega] at this
  have := of_decide_eq_true this
  rw [this]
  by_cases c : b = 2196
  · rw [if_pos c, if_pos (by omega)]
  · rw [if_neg c, if_neg (by omega)]
theorem rows_ok {S : jM} (hn : jn S = 2196) : jMrows S ((200 : Int32)).toNatClampNeg ((14 : Int32)).toNatClampNeg = true := by
  unfold jMrows
  rw [hn]
  decide +kernel
theorem QO.newM {L : List (Nat × Nat)} {w : Nat → Int32} {S0 S : jM} (h : QO 0 2196 L w S0 S) : QO 0 2397 L w S0 (jnewM S 200) ∧ FB 2196 S (jnewM S 200) ∧ KR 2196 2397 (jnewM S 200) := by
  obtain ⟨a1, a2, a3, a4, a5, a6⟩ := h
  have fb : FB 2196 S (jnewM S 200) := fun b hb => by
    have e : ¬ jn S ≤ b := by omega
    have e2 : ¬ b = jn S := by omega
    have e' : ¬ S.1 ≤ b := e
    have e2' : ¬ b = S.1 := e2
    refine ⟨fun f => ?_, ?_, fun f => ?_⟩
    · show (if S.1 ≤ b then none else jR S f b) = _
      rw [if_neg e']
    · show (if b = S.1 then (fun i => if i < 200 then some (S.1 + 1 + i) else none) else if S.1 ≤ b then (fun _ => none) else jAR S b) = _
      rw [if_neg e2', if_neg e']
    · show (if S.1 ≤ b then 0 else jI S f b) = _
      rw [if_neg e']
  have s1 : S.1 = 2196 := a1
  refine ⟨⟨?_, fun b hb h0 h2 => ?_, a3.trans (fb.le (by omega)), fun q hq => ((fb 0 (by omega)).1 q.1).trans (a4 q hq), by omega, fun g => ((fb 0 (by omega)).2.2 g).trans (a6 g)⟩, fb, fun b h1 h2 => ?_⟩
  · show S.1 + (200 + 1) = 2397
    rw [s1]
  · have hb : b < 2397 := by
      have : jn (jnewM S 200) = S.1 + (200 + 1) := rfl
      rw [this, s1] at hb
      exact hb
    by_cases c : 2196 ≤ b
    · have c' : S.1 ≤ b := by omega
      have hk := kpay c hb
      have h6 : jK b ≠ 6 := by rw [hk]; split <;> decide
      have h1 : jK b ≠ 1 := by rw [hk]; split <;> decide
      refine ⟨fun f => ?_, ?_, ?_, ?_⟩
      · show (if S.1 ≤ b then 0 else jI S f b) = _
        rw [if_pos c', iv_0 h6 h1]
      · show (if S.1 ≤ b then (fun _ => 0) else jAI S b) = _
        rw [if_pos c']
      · show (if S.1 ≤ b then (fun _ => 0) else jAL S b) = _
        rw [if_pos c']
      · show (if S.1 ≤ b then (fun _ => 0) else jAD S b) = _
        rw [if_pos c']
    · have c' : ¬ S.1 ≤ b := by omega
      obtain ⟨g1, g2, g3, g4⟩ := a2 b (by omega) h0 h2
      refine ⟨fun f => ?_, ?_, ?_, ?_⟩
      · show (if S.1 ≤ b then 0 else jI S f b) = _
        rw [if_neg c']; exact g1 f
      · show (if S.1 ≤ b then (fun _ => 0) else jAI S b) = _
        rw [if_neg c']; exact g2
      · show (if S.1 ≤ b then (fun _ => 0) else jAL S b) = _
        rw [if_neg c']; exact g3
      · show (if S.1 ≤ b then (fun _ => 0) else jAD S b) = _
        rw [if_neg c']; exact g4
  · have hk := kpay h1 h2
    by_cases c : b = 2196
    · rw [if_pos c] at hk
      refine ⟨fun z => ?_, fun z => ?_, fun z => ?_, fun z => ?_, fun z => ?_, fun z => ?_, fun z => ?_, fun z => ?_, fun z => ?_, fun _ i hi => ?_⟩ <;> first | exact absurd z (by omega) | skip
      show (if b = S.1 then (fun i => if i < 200 then some (S.1 + 1 + i) else none) else if S.1 ≤ b then (fun _ => none) else jAR S b) i = _
      rw [if_pos (by omega), s1, c]
      show (if i < 200 then some (2196 + 1 + i) else none) = _
      rw [if_pos hi]
    · rw [if_neg c] at hk
      exact kl_a hk (by omega)
theorem i_h {S : jM} (hE : EI S) (hn : jn S = 0) : ∃ S', f_X11_init 0 (jnew S) = some S' ∧ jn S' = 2398 ∧ EI S' ∧ KR 1 2398 S' ∧
    (∀ q ∈ [(85, 2397), (80, 2196), (78, 2177), (77, 2124), (76, 2071), (75, 2018), (74, 811), (73, 618), (72, 608), (71, 607), (70, 605), (69, 1)], jR S' q.1 0 = some q.2) ∧
    LPl [(35, 1, 4), (33, 1, 3), (32, 1, 2), (36, 608, 609), (29, 607, 617), (28, 607, 616), (25, 607, 610), (24, 607, 608), (61, 811, 817), (63, 811, 816), (59, 811, 815), (58, 811, 814), (57, 811, 813), (56, 811, 812), (55, 811, 1)] S' ∧ ∀ f, jI S' f 0 = if f = 84 then -1 else if f = 83 then 50 else 0 := by
  have h0 : QO 0 1 [] (fun _ => 0) S (jnew S) := by
    have := q0 hE (by rw [hn, k_0]; decide) (by rw [hn, k_0]; decide)
    rw [hn] at this
    exact this
  have n0 := h0.1
  unfold f_X11_init f_X11_init_0
  rw [n0]
  generalize jnew S = S0 at *
  -- the register
  obtain ⟨S1, e1, b1, b2, b3, b4, b5⟩ := i_r h0.2.1 n0
  have h1 : QO 0 605 [(69, 1)] (fun _ => 0) S (jsR S1 69 0 (some 1)) := (h0.sub b1 b2 b3 (by omega)).sR (by simp)
  have hK1 : KR 1 605 (jsR S1 69 0 (some 1)) := b4.sR (.inl (by omega))
  have hL1 : LPl [(35, 1, 4), (33, 1, 3), (32, 1, 2)] (jsR S1 69 0 (some 1)) := LPl.sR (fun q hq => by
    simp only [List.mem_cons, List.not_mem_nil, or_false] at hq
    rcases hq with hq | hq | hq <;> subst hq
    · exact b5 (35, 4) (by simp)
    · exact b5 (33, 3) (by simp)
    · exact b5 (32, 2) (by simp)) (by simp)
  have n1 := h1.1
  rw [if_pos k_1, if_pos (by omega), jlt, jn_new, n0, if_pos (by omega), e1, obt, b1, if_pos (by omega), if_pos (by omega), if_pos k_0, jlt, n1]
  generalize jsR S1 69 0 (some 1) = S2 at *
  clear e1 b1 b2 b3 b4 b5 S1
  -- the desk
  obtain ⟨S1, e1, b1, b2, b3, b4⟩ := i_v h1.2.1 (by rw [n1]; exact k_605)
  rw [n1] at e1 b1 b3 b4
  have h2 : QO 0 607 [(70, 605), (69, 1)] (fun _ => 0) S (jsR S1 70 0 (some 605)) := (h1.sub b1 b2 b3 (by omega)).sR (by simp)
  have hK2 : KR 1 607 (jsR S1 70 0 (some 605)) := ((hK1.fb b3).cat b4).sR (.inl (by omega))
  have hL2 := (hL1.fb b3 (by simp)).sR (f := 70) (a := 0) (v := some 605) (by simp)
  have n2 := h2.1
  rw [if_pos k_605, if_pos (by omega), jlt, jn_new, n1, if_pos (by omega), e1, obt, b1, if_pos (by omega), if_pos (by omega), jlt, n2]
  generalize jsR S1 70 0 (some 605) = S3 at *
  clear e1 b1 b2 b3 b4 S1
  -- the parser
  obtain ⟨S1, e1, b1, b2, b3, b4, b5, b6⟩ := i_pa h2.2.1 n2
  have h3 : QO 0 618 [(71, 607), (70, 605), (69, 1)] (fun _ => 0) S (jsR S1 71 0 (some 607)) := (h2.sub b1 b2 b3 (by omega)).sR (by simp)
  have hK3 : KR 1 618 (jsR S1 71 0 (some 607)) := ((hK2.fb b3).cat b4).sR (.inl (by omega))
  have hL3 := (hL2.fb b3 (by simp)).sR (f := 71) (a := 0) (v := some 607) (by simp)
  have hP3 : LPl [(36, 608, 609), (29, 607, 617), (28, 607, 616), (25, 607, 610), (24, 607, 608)] (jsR S1 71 0 (some 607)) := LPl.sR (fun q hq => by
    simp only [List.mem_cons, List.not_mem_nil, or_false] at hq
    rcases hq with hq | hq | hq | hq | hq <;> subst hq
    · exact b5
    · exact b6 (29, 617) (by simp)
    · exact b6 (28, 616) (by simp)
    · exact b6 (25, 610) (by simp)
    · exact b6 (24, 608) (by simp)) (by simp)
  have n3 := h3.1
  rw [if_pos k_607, if_pos (by omega), jlt, jn_new, n2, if_pos (by omega), e1, obt, b1, if_pos (by omega), if_pos (by omega), jlt, n3]
  generalize jsR S1 71 0 (some 607) = S4 at *
  clear e1 b1 b2 b3 b4 b5 b6 S1
  -- the tape, once more
  have f71 : jR S4 71 0 = some 607 := h3.2.2.2.1 (71, 607) (by simp)
  have f24 : jR S4 24 607 = some 608 := hP3 (24, 607, 608) (by simp)
  have h4 : QO 0 618 [(72, 608), (71, 607), (70, 605), (69, 1)] (fun _ => 0) S (jsR S4 72 0 (some 608)) := h3.sR (by simp)
  have hK4 := hK3.sR (f := 72) (a := 0) (v := some 608) (.inl (by omega))
  have hL4 := hL3.sR (f := 72) (a := 0) (v := some 608) (by simp)
  have hP4 := hP3.sR (f := 72) (a := 0) (v := some 608) (by simp)
  have n4 := h4.1
  rw [if_pos (by omega), f71, obt, if_pos (by omega), if_pos k_607, f24, obt, if_pos (by omega), jlt, n4]
  generalize jsR S4 72 0 (some 608) = S5 at *
  -- the texts
  have h5 : QO 0 619 [(73, 618), (72, 608), (71, 607), (70, 605), (69, 1)] (fun _ => 0) S (jsR (jnew S5) 73 0 (some 618)) := h4.arr (by rw [k_618]; decide) (by rw [k_618]; decide) (by simp)
  have hK5 := (hK4.new (by omega)).sR (f := 73) (a := 0) (v := some 618) (.inl (by omega))
  have hL5 := (hL4.new (by rw [n4]; simp)).sR (f := 73) (a := 0) (v := some 618) (by simp)
  have hP5 := (hP4.new (by rw [n4]; simp)).sR (f := 73) (a := 0) (v := some 618) (by simp)
  have n5 := h5.1
  rw [if_pos k_618, if_pos (by rw [ln_618]; rfl), if_pos (by omega), jlt, if_pos (by rw [jn_new]; omega), jlt]
  generalize jsR (jnew S5) 73 0 (some 618) = S6 at *
  obtain ⟨S7, e7a, c1, c2, c3, c4, c5⟩ := l_t (g := 1) 32 1099968 0 S6 rfl (by omega) h5.2.1 (h5.2.2.2.1 (73, 618) (by simp)) (fun j hj => absurd hj (Nat.not_lt_zero j)) (fun b h1 h2 => by omega)
  have e7 : f_X11_init_61 1 (1099968 + 32) 0 1 0 S6 = f_X11_init_61 1 1099968 0 1 (nI 32) S7 := e7a
  have h6 : QO 0 811 [(73, 618), (72, 608), (71, 607), (70, 605), (69, 1)] (fun _ => 0) S S7 := by
    obtain ⟨a1, a2, a3, a4, a5, a6⟩ := h5
    exact ⟨by omega, c2, a3.trans (c3.le (by omega)), fun q hq => ((c3 0 (by omega)).1 q.1).trans (a4 q hq), by omega, fun g => ((c3 0 (by omega)).2.2 g).trans (a6 g)⟩
  have hK6 : KR 1 811 S7 := ((hK5.fb c3).cat (KR.one (by
    refine ⟨fun z => ?_, fun z => ?_, fun z => ?_, fun z => ?_, fun z => ?_, fun z => ?_, fun z => ?_, fun z => ?_, fun _ i hi => c4 i hi, fun z => ?_⟩ <;> rw [k_618] at z <;> exact absurd z (by decide)))).cat c5
  have hL6 := hL5.fb c3 (by simp)
  have hP6 := hP5.fb c3 (by simp)
  have n6 := h6.1
  have f73 : jR S7 73 0 = some 618 := h6.2.2.2.1 (73, 618) (by simp)
  rw [show (1100000 : Nat) = 1099968 + 32 from rfl, e7, show (1099968 : Nat) = 1099967 + 1 from rfl, f_X11_init_61, n6, if_pos (by omega), if_pos k_0, f73, obt, if_pos (by omega), if_pos k_618, if_pos (by rw [ln_618]; decide)]
  clear e7 e7a c1 c2 c3 c4 c5 h5 hK5 hL5 hP5 n5 h4 hK4 hL4 hP4 n4 S6
  -- the worker
  obtain ⟨S1, e1, b1, b2, b3, b4, b5⟩ := i_k h6.2.1 n6
  have h7 : QO 0 2018 [(74, 811), (73, 618), (72, 608), (71, 607), (70, 605), (69, 1)] (fun _ => 0) S (jsR S1 74 0 (some 811)) := (h6.sub b1 b2 b3 (by omega)).sR (by simp)
  have hK7 : KR 1 2018 (jsR S1 74 0 (some 811)) := ((hK6.fb b3).cat b4).sR (.inl (by omega))
  have hL7 := (hL6.fb b3 (by simp)).sR (f := 74) (a := 0) (v := some 811) (by simp)
  have hP7 := (hP6.fb b3 (by simp)).sR (f := 74) (a := 0) (v := some 811) (by simp)
  have hW7 : LPl [(61, 811, 817), (63, 811, 816), (59, 811, 815), (58, 811, 814), (57, 811, 813), (56, 811, 812), (55, 811, 1)] (jsR S1 74 0 (some 811)) := LPl.sR (fun q hq => by
    simp only [List.mem_cons, List.not_mem_nil, or_false] at hq
    rcases hq with hq | hq | hq | hq | hq | hq | hq <;> subst hq
    · exact b5 (61, 817) (by simp)
    · exact b5 (63, 816) (by simp)
    · exact b5 (59, 815) (by simp)
    · exact b5 (58, 814) (by simp)
    · exact b5 (57, 813) (by simp)
    · exact b5 (56, 812) (by simp)
    · exact b5 (55, 1) (by simp)) (by simp)
  have n7 := h7.1
  rw [if_pos k_811, if_pos (by omega), jlt, jn_new, n6, if_pos (by omega), e1, obt, b1, if_pos (by omega), if_pos (by omega), jlt, n7]
  generalize jsR S1 74 0 (some 811) = S8 at *
  clear e1 b1 b2 b3 b4 b5 S1
  -- a case
  obtain ⟨S1, e1, b1, b2, b3, b4⟩ := i_c h7.2.1 (by rw [n7]; exact .inl rfl)
  rw [n7] at e1 b1 b3 b4
  have h8 : QO 0 2071 [(75, 2018), (74, 811), (73, 618), (72, 608), (71, 607), (70, 605), (69, 1)] (fun _ => 0) S (jsR S1 75 0 (some 2018)) := (h7.sub b1 b2 b3 (by omega)).sR (by simp)
  have hK8 : KR 1 2071 (jsR S1 75 0 (some 2018)) := ((hK7.fb b3).cat b4).sR (.inl (by omega))
  have hL8 := (hL7.fb b3 (by simp)).sR (f := 75) (a := 0) (v := some 2018) (by simp)
  have hP8 := (hP7.fb b3 (by simp)).sR (f := 75) (a := 0) (v := some 2018) (by simp)
  have hW8 := (hW7.fb b3 (by simp)).sR (f := 75) (a := 0) (v := some 2018) (by simp)
  have n8 := h8.1
  rw [if_pos k_2018, if_pos (by omega), jlt, jn_new, n7, if_pos (by omega), e1, obt, b1, if_pos (by omega), if_pos (by omega), jlt, n8]
  generalize jsR S1 75 0 (some 2018) = S9 at *
  clear e1 b1 b2 b3 b4 S1
  -- a case
  obtain ⟨S1, e1, b1, b2, b3, b4⟩ := i_c h8.2.1 (by rw [n8]; exact .inr (.inl rfl))
  rw [n8] at e1 b1 b3 b4
  have h9 : QO 0 2124 [(76, 2071), (75, 2018), (74, 811), (73, 618), (72, 608), (71, 607), (70, 605), (69, 1)] (fun _ => 0) S (jsR S1 76 0 (some 2071)) := (h8.sub b1 b2 b3 (by omega)).sR (by simp)
  have hK9 : KR 1 2124 (jsR S1 76 0 (some 2071)) := ((hK8.fb b3).cat b4).sR (.inl (by omega))
  have hL9 := (hL8.fb b3 (by simp)).sR (f := 76) (a := 0) (v := some 2071) (by simp)
  have hP9 := (hP8.fb b3 (by simp)).sR (f := 76) (a := 0) (v := some 2071) (by simp)
  have hW9 := (hW8.fb b3 (by simp)).sR (f := 76) (a := 0) (v := some 2071) (by simp)
  have n9 := h9.1
  rw [if_pos k_2071, if_pos (by omega), jlt, jn_new, n8, if_pos (by omega), e1, obt, b1, if_pos (by omega), if_pos (by omega), jlt, n9]
  generalize jsR S1 76 0 (some 2071) = S10 at *
  clear e1 b1 b2 b3 b4 S1
  -- a case
  obtain ⟨S1, e1, b1, b2, b3, b4⟩ := i_c h9.2.1 (by rw [n9]; exact .inr (.inr rfl))
  rw [n9] at e1 b1 b3 b4
  have h10 : QO 0 2177 [(77, 2124), (76, 2071), (75, 2018), (74, 811), (73, 618), (72, 608), (71, 607), (70, 605), (69, 1)] (fun _ => 0) S (jsR S1 77 0 (some 2124)) := (h9.sub b1 b2 b3 (by omega)).sR (by simp)
  have hK10 : KR 1 2177 (jsR S1 77 0 (some 2124)) := ((hK9.fb b3).cat b4).sR (.inl (by omega))
  have hL10 := (hL9.fb b3 (by simp)).sR (f := 77) (a := 0) (v := some 2124) (by simp)
  have hP10 := (hP9.fb b3 (by simp)).sR (f := 77) (a := 0) (v := some 2124) (by simp)
  have hW10 := (hW9.fb b3 (by simp)).sR (f := 77) (a := 0) (v := some 2124) (by simp)
  have n10 := h10.1
  rw [if_pos k_2124, if_pos (by omega), jlt, jn_new, n9, if_pos (by omega), e1, obt, b1, if_pos (by omega), if_pos (by omega), jlt, n10]
  generalize jsR S1 77 0 (some 2124) = S11 at *
  clear e1 b1 b2 b3 b4 S1
  -- the awards
  have h11 : QO 0 2178 [(78, 2177), (77, 2124), (76, 2071), (75, 2018), (74, 811), (73, 618), (72, 608), (71, 607), (70, 605), (69, 1)] (fun _ => 0) S (jsR (jnew S11) 78 0 (some 2177)) := h10.arr (by rw [k_2177]; decide) (by rw [k_2177]; decide) (by simp)
  have hK11 := (hK10.new (by omega)).sR (f := 78) (a := 0) (v := some 2177) (.inl (by omega))
  have hL11 := (hL10.new (by rw [n10]; simp)).sR (f := 78) (a := 0) (v := some 2177) (by simp)
  have hP11 := (hP10.new (by rw [n10]; simp)).sR (f := 78) (a := 0) (v := some 2177) (by simp)
  have hW11 := (hW10.new (by rw [n10]; simp)).sR (f := 78) (a := 0) (v := some 2177) (by simp)
  have n11 := h11.1
  rw [if_pos k_2177, if_pos (by rw [ln_2177]; rfl), if_pos (by omega), jlt, if_pos (by rw [jn_new]; omega), jlt]
  generalize jsR (jnew S11) 78 0 (some 2177) = S12 at *
  obtain ⟨S13, e7a, c1, c2, c3, c4, c5⟩ := l_w 6 1099994 0 S12 rfl (by omega) h11.2.1 (h11.2.2.2.1 (78, 2177) (by simp)) (fun j hj => absurd hj (Nat.not_lt_zero j)) (fun b h1 h2 => by omega)
  have e7 : f_X11_init_145 1 (1099994 + 6) 0 0 S12 = f_X11_init_145 1 1099994 0 (nI 6) S13 := e7a
  have h12 : QO 0 2196 [(78, 2177), (77, 2124), (76, 2071), (75, 2018), (74, 811), (73, 618), (72, 608), (71, 607), (70, 605), (69, 1)] (fun _ => 0) S S13 := by
    obtain ⟨a1, a2, a3, a4, a5, a6⟩ := h11
    exact ⟨by omega, c2, a3.trans (c3.le (by omega)), fun q hq => ((c3 0 (by omega)).1 q.1).trans (a4 q hq), by omega, fun g => ((c3 0 (by omega)).2.2 g).trans (a6 g)⟩
  have hK12 : KR 1 2196 S13 := ((hK11.fb c3).cat (KR.one (by
    refine ⟨fun z => ?_, fun z => ?_, fun z => ?_, fun z => ?_, fun z => ?_, fun z => ?_, fun z => ?_, fun _ i hi => c4 i hi, fun z => ?_, fun z => ?_⟩ <;> rw [k_2177] at z <;> exact absurd z (by decide)))).cat c5
  have hL12 := hL11.fb c3 (by simp)
  have hP12 := hP11.fb c3 (by simp)
  have hW12 := hW11.fb c3 (by simp)
  have n12 := h12.1
  have f78 : jR S13 78 0 = some 2177 := h12.2.2.2.1 (78, 2177) (by simp)
  have c200 : ((200 : Int32)).toNatClampNeg = 200 := by decide
  rw [show (1100000 : Nat) = 1099994 + 6 from rfl, e7, show (1099994 : Nat) = 1099993 + 1 from rfl, f_X11_init_145, if_pos (by omega), if_pos k_0, f78, obt, if_pos (by omega), if_pos k_2177, if_pos (by rw [ln_2177]; decide), if_pos (rows_ok n12), c200, if_pos (by omega), jlt, n12]
  clear e7 e7a c1 c2 c3 c4 c5 h11 hK11 hL11 hP11 hW11 n11 S12
  obtain ⟨h13, c3, c5⟩ := h12.newM
  have h14 : QO 0 2397 [(80, 2196), (78, 2177), (77, 2124), (76, 2071), (75, 2018), (74, 811), (73, 618), (72, 608), (71, 607), (70, 605), (69, 1)] (fun g => if g = 84 then -1 else if g = 83 then 50 else 0) S (jsI (jsI (jsR (jnewM S13 200) 80 0 (some 2196)) 83 0 50) 84 0 (-1)) := ((h13.sR (f := 80) (x := 2196) (by simp)).sI (f := 83) (x := 50) (.inl rfl)).sI (f := 84) (x := -1) (.inl rfl)
  have hK14 : KR 1 2397 (jsI (jsI (jsR (jnewM S13 200) 80 0 (some 2196)) 83 0 50) 84 0 (-1)) := ((hK12.fb c3).cat c5).sR (f := 80) (a := 0) (v := some 2196) (.inl (by omega))
  have hL14 : LPl [(35, 1, 4), (33, 1, 3), (32, 1, 2)] (jsI (jsI (jsR (jnewM S13 200) 80 0 (some 2196)) 83 0 50) 84 0 (-1)) := (hL12.fb c3 (by simp)).sR (f := 80) (a := 0) (v := some 2196) (by simp)
  have hP14 : LPl [(36, 608, 609), (29, 607, 617), (28, 607, 616), (25, 607, 610), (24, 607, 608)] (jsI (jsI (jsR (jnewM S13 200) 80 0 (some 2196)) 83 0 50) 84 0 (-1)) := (hP12.fb c3 (by simp)).sR (f := 80) (a := 0) (v := some 2196) (by simp)
  have hW14 : LPl [(61, 811, 817), (63, 811, 816), (59, 811, 815), (58, 811, 814), (57, 811, 813), (56, 811, 812), (55, 811, 1)] (jsI (jsI (jsR (jnewM S13 200) 80 0 (some 2196)) 83 0 50) 84 0 (-1)) := (hW12.fb c3 (by simp)).sR (f := 80) (a := 0) (v := some 2196) (by simp)
  have n14 := h14.1
  have m1 : jn (jnewM S13 200) = 2397 := h13.1
  have m2 : jn (jsR (jnewM S13 200) 80 0 (some 2196)) = 2397 := m1
  have m3 : jn (jsI (jsR (jnewM S13 200) 80 0 (some 2196)) 83 0 50) = 2397 := m1
  rw [m1, if_pos (by omega), jlt, m2, if_pos (by omega), jlt, m3, if_pos (by omega), jlt, n14]
  generalize jsI (jsI (jsR (jnewM S13 200) 80 0 (some 2196)) 83 0 50) 84 0 (-1) = S14 at *
  -- the run's list
  have h15 : QO 0 2398 [(85, 2397), (80, 2196), (78, 2177), (77, 2124), (76, 2071), (75, 2018), (74, 811), (73, 618), (72, 608), (71, 607), (70, 605), (69, 1)] (fun g => if g = 84 then -1 else if g = 83 then 50 else 0) S (jsR (jnew S14) 85 0 (some 2397)) := h14.arr (by rw [k_2397]; decide) (by rw [k_2397]; decide) (by simp)
  have hK15 := ((hK14.new (by omega)).sR (f := 85) (a := 0) (v := some 2397) (.inl (by omega))).cat (KR.one (b := 2397) (kl_a k_2397 (by omega)))
  have hL15 := (hL14.new (by rw [n14]; simp)).sR (f := 85) (a := 0) (v := some 2397) (by simp)
  have hP15 := (hP14.new (by rw [n14]; simp)).sR (f := 85) (a := 0) (v := some 2397) (by simp)
  have hW15 := (hW14.new (by rw [n14]; simp)).sR (f := 85) (a := 0) (v := some 2397) (by simp)
  rw [if_pos k_2397, if_pos (by rw [ln_2397]; rfl), if_pos (by omega), jlt, if_pos (by rw [jn_new]; omega), jlt, if_pos h15.1]
  refine ⟨_, rfl, h15.1, h15.2.1, hK15, h15.2.2.2.1, fun q hq => ?_, h15.2.2.2.2.2⟩
  have hq' : q ∈ [(35, 1, 4), (33, 1, 3), (32, 1, 2)] ++ ([(36, 608, 609), (29, 607, 617), (28, 607, 616), (25, 607, 610), (24, 607, 608)] ++ [(61, 811, 817), (63, 811, 816), (59, 811, 815), (58, 811, 814), (57, 811, 813), (56, 811, 812), (55, 811, 1)]) := hq
  rcases List.mem_append.mp hq' with hq | hq
  · exact hL15 q hq
  · rcases List.mem_append.mp hq with hq | hq
    · exact hP15 q hq
    · exact hW15 q hq
