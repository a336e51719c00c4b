/-! PURE: the start: the larger constructors -/
theorem i_c {S : jM} (hE : EI S) (hF : isF (jn S)) : IE S 53 (f_X1_init (jn S) (jnew S)) := by
  have hk := hF.k
  obtain ⟨⟨k1, l1⟩, ⟨k2, l2⟩, ⟨k3, l3⟩, k4, l4⟩ := kd_case hk
  have k2 : jK (jn S + 1 + 1) = 13 := k2
  have l2 : jLen (jn S + 1 + 1) = 24 := l2
  have k3 : jK (jn S + 1 + 1 + 1) = 13 := k3
  have l3 : jLen (jn S + 1 + 1 + 1) = 24 := l3
  have k4 : jK (jn S + 1 + 1 + 1 + 1) = 19 := k4
  have l4 : jLen (jn S + 1 + 1 + 1 + 1) = 24 := l4
  have h0 := q0I (g := 8) hE (.inr ⟨rfl, hk⟩)
  have hn0 : jn (jnew S) = jn S + 1 := jn_new S
  have n0 := h0.1
  unfold f_X1_init f_X1_init_0
  rw [hn0, if_pos (by omega), if_pos hk, jlt, n0]
  generalize jsI (jnew S) 8 (jn S) (-1) = S0 at *
  have h1 : QO (jn S) (jn S + 1 + 1) [(12, jn S + 1)] (fun f => if f = 8 then -1 else 0) S (jsR (jnew S0) 12 (jn S) (some (jn S + 1))) := h0.arr (f := 12) (by rw [k1]; decide) (by rw [k1]; decide) (by simp)
  have n1 := h1.1
  rw [if_pos k1, if_pos (by rw [l1]; rfl), if_pos (by omega), jlt, if_pos (by rw [jn_new]; omega), jlt, n1]
  generalize jsR (jnew S0) 12 (jn S) (some (jn S + 1)) = S1 at *
  have h2 : QO (jn S) (jn S + 1 + 1 + 1) [(13, jn S + 1 + 1), (12, jn S + 1)] (fun f => if f = 8 then -1 else 0) S (jsR (jnew S1) 13 (jn S) (some (jn S + 1 + 1))) := h1.arr (f := 13) (by rw [k2]; decide) (by rw [k2]; decide) (by simp)
  have n2 := h2.1
  rw [if_pos k2, if_pos (by rw [l2]; rfl), if_pos (by omega), jlt, if_pos (by rw [jn_new]; omega), jlt, n2]
  generalize jsR (jnew S1) 13 (jn S) (some (jn S + 1 + 1)) = S2 at *
  have h3 : QO (jn S) (jn S + 1 + 1 + 1 + 1) [(15, jn S + 1 + 1 + 1), (13, jn S + 1 + 1), (12, jn S + 1)] (fun f => if f = 8 then -1 else 0) S (jsR (jnew S2) 15 (jn S) (some (jn S + 1 + 1 + 1))) := h2.arr (f := 15) (by rw [k3]; decide) (by rw [k3]; decide) (by simp)
  have n3 := h3.1
  rw [if_pos k3, if_pos (by rw [l3]; rfl), if_pos (by omega), jlt, if_pos (by rw [jn_new]; omega), jlt, n3]
  generalize jsR (jnew S2) 15 (jn S) (some (jn S + 1 + 1 + 1)) = S3 at *
  have h4 : QO (jn S) (jn S + 1 + 1 + 1 + 1 + 1) [(14, jn S + 1 + 1 + 1 + 1), (15, jn S + 1 + 1 + 1), (13, jn S + 1 + 1), (12, jn S + 1)] (fun f => if f = 8 then -1 else 0) S (jsR (jnew S3) 14 (jn S) (some (jn S + 1 + 1 + 1 + 1))) := h3.arr (f := 14) (by rw [k4]; decide) (by rw [k4]; decide) (by simp)
  have n4 := h4.1
  rw [if_pos k4, if_pos (by rw [l4]; rfl), if_pos (by omega), jlt, if_pos (by rw [jn_new]; omega), jlt]
  generalize jsR (jnew S3) 14 (jn S) (some (jn S + 1 + 1 + 1 + 1)) = S4 at *
  obtain ⟨a1, a2, a3, a4, a5, a6⟩ := h4
  have b1 := a4 (12, jn S + 1) (by simp)
  have b2 := a4 (13, jn S + 1 + 1) (by simp)
  have b3 := a4 (15, jn S + 1 + 1 + 1) (by simp)
  have b4 := a4 (14, jn S + 1 + 1 + 1 + 1) (by simp)
  obtain ⟨S5, e5, c1, c2, c3, c4, c5⟩ := l_c (a := jn S) hF 24 1099976 0 S4 rfl (by omega) a2 b4 (fun j hj => absurd hj (Nat.not_lt_zero j)) (fun b h1 h2 => by omega)
  have z0 : (0 : Int32) = nI 0 := rfl
  have b4' : jR S5 14 (jn S) = some (jn S + 4) := ((c3 (jn S) (by omega)).1 14).trans b4
  refine ⟨S5, ?_, by omega, c2, a3.trans (c3.le (by omega)), ?_⟩
  · rw [show (1100000 : Nat) = 1099976 + 24 from rfl, z0, e5, show (1099976 : Nat) = 1099975 + 1 from rfl, f_X1_init_44, if_pos (by omega), if_pos hk, b4', obt, if_pos (by omega), if_pos k4, if_pos (by rw [l4]; decide), if_pos (by omega)]
  · have g : ∀ f, jR S5 f (jn S) = jR S4 f (jn S) := (c3 (jn S) (by omega)).1
    refine (((((KR.one ?_).cat (KR.one (kl_a k1 (by omega)))).cat (KR.one (kl_a k2 (by omega)))).cat (KR.one (kl_a k3 (by omega)))).cat (KR.one ?_)).cat c5
    · refine ⟨fun z => ?_, fun z => ?_, fun z => ?_, fun z => ?_, fun _ => ⟨by rw [g]; exact b1, by rw [g]; exact b2, by rw [g]; exact b3, by rw [g]; exact b4⟩, fun z => ?_, fun z => ?_, fun z => ?_, fun z => ?_, fun z => ?_⟩ <;> exact absurd z (by omega)
    · refine ⟨fun z => ?_, fun z => ?_, fun z => ?_, fun z => ?_, fun z => ?_, fun _ i hi => ?_, fun z => ?_, fun z => ?_, fun z => ?_, fun z => ?_⟩ <;> first | exact absurd z (by omega) | skip
      rw [l4] at hi
      exact c4 i hi
theorem i_r {S : jM} (hE : EI S) (hn : jn S = 1) : ∃ S', f_X6_init 1 (jnew S) = some S' ∧ jn S' = 605 ∧ EI S' ∧ FB 1 S S' ∧ KR 1 605 S' ∧ ∀ q ∈ [(35, 4), (33, 3), (32, 2)], jR S' q.1 1 = some q.2 := by
  have h0 : QO 1 2 [] (fun _ => 0) S (jnew S) := by
    have := q0 hE (by rw [hn, k_1]; decide) (by rw [hn, k_1]; decide)
    rw [hn] at this
    exact this
  have n0 := h0.1
  unfold f_X6_init f_X6_init_0
  rw [n0]
  generalize jnew S = S0 at *
  have h1 : QO (1) (3) [(32, 2)] (fun _ => 0) S (jsR (jnew S0) 32 (1) (some (2))) := h0.arr (f := 32) (by rw [k_2]; decide) (by rw [k_2]; decide) (by simp)
  have n1 := h1.1
  rw [if_pos k_2, if_pos (by rw [ln_2]; rfl), if_pos (by omega), jlt, if_pos (by rw [jn_new]; omega), if_pos k_1, jlt, n1]
  generalize jsR (jnew S0) 32 (1) (some (2)) = S1 at *
  have h2 : QO (1) (4) [(33, 3), (32, 2)] (fun _ => 0) S (jsR (jnew S1) 33 (1) (some (3))) := h1.arr (f := 33) (by rw [k_3]; decide) (by rw [k_3]; decide) (by simp)
  have n2 := h2.1
  rw [if_pos k_3, if_pos (by rw [ln_3]; rfl), if_pos (by omega), jlt, if_pos (by rw [jn_new]; omega), jlt, n2]
  generalize jsR (jnew S1) 33 (1) (some (3)) = S2 at *
  have h3 : QO (1) (5) [(35, 4), (33, 3), (32, 2)] (fun _ => 0) S (jsR (jnew S2) 35 (1) (some (4))) := h2.arr (f := 35) (by rw [k_4]; decide) (by rw [k_4]; decide) (by simp)
  have n3 := h3.1
  rw [if_pos k_4, if_pos (by rw [ln_4]; rfl), if_pos (by omega), jlt, if_pos (by rw [jn_new]; omega), jlt]
  generalize jsR (jnew S2) 35 (1) (some (4)) = S3 at *
  obtain ⟨a1, a2, a3, a4, a5, a6⟩ := h3
  have b4 := a4 (35, 4) (by simp)
  obtain ⟨S5, e5, c1, c2, c3, c4, c5⟩ := l_f 200 1099800 0 S3 rfl (by omega) a2 b4 (fun j hj => absurd hj (Nat.not_lt_zero j)) (fun b h1 h2 => by omega)
  have z0 : (0 : Int32) = nI 0 := rfl
  have g : ∀ f, jR S5 f 1 = jR S3 f 1 := (c3 1 (by omega)).1
  have b4' : jR S5 35 1 = some 4 := (g 35).trans b4
  refine ⟨S5, ?_, by omega, c2, a3.trans (c3.le (by omega)), ?_, fun q hq => (g q.1).trans (a4 q hq)⟩
  · rw [show (1100000 : Nat) = 1099800 + 200 from rfl, z0, e5, show (1099800 : Nat) = 1099799 + 1 from rfl, f_X6_init_32, if_pos (by omega), if_pos k_1, b4', obt, if_pos (by omega), if_pos k_4, if_pos (by rw [ln_4]; decide), if_pos (by omega)]
  · refine ((((KR.one (kl_a k_1 (by omega))).cat (KR.one (kl_a k_2 (by omega)))).cat (KR.one (kl_a k_3 (by omega)))).cat (KR.one ?_)).cat c5
    refine ⟨fun z => ?_, fun z => ?_, fun z => ?_, fun z => ?_, fun z => ?_, fun z => ?_, fun _ i hi => c4 i hi, fun z => ?_, fun z => ?_, fun z => ?_⟩ <;> rw [k_4] at z <;> exact absurd z (by decide)
theorem i_ta {S : jM} (hE : EI S) (hn : jn S = 608) : ∃ S', f_X7_init 608 (jnew S) = some S' ∧ jn S' = 610 ∧ EI S' ∧ FB 608 S S' ∧ KR 608 610 S' ∧ jR S' 36 608 = some 609 := by
  have h0 : QO 608 609 [] (fun _ => 0) S (jnew S) := by
    have := q0 hE (by rw [hn, k_608]; decide) (by rw [hn, k_608]; decide)
    rw [hn] at this
    exact this
  have n0 := h0.1
  unfold f_X7_init f_X7_init_0
  rw [n0]
  generalize jnew S = S0 at *
  have h1 : QO (608) (610) [(36, 609)] (fun _ => 0) S (jsR (jnew S0) 36 (608) (some (609))) := h0.arr (f := 36) (by rw [k_609]; decide) (by rw [k_609]; decide) (by simp)
  have n1 := h1.1
  rw [if_pos k_609, if_pos (by rw [ln_609]; rfl), if_pos (by omega), jlt, if_pos (by rw [jn_new]; omega), if_pos k_608, jlt, n1]
  generalize jsR (jnew S0) 36 (608) (some (609)) = S1 at *
  obtain ⟨a1, a2, a3, a4, a5, a6⟩ := h1
  rw [if_pos (by omega)]
  exact ⟨S1, rfl, a1, a2, a3, (KR.one (kl_a k_608 (by omega))).cat (KR.one (kl_a k_609 (by omega))), a4 (36, 609) (by simp)⟩
theorem i_pa {S : jM} (hE : EI S) (hn : jn S = 607) : ∃ S', f_X4_init 607 (jnew S) = some S' ∧ jn S' = 618 ∧ EI S' ∧ FB 607 S S' ∧ KR 607 618 S' ∧ jR S' 36 608 = some 609 ∧ ∀ q ∈ [(29, 617), (28, 616), (25, 610), (24, 608)], jR S' q.1 607 = some q.2 := by
  have h0 : QO 607 608 [] (fun _ => 0) S (jnew S) := by
    have := q0 hE (by rw [hn, k_607]; decide) (by rw [hn, k_607]; decide)
    rw [hn] at this
    exact this
  have n0 := h0.1
  unfold f_X4_init f_X4_init_0
  rw [n0]
  generalize jnew S = S0 at *
  obtain ⟨S1, e1, b1, b2, b3, b4, b5⟩ := i_ta h0.2.1 n0
  have h1 := (h0.sub b1 b2 b3 (by omega)).sR (f := 24) (x := 608) (by simp)
  have b6 : jR (jsR S1 24 607 (some 608)) 36 608 = some 609 := b5
  have b7 : KR 608 610 (jsR S1 24 607 (some 608)) := b4.sR (.inl (by omega))
  have n1 := h1.1
  rw [if_pos k_608, if_pos (by omega), jlt, jn_new, n0, if_pos (by omega), e1, obt, b1, if_pos (by omega), if_pos (by omega), if_pos k_607, jlt, n1]
  generalize jsR S1 24 607 (some 608) = S2 at *
  have k_610' : jK (jn S2) = 6 := by rw [n1]; exact k_610
  obtain ⟨S3, e3, d1, d2, d3, d4⟩ := i_t h1.2.1 k_610'
  rw [n1] at e3 d1 d3 d4
  have h2 := (h1.sub d1 d2 d3 (by omega)).sR (f := 25) (x := 610) (by simp)
  have d5 : jR (jsR S3 25 607 (some 610)) 36 608 = some 609 := ((d3 608 (by omega)).1 36).trans b6
  have d6 : KR 608 616 (jsR S3 25 607 (some 610)) := ((b7.fb d3).cat d4).sR (.inl (by omega))
  have n2 : jn (jsR S3 25 607 (some 610)) = 616 := h2.1
  have h4 : QO 607 616 [(25, 610), (24, 608)] (fun _ => 0) S (jsR S3 25 607 (some 610)) := h2
  rw [if_pos k_610, if_pos (by omega), jlt, jn_new, n1, if_pos (by omega), e3, obt, d1, if_pos (by omega), if_pos (by omega), jlt, n2]
  generalize jsR S3 25 607 (some 610) = S4 at *
  have m5 : ∀ q, QO 607 617 q (fun _ => 0) S (jsR (jnew S4) 28 607 (some 616)) → jR (jsR (jnew S4) 28 607 (some 616)) 36 608 = some 609 ∧ KR 608 616 (jsR (jnew S4) 28 607 (some 616)) := fun _ _ => ⟨by show jR (jnew S4) 36 608 = _; rw [nw_R, if_neg (by omega)]; exact d5, (d6.new (by omega)).sR (.inl (by omega))⟩
  have h5 : QO (607) (617) [(28, 616), (25, 610), (24, 608)] (fun _ => 0) S (jsR (jnew S4) 28 (607) (some (616))) := h4.arr (f := 28) (by rw [k_616]; decide) (by rw [k_616]; decide) (by simp)
  have x5 := m5 _ h5
  clear m5
  have n5 := h5.1
  rw [if_pos k_616, if_pos (by rw [ln_616]; rfl), if_pos (by omega), jlt, if_pos (by rw [jn_new]; omega), jlt, n5]
  generalize jsR (jnew S4) 28 (607) (some (616)) = S5 at *
  have m6 : ∀ q, QO 607 618 q (fun _ => 0) S (jsR (jnew S5) 29 607 (some 617)) → jR (jsR (jnew S5) 29 607 (some 617)) 36 608 = some 609 ∧ KR 608 616 (jsR (jnew S5) 29 607 (some 617)) := fun _ _ => ⟨by show jR (jnew S5) 36 608 = _; rw [nw_R, if_neg (by omega)]; exact x5.1, (x5.2.new (by omega)).sR (.inl (by omega))⟩
  have h6 : QO (607) (618) [(29, 617), (28, 616), (25, 610), (24, 608)] (fun _ => 0) S (jsR (jnew S5) 29 (607) (some (617))) := h5.arr (f := 29) (by rw [k_617]; decide) (by rw [k_617]; decide) (by simp)
  have x6 := m6 _ h6
  clear m6
  have n6 := h6.1
  rw [if_pos k_617, if_pos (by rw [ln_617]; rfl), if_pos (by omega), jlt, if_pos (by rw [jn_new]; omega), jlt, n6]
  generalize jsR (jnew S5) 29 (607) (some (617)) = S6 at *
  obtain ⟨a1, a2, a3, a4, a5, a6⟩ := h6
  rw [if_pos (by omega)]
  exact ⟨S6, rfl, a1, a2, a3, (((KR.one (kl_a k_607 (by omega))).cat x6.2).cat (KR.one (kl_a k_616 (by omega)))).cat (KR.one (kl_a k_617 (by omega))), x6.1, a4⟩
theorem i_k {S : jM} (hE : EI S) (hn : jn S = 811) : ∃ S', f_X10_init 811 1 (jnew S) = some S' ∧ jn S' = 2018 ∧ EI S' ∧ FB 811 S S' ∧ KR 811 2018 S' ∧ ∀ q ∈ [(61, 817), (63, 816), (59, 815), (58, 814), (57, 813), (56, 812), (55, 1)], jR S' q.1 811 = some q.2 := by
  have h0 : QO 811 812 [] (fun _ => 0) S (jnew S) := by
    have := q0 hE (by rw [hn, k_811]; decide) (by rw [hn, k_811]; decide)
    rw [hn] at this
    exact this
  have n0 := h0.1
  unfold f_X10_init f_X10_init_0
  rw [n0]
  generalize jnew S = S00 at *
  have hh := h0.sR (f := 55) (x := 1) (by simp)
  have nh := hh.1
  rw [if_pos (by omega), if_pos k_811, jlt, nh]
  generalize jsR S00 55 811 (some 1) = S0 at *
  have h0 := hh
  have h1 : QO (811) (813) [(56, 812), (55, 1)] (fun _ => 0) S (jsR (jnew S0) 56 (811) (some (812))) := h0.arr (f := 56) (by rw [k_812]; decide) (by rw [k_812]; decide) (by simp)
  have n1 := h1.1
  rw [if_pos k_812, if_pos (by rw [ln_812]; rfl), if_pos (by omega), jlt, if_pos (by rw [jn_new]; omega), jlt, n1]
  generalize jsR (jnew S0) 56 (811) (some (812)) = S1 at *
  have h2 : QO (811) (814) [(57, 813), (56, 812), (55, 1)] (fun _ => 0) S (jsR (jnew S1) 57 (811) (some (813))) := h1.arr (f := 57) (by rw [k_813]; decide) (by rw [k_813]; decide) (by simp)
  have n2 := h2.1
  rw [if_pos k_813, if_pos (by rw [ln_813]; rfl), if_pos (by omega), jlt, if_pos (by rw [jn_new]; omega), jlt, n2]
  generalize jsR (jnew S1) 57 (811) (some (813)) = S2 at *
  have h3 : QO (811) (815) [(58, 814), (57, 813), (56, 812), (55, 1)] (fun _ => 0) S (jsR (jnew S2) 58 (811) (some (814))) := h2.arr (f := 58) (by rw [k_814]; decide) (by rw [k_814]; decide) (by simp)
  have n3 := h3.1
  rw [if_pos k_814, if_pos (by rw [ln_814]; rfl), if_pos (by omega), jlt, if_pos (by rw [jn_new]; omega), jlt, n3]
  generalize jsR (jnew S2) 58 (811) (some (814)) = S3 at *
  have h4 : QO (811) (816) [(59, 815), (58, 814), (57, 813), (56, 812), (55, 1)] (fun _ => 0) S (jsR (jnew S3) 59 (811) (some (815))) := h3.arr (f := 59) (by rw [k_815]; decide) (by rw [k_815]; decide) (by simp)
  have n4 := h4.1
  rw [if_pos k_815, if_pos (by rw [ln_815]; rfl), if_pos (by omega), jlt, if_pos (by rw [jn_new]; omega), jlt, n4]
  generalize jsR (jnew S3) 59 (811) (some (815)) = S4 at *
  have h5 : QO (811) (817) [(63, 816), (59, 815), (58, 814), (57, 813), (56, 812), (55, 1)] (fun _ => 0) S (jsR (jnew S4) 63 (811) (some (816))) := h4.arr (f := 63) (by rw [k_816]; decide) (by rw [k_816]; decide) (by simp)
  have n5 := h5.1
  rw [if_pos k_816, if_pos (by rw [ln_816]; rfl), if_pos (by omega), jlt, if_pos (by rw [jn_new]; omega), jlt, n5]
  generalize jsR (jnew S4) 63 (811) (some (816)) = S5 at *
  have h6 : QO (811) (818) [(61, 817), (63, 816), (59, 815), (58, 814), (57, 813), (56, 812), (55, 1)] (fun _ => 0) S (jsR (jnew S5) 61 (811) (some (817))) := h5.arr (f := 61) (by rw [k_817]; decide) (by rw [k_817]; decide) (by simp)
  have n6 := h6.1
  rw [if_pos k_817, if_pos (by rw [ln_817]; rfl), if_pos (by omega), jlt, if_pos (by rw [jn_new]; omega), jlt]
  generalize jsR (jnew S5) 61 (811) (some (817)) = S6 at *
  obtain ⟨a1, a2, a3, a4, a5, a6⟩ := h6
  have b4 := a4 (61, 817) (by simp)
  obtain ⟨S7, e5, c1, c2, c3, c4, c5⟩ := l_p 600 1099400 0 S6 rfl (by omega) a2 b4 (fun j hj => absurd hj (Nat.not_lt_zero j)) (fun b h1 h2 => by omega)
  have z0 : (0 : Int32) = nI 0 := rfl
  have g : ∀ f, jR S7 f 811 = jR S6 f 811 := (c3 811 (by omega)).1
  have b4' : jR S7 61 811 = some 817 := (g 61).trans b4
  refine ⟨S7, ?_, by omega, c2, a3.trans (c3.le (by omega)), ?_, fun q hq => (g q.1).trans (a4 q hq)⟩
  · rw [show (1100000 : Nat) = 1099400 + 600 from rfl, z0, e5, show (1099400 : Nat) = 1099399 + 1 from rfl, f_X10_init_66, if_pos (by omega), if_pos k_811, b4', obt, if_pos (by omega), if_pos k_817, if_pos (by rw [ln_817]; decide), if_pos (by omega)]
  · refine (((((((KR.one (kl_a k_811 (by omega))).cat (KR.one (kl_a k_812 (by omega)))).cat (KR.one (kl_a k_813 (by omega)))).cat (KR.one (kl_a k_814 (by omega)))).cat (KR.one (kl_a k_815 (by omega)))).cat (KR.one (kl_a k_816 (by omega)))).cat (KR.one ?_)).cat c5
    refine ⟨fun z => ?_, fun z => ?_, fun z => ?_, fun z => ?_, fun z => ?_, fun _ i hi => ?_, fun z => ?_, fun z => ?_, fun z => ?_, fun z => ?_⟩ <;> first | (rw [k_817] at z; exact absurd z (by decide)) | skip
    rw [ln_817] at hi
    exact c4 i hi
