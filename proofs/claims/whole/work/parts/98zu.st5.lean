/-! PURE: the start: both houses as they begin -/
theorem lay_parts : ∀ q ∈ layL, (q.2.1 = 0 ∧ (q.1, q.2.2) ∈ [(85, 2397), (80, 2196), (78, 2177), (77, 2124), (76, 2071), (75, 2018), (74, 811), (73, 618), (72, 608), (71, 607), (70, 605), (69, 1)]) ∨ q ∈ [(35, 1, 4), (33, 1, 3), (32, 1, 2), (36, 608, 609), (29, 607, 617), (28, 607, 616), (25, 607, 610), (24, 607, 608), (61, 811, 817), (63, 811, 816), (59, 811, 815), (58, 811, 814), (57, 811, 813), (56, 811, 812), (55, 811, 1)] ∨ (q.2.1 = 2398 ∧ (q.1, q.2.2) ∈ [(174, 2450), (173, 2449), (172, 2448), (171, 2447), (170, 2446), (169, 2445), (166, 2444), (163, 2443), (162, 2442), (161, 2441), (159, 2440), (158, 2439), (157, 2438), (155, 2437), (148, 2436), (147, 2435), (145, 2434), (144, 2433), (143, 2432), (142, 2431), (141, 2430), (140, 2429), (137, 2428), (136, 2427), (135, 2426), (134, 2425), (132, 2424), (131, 2423), (130, 2422), (129, 2421), (128, 2420), (116, 2419), (115, 2418), (112, 2417), (111, 2416), (110, 2415), (109, 2414), (108, 2413), (107, 2412), (106, 2411), (105, 2410), (104, 2409), (103, 2408), (98, 2407), (97, 2406), (96, 2405), (95, 2404), (93, 2403), (91, 2402), (90, 2401), (89, 2400), (88, 2399)]) := by decide +kernel
theorem k_mod : (List.range 53).all (fun j => decide (8 ≤ jK (2398 + j) ∧ jK (2398 + j) < 16)) = true := by decide +kernel
theorem kmod {b : Nat} (h1 : 2398 ≤ b) (h2 : b < 2451) : 8 ≤ jK b ∧ jK b < 16 := by
  have := List.all_eq_true.mp k_mod (b - 2398) (List.mem_range.mpr (by omega))
  rw [show 2398 + (b - 2398) = b from by omega] at this
  exact of_decide_eq_true this
theorem start_lay {S1 S2 : jM} (a3 : KR 1 2398 S1) (a4 : ∀ q ∈ [(85, 2397), (80, 2196), (78, 2177), (77, 2124), (76, 2071), (75, 2018), (74, 811), (73, 618), (72, 608), (71, 607), (70, 605), (69, 1)], jR S1 q.1 0 = some q.2) (a5 : LPl [(35, 1, 4), (33, 1, 3), (32, 1, 2), (36, 608, 609), (29, 607, 617), (28, 607, 616), (25, 607, 610), (24, 607, 608), (61, 811, 817), (63, 811, 816), (59, 811, 815), (58, 811, 814), (57, 811, 813), (56, 811, 812), (55, 811, 1)] S1) (b3 : FB 2398 S1 S2) (b4 : ∀ q ∈ [(174, 2450), (173, 2449), (172, 2448), (171, 2447), (170, 2446), (169, 2445), (166, 2444), (163, 2443), (162, 2442), (161, 2441), (159, 2440), (158, 2439), (157, 2438), (155, 2437), (148, 2436), (147, 2435), (145, 2434), (144, 2433), (143, 2432), (142, 2431), (141, 2430), (140, 2429), (137, 2428), (136, 2427), (135, 2426), (134, 2425), (132, 2424), (131, 2423), (130, 2422), (129, 2421), (128, 2420), (116, 2419), (115, 2418), (112, 2417), (111, 2416), (110, 2415), (109, 2414), (108, 2413), (107, 2412), (106, 2411), (105, 2410), (104, 2409), (103, 2408), (98, 2407), (97, 2406), (96, 2405), (95, 2404), (93, 2403), (91, 2402), (90, 2401), (89, 2400), (88, 2399)], jR S2 q.1 2398 = some q.2) : Lay S2 := by
  have K : ∀ b, b < 2451 → kl S2 b := fun b hb => by
    by_cases c : 2398 ≤ b
    · obtain ⟨m1, m2⟩ := kmod c hb
      exact kl_a rfl (by omega)
    · by_cases c0 : b = 0
      · rw [c0]; exact kl_a k_0 (by omega)
      · exact a3.fb b3 b (by omega) (by omega)
  have lt : ∀ {a k : Nat}, jK a = k → k < 99 → a < 2451 := fun h hk => jK_lt h hk
  refine ⟨fun q hq => ?_, fun a ha => (K a (lt ha (by omega))).1 ha, fun a ha => (K a (lt ha (by omega))).2.1 ha, fun a ha => (K a (lt ha (by omega))).2.2.1 ha, fun a ha => (K a (lt ha (by omega))).2.2.2.1 ha, fun a ha => ?_, fun i hi => ?_, fun i hi => ?_, fun i hi => ?_, fun i hi => ?_⟩
  · rcases lay_parts q hq with ⟨h1, h2⟩ | h1 | ⟨h1, h2⟩
    · rw [h1, (b3 0 (by omega)).1]
      exact a4 _ h2
    · have := a5 q h1
      have hlt : q.2.1 < 2398 := by
        have : ∀ q ∈ [(35, 1, 4), (33, 1, 3), (32, 1, 2), (36, 608, 609), (29, 607, 617), (28, 607, 616), (25, 607, 610), (24, 607, 608), (61, 811, 817), (63, 811, 816), (59, 811, 815), (58, 811, 814), (57, 811, 813), (56, 811, 812), (55, 811, 1)], q.2.1 < 2398 := by decide
        exact this q h1
      rw [(b3 _ hlt).1]
      exact this
    · rw [h1]
      exact b4 _ h2
  · obtain ⟨-, -, -, k4, l4⟩ := kd_case ha
    obtain ⟨c1, c2, c3, c4⟩ := (K a (lt ha (by omega))).2.2.2.2.1 ha
    refine ⟨c1, c2, c3, c4, fun i hi => ?_⟩
    have := (K (a + 4) (lt k4 (by omega))).2.2.2.2.2.1 k4 i (by rw [l4]; exact hi)
    rw [this, show a + 4 + 1 + 2 * i = a + 5 + 2 * i from by omega]
  · exact (K 4 (by omega)).2.2.2.2.2.2.1 k_4 i hi
  · exact (K 817 (by omega)).2.2.2.2.2.1 k_817 i (by rw [ln_817]; exact hi)
  · exact (K 2177 (by omega)).2.2.2.2.2.2.2.1 k_2177 i hi
  · exact (K 2196 (by omega)).2.2.2.2.2.2.2.2.2 k_2196 i hi
theorem start_rel {S : jM} (hn : jn S = 2451) (hL : Lay S) (hE : EI S) (h0 : ∀ f, jI S f 0 = if f = 84 then -1 else if f = 83 then 50 else 0) (hm : ∀ f, jI S f 2398 = if f = 165 then -1 else if f = 164 then 50 else if f = 150 then -1 else 0) (h618 : ∀ i, i < 32 → jAR S 618 i = some (618 + 1 + 6 * i)) (h25 : jR S 25 607 = some 610) : Rel S S := by
  have E : ∀ b, b < 2451 → b ≠ 0 → b ≠ 2398 → (∀ f, jI S f b = iv f b) ∧ (jAI S b = fun _ => 0) ∧ (jAL S b = fun _ => 0) ∧ (jAD S b = fun _ => 0) := fun b hb => hE b (by rw [hn]; exact hb)
  have z : ∀ {f b : Nat}, b < 2451 → b ≠ 0 → b ≠ 2398 → jK b ≠ 6 → jK b ≠ 1 → jI S f b = 0 := fun h1 h2 h3 h4 h5 => ((E _ h1 h2 h3).1 _).trans (iv_0 h4 h5)
  have i0 : (0 : Int32).toInt = 0 := t_0
  have zc : ∀ f, f ≠ 84 → f ≠ 83 → jI S f 0 = 0 := fun f h1 h2 => by rw [h0, if_neg h1, if_neg h2]
  have zm : ∀ f, f ≠ 165 → f ≠ 164 → f ≠ 150 → jI S f 2398 = 0 := fun f h1 h2 h3 => by rw [hm, if_neg h1, if_neg h2, if_neg h3]
  have z31 : jI S 31 1 = 0 := z (by omega) (by omega) (by omega) (by rw [k_1]; decide) (by rw [k_1]; decide)
  have z34 : jI S 34 1 = 0 := z (by omega) (by omega) (by omega) (by rw [k_1]; decide) (by rw [k_1]; decide)
  have z37 : jI S 37 608 = 0 := z (by omega) (by omega) (by omega) (by rw [k_608]; decide) (by rw [k_608]; decide)
  have z26 : jI S 26 607 = 0 := z (by omega) (by omega) (by omega) (by rw [k_607]; decide) (by rw [k_607]; decide)
  have z52 : jI S 52 605 = 0 := z (by omega) (by omega) (by omega) (by rw [k_605]; decide) (by rw [k_605]; decide)
  have z53 : jI S 53 605 = 0 := z (by omega) (by omega) (by omega) (by rw [k_605]; decide) (by rw [k_605]; decide)
  have zS : ∀ f, f ≠ 8 → jI S f 2018 = 0 := fun f hf => by
    rw [(E 2018 (by omega) (by omega) (by omega)).1, iv, if_neg (fun y => by rw [k_2018] at y; exact absurd y.2 (by decide)), if_neg (fun y => hf y.1)]
  have z8 : jI S 8 2018 = -1 := by
    rw [(E 2018 (by omega) (by omega) (by omega)).1, iv, if_neg (fun y => absurd y.1 (by decide)), if_pos ⟨rfl, k_2018⟩]
  refine ⟨?_, ?_, ?_, ?_, ?_, ?_, ?_, ?_, ?_, ?_, ?_⟩
  · refine ⟨by rw [z37, zm 94 (by decide) (by decide) (by decide)], by rw [z37]; decide, by rw [z37]; decide, fun j hj => ?_⟩
    rw [z37, i0] at hj; omega
  · exact ⟨by rw [zc 82 (by decide) (by decide), zm 139 (by decide) (by decide) (by decide)], by rw [zc 82 (by decide) (by decide)]; decide, by rw [zc 82 (by decide) (by decide)]; decide⟩
  · refine ⟨by rw [z31, zm 138 (by decide) (by decide) (by decide)], by rw [z31]; decide, by rw [z31]; decide, fun j hj => ?_⟩
    rw [z31, i0] at hj; omega
  · unfold rD VR
    rw [z52, z53, (E 2399 (by omega) (by omega) (by omega)).2.1, (E 2400 (by omega) (by omega) (by omega)).2.1, (E 606 (by omega) (by omega) (by omega)).2.2.1, (E 2401 (by omega) (by omega) (by omega)).2.2.1]
    refine ⟨rfl, rfl, ?_, fun j hj => ?_⟩
    · unfold vshape
      rw [i0]
      exact ⟨by omega, by omega, by omega, by omega, fun _ => rfl⟩
    · unfold vitem
      rw [i0, if_neg (by omega)]
      exact ⟨rfl, fun y => absurd y (by omega), fun y => absurd y (by omega)⟩
  · refine ⟨by rw [z34, zm 146 (by decide) (by decide) (by decide)], by rw [z34]; decide, by rw [z34]; decide, fun j hj => ?_⟩
    rw [z34, i0] at hj; omega
  · unfold rU
    rw [z26, zm 149 (by decide) (by decide) (by decide)]
  · have e := zc 79 (by decide) (by decide)
    refine ⟨by rw [e, zm 160 (by decide) (by decide) (by decide)], by rw [e]; decide, by rw [e]; decide, fun j hj => ?_, fun i _ hi => ?_⟩
    · rw [e, i0] at hj; omega
    · have hk := kf_award hi
      exact z (by omega) (by omega) (by omega) (by rw [hk]; decide) (by rw [hk]; decide)
  · have e := zc 81 (by decide) (by decide)
    refine ⟨by rw [e, zm 175 (by decide) (by decide) (by decide)], by rw [e]; decide, by rw [e]; decide, fun j hj => ?_, fun k j hk _ => ?_⟩
    · rw [e, i0] at hj; omega
    · rw [(E (2197 + k) (by omega) (by omega) (by omega)).2.2.1, (E 2450 (by omega) (by omega) (by omega)).2.1]
      rfl
  · have e79 := zc 79 (by decide) (by decide)
    have e81 := zc 81 (by decide) (by decide)
    have e86 := zc 86 (by decide) (by decide)
    have e87 := zc 87 (by decide) (by decide)
    have e83 : jI S 83 0 = 50 := by rw [h0, if_neg (by decide), if_pos rfl]
    have e84 : jI S 84 0 = -1 := by rw [h0, if_pos rfl]
    have e164 : jI S 164 2398 = 50 := by rw [hm, if_neg (by decide), if_pos rfl]
    have e165 : jI S 165 2398 = -1 := by rw [hm, if_pos rfl]
    unfold rR
    rw [e79, e81, e86, e87, e83, e84, e164, e165, zm 167 (by decide) (by decide) (by decide), zm 168 (by decide) (by decide) (by decide)]
    refine ⟨rfl, by decide, rfl, by decide, rfl, rfl, by decide, by decide, by decide, by decide, fun j hj => ?_⟩
    rw [i0] at hj; omega
  · have e150 : jI S 150 2398 = -1 := by rw [hm, if_neg (by decide), if_neg (by decide), if_pos rfl]
    have e16 := zS 16 (by decide)
    refine ⟨by rw [z8, e150], by rw [zS 9 (by decide), zm 151 (by decide) (by decide) (by decide)], by rw [e16, zm 152 (by decide) (by decide) (by decide)], by rw [zS 10 (by decide), zm 153 (by decide) (by decide) (by decide)], by rw [zS 11 (by decide), zm 154 (by decide) (by decide) (by decide)], by rw [e16]; decide, fun k hk => ?_⟩
    rw [e16, i0] at hk; omega
  · refine ⟨fun i => if i = 32 then 0 else i + 1, fun i hi => ?_, fun i j hi hj hij => ?_, ?_, fun s hs => ?_, fun s k hs hk => ?_⟩
    · show (if i = 32 then 0 else i + 1) < 33
      split <;> omega
    · have hij : (if i = 32 then 0 else i + 1) = (if j = 32 then 0 else j + 1) := hij
      by_cases c1 : i = 32
      · by_cases c2 : j = 32
        · omega
        · rw [if_pos c1, if_neg c2] at hij; omega
      · by_cases c2 : j = 32
        · rw [if_neg c1, if_pos c2] at hij; omega
        · rw [if_neg c1, if_neg c2] at hij; omega
    · exact h25
    · rw [(E 2436 (by omega) (by omega) (by omega)).2.1]
      show 0 ≤ (0 : Int32).toInt ∧ (0 : Int32).toInt ≤ 8
      decide
    · have hne : ¬ 8 * s + k = 32 := by omega
      have ht : txt (8 * s + k + 1) = 619 + 6 * (8 * s + k) := by unfold txt; rw [if_neg (by omega)]; omega
      have hk6 : jK (619 + 6 * (8 * s + k)) = 6 := kf_text (by omega)
      show jAR S 618 (8 * s + k) = some (txt (if 8 * s + k = 32 then 0 else 8 * s + k + 1)) ∧ (_ ∨ ((jAI S 2436 s).toInt ≤ (k : Int) ∧ jI S 44 (txt (if 8 * s + k = 32 then 0 else 8 * s + k + 1)) = -1))
      rw [if_neg hne, ht, (E 2436 (by omega) (by omega) (by omega)).2.1]
      refine ⟨h618 _ (by omega), .inr ⟨by show (0 : Int32).toInt ≤ _; rw [i0]; omega, ?_⟩⟩
      rw [(E _ (by omega) (by omega) (by omega)).1, iv, if_pos ⟨rfl, hk6⟩]
theorem start_ok {S : jM} (hE : EI S) (hn : jn S = 0) : ∃ S1 S2, f_X11_init 0 (jnew S) = some S1 ∧ jn S1 = 2398 ∧ f_X12_init 2398 (jnew S1) = some S2 ∧ jn S2 = 2451 ∧ Lay S2 ∧ Rel S2 S2 := by
  obtain ⟨S1, e1, a1, a2, a3, a4, a5, a6⟩ := i_h hE hn
  obtain ⟨S2, e2, b1, b2, b3, b4, b5⟩ := i_m a2 a1
  have hL := start_lay a3 a4 a5 b3 b4
  refine ⟨S1, S2, e1, a1, e2, b1, hL, start_rel b1 hL b2 (fun f => ((b3 0 (by omega)).2.2 f).trans (a6 f)) b5 (fun i hi => ?_) (((b3 607 (by omega)).1 25).trans (a5 (25, 607, 610) (by simp)))⟩
  have := (a3.fb b3 618 (by omega) (by omega)).2.2.2.2.2.2.2.2.1 k_618 i hi
  exact this
