/-! PURE: the evaluator: an operator's node, both -/
theorem node_op {F T t np nr : Nat} {ru : Nat → Nat × Nat × Nat} {n : Int} {ki : Nat → Int32} {co : Nat → Int64} {inn : Nat → Int32} {d : Nat} (IH : NC F T t np nr ru n ki co inn d) {f k h rs lo hi r : Nat} {C0 R0 : jM} {w0 p0 : Nat} {s : Nat → Nat} {C R : jM} {w p sc D : Nat}
    (hP : PR F T t np nr ru n ki co inn f k h rs lo hi r C0 R0 w0 p0 0 0 0 0 s C R w p sc) (hD : 2 * d + 1 ≤ D) {A : Nat → Prop} (tok : tOK ki co inn ru nr rs (d + 1) A lo hi k) (hA : ∀ q, A q → rs ≤ q ∧ q < lo ∧ jAL C 816 q = jAL R 2425 (301 * t + q)) (hfd : f + (d + 1) ≤ 301) (hkd : ki k ∈ opl) (hrs : rs ≤ lo) (hhi : hi ≤ np) :
    ∃ x Rb, wnB (g_V D) (nI (301 * t + k)) (kmap (ki k)) R = some (x, Rb) ∧ ∃ j' C', it F j' C0 = some C' ∧ RES F t nr ru n f h rs lo hi r C0 R0 w0 p0 j' C' x Rb := by
  obtain ⟨ho1, ho2, ⟨h3, h4, h6, h7, h8, h131, h135, h146, h149⟩, hkm⟩ := opl_ok _ hkd
  have es := hP.2.1
  have hk := hP.2.2.2.2.2.2.2.1.2.2.2.1
  have ht33 := es.2.2.2.2.1
  have hnp := es.2.2.2.2.2.1
  have hcons : ∀ q, A q → rs ≤ q ∧ q < lo ∧ jAL C 816 q = jAL R 2425 (301 * t + q) := hA
  obtain ⟨n1, n2, n3, n4, n5, n6, n7, n8⟩ := nA ht33 (show k < 301 by omega)
  obtain ⟨i0, j0, tk0, l0, d0⟩ := tOK_in tok h146 (j := 0) (by omega)
  have ht0 := hP.turn_in hkd (by omega) j0 (by omega) (by omega)
  obtain ⟨z0, z1, z2, z3, z4⟩ := es.in0 hk ⟨h6, h7, h8⟩
  have r9 := z0 (by omega) i0 (by omega) j0
  have pfres : ∀ {j o st : Nat} {C1 R1 : jM}, PF F T t np nr ru n ki co inn f k h rs lo hi r C0 R0 w0 p0 j o st C1 R1 → o ≤ 6 → st < 2147483648 → ∃ j' C', it F j' C0 = some C' ∧ RES F t nr ru n f h rs lo hi r C0 R0 w0 p0 j' C' (-1) R1 := fun a ho hst => a.res hk ho hst (fun z => absurd z h149) (fun z => absurd z h7)
  by_cases c5 : ki k = 5
  · -- NEGATIVE: the reference works its U itself
    obtain ⟨x0, R1, g0, q⟩ := hP.inner IH (show 2 * d ≤ D by omega) ht0 tk0 (Nat.le_refl _) (Nat.le_refl _) hhi hrs hA (by omega)
    have hw : wnB (g_V D) (nI (301 * t + k)) (kmap (ki k)) R = f_X12_negative 2398 x0 R1 := by
      rw [c5]
      unfold wnB
      rw [if_neg (by decide), if_neg (by decide), if_neg (by decide), if_neg (by decide), if_neg (by decide), if_neg (by decide), if_pos (by decide), ly_104 es.2.1, obt, if_pos n3, n8, r9, g0, jbt, hjd]
    rw [hw]
    rcases q with ⟨j2, C2, w2, p2, sc2, sl, e1, hP2, -, -⟩ | ⟨e1, j2, C2, hPF⟩
    · subst e1
      obtain ⟨y1, y2, y3, y4, y5, y6, y7, y8⟩ := hP2.acts
      obtain ⟨v0, vs⟩ := y4 0 (by omega)
      simp only [if_true] at v0 vs
      obtain ⟨fl, x, Cb, Rb, b1, b2, b3⟩ := act_5 y1 y2 y3 v0 y5 y6 vs.1 y7 y8
      exact ⟨x, Rb, b2, hP2.fin hkd (by rw [c5]; decide) b3 (by rw [c5]; exact b1) (by omega)⟩
    · subst e1
      refine ⟨-1, R1, ?_, pfres hPF (by omega) (by omega)⟩
      unfold f_X12_negative
      rw [if_neg (by decide)]
  · obtain ⟨k4, k8, k19, k22, k41, k42, k47, k48, k49, k50⟩ := hkm c5
    obtain ⟨D', rfl⟩ : ∃ D', D = D' + 1 := ⟨D - 1, by omega⟩
    have hw : wnB (g_V (D' + 1)) (nI (301 * t + k)) (kmap (ki k)) R = f_X12_workMore (g_V D') 2398 (nI (301 * t + k)) (kmap (ki k)) R := by
      unfold wnB
      rw [if_neg k4, if_neg k8, if_neg k19, if_neg k22, if_neg k41, if_neg k42, if_neg k47, if_neg k48, if_neg k49, if_neg k50, hjd, gV5]
    rw [hw]
    have hD' : 2 * d ≤ D' := by omega
    have hz : 301 * t + k < 9933 := by omega
    obtain ⟨x0, R1, g0, q⟩ := hP.inner IH hD' ht0 tk0 (Nat.le_refl _) (Nat.le_refl _) hhi hrs hA (by omega)
    rw [← r9] at g0
    rcases q with ⟨j2, C2, w2, p2, sc2, sl, e1, hP2, hw2, hcn⟩ | ⟨e1, j2, C2, hPF⟩
    · subst e1
      have es2 := hP2.2.1
      obtain ⟨z0', z1', z2', z3', z4'⟩ := es2.in0 hk ⟨h6, h7, h8⟩
      have hA2 : ∀ q, A q → rs ≤ q ∧ q < lo ∧ jAL C2 816 q = jAL R1 2425 (301 * t + q) := fun q hq => by
        obtain ⟨u1, u2, u3⟩ := hA q hq
        obtain ⟨u4, u5⟩ := hcn q (.inl ⟨u1, u2⟩)
        exact ⟨u1, u2, by rw [u4, u5]; exact u3⟩
      have hsl : sl < p2 := by
        have := (hP2.2.2.2.2.2.2.2.2.1 0 (by omega)).1
        simp only [if_true] at this
        exact this.1
      have hp2 : p2 < 1500 := hP2.acts.2.2.2.2.2.1
      rcases ho2 with hta | hta | hta
      · -- of one
        rw [wm1 es.2.1 es2.2.1 rfl hz g0 (z3' (by omega)) (z4' (by omega)), if_neg (nI_neg (by omega))]
        obtain ⟨y1, y2, y3, y4, y5, y6, y7, y8⟩ := hP2.acts
        obtain ⟨v0, vs⟩ := y4 0 (by omega)
        simp only [if_true] at v0 vs
        have hk1 : ki k = 129 ∨ ki k = 130 ∨ ki k = 133 ∨ ki k = 138 ∨ ki k = 141 ∨ ki k = 143 ∨ ki k = 144 ∨ ki k = 150 ∨ ki k = 152 := by
          rcases opl_3 hkd with (e | e) | e | e
          · exact absurd e c5
          · exact e
          · exfalso; rcases e with e | e | e | e | e | e | e | e | e | e | e | e | e | e | e <;> (rw [e] at hta; exact absurd hta (by decide))
          · rw [e] at hta; exact absurd hta (by decide)
        obtain ⟨fl, x, Cb, Rb, b1, b2, b3⟩ := act1 hk1 y1 y2 y3 v0 y5 y6 vs y7 y8
        exact ⟨x, Rb, b2 _, hP2.fin hkd (by omega) b3 b1 (by omega)⟩
      · -- of two
        obtain ⟨i1, j1, tk1, l1, -⟩ := tOK_in tok h146 (j := 1) (by omega)
        have ht1 := hP2.turn_in hkd (by omega) j1 (by omega) (by omega)
        have r10 := z1' (by omega) i1 (by omega) j1
        obtain ⟨x1, R2, g1, q⟩ := hP2.inner IH hD' ht1 tk1 (Nat.le_refl _) (Nat.le_refl _) hhi hrs hA2 (by omega)
        rw [← r10] at g1
        have p10 : 0 ≤ (jAI R1 2410 (301 * t + k)).toInt := by rw [r10, nI_toInt (by omega)]; omega
        rcases q with ⟨j3, C3, w3, p3, sc3, sl1, e1, hP3, hw3, hcn3⟩ | ⟨e1, j3, C3, hPF⟩
        · subst e1
          have es3 := hP3.2.1
          obtain ⟨z0'', z1'', z2'', z3'', z4''⟩ := es3.in0 hk ⟨h6, h7, h8⟩
          have p10' : 0 ≤ (jAI R2 2410 (301 * t + k)).toInt := by rw [z1'' (by omega) i1 (by omega) j1, nI_toInt (by omega)]; omega
          obtain ⟨y1, y2, y3, y4, y5, y6, y7, y8⟩ := hP3.acts
          obtain ⟨v0, vs0⟩ := y4 0 (by omega)
          obtain ⟨v1, vs1⟩ := y4 1 (by omega)
          simp only [if_true, if_neg (show ¬ (0 : Nat) = 0 + 1 by omega), Nat.zero_add, if_neg (show ¬ (0 : Nat) = 1 by omega)] at v0 vs0 v1 vs1
          rw [wm2 es.2.1 es2.2.1 es3.2.1 rfl hz g0 (by omega) p10 g1 p10' (z4'' (by omega)), if_neg (nI_neg (by omega))]
          have hk2 : ki k = 9 ∨ ki k = 10 ∨ ki k = 60 ∨ ki k = 61 ∨ ki k = 43 ∨ ki k = 45 ∨ ki k = 42 ∨ ki k = 47 ∨ ki k = 37 ∨ ki k = 91 ∨ ki k = 128 ∨ ki k = 136 ∨ ki k = 137 ∨ ki k = 139 ∨ ki k = 140 := by
            rcases opl_3 hkd with (e | e) | e | e
            · exact absurd e c5
            · exfalso; rcases e with e | e | e | e | e | e | e | e | e <;> (rw [e] at hta; exact absurd hta (by decide))
            · exact e
            · rw [e] at hta; exact absurd hta (by decide)
          obtain ⟨fl, x, Cb, Rb, b1, b2, b3⟩ := act2 hk2 y1 y2 y3 v0 v1 y5 y6 vs0.1 vs1.1 y7 y8
          exact ⟨x, Rb, b2 _, hP3.fin hkd (by omega) b3 b1 (by omega)⟩
        · subst e1
          obtain ⟨c, w', p', sc', -, es3, -⟩ := id hPF
          obtain ⟨z0'', z1'', z2'', z3'', z4''⟩ := es3.in0 hk ⟨h6, h7, h8⟩
          have p10' : 0 ≤ (jAI R2 2410 (301 * t + k)).toInt := by rw [z1'' (by omega) i1 (by omega) j1, nI_toInt (by omega)]; omega
          rw [wm2 es.2.1 es2.2.1 es3.2.1 rfl hz g0 (by omega) p10 g1 p10' (z4'' (by omega)), if_pos (by decide)]
          exact ⟨-1, R2, rfl, pfres hPF (by omega) (by omega)⟩
      · -- of three
        obtain ⟨i1, j1, tk1, l1, -⟩ := tOK_in tok h146 (j := 1) (by omega)
        obtain ⟨i2, j2', tk2, l2, -⟩ := tOK_in tok h146 (j := 2) (by omega)
        have ht1 := hP2.turn_in hkd (by omega) j1 (by omega) (by omega)
        have r10 := z1' (by omega) i1 (by omega) j1
        obtain ⟨x1, R2, g1, q⟩ := hP2.inner IH hD' ht1 tk1 (Nat.le_refl _) (Nat.le_refl _) hhi hrs hA2 (by omega)
        rw [← r10] at g1
        have p10 : 0 ≤ (jAI R1 2410 (301 * t + k)).toInt := by rw [r10, nI_toInt (by omega)]; omega
        rcases q with ⟨j3, C3, w3, p3, sc3, sl1, e1, hP3, hw3, hcn3⟩ | ⟨e1, j3, C3, hPF⟩
        · subst e1
          have es3 := hP3.2.1
          obtain ⟨z0'', z1'', z2'', z3'', z4''⟩ := es3.in0 hk ⟨h6, h7, h8⟩
          have hA3 : ∀ q, A q → rs ≤ q ∧ q < lo ∧ jAL C3 816 q = jAL R2 2425 (301 * t + q) := fun q hq => by
            obtain ⟨u1, u2, u3⟩ := hA2 q hq
            obtain ⟨u4, u5⟩ := hcn3 q (.inl ⟨u1, u2⟩)
            exact ⟨u1, u2, by rw [u4, u5]; exact u3⟩
          have ht2 := hP3.turn_in hkd (by omega) j2' (by omega) (by omega)
          have r11 := z2'' (by omega) i2 (by omega) j2'
          obtain ⟨x2, R3, g2, q⟩ := hP3.inner IH hD' ht2 tk2 (Nat.le_refl _) (Nat.le_refl _) hhi hrs hA3 (by omega)
          rw [← r11] at g2
          have p11 : 0 ≤ (jAI R2 2411 (301 * t + k)).toInt := by rw [r11, nI_toInt (by omega)]; omega
          obtain ⟨-, -, -, y4', -, y6', -⟩ := hP3.acts
          have vs1' := (y4' 1 (by omega)).2
          simp only [Nat.zero_add, if_true] at vs1'
          rcases q with ⟨j4, C4, w4, p4, sc4, sl2, e1, hP4, hw4, hcn4⟩ | ⟨e1, j4, C4, hPF⟩
          · subst e1
            have es4 := hP4.2.1
            obtain ⟨z0a, z1a, z2a, z3a, z4a⟩ := es4.in0 hk ⟨h6, h7, h8⟩
            have p10' : 0 ≤ (jAI R3 2410 (301 * t + k)).toInt := by rw [z1a (by omega) i1 (by omega) j1, nI_toInt (by omega)]; omega
            have p11' : 0 ≤ (jAI R3 2411 (301 * t + k)).toInt := by rw [z2a (by omega) i2 (by omega) j2', nI_toInt (by omega)]; omega
            obtain ⟨y1, y2, y3, y4, y5, y6, y7, y8⟩ := hP4.acts
            obtain ⟨v0, vs0⟩ := y4 0 (by omega)
            obtain ⟨v1, vs1⟩ := y4 1 (by omega)
            obtain ⟨v2, vs2⟩ := y4 2 (by omega)
            simp only [Nat.zero_add, Nat.reduceAdd, if_true, Nat.reduceEqDiff, if_false, show ((0 : Nat) = 2) = False from by simp, show ((0 : Nat) = 1) = False from by simp, show ((1 : Nat) = 2) = False from by simp] at v0 vs0 v1 vs1 v2 vs2
            rw [wm3 es.2.1 es2.2.1 es3.2.1 es4.2.1 rfl hz g0 (by omega) p10 g1 (by omega) p11 g2 p10' p11', if_neg (nI_neg (by omega))]
            have hk3 : ki k = 151 := by
              rcases opl_3 hkd with (e | e) | e | e
              · exact absurd e c5
              · exfalso; rcases e with e | e | e | e | e | e | e | e | e <;> (rw [e] at hta; exact absurd hta (by decide))
              · exfalso; rcases e with e | e | e | e | e | e | e | e | e | e | e | e | e | e | e <;> (rw [e] at hta; exact absurd hta (by decide))
              · exact e
            obtain ⟨fl, x, Cb, Rb, b1, b2, b3⟩ := act_151 y1 y2 y3 v0 v1 v2 y5 y6 vs0.1 vs1.1 vs2.1 y7 y8
            exact ⟨x, Rb, by rw [hk3]; exact b2 _, hP4.fin hkd (by omega) b3 (by rw [hk3]; exact b1) (by omega)⟩
          · subst e1
            obtain ⟨c, w', p', sc', -, es4, -⟩ := id hPF
            obtain ⟨z0a, z1a, z2a, z3a, z4a⟩ := es4.in0 hk ⟨h6, h7, h8⟩
            have p10' : 0 ≤ (jAI R3 2410 (301 * t + k)).toInt := by rw [z1a (by omega) i1 (by omega) j1, nI_toInt (by omega)]; omega
            have p11' : 0 ≤ (jAI R3 2411 (301 * t + k)).toInt := by rw [z2a (by omega) i2 (by omega) j2', nI_toInt (by omega)]; omega
            rw [wm3 es.2.1 es2.2.1 es3.2.1 es4.2.1 rfl hz g0 (by omega) p10 g1 (by omega) p11 g2 p10' p11', if_pos (by decide)]
            exact ⟨-1, R3, rfl, pfres hPF (by omega) (by omega)⟩
        · subst e1
          obtain ⟨c, w', p', sc', -, es3, -⟩ := id hPF
          obtain ⟨z0'', z1'', z2'', z3'', z4''⟩ := es3.in0 hk ⟨h6, h7, h8⟩
          have p10' : 0 ≤ (jAI R2 2410 (301 * t + k)).toInt := by rw [z1'' (by omega) i1 (by omega) j1, nI_toInt (by omega)]; omega
          rw [wm3f es.2.1 es2.2.1 es3.2.1 rfl hz g0 (by omega) p10 g1 p10']
          exact ⟨-1, R2, rfl, pfres hPF (by omega) (by omega)⟩
    · subst e1
      rw [wm2f es.2.1 rfl hz g0]
      exact ⟨-1, R1, rfl, pfres hPF (by omega) (by omega)⟩
