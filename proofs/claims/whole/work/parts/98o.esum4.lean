/-! PURE: the evaluator: SUM: the node -/
theorem node_sum {F T t np nr : Nat} {ru : Nat → Nat × Nat × Nat} {n : Int} {ki : Nat → Int32} {co : Nat → Int64} {inn : Nat → Int32} {d : Nat} (IH : NC F T t np nr ru n ki co inn d) {f k h rs lo hi r : Nat} {C0 R0 : jM} {w0 p0 : Nat} {s : Nat → Nat} {C R : jM} {w p sc D : Nat}
    (hP : PR F T t np nr ru n ki co inn f k h rs lo hi r C0 R0 w0 p0 0 0 0 0 s C R w p sc) (hD : 2 * d + 1 ≤ D) {A : Nat → Prop} (tok : tOK ki co inn ru nr rs (d + 1) A lo hi k) (hA : ∀ q, A q → rs ≤ q ∧ q < lo ∧ jAL C 816 q = jAL R 2425 (301 * t + q)) (hfd : f + (d + 1) ≤ 301) (hkd : ki k = 146) (hrs : rs ≤ lo) (hhi : hi ≤ np) :
    ∃ x Rb, wnB (g_V D) (nI (301 * t + k)) (kmap (ki k)) R = some (x, Rb) ∧ ∃ j' C', it F j' C0 = some C' ∧ RES F t nr ru n f h rs lo hi r C0 R0 w0 p0 j' C' x Rb := by
  have h678 : ki k ≠ 6 ∧ ki k ≠ 7 ∧ ki k ≠ 8 := by rw [hkd]; decide
  have tar3 : tar (ki k) = 3 := by rw [hkd]; decide
  have es := hP.2.1
  have hk := hP.2.2.2.2.2.2.2.1.2.2.2.1
  have ht33 := es.2.2.2.2.1
  have hnp := es.2.2.2.2.2.1
  obtain ⟨n1, n2, n3, n4, n5, n6, n7, n8⟩ := nA ht33 (show k < 301 by omega)
  obtain ⟨k1, k2, -, tin, -⟩ := tok
  have lt : ∀ {A : Nat → Prop} {lo i : Nat}, tOK ki co inn ru nr rs d A lo hi i → lo ≤ i ∧ i < hi ∧ 0 < d := by
    intro A lo i z
    cases d with
    | zero => exact absurd z (fun z => z)
    | succ d => exact ⟨z.1, z.2.1, by omega⟩
  obtain ⟨i0, j0, tk0⟩ := tin 0 (by omega)
  obtain ⟨i1, j1, tk1⟩ := tin 1 (by omega)
  obtain ⟨i2, j2, tk2⟩ := tin 2 (by omega)
  rw [if_pos hkd, if_neg (by decide)] at tk0 tk1
  rw [if_pos hkd, if_pos rfl] at tk2
  obtain ⟨l0', l0, d0⟩ := lt tk0
  obtain ⟨l1', l1, -⟩ := lt tk1
  obtain ⟨l2', l2, -⟩ := lt tk2
  obtain ⟨z0, -⟩ := es.in0 hk h678
  have r9 := z0 (by omega) i0 (by omega) j0
  have hid : ∀ o : Option jM, (o.bind fun S1 => some S1) = o := fun o => by cases o <;> rfl
  have tbd : ∀ (st : Int32) (S6 : jM), tb k (ki k) st S6 = f_X10_addUp 811 (nI k) st S6 := fun st S6 => by
    rw [hkd]
    unfold tb
    rw [if_neg (by decide), if_neg (by decide), if_neg (by decide), if_neg (by decide), if_neg (by decide), if_neg (by decide), if_neg (by decide), if_pos rfl, hid]
  obtain ⟨D', rfl⟩ : ∃ D', D = D' + 1 := ⟨D - 1, by omega⟩
  have hD' : 2 * d ≤ D' := by omega
  have hw : wnB (g_V (D' + 1)) (nI (301 * t + k)) (kmap (ki k)) R = f_X12_workSum (g_V D') 2398 (nI (301 * t + k)) R := by
    rw [hkd]
    unfold wnB
    rw [if_neg (by decide), if_neg (by decide), if_pos (by decide), hjd, gV4]
  rw [hw]
  have ht0 : f_X10_turn_50 811 (nI k) (ki k) (nI 0) C = some (psh f i0 (h + 0) r (jrI C 813 (upd (jAI C 813) (f - 1) (nI (0 + 1))))) := by
    rw [hP.ct.2.2.2.2.2.2.2.1, tbd]
    unfold f_X10_addUp
    rw [if_neg (by decide), if_pos k_811, hP.into (show 0 < 3 by omega) j0 (by omega) (by omega) (nI 0) rfl, obt]
  obtain ⟨x0, R1, g0, q⟩ := hP.inner IH hD' ht0 tk0 (by omega) (Nat.le_refl _) hhi (by omega) (fun q hq => by obtain ⟨u1, u2, u3⟩ := hA q hq; exact ⟨u1, by omega, u3⟩) (by omega)
  rw [← r9] at g0
  unfold f_X12_workSum
  rw [if_pos k_2398, ly_104 es.2.1, obt, if_pos n3, n8, g0, jbt]
  have pf : ∀ {x : Int32} {Ra Rc : jM} {jj o st : Nat} {Ca : jM}, PF F T t np nr ru n ki co inn f k h rs lo hi r C0 R0 w0 p0 jj o st Ca Ra → o ≤ 6 → st < 100 → ∃ j' C', it F j' C0 = some C' ∧ RES F t nr ru n f h rs lo hi r C0 R0 w0 p0 j' C' (-1) Ra := fun a b c => a.res hk b (by omega) (fun z => absurd (hkd.symm.trans z) (by decide)) (fun z => absurd z h678.2.1)
  rcases q with ⟨jj2, C2, w2, p2, sc2, sl, e1, hP2, hw2, hcn⟩ | ⟨e1, jj2, C2, hPF⟩
  · subst e1
    have es2 := hP2.2.1
    obtain ⟨z0', z1', z2', z3', z4'⟩ := es2.in0 hk h678
    have hA2 : ∀ q, A q → rs ≤ q ∧ q < lo ∧ jAL C2 816 q = jAL R1 2425 (301 * t + q) := fun q hq => by
      obtain ⟨u1, u2, u3⟩ := hA q hq
      obtain ⟨u4, u5⟩ := hcn q (.inl ⟨u1, by omega⟩)
      exact ⟨u1, u2, by rw [u4, u5]; exact u3⟩
    obtain ⟨-, -, -, y4, -, y6, -⟩ := hP2.acts
    have vs := (y4 0 (by omega)).2
    simp only [if_true] at vs
    have ht1 : f_X10_turn_50 811 (nI k) (ki k) (nI (0 + 1)) C2 = some (psh f i1 (h + (0 + 1)) r (jrI C2 813 (upd (jAI C2 813) (f - 1) (nI (0 + 1 + 1))))) := by
      rw [hP2.ct.2.2.2.2.2.2.2.1, tbd]
      unfold f_X10_addUp
      rw [if_neg (by decide), if_pos k_811, hP2.into (show 1 < 3 by omega) j1 (by omega) (by omega) (nI (0 + 1)) rfl, obt]
    have r10 := z1' (by omega) i1 (by omega) j1
    obtain ⟨x1, R2, g1, q⟩ := hP2.inner IH hD' ht1 tk1 (by omega) (Nat.le_refl _) hhi (by omega) (fun q hq => by obtain ⟨u1, u2, u3⟩ := hA2 q hq; exact ⟨u1, by omega, u3⟩) (by omega)
    rw [← r10] at g1
    rw [if_pos (by rw [i_le, t_0, nI_toInt (by omega)]; omega), ly_105 es2.2.1, obt, if_pos n4, g1, jbt]
    rcases q with ⟨jj3, C3, w3, p3, sc3, sl1, e1, hP3, hw3, hcn3⟩ | ⟨e1, jj3, C3, hPF⟩
    · subst e1
      have es3 := hP3.2.1
      have hA3 : ∀ q, A q → rs ≤ q ∧ q < lo ∧ jAL C3 816 q = jAL R2 2425 (301 * t + q) := fun q hq => by
        obtain ⟨u1, u2, u3⟩ := hA2 q hq
        obtain ⟨u4, u5⟩ := hcn3 q (.inl ⟨u1, by omega⟩)
        exact ⟨u1, u2, by rw [u4, u5]; exact u3⟩
      change PR F T t np nr ru n ki co inn f k h rs lo hi r C0 R0 w0 p0 jj3 2 2 2 _ C3 R2 w3 p3 sc3 at hP3
      obtain ⟨y1, y2, y3, y4, y5, y6, y7, y8⟩ := id hP3.acts
      obtain ⟨v0, vs0⟩ := y4 0 (by omega)
      obtain ⟨v1, vs1⟩ := y4 1 (by omega)
      simp only [if_true, if_neg (show ¬ (0 : Nat) = 0 + 1 by omega), Nat.zero_add, if_neg (show ¬ (0 : Nat) = 1 by omega)] at v0 vs0 v1 vs1
      change VR n (stg f 2 C3) (818 + 2 * h) R2 sl at v0
      obtain ⟨pa1, pa2, pa3⟩ := apn (show sl < 1500 by omega)
      obtain ⟨pb1, pb2, pb3⟩ := apn (show sl1 < 1500 by omega)
      have qa := (a12p (show sl < 1500 by omega)).1
      have qb := (a12p (show sl1 < 1500 by omega)).1
      have za := c12p (show sl < 1500 by omega)
      have zb := c12p (show sl1 < 1500 by omega)
      obtain ⟨ea1, -, -⟩ := VR_so v0
      obtain ⟨eb1, -, -⟩ := VR_so v1
      have hP3' := hP3
      obtain ⟨x1', x2', x3', x4', x5', x6', ⟨x7', x8'⟩, ⟨b1, b2, b3, b4, b5, b6'⟩, b6, b7⟩ := hP3
      have hF : isF F := x2'.2.2.1
      have hFn := hF.n
      have h400 := x3'.1.2.2
      have p226 := x3'.2.2.2.1
      have e60 : jI (stg f 2 C3) 60 811 = nI f := by unfold stg; simp only [m_I_sI, m_L_sI, m_R_sI, m_AI_sI, m_AL_sI, m_AD_sI, m_AR_sI, m_n_sI, m_I_sL, m_L_sL, m_R_sL, m_AI_sL, m_AL_sL, m_AD_sL, m_AR_sL, m_n_sL, m_I_sR, m_L_sR, m_R_sR, m_AI_sR, m_AL_sR, m_AD_sR, m_AR_sR, m_n_sR, m_I_rI, m_L_rI, m_R_rI, m_AI_rI, m_AL_rI, m_AD_rI, m_AR_rI, m_n_rI, m_I_rL, m_L_rL, m_R_rL, m_AI_rL, m_AL_rL, m_AD_rL, m_AR_rL, m_n_rL, m_I_rD, m_L_rD, m_R_rD, m_AI_rD, m_AL_rD, m_AD_rD, m_AR_rD, m_n_rD, m_I_rR, m_L_rR, m_R_rR, m_AI_rR, m_AL_rR, m_AD_rR, m_AR_rR, m_n_rR]; exact x6'.1
      have e814 : jAI (stg f 2 C3) 814 (f - 1) = nI h := by unfold stg; simp only [m_I_sI, m_L_sI, m_R_sI, m_AI_sI, m_AL_sI, m_AD_sI, m_AR_sI, m_n_sI, m_I_sL, m_L_sL, m_R_sL, m_AI_sL, m_AL_sL, m_AD_sL, m_AR_sL, m_n_sL, m_I_sR, m_L_sR, m_R_sR, m_AI_sR, m_AL_sR, m_AD_sR, m_AR_sR, m_n_sR, m_I_rI, m_L_rI, m_R_rI, m_AI_rI, m_AL_rI, m_AD_rI, m_AR_rI, m_n_rI, m_I_rL, m_L_rL, m_R_rL, m_AI_rL, m_AL_rL, m_AD_rL, m_AR_rL, m_n_rL, m_I_rD, m_L_rD, m_R_rD, m_AI_rD, m_AL_rD, m_AD_rD, m_AR_rD, m_n_rD, m_I_rR, m_L_rR, m_R_rR, m_AI_rR, m_AL_rR, m_AD_rR, m_AR_rR, m_n_rR]; rw [if_neg (by omega)]; exact x6'.2.2.2.2.1
      have e815 : jAI (stg f 2 C3) 815 (f - 1) = nI r := by unfold stg; simp only [m_I_sI, m_L_sI, m_R_sI, m_AI_sI, m_AL_sI, m_AD_sI, m_AR_sI, m_n_sI, m_I_sL, m_L_sL, m_R_sL, m_AI_sL, m_AL_sL, m_AD_sL, m_AR_sL, m_n_sL, m_I_sR, m_L_sR, m_R_sR, m_AI_sR, m_AL_sR, m_AD_sR, m_AR_sR, m_n_sR, m_I_rI, m_L_rI, m_R_rI, m_AI_rI, m_AL_rI, m_AD_rI, m_AR_rI, m_n_rI, m_I_rL, m_L_rL, m_R_rL, m_AI_rL, m_AL_rL, m_AD_rL, m_AR_rL, m_n_rL, m_I_rD, m_L_rD, m_R_rD, m_AI_rD, m_AL_rD, m_AD_rD, m_AR_rD, m_n_rD, m_I_rR, m_L_rR, m_R_rR, m_AI_rR, m_AL_rR, m_AD_rR, m_AR_rR, m_n_rR]; rw [if_neg (by omega)]; exact x6'.2.2.2.2.2
      have e64 : jR (stg f 2 C3) 64 811 = some F := by unfold stg; simp only [m_I_sI, m_L_sI, m_R_sI, m_AI_sI, m_AL_sI, m_AD_sI, m_AR_sI, m_n_sI, m_I_sL, m_L_sL, m_R_sL, m_AI_sL, m_AL_sL, m_AD_sL, m_AR_sL, m_n_sL, m_I_sR, m_L_sR, m_R_sR, m_AI_sR, m_AL_sR, m_AD_sR, m_AR_sR, m_n_sR, m_I_rI, m_L_rI, m_R_rI, m_AI_rI, m_AL_rI, m_AD_rI, m_AR_rI, m_n_rI, m_I_rL, m_L_rL, m_R_rL, m_AI_rL, m_AL_rL, m_AD_rL, m_AR_rL, m_n_rL, m_I_rD, m_L_rD, m_R_rD, m_AI_rD, m_AL_rD, m_AD_rD, m_AR_rD, m_n_rD, m_I_rR, m_L_rR, m_R_rR, m_AI_rR, m_AL_rR, m_AD_rR, m_AR_rR, m_n_rR]; exact x2'.2.2.2.2.2.2.2.1
      have kA := kf_pile (show h + 2 < 600 by omega)
      obtain ⟨Cb, Rb, d1, d2, o1, o2, o3, o4⟩ := whole_done (n := n) y1 y2 kA y5 (by omega) 0
      have d1' := bnd_some d1
      have hLb : Lay Cb := y1.fr o1 (fun f a z => by unfold pV at z; omega) (fun a z => by
        unfold pV at z
        have hv := kd_val kA
        rw [show a = 818 + 2 * (h + 2) + 1 by omega]; omega)
      have hadd := add2 (k := k) y1 hLb e60 x6'.2.1 e814 (by omega) (by omega) d1'
      have htu : f_X10_turn_50 811 (nI k) (ki k) (nI 2) C3 = f_X10_addUp 811 (nI k) (nI 2) (stg f 2 C3) := by
        rw [hP3'.ct.2.2.2.2.2.2.2.1, tbd]
      rw [efail_ok y1 hF e64 e60 x6'.2.1.1 x6'.2.1.2 e815] at hadd
      -- it fails for its sorts
      have fail2 : f_X10_turn_50 811 (nI k) (ki k) (nI 2) C3 = some (jsI (jsI (stg f 2 C3) 7 F 2) 8 F (nI r)) → ∃ x Rb, f_X12_workSum_54 (g_V D') 2398 R2 = some (x, Rb) ∧ ∃ j' C', it F j' C0 = some C' ∧ RES F t nr ru n f h rs lo hi r C0 R0 w0 p0 j' C' x Rb := fun hx => by
        obtain ⟨Rf, f1, f2⟩ := fail_done (n := n) (C := stg f 2 C3) (a := 818 + 2 * h) y5 (show 1 ≤ (2 : Int32).toInt ∧ (2 : Int32).toInt ≤ 6 by decide)
        refine ⟨-1, Rf, ?_, hP3'.opr stg_fr (by unfold stg; simp only [m_I_sI, m_L_sI, m_R_sI, m_AI_sI, m_AL_sI, m_AD_sI, m_AR_sI, m_n_sI, m_I_sL, m_L_sL, m_R_sL, m_AI_sL, m_AL_sL, m_AD_sL, m_AR_sL, m_n_sL, m_I_sR, m_L_sR, m_R_sR, m_AI_sR, m_AL_sR, m_AD_sR, m_AR_sR, m_n_sR, m_I_rI, m_L_rI, m_R_rI, m_AI_rI, m_AL_rI, m_AD_rI, m_AR_rI, m_n_rI, m_I_rL, m_L_rL, m_R_rL, m_AI_rL, m_AL_rL, m_AD_rL, m_AR_rL, m_n_rL, m_I_rD, m_L_rD, m_R_rD, m_AI_rD, m_AL_rD, m_AD_rD, m_AR_rD, m_n_rD, m_I_rR, m_L_rR, m_R_rR, m_AI_rR, m_AL_rR, m_AD_rR, m_AR_rR, m_n_rR, true_and, and_true, and_false, false_and, and_self, if_true, if_false, ite_self, Nat.reduceEqDiff, reduceIte, obt, jlt, jbt, jbd_ite, bind_ite]) f2 (fun z => absurd z (by decide)) (fun _ => hx) (by omega) (fun z => absurd (hkd.symm.trans z) (by decide)) (fun z => absurd z h678.2.1)⟩
        unfold f_X12_workSum_54
        rw [if_pos k_2398, f1, jbt]
      unfold f_X12_workSum_29
      rw [if_pos (by rw [i_le, t_0, nI_toInt (by omega)]; omega), if_pos k_2398, ly_88 y2, obt, if_pos pa1, pa3, ea1]
      by_cases c0 : jI (stg f 2 C3) 52 (818 + 2 * h) = 0
      · rw [if_pos c0] at hadd ⊢
        rw [obt, if_pos pb1, pb3, eb1]
        by_cases c1 : jI (stg f 2 C3) 52 (818 + 2 * (h + 1)) = 0
        · rw [if_pos c1] at hadd ⊢
          have ev0 := VR_num0 v0 c0
          have ev1 := VR_num0 v1 c1
          have eb0 : jAL Cb (818 + 2 * h + 1) 0 = jAL R2 2401 (12 * sl) := by rw [o1.al (by unfold pV; omega)]; exact ev0
          have eb1' : jAL Cb (818 + 2 * (h + 1) + 1) 0 = jAL R2 2401 (12 * sl1) := by rw [o1.al (by unfold pV; omega)]; exact ev1
          have er0 : jAL Rb 2401 (12 * sl) = jAL R2 2401 (12 * sl) := by
            have := ((o3 sl vs0.1).2.2 0 (by omega)).1
            rw [Nat.add_zero] at this; exact this
          have er1 : jAL Rb 2401 (12 * sl1) = jAL R2 2401 (12 * sl1) := by
            have := ((o3 sl1 vs1.1).2.2 0 (by omega)).1
            rw [Nat.add_zero] at this; exact this
          have hLRb : Lay Rb := y2.frq (o2.mono (fun t f a z => qK_W z))
          rw [ly_90 y2, obt, if_pos qb, zb, jlt, d2, jbt, ly_90 hLRb, obt, if_pos qa, za, er0]
          obtain ⟨-, sl', p', q2, q3, q4, q5, q6, q7, q8, q9⟩ := o4.resolve_right (fun z => absurd z.1 (by decide))
          have hsl : sl' = p3 := by rw [nI_toInt (by omega)] at q2; omega
          subst hsl
          have hFb : Fr (pE F h) C3 Cb := (stg_fr.mono (fun t f a z => by unfold pA at z; unfold pE; omega)).trans (o1.mono (fun t f a z => by unfold pV at z; unfold pE; omega))
          have b813 : ∀ i, jAI Cb 813 i = if i = f - 1 then nI (2 + 1) else jAI C3 813 i := fun i => by rw [o1.ai (by unfold pV; omega)]; unfold stg; simp only [m_I_sI, m_L_sI, m_R_sI, m_AI_sI, m_AL_sI, m_AD_sI, m_AR_sI, m_n_sI, m_I_sL, m_L_sL, m_R_sL, m_AI_sL, m_AL_sL, m_AD_sL, m_AR_sL, m_n_sL, m_I_sR, m_L_sR, m_R_sR, m_AI_sR, m_AL_sR, m_AD_sR, m_AR_sR, m_n_sR, m_I_rI, m_L_rI, m_R_rI, m_AI_rI, m_AL_rI, m_AD_rI, m_AR_rI, m_n_rI, m_I_rL, m_L_rL, m_R_rL, m_AI_rL, m_AL_rL, m_AD_rL, m_AR_rL, m_n_rL, m_I_rD, m_L_rD, m_R_rD, m_AI_rD, m_AL_rD, m_AD_rD, m_AR_rD, m_n_rD, m_I_rR, m_L_rR, m_R_rR, m_AI_rR, m_AL_rR, m_AD_rR, m_AR_rR, m_n_rR, upd_if, true_and, and_true, and_false, false_and, and_self, if_true, if_false, ite_self, Nat.reduceEqDiff, reduceIte, obt, jlt, jbt, jbd_ite, bind_ite]
          have b816 : ∀ q, jAL Cb 816 q = jAL C3 816 q := fun q => by rw [o1.al (by unfold pV; omega)]; unfold stg; simp only [m_I_sI, m_L_sI, m_R_sI, m_AI_sI, m_AL_sI, m_AD_sI, m_AR_sI, m_n_sI, m_I_sL, m_L_sL, m_R_sL, m_AI_sL, m_AL_sL, m_AD_sL, m_AR_sL, m_n_sL, m_I_sR, m_L_sR, m_R_sR, m_AI_sR, m_AL_sR, m_AD_sR, m_AR_sR, m_n_sR, m_I_rI, m_L_rI, m_R_rI, m_AI_rI, m_AL_rI, m_AD_rI, m_AR_rI, m_n_rI, m_I_rL, m_L_rL, m_R_rL, m_AI_rL, m_AL_rL, m_AD_rL, m_AR_rL, m_n_rL, m_I_rD, m_L_rD, m_R_rD, m_AI_rD, m_AL_rD, m_AD_rD, m_AR_rD, m_n_rD, m_I_rR, m_L_rR, m_R_rR, m_AI_rR, m_AL_rR, m_AD_rR, m_AR_rR, m_n_rR]
          have h10b : jI Cb 10 F = jI Rb 124 2398 := by
            rw [o1.i (by unfold pV; omega), o2.i (by unfold qK; omega)]
            unfold stg; simp only [m_I_sI, m_L_sI, m_R_sI, m_AI_sI, m_AL_sI, m_AD_sI, m_AR_sI, m_n_sI, m_I_sL, m_L_sL, m_R_sL, m_AI_sL, m_AL_sL, m_AD_sL, m_AR_sL, m_n_sL, m_I_sR, m_L_sR, m_R_sR, m_AI_sR, m_AL_sR, m_AD_sR, m_AR_sR, m_n_sR, m_I_rI, m_L_rI, m_R_rI, m_AI_rI, m_AL_rI, m_AD_rI, m_AR_rI, m_n_rI, m_I_rL, m_L_rL, m_R_rL, m_AI_rL, m_AL_rL, m_AD_rL, m_AR_rL, m_n_rL, m_I_rD, m_L_rD, m_R_rD, m_AI_rD, m_AL_rD, m_AD_rD, m_AR_rD, m_n_rD, m_I_rR, m_L_rR, m_R_rR, m_AI_rR, m_AL_rR, m_AD_rR, m_AR_rR, m_n_rR]; exact x3'.2.1.1
          have h122b : jI Rb 122 2398 = nI r := by rw [o2.i (by unfold qK; omega)]; exact x8'
          have o7 : jI Cb 7 F = 0 := by rw [o1.i (by unfold pV; omega)]; unfold stg; simp only [m_I_sI, m_L_sI, m_R_sI, m_AI_sI, m_AL_sI, m_AD_sI, m_AR_sI, m_n_sI, m_I_sL, m_L_sL, m_R_sL, m_AI_sL, m_AL_sL, m_AD_sL, m_AR_sL, m_n_sL, m_I_sR, m_L_sR, m_R_sR, m_AI_sR, m_AL_sR, m_AD_sR, m_AR_sR, m_n_sR, m_I_rI, m_L_rI, m_R_rI, m_AI_rI, m_AL_rI, m_AD_rI, m_AR_rI, m_n_rI, m_I_rL, m_L_rL, m_R_rL, m_AI_rL, m_AL_rL, m_AD_rL, m_AR_rL, m_n_rL, m_I_rD, m_L_rD, m_R_rD, m_AI_rD, m_AL_rD, m_AD_rD, m_AR_rD, m_n_rD, m_I_rR, m_L_rR, m_R_rR, m_AI_rR, m_AL_rR, m_AD_rR, m_AR_rR, m_n_rR]; exact x5'.1
          have o8 : jI Cb 8 F = -1 := by rw [o1.i (by unfold pV; omega)]; unfold stg; simp only [m_I_sI, m_L_sI, m_R_sI, m_AI_sI, m_AL_sI, m_AD_sI, m_AR_sI, m_n_sI, m_I_sL, m_L_sL, m_R_sL, m_AI_sL, m_AL_sL, m_AD_sL, m_AR_sL, m_n_sL, m_I_sR, m_L_sR, m_R_sR, m_AI_sR, m_AL_sR, m_AD_sR, m_AR_sR, m_n_sR, m_I_rI, m_L_rI, m_R_rI, m_AI_rI, m_AL_rI, m_AD_rI, m_AR_rI, m_n_rI, m_I_rL, m_L_rL, m_R_rL, m_AI_rL, m_AL_rL, m_AD_rL, m_AR_rL, m_n_rL, m_I_rD, m_L_rD, m_R_rD, m_AI_rD, m_AL_rD, m_AD_rD, m_AR_rD, m_n_rD, m_I_rR, m_L_rR, m_R_rR, m_AI_rR, m_AL_rR, m_AD_rR, m_AR_rR, m_n_rR]; exact x5'.2.1
          obtain ⟨K3, E3⟩ := act_KE (t := t) (nr := nr) (ru := ru) (f := f) (h := h) (rs := rs) (lo := lo) (hi := hi) hF (by omega) x3' hFb (fun i hi => by rw [b813, if_neg (by omega)]) (o2.mono (fun t f a z => .inl z)) o3 q6 q4 (by omega) h10b
          have u0 : VR n Cb (818 + 2 * h) Rb sl := v0.c (o1.sP (fun t f => by unfold pV; omega)) (o1.sP (fun t f => by unfold pV; omega)) (o3 _ vs0.1)
          have u1 : VR n Cb (818 + 2 * (h + 1)) Rb sl1 := v1.c (o1.sP (fun t f => by unfold pV; omega)) (o1.sP (fun t f => by unfold pV; omega)) (o3 _ vs1.1)
          have eso : jI Cb 52 (818 + 2 * (h + 1)) = 0 := by rw [o1.i (by unfold pV; omega)]; exact c1
          rw [eb0, eb1'] at hadd
          have hCc : Fr (fun t f a => t = 3 ∧ f = f ∧ a = 816) Cb (jrL Cb 816 (vp_updL (jAL Cb 816) k (jAL R2 2401 (12 * sl)))) := (Fr.refl).rL (by omega)
          have c16 : ∀ q, jAL (jrL Cb 816 (vp_updL (jAL Cb 816) k (jAL R2 2401 (12 * sl)))) 816 q = if q = k then jAL R2 2401 (12 * sl) else jAL Cb 816 q := fun q => by simp only [m_I_sI, m_L_sI, m_R_sI, m_AI_sI, m_AL_sI, m_AD_sI, m_AR_sI, m_n_sI, m_I_sL, m_L_sL, m_R_sL, m_AI_sL, m_AL_sL, m_AD_sL, m_AR_sL, m_n_sL, m_I_sR, m_L_sR, m_R_sR, m_AI_sR, m_AL_sR, m_AD_sR, m_AR_sR, m_n_sR, m_I_rI, m_L_rI, m_R_rI, m_AI_rI, m_AL_rI, m_AD_rI, m_AR_rI, m_n_rI, m_I_rL, m_L_rL, m_R_rL, m_AI_rL, m_AL_rL, m_AD_rL, m_AR_rL, m_n_rL, m_I_rD, m_L_rD, m_R_rD, m_AI_rD, m_AL_rD, m_AD_rD, m_AR_rD, m_n_rD, m_I_rR, m_L_rR, m_R_rR, m_AI_rR, m_AL_rR, m_AD_rR, m_AR_rR, m_n_rR, updL_if, true_and, and_true, and_false, false_and, and_self, if_true, if_false, ite_self, Nat.reduceEqDiff, reduceIte, obt, jlt, jbt, jbd_ite, bind_ite]
          obtain ⟨K4, E4⟩ := cnt_KE (t := t) (nr := nr) (ru := ru) (f := f) (h := h) (rs := rs) (lo := lo) (hi := hi) (k := k) hF E3 ⟨k1, k2⟩ hCc (fun q hq => by rw [c16, if_neg hq])
          generalize jrL Cb 816 (vp_updL (jAL Cb 816) k (jAL R2 2401 (12 * sl))) = Cc at *
          have hSL2 : ∀ t0, f_X10_turn_50 811 (nI k) (ki k) (nI 2) C3 = f_X10_addUp_210 811 (nI k) (nI h) (818 + 2 * h) (818 + 2 * (h + 2)) t0 Cc → SL F T t np nr ru n ki co inn f k h rs lo hi r C0 R0 w0 p0 jj3 t0 2 sl sl1 sl' Cc Rb w3 p' sc3 := fun t0 ht0 => by
            have K34 := K3.trans K4 (Nat.le_refl _) (Nat.le_refl _) (fun q z => z) (Nat.le_refl _)
            refine ⟨fun C3 hC3 => x1' C3 (ht0.trans hC3), K34.es x2' p226.2.1, E4, x4'.trans K34 (Nat.le_refl _) (Nat.le_refl _) (fun q z => z) (Nat.le_refl _), ⟨(hCc.i (by omega)).trans o7, (hCc.i (by omega)).trans o8, q8.trans x5'.2.2.1, q9.trans x5'.2.2.2⟩, ⟨?_, x6'.2.1, ?_, ?_, ?_, ?_⟩, h122b, ⟨b1, by omega, by omega, b4, b5, b6'⟩, ⟨⟨⟨Nat.lt_of_lt_of_le vs0.1 q4, vs0.2⟩, u0.c (hCc.sP (fun t f => by omega)) (hCc.sP (fun t f => by omega)) sS.refl⟩, ⟨⟨Nat.lt_of_lt_of_le vs1.1 q4, vs1.2⟩, u1.c (hCc.sP (fun t f => by omega)) (hCc.sP (fun t f => by omega)) sS.refl⟩, ⟨⟨q3.1, .inr (by omega)⟩, q7.c (hCc.sP (fun t f => by omega)) (hCc.sP (fun t f => by omega)) sS.refl⟩⟩, by omega⟩
            · rw [hCc.i (by omega), o1.i (by unfold pV; omega)]; exact e60
            · rw [hCc.ai (by omega), hFb.ai (by unfold pE; omega)]; exact x6'.2.2.1
            · rw [hCc.ai (by omega), b813, if_pos rfl]
            · rw [hCc.ai (by omega), hFb.ai (by unfold pE; omega)]; exact x6'.2.2.2.2.1
            · rw [hCc.ai (by omega), hFb.ai (by unfold pE; omega)]; exact x6'.2.2.2.2.2
          have e98 : ∀ t0, f_X12_workSum_98 (g_V D') 2398 (nI (301 * t + k)) (nI sl) (jAL R2 2401 (12 * sl1)) (nI sl') t0 Rb = f_X12_workSum_111 (g_V D') 1100000 2398 (nI (301 * t + k)) (jAL R2 2401 (12 * sl1)) (nI sl') t0 (jAL R2 2401 (12 * sl)) Rb := fun t0 => by
            unfold f_X12_workSum_98
            rw [if_pos k_2398, ly_90 hLRb, obt, if_pos qa, za, jlt, er0]
          rw [e98, e98]
          by_cases cle : jAL R2 2401 (12 * sl1) < jAL R2 2401 (12 * sl)
          · -- no item
            rw [if_pos cle, show (1100000 : Nat) = 1099999 + 1 from rfl, ws_s, if_pos rfl]
            rw [if_neg (by rw [l_le]; rw [l_lt] at cle; omega)] at hadd
            exact ⟨_, Rb, rfl, (hSL2 1 (htu.trans hadd)).ends⟩
          · rw [if_neg cle]
            rw [l_lt] at cle
            rw [if_pos (by rw [l_le]; omega)] at hadd
            exact sum_loop IH hD' ⟨k1, k2⟩ hrs hhi hkd j2 tk2 l2 (by omega) d0 400 (by omega) (by omega) (hSL2 0 (htu.trans hadd)) (by rw [hCc.i (by omega)]; exact eso) er1 (by rw [c16, if_pos rfl]) (by omega) (fun q hq => by
              obtain ⟨u1', u2', u3'⟩ := hA3 q hq
              exact ⟨u1', u2', by rw [c16, if_neg (by omega), b816, o2.al (by unfold qK; omega)]; exact u3'⟩) (by omega)
        · rw [if_neg c1] at hadd ⊢
          exact fail2 (htu.trans hadd)
      · rw [if_neg c0] at hadd ⊢
        exact fail2 (htu.trans hadd)
    · subst e1
      unfold f_X12_workSum_29
      rw [if_neg (by decide)]
      exact ⟨-1, R2, rfl, pf (x := 0) (Rc := R) hPF (by omega) (by omega)⟩
  · subst e1
    rw [if_neg (by decide)]
    unfold f_X12_workSum_29
    rw [if_neg (by decide)]
    exact ⟨-1, R1, rfl, pf (x := 0) (Rc := R) hPF (by omega) (by omega)⟩
