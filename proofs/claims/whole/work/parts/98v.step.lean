/-! PURE: a STEP of the latest figure -/
theorem d100 : ∀ r, r < 24 → ∀ c, c < 8 → nI (100 * r + c) - nI (100 * r + c) / (100 : Int32) * (100 : Int32) = nI c ∧ nI (100 * r + c) / (100 : Int32) = nI r ∧ (100 : Int32) * nI r + nI c = nI (100 * r + c) := by decide +kernel
theorem q_step {C R : jM} (hC : Lay C) (hR : Lay R) (h : Rel C R) (v : Int32) : Sim (f_X11_step 0 v) (f_X12_step 2398 v) C R := by
  obtain ⟨e8, e9, e16, e10, e11, ⟨s0, s1⟩, hk⟩ := id h.S
  have hF : isF 2018 := .inl rfl
  unfold Sim f_X11_step f_X12_step
  have vI : f_X12_in v.toInt64 0 (jI R 152 2398 - 1).toInt64 = 0 ↔ ¬ (0 ≤ v.toInt ∧ v.toInt < (jI C 16 2018).toInt) := by
    rw [in0, i2l_toInt, i2l_toInt, i_sub1 (a := jI R 152 2398) (by rw [← e16]; omega), ← e16, t_l0]; omega
  rw [if_pos k_0, if_pos k_2398, ly_75 hC]
  by_cases c0 : 0 ≤ v.toInt
  · have n0 : ¬ v < 0 := by rw [i_lt, t_0]; omega
    by_cases c1 : v.toInt < (jI C 16 2018).toInt
    · obtain ⟨k, hkv⟩ : ∃ k : Nat, v.toInt = k := ⟨v.toInt.toNat, by omega⟩
      have hv : v = nI k := nI_is hkv (by omega)
      subst hv
      have hk24 : k < 24 := by omega
      obtain ⟨r, hr, t1, ⟨t2, t3⟩, t4, t5⟩ := hk k (by omega)
      obtain ⟨c, hc⟩ : ∃ c : Nat, (jAI C 2019 r).toInt = c := ⟨(jAI C 2019 r).toInt.toNat, by omega⟩
      have ec : jAI C 2019 r = nI c := nI_is hc (by omega)
      have er : jAI C 2021 k = nI r := nI_is t1 (by omega)
      have e37 : jAI R 2437 k = nI (100 * r + c) := nI_is (by rw [t4, hc]; omega) (by omega)
      obtain ⟨d1, d2, d3⟩ := d100 r hr c (by omega)
      obtain ⟨l1, l2, l3, l4, l5⟩ := hC.2.2.2.2.2.1 2018 hF.k
      obtain ⟨q1, q2, q3, q4, q5⟩ := aC hF hr
      obtain ⟨-, -, q3', -, q5'⟩ := aC hF hk24
      have a37 : jA 2437 13 (nI k) = true := jA_n k_2437 (by rw [ln_2437]; omega) (by omega)
      rw [if_neg n0, obt, if_pos k_2018, if_pos (by rw [i_lt]; exact c1), obt, if_pos k_2018, l3, obt, if_pos q3', q5', er, jlt, obt, if_pos k_2018, l1, obt, if_pos q1, q5, ec, jlt, if_neg (fun z => vI.mp z ⟨c0, c1⟩), ly_155 hR, obt, if_pos a37, e37, d1]
      by_cases cz : nI c = 0
      · have c0' : jAI C 2019 r = 0 := by rw [ec, cz]
        obtain ⟨Cb, s1', s2', s3'⟩ := setTo_vr hC k_605 (hF.fig hr) (by omega) (t5 c0')
        obtain ⟨Rb, u1, u2, u3, u4⟩ := copy_vr hR (s := 0) (q := 201 + k) (by omega) (by omega) (v := 0) (w := (201 : Int32) + nI k) rfl (by rw [show (201 : Int32) + nI k = nI (201 + k) from nJ_add (a := 201) (b := k) (by omega), nI_toInt (by omega)])
        have e37b : jAI Rb 2437 k = nI (100 * r + c) := by rw [u2.ai (by unfold qV; omega)]; exact e37
        have l155 : jR Rb 155 2398 = some 2437 := by rw [u2.r (by unfold qV; omega)]; exact ly_155 hR
        have e31 : jI Cb 31 1 = jI C 31 1 := s2'.i (by unfold pV; omega)
        obtain ⟨r1, r2, r3⟩ := Rel.gen h (s2'.mono (fun t f a z => by unfold pV at z; unfold pGa; omega)) (u2.mono (fun t f a z => by unfold qV at z; unfold qGa; omega)) (fun s h1 h2 => u3 s (by omega)) (by unfold rD; rw [e31]; exact u4 _ _ _ s3') (rS_f s2' u2 (fun t f a => by unfold cS pV; omega) (fun t f a => by unfold mS qV; omega) (fun s h1 h2 => u3 s (by omega)) h.S)
        unfold f_X11_step_58 f_X12_step_41
        rw [if_pos cz, if_pos cz, ly_70 hC, obt, obt, if_pos k_2018, l4, obt, if_pos q4, l5 r hr, obt, if_pos k_605, s1', obt, u1, obt, if_pos k_2398, l155, obt, if_pos a37, q5', e37b, d3]
        exact ⟨_, _, _, rfl, rfl, r1, r2, r3⟩
      · unfold f_X11_step_58 f_X12_step_41
        rw [if_neg cz, if_neg cz, if_pos k_2398, ly_155 hR, obt, if_pos a37, q5', e37, d3]
        exact ⟨_, _, _, rfl, rfl, h.fr_self⟩
    · rw [if_neg n0, obt, if_pos k_2018, if_neg (by rw [i_lt]; exact c1), if_pos (vI.mpr (fun z => c1 z.2))]
      exact ⟨_, _, _, rfl, rfl, h.fr_self⟩
  · rw [if_pos (by rw [i_lt, t_0]; omega), if_pos (vI.mpr (fun z => c0 z.1))]
    exact ⟨_, _, _, rfl, rfl, h.fr_self⟩
