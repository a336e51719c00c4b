/-! PURE: acts on rows: with -/
theorem sP_refl {S : jM} {a : Nat} : sP S S a := ⟨fun _ => rfl, fun _ => rfl, rfl, rfl⟩
theorem with_set {C : jM} (hC : Lay C) {a : Nat} (ka : jK a = 7) {i : Nat} (hi : i < 12) {r : Int64} (h1 : jI C 52 a ≠ 1) (h4 : jI C 52 a = 4 → vcan r) : f_X9_setBits a (nI i) r C = some (jrL C (a + 1) (vp_updL (jAL C (a + 1)) i (if jI C 52 a = 2 then r.toInt32.toInt64 else r))) := by
  have kl := kd_val ka
  have A1 : jA (a + 1) 14 (nI i) = true := jA_n kl.1 (by rw [kl.2]; exact hi) (by omega)
  have g0 : ¬ nI i < 0 := by rw [i_lt, t_0, nI_toInt (by omega)]; omega
  have g12 : nI i < 12 := by rw [show (12 : Int32) = nI 12 from rfl, nJ_lt (by omega) (by omega)]; exact hi
  unfold f_X9_setBits f_X9_setBits_47 f_X9_setBits_66
  simp only [g0, g12, ka, ly_v hC ka, A1, nJ_cl (show i < 2147483648 by omega), h1, isNot_ok, true_and, and_true, and_false, false_and, and_self, if_true, if_false, ite_self, Nat.reduceEqDiff, reduceIte, obt, jlt, jbt, jbd_ite, bind_ite]
  by_cases c2 : jI C 52 a = 2
  · rw [if_pos c2, if_pos c2]
  · rw [if_neg c2, if_neg c2]
    by_cases c4 : jI C 52 a = 4
    · rw [if_pos c4]
      by_cases hn : mg r ≤ 9218868437227405312
      · rw [if_pos hn, if_pos rfl]
      · rw [if_neg hn, if_neg (by decide), nan_is (h4 c4) hn]
    · rw [if_neg c4]
theorem a_with {n : Int} {C R : jM} {a b sa sb p : Nat} (hC : Lay C) (hR : Lay R) (ka : jK a = 7) (kb : jK b = 7) (ha : VR n C a R sa) (hb : VR n C b R sb) (hp : jI R 92 2398 = nI p) (hp2 : p < 1500) (hsa : sa < p) (hsb : sb < p) {c sc : Nat} (kc : jK c = 7) (hc : VR n C c R sc) (hsc : sc < p) (hP : rP C R) (hn : n = (jI C 31 1).toInt) : ∃ fl x C' R', f_X3_with 1 a b c C = some (fl, C') ∧ f_X12_with 2398 (nI sa) (nI sb) (nI sc) R = some (x, R') ∧ OpR n C C' a R R' p fl x := by
  obtain ⟨ea1, ea2, ea3⟩ := VR_so ha
  obtain ⟨pa1, pa2, pa3⟩ := apn (show sa < 1500 by omega)
  have A1 : jA (a + 1) 14 (0 : Int32) = true := jAz (kd_val ka).1 (by rw [(kd_val ka).2]; decide)
  have qa := a12p (show sa < 1500 by omega)
  have za := c12p (show sa < 1500 by omega)
  have ia : (nI sa).toInt = sa := nI_toInt (by omega)
  obtain ⟨eb1, eb2, eb3⟩ := VR_so hb
  obtain ⟨pb1, pb2, pb3⟩ := apn (show sb < 1500 by omega)
  have A2 : jA (b + 1) 14 (0 : Int32) = true := jAz (kd_val kb).1 (by rw [(kd_val kb).2]; decide)
  have qb := a12p (show sb < 1500 by omega)
  have zb := c12p (show sb < 1500 by omega)
  have ib : (nI sb).toInt = sb := nI_toInt (by omega)
  obtain ⟨ec1, ec2, ec3⟩ := VR_so hc
  obtain ⟨pc1, pc2, pc3⟩ := apn (show sc < 1500 by omega)
  have A3 : jA (c + 1) 14 (0 : Int32) = true := jAz (kd_val kc).1 (by rw [(kd_val kc).2]; decide)
  have qc := a12p (show sc < 1500 by omega)
  have zc := c12p (show sc < 1500 by omega)
  have fail : ∀ fl : Int32, 1 ≤ fl.toInt ∧ fl.toInt ≤ 6 → ∃ fl' x C' R', some (fl, C) = some (fl', C') ∧ f_X12_failing 2398 fl R = some (x, R') ∧ OpR n C C' a R R' p fl' x := by
    intro fl hfl
    obtain ⟨R', d1, d2⟩ := fail_done (n := n) (C := C) (a := a) (fl := fl) hp hfl
    exact ⟨_, _, _, R', rfl, d1, d2⟩
  -- what both ask first
  have hfl : ∃ t : Int32, f_X12_with 2398 (nI sa) (nI sb) (nI sc) R = f_X12_with_71 2398 (nI sa) (nI sb) (nI sc) (jI C 52 a) t R ∧ (2 ≤ (jI C 52 a).toInt ∧ (jI C 52 a).toInt ≤ 7 → (t = 0 ∨ t = 1) ∧ f_X3_fitsSort a c C = some t ∧ (t = 1 → ((jI C 52 a = 2 ∨ jI C 52 a = 3) ∧ jI C 52 c = 0) ∨ (jI C 52 a = 4 ∧ (jI C 52 c).toInt < 2) ∨ ((5 ≤ (jI C 52 a).toInt ∧ (jI C 52 a).toInt ≤ 7) ∧ jI C 52 c = 8))) := by
    unfold f_X12_with f_X12_with_20 f_X3_fitsSort f_X3_fitsSort_45
    simp only [ka, k_2398, ly_v hC ka, A1, cl0, ly_88 hR, ly_89 hR, ly_90 hR, ly_91 hR, pa1, pa2, pa3, ea1, ea2, qa.1, qa.2, za, jid, i10, kb, ly_v hC kb, A2, pb1, pb2, pb3, eb1, eb2, qb.1, qb.2, zb, kc, pc1, pc3, ec1, isKin_ok ka, ite01, true_and, and_true, and_false, false_and, and_self, if_true, if_false, ite_self, Nat.reduceEqDiff, reduceIte, obt, jlt, jbt, jbd_ite, bind_ite]
    by_cases d2 : jI C 52 a = 2
    · rw [if_pos d2]
      by_cases e : jI C 52 c = 0
      · rw [if_pos e]; exact ⟨1, rfl, fun _ => ⟨.inr rfl, by rw [if_neg (by rw [d2]; decide), if_pos e], fun _ => .inl ⟨.inl d2, e⟩⟩⟩
      · rw [if_neg e]; exact ⟨0, rfl, fun _ => ⟨.inl rfl, by rw [if_neg (by rw [d2]; decide), if_neg e, if_neg (show ¬ jI C 52 a = 4 by rw [d2]; decide), ite_self], fun z => absurd z (by decide)⟩⟩
    · rw [if_neg d2]
      by_cases d3 : jI C 52 a = 3
      · rw [if_pos d3]
        by_cases e : jI C 52 c = 0
        · rw [if_pos e]; exact ⟨1, rfl, fun _ => ⟨.inr rfl, by rw [if_neg (by rw [d3]; decide), if_pos e], fun _ => .inl ⟨.inr d3, e⟩⟩⟩
        · rw [if_neg e]; exact ⟨0, rfl, fun _ => ⟨.inl rfl, by rw [if_neg (by rw [d3]; decide), if_neg e, if_neg (show ¬ jI C 52 a = 4 by rw [d3]; decide), ite_self], fun z => absurd z (by decide)⟩⟩
      · rw [if_neg d3]
        by_cases d4 : jI C 52 a = 4
        · rw [if_pos d4]
          refine ⟨_, rfl, fun _ => ?_⟩
          rw [if_neg (by rw [d4]; decide), if_pos d4]
          by_cases e : (jI C 52 c).toInt < 2
          · rw [m_isn1 e]
            refine ⟨.inr rfl, ?_, fun _ => .inr (.inl ⟨d4, e⟩)⟩
            rcases so01 ec3.1 e with z | z
            · rw [if_pos z]
            · rw [if_neg (by rw [z]; decide), if_pos z]
          · rw [m_isn0 e]
            refine ⟨.inl rfl, ?_, fun z => absurd z (by decide)⟩
            rw [if_neg (fun z => by rw [z] at e; revert e; decide), if_neg (fun z => by rw [z] at e; revert e; decide)]
        · rw [if_neg d4]
          by_cases e : jI C 52 c = 8
          · rw [if_pos e]
            refine ⟨1, rfl, fun hr => ?_⟩
            have hk : 5 ≤ (jI C 52 a).toInt ∧ (jI C 52 a).toInt ≤ 7 := by
              rw [i_eq] at d2 d3 d4
              have x2 : (2 : Int32).toInt = 2 := rfl
              have x3 : (3 : Int32).toInt = 3 := rfl
              have x4 : (4 : Int32).toInt = 4 := rfl
              omega
            rw [if_pos hk, if_pos e]
            exact ⟨.inr rfl, rfl, fun _ => .inr (.inr ⟨hk, e⟩)⟩
          · rw [if_neg e]
            refine ⟨0, rfl, fun hr => ?_⟩
            have hk : 5 ≤ (jI C 52 a).toInt ∧ (jI C 52 a).toInt ≤ 7 := by
              rw [i_eq] at d2 d3 d4
              have x2 : (2 : Int32).toInt = 2 := rfl
              have x3 : (3 : Int32).toInt = 3 := rfl
              have x4 : (4 : Int32).toInt = 4 := rfl
              omega
            rw [if_pos hk, if_neg e]
            exact ⟨.inl rfl, rfl, fun z => absurd z (by decide)⟩
  obtain ⟨t, t1, t2⟩ := hfl
  rw [t1]
  by_cases ca : 2 ≤ (jI C 52 a).toInt ∧ (jI C 52 a).toInt ≤ 7
  · have hra : f_X12_isRow (jI C 52 a) = 1 := by rw [m_isR, if_pos ca]
    obtain ⟨t3, t4, t5⟩ := t2 ca
    by_cases cb : jI C 52 b = 0
    · have hw := VR_num0 hb cb
      by_cases ct : t = 0
      · have e1 : f_X3_with 1 a b c C = some (2, C) := by
          unfold f_X3_with
          simp only [ka, k_2398, ly_v hC ka, A1, cl0, ly_88 hR, ly_89 hR, ly_90 hR, ly_91 hR, pa1, pa2, pa3, ea1, ea2, qa.1, qa.2, za, jid, i10, kb, ly_v hC kb, A2, pb1, pb2, pb3, eb1, eb2, qb.1, qb.2, zb, c_isR1 ka ca, cb, t4, ct, true_and, and_true, and_false, false_and, and_self, if_true, if_false, ite_self, Nat.reduceEqDiff, reduceIte, obt, jlt, jbt, jbd_ite, bind_ite]
        have e2 : f_X12_with_71 2398 (nI sa) (nI sb) (nI sc) (jI C 52 a) t R = f_X12_failing 2398 2 R := by
          unfold f_X12_with_71 f_X12_with_95
          simp only [ka, k_2398, ly_v hC ka, A1, cl0, ly_88 hR, ly_89 hR, ly_90 hR, ly_91 hR, pa1, pa2, pa3, ea1, ea2, qa.1, qa.2, za, jid, i10, kb, ly_v hC kb, A2, pb1, pb2, pb3, eb1, eb2, qb.1, qb.2, zb, hra, cb, ct, true_and, and_true, and_false, false_and, and_self, if_true, if_false, ite_self, Nat.reduceEqDiff, reduceIte, obt, jlt, jbt, jbd_ite, bind_ite]
        rw [e1, e2]; exact fail 2 (by decide)
      · have ct1 : t = 1 := t3.resolve_left ct
        have hfit := t5 ct1
        obtain ⟨Z, hZ, hZe⟩ := sz_n ea3
        have hin : f_X12_in (jAL C (b + 1) 0) 0 ((jI C 53 a).toInt64 - 1) = 0 ↔ ¬ (0 ≤ (jAL C (b + 1) 0).toInt ∧ (jAL C (b + 1) 0).toInt < (jI C 53 a).toInt) := by
          have h1 := ea3.2.2.1
          have h2 := ea3.2.2.2.1
          rw [in0, t_l0, l_sub (by rw [i2l_toInt, t_l1]; omega) (by rw [i2l_toInt, t_l1]; omega), i2l_toInt, t_l1]; omega
        by_cases ci : 0 ≤ (jAL C (b + 1) 0).toInt ∧ (jAL C (b + 1) 0).toInt < (jI C 53 a).toInt
        · have hzi : (jI C 53 a).toInt = Z := by rw [hZe, nI_toInt (by omega)]
          obtain ⟨i, hi⟩ : ∃ i : Nat, (jAL C (b + 1) 0).toInt = i := ⟨(jAL C (b + 1) 0).toInt.toNat, by omega⟩
          have hb32 : (jAL C (b + 1) 0).toInt32 = nI i := by rw [i_eq, l2i (by omega) (by omega), nI_toInt (by omega)]; exact hi
          have hi12 : i < 12 := by omega
          -- the good end
          have good : (jI C 52 a ≠ 4 → jI C 52 c ≠ 1 ∧ (5 ≤ (jI C 52 a).toInt → -1 ≤ (jAL C (c + 1) 0).toInt ∧ (jAL C (c + 1) 0).toInt < n)) → ∃ fl x C' R', f_X3_with_65 a b c C = some (fl, C') ∧ f_X12_with_168 2398 (nI sa) (nI sc) (jI C 52 a) (jAL C (b + 1) 0) R = some (x, R') ∧ OpR n C C' a R R' p fl x := by
            intro hgood
            obtain ⟨R1, m1, m2, m3, m4, m5, m6, m7, m8, m9⟩ := made_ok hR hp hp2 (jI C 52 a) (jI C 53 a)
            have hR1 := hR.frK m2
            obtain ⟨R2, u1, u2, u3, u4, u5⟩ := put_ok (to := p) (from' := sa) (j := 0) (i := 0) (n := Z) hp2 (by omega) (by omega) (by omega) (by omega) hR1
            have hR2 := hR1.frV u2
            rw [n0] at u1
            have e53 : jAI R1 2400 sa = nI Z := by rw [m7, upd_if, if_neg (by omega), ea2]; exact hZe
            have hgap : ∀ z, ¬ (12 * p ≤ z ∧ z < 12 * p + 12) → jAL R2 2401 z = jAL R 2401 z ∧ jAD R2 2402 z = jAD R 2402 z := fun z hz => by
              rw [u4, u5, if_neg (by omega), if_neg (by omega), m8, m9, if_neg hz, if_neg hz]; exact ⟨rfl, rfl⟩
            have hsS : ∀ s, s < p → sS R R2 s := fun s hs => made_sS (so := jI C 52 a) (n := jI C 53 a) (by rw [u3]; exact m6) (by rw [u3]; exact m7) (fun j hj => (hgap j hj).1) (fun j hj => (hgap j hj).2) hs
            have hc2 : VR n C c R2 sc := hc.c sP_refl sP_refl (hsS sc hsc)
            have hx := i12 (v := nI p) (w := nI i) (s := p) (i := i) (nI_toInt (by omega)) hp2 (nI_toInt (by omega)) hi12
            have hxc : (((12 : Int32) * nI p) + nI i).toNatClampNeg = 12 * p + i := by rw [i_cl, hx]; omega
            have hX1 : jA 2401 14 (((12 : Int32) * nI p) + nI i) = true := jA_iff.mpr ⟨k_2401, by omega, by rw [ln_2401]; omega⟩
            have hX2 : jA 2402 12 (((12 : Int32) * nI p) + nI i) = true := jA_iff.mpr ⟨k_2402, by omega, by rw [ln_2402]; omega⟩
            have hfr2 : Fr qK R R2 := m2.trans (u2.mono (fun _ _ _ => qV_K))
            have k92 : jI R2 92 2398 = nI (p + 1) := by rw [u2.i (by unfold qV; omega)]; exact m3
            have k126 : jI R2 126 2398 = jI R 126 2398 := by rw [u2.i (by unfold qV; omega)]; exact m4
            have k127 : jI R2 127 2398 = jI R 127 2398 := by rw [u2.i (by unfold qV; omega)]; exact m5
            have h1ne : jI C 52 a ≠ 1 := fun z => by rw [z] at ca; revert ca; decide
            -- the old items
            have hold : ∀ j, j < Z → vitem n (jI C 52 a) (jAL C (a + 1) j) (jAL R2 2401 (12 * p + j)) (jAD R2 2402 (12 * p + j)) := fun j hj => by
              rw [u4, u5, if_pos (by omega), if_pos (by omega), m8, m9, if_neg (by omega), if_neg (by omega)]
              rw [show 12 * sa + 0 + (12 * p + j - (12 * p + 0)) = 12 * sa + j by omega]
              exact VR_it ha (j := j) (by unfold vlen; rw [if_pos ca, hZe, nI_toInt (by omega)]; omega)
            have ref0 : ∀ X, f_X12_with_168 2398 (nI sa) (nI sc) (jI C 52 a) (jAL C (b + 1) 0) R = X ↔ (if jI C 52 a = (4 : Int32) then (f_X12_asReal 2398 (nI sc) R2).bind (fun x28 => some (nI p, jrD R2 2402 (vf_upd (jAD R2 2402) (12 * p + i) x28))) else if jI C 52 a = (2 : Int32) then some (nI p, jrL R2 2401 (vp_updL (jAL R2 2401) (12 * p + i) (jAL R2 2401 (12 * sc)).toInt32.toInt64)) else some (nI p, jrL R2 2401 (vp_updL (jAL R2 2401) (12 * p + i) (jAL R2 2401 (12 * sc))))) = X := by
              intro X
              unfold f_X12_with_168 f_X12_with_264
              simp only [ka, k_2398, ly_v hC ka, A1, cl0, ly_88 hR, ly_89 hR, ly_90 hR, ly_91 hR, pa1, pa2, pa3, ea1, ea2, qa.1, qa.2, za, jid, i10, kb, ly_v hC kb, A2, pb1, pb2, pb3, eb1, eb2, qb.1, qb.2, zb, m1, ly_89 hR1, e53, u1, hb32, hX1, hX2, hxc, ly_90 hR2, ly_91 hR2, pc1, pc3, qc.1, zc, true_and, and_true, and_false, false_and, and_self, if_true, if_false, ite_self, Nat.reduceEqDiff, reduceIte, obt, jlt, jbt, jbd_ite, bind_ite]
            by_cases d4 : jI C 52 a = 4
            · have hcn : (jI C 52 c).toInt < 2 := by
                rcases hfit with ⟨z | z, -⟩ | ⟨-, z⟩ | ⟨z, -⟩
                · rw [d4] at z; exact absurd z (by decide)
                · rw [d4] at z; exact absurd z (by decide)
                · exact z
                · rw [d4] at z; exact absurd z (by decide)
              obtain ⟨r, r1, r2, r3⟩ := asR hR2 hc2 (by omega) hcn
              have ec : f_X3_with_65 a b c C = some (0, jrL C (a + 1) (vp_updL (jAL C (a + 1)) i r)) := by
                have hset := with_set hC ka hi12 (r := r) h1ne (fun _ => r3)
                rw [if_neg (by rw [d4]; decide)] at hset
                unfold f_X3_with_65 f_X3_with_84 f_X3_with_85 f_X3_with_110
                simp only [ka, k_2398, ly_v hC ka, A1, cl0, ly_88 hR, ly_89 hR, ly_90 hR, ly_91 hR, pa1, pa2, pa3, ea1, ea2, qa.1, qa.2, za, jid, i10, kb, ly_v hC kb, A2, pb1, pb2, pb3, eb1, eb2, qb.1, qb.2, zb, kc, ly_v hC kc, A3, d4, i10, hb32, true_and, and_true, and_false, false_and, and_self, if_true, if_false, ite_self, Nat.reduceEqDiff, reduceIte, obt, jlt, jbt, jbd_ite, bind_ite]
                rcases so01 ec3.1 hcn with z | z
                · rw [if_neg (by rw [z]; decide)] at r1
                  rw [if_pos z, r1, obt, hset]; rfl
                · rw [if_pos z] at r1
                  injection r1 with r1
                  rw [if_neg (by rw [z]; decide), r1, hset]; rfl
              refine ⟨0, nI p, _, jrD R2 2402 (vf_upd (jAD R2 2402) (12 * p + i) r.toUInt64), ec, (ref0 _).mpr (by rw [if_pos d4, r2, obt]), opr_new frL (hfr2.trans ((Fr.refl).rD (by unfold qK; omega))) k92 k126 k127 (fun s hs => ?_) ?_ hp2⟩
              · obtain ⟨s1, s2, s3⟩ := hsS s hs
                exact ⟨s1, s2, fun j hj => ⟨(s3 j hj).1, by simp only [m_I_sI, m_L_sI, m_R_sI, m_AI_sI, m_AL_sI, m_AD_sI, m_AR_sI, m_n_sI, m_I_sL, m_L_sL, m_R_sL, m_AI_sL, m_AL_sL, m_AD_sL, m_AR_sL, m_n_sL, m_I_sR, m_L_sR, m_R_sR, m_AI_sR, m_AL_sR, m_AD_sR, m_AR_sR, m_n_sR, m_I_rI, m_L_rI, m_R_rI, m_AI_rI, m_AL_rI, m_AD_rI, m_AR_rI, m_n_rI, m_I_rL, m_L_rL, m_R_rL, m_AI_rL, m_AL_rL, m_AD_rL, m_AR_rL, m_n_rL, m_I_rD, m_L_rD, m_R_rD, m_AI_rD, m_AL_rD, m_AD_rD, m_AR_rD, m_n_rD, m_I_rR, m_L_rR, m_R_rR, m_AI_rR, m_AL_rR, m_AD_rR, m_AR_rR, m_n_rR, true_and, and_true, and_false, false_and, and_self, if_true, if_false, ite_self, Nat.reduceEqDiff, reduceIte, obt, jlt, jbt, jbd_ite, bind_ite]; rw [updD_if, if_neg (by omega)]; exact (s3 j hj).2⟩⟩
              · unfold VR VV
                simp only [m_I_sI, m_L_sI, m_R_sI, m_AI_sI, m_AL_sI, m_AD_sI, m_AR_sI, m_n_sI, m_I_sL, m_L_sL, m_R_sL, m_AI_sL, m_AL_sL, m_AD_sL, m_AR_sL, m_n_sL, m_I_sR, m_L_sR, m_R_sR, m_AI_sR, m_AL_sR, m_AD_sR, m_AR_sR, m_n_sR, m_I_rI, m_L_rI, m_R_rI, m_AI_rI, m_AL_rI, m_AD_rI, m_AR_rI, m_n_rI, m_I_rL, m_L_rL, m_R_rL, m_AI_rL, m_AL_rL, m_AD_rL, m_AR_rL, m_n_rL, m_I_rD, m_L_rD, m_R_rD, m_AI_rD, m_AL_rD, m_AD_rD, m_AR_rD, m_n_rD, m_I_rR, m_L_rR, m_R_rR, m_AI_rR, m_AL_rR, m_AD_rR, m_AR_rR, m_n_rR, true_and, and_true, and_false, false_and, and_self, if_true, if_false, ite_self, Nat.reduceEqDiff, reduceIte, obt, jlt, jbt, jbd_ite, bind_ite]
                rw [u3, m6, m7, upd_if, upd_if, if_pos rfl, if_pos rfl]
                refine ⟨rfl, rfl, ea3, fun j hj => ?_⟩
                have hjZ : j < Z := by unfold vlen at hj; rw [if_pos ca, hZe, nI_toInt (by omega)] at hj; omega
                rw [updL_if, updD_if]
                by_cases e : j = i
                · subst e
                  rw [if_pos rfl, if_pos rfl]
                  unfold vitem
                  rw [d4, if_pos (by decide)]
                  exact ⟨rfl, r3⟩
                · rw [if_neg e, if_neg (by omega)]
                  exact hold j hjZ
            · obtain ⟨g1, g2⟩ := hgood d4
              have h14 : ¬ ((jI C 52 a).toInt = 1 ∨ (jI C 52 a).toInt = 4) := fun z => by
                rcases z with z | z
                · omega
                · exact d4 (by rw [i_eq]; exact z)
              have hcw : jAL R2 2401 (12 * sc) = jAL C (c + 1) 0 := by
                have h0 := hc2.2.2.2 0 (by
                  have hv : ¬ (2 ≤ (jI C 52 c).toInt ∧ (jI C 52 c).toInt ≤ 7) := by
                    rcases hfit with ⟨-, z⟩ | ⟨-, z⟩ | ⟨-, z⟩
                    · rw [z]; decide
                    · omega
                    · rw [z]; decide
                  unfold vlen; rw [if_neg hv]; decide)
                unfold vitem at h0
                rw [if_neg (fun z => by
                  rcases hfit with ⟨-, w⟩ | ⟨w, -⟩ | ⟨-, w⟩
                  · rw [w] at z; revert z; decide
                  · exact d4 w
                  · rw [w] at z; revert z; decide)] at h0
                exact h0.1.symm
              have ec : f_X3_with_65 a b c C = some (0, jrL C (a + 1) (vp_updL (jAL C (a + 1)) i (if jI C 52 a = 2 then (jAL C (c + 1) 0).toInt32.toInt64 else jAL C (c + 1) 0))) := by
                have hset := with_set hC ka hi12 (r := jAL C (c + 1) 0) h1ne (fun z => absurd z d4)
                unfold f_X3_with_65 f_X3_with_84 f_X3_with_85 f_X3_with_110
                simp only [ka, k_2398, ly_v hC ka, A1, cl0, ly_88 hR, ly_89 hR, ly_90 hR, ly_91 hR, pa1, pa2, pa3, ea1, ea2, qa.1, qa.2, za, jid, i10, kb, ly_v hC kb, A2, pb1, pb2, pb3, eb1, eb2, qb.1, qb.2, zb, kc, ly_v hC kc, A3, d4, hb32, true_and, and_true, and_false, false_and, and_self, if_true, if_false, ite_self, Nat.reduceEqDiff, reduceIte, obt, jlt, jbt, jbd_ite, bind_ite]
                rw [hset]; rfl
              have er : f_X12_with_168 2398 (nI sa) (nI sc) (jI C 52 a) (jAL C (b + 1) 0) R = some (nI p, jrL R2 2401 (vp_updL (jAL R2 2401) (12 * p + i) (if jI C 52 a = 2 then (jAL C (c + 1) 0).toInt32.toInt64 else jAL C (c + 1) 0))) := by
                refine (ref0 _).mpr ?_
                rw [if_neg d4, hcw]
                by_cases d2 : jI C 52 a = 2
                · rw [if_pos d2, if_pos d2]
                · rw [if_neg d2, if_neg d2]
              refine ⟨0, nI p, _, _, ec, er, opr_new frL (hfr2.trans ((Fr.refl).rL (by unfold qK; omega))) k92 k126 k127 (fun s hs => ?_) ?_ hp2⟩
              · obtain ⟨s1, s2, s3⟩ := hsS s hs
                exact ⟨s1, s2, fun j hj => ⟨by simp only [m_I_sI, m_L_sI, m_R_sI, m_AI_sI, m_AL_sI, m_AD_sI, m_AR_sI, m_n_sI, m_I_sL, m_L_sL, m_R_sL, m_AI_sL, m_AL_sL, m_AD_sL, m_AR_sL, m_n_sL, m_I_sR, m_L_sR, m_R_sR, m_AI_sR, m_AL_sR, m_AD_sR, m_AR_sR, m_n_sR, m_I_rI, m_L_rI, m_R_rI, m_AI_rI, m_AL_rI, m_AD_rI, m_AR_rI, m_n_rI, m_I_rL, m_L_rL, m_R_rL, m_AI_rL, m_AL_rL, m_AD_rL, m_AR_rL, m_n_rL, m_I_rD, m_L_rD, m_R_rD, m_AI_rD, m_AL_rD, m_AD_rD, m_AR_rD, m_n_rD, m_I_rR, m_L_rR, m_R_rR, m_AI_rR, m_AL_rR, m_AD_rR, m_AR_rR, m_n_rR, true_and, and_true, and_false, false_and, and_self, if_true, if_false, ite_self, Nat.reduceEqDiff, reduceIte, obt, jlt, jbt, jbd_ite, bind_ite]; rw [updL_if, if_neg (by omega)]; exact (s3 j hj).1, (s3 j hj).2⟩⟩
              · unfold VR VV
                simp only [m_I_sI, m_L_sI, m_R_sI, m_AI_sI, m_AL_sI, m_AD_sI, m_AR_sI, m_n_sI, m_I_sL, m_L_sL, m_R_sL, m_AI_sL, m_AL_sL, m_AD_sL, m_AR_sL, m_n_sL, m_I_sR, m_L_sR, m_R_sR, m_AI_sR, m_AL_sR, m_AD_sR, m_AR_sR, m_n_sR, m_I_rI, m_L_rI, m_R_rI, m_AI_rI, m_AL_rI, m_AD_rI, m_AR_rI, m_n_rI, m_I_rL, m_L_rL, m_R_rL, m_AI_rL, m_AL_rL, m_AD_rL, m_AR_rL, m_n_rL, m_I_rD, m_L_rD, m_R_rD, m_AI_rD, m_AL_rD, m_AD_rD, m_AR_rD, m_n_rD, m_I_rR, m_L_rR, m_R_rR, m_AI_rR, m_AL_rR, m_AD_rR, m_AR_rR, m_n_rR, true_and, and_true, and_false, false_and, and_self, if_true, if_false, ite_self, Nat.reduceEqDiff, reduceIte, obt, jlt, jbt, jbd_ite, bind_ite]
                rw [u3, m6, m7, upd_if, upd_if, if_pos rfl, if_pos rfl]
                refine ⟨rfl, rfl, ea3, fun j hj => ?_⟩
                have hjZ : j < Z := by unfold vlen at hj; rw [if_pos ca, hZe, nI_toInt (by omega)] at hj; omega
                rw [updL_if, updL_if]
                by_cases e : j = i
                · subst e
                  rw [if_pos rfl, if_pos rfl]
                  unfold vitem
                  rw [if_neg h14]
                  refine ⟨rfl, fun z => ?_, fun z => by omega⟩
                  rw [if_neg (fun w => by rw [w] at z; revert z; decide)]
                  exact g2 z
                · rw [if_neg e, if_neg (by omega)]
                  exact hold j hjZ
          by_cases ck : 5 ≤ (jI C 52 a).toInt ∧ (jI C 52 a).toInt ≤ 7
          · have d4 : jI C 52 a ≠ 4 := fun z => by rw [z] at ck; revert ck; decide
            have c8 : jI C 52 c = 8 := by
              rcases hfit with ⟨z | z, -⟩ | ⟨z, -⟩ | ⟨-, z⟩
              · rw [z] at ck; exact absurd ck (by decide)
              · rw [z] at ck; exact absurd ck (by decide)
              · exact absurd z d4
              · exact z
            have hc0 := hc.2.2.2 0 (by unfold vlen; rw [c8, if_neg (by decide)]; decide)
            unfold vitem at hc0
            rw [c8, if_neg (by decide)] at hc0
            obtain ⟨w1, w2, w3⟩ := hc0
            have w2 := w2 (by decide)
            obtain ⟨q, q1, q2⟩ := belongs_eq hC hR hP (so := jI C 52 a) (p := jAL C (c + 1) 0) w2.1 (by omega)
            have hka : f_X12_isKin (jI C 52 a) = 1 := by rw [m_isK, if_pos ck]
            have e1 : f_X3_with 1 a b c C = if q = 0 then some (5, C) else f_X3_with_65 a b c C := by
              unfold f_X3_with
              simp only [ka, k_2398, ly_v hC ka, A1, cl0, ly_88 hR, ly_89 hR, ly_90 hR, ly_91 hR, pa1, pa2, pa3, ea1, ea2, qa.1, qa.2, za, jid, i10, kb, ly_v hC kb, A2, pb1, pb2, pb3, eb1, eb2, qb.1, qb.2, zb, c_isR1 ka ca, cb, t4, ct1, hasItem_ok ka ea3.2.2.2.1, ci, c_isK1 ka ck, kc, ly_v hC kc, A3, k_1, q1, true_and, and_true, and_false, false_and, and_self, if_true, if_false, ite_self, Nat.reduceEqDiff, reduceIte, obt, jlt, jbt, jbd_ite, bind_ite]
            have e2 : f_X12_with_71 2398 (nI sa) (nI sb) (nI sc) (jI C 52 a) t R = if q = 0 then f_X12_failing 2398 5 R else f_X12_with_168 2398 (nI sa) (nI sc) (jI C 52 a) (jAL C (b + 1) 0) R := by
              unfold f_X12_with_71 f_X12_with_95
              have w1' : jAL R 2401 (12 * sc) = jAL C (c + 1) 0 := w1.symm
              simp only [ka, k_2398, ly_v hC ka, A1, cl0, ly_88 hR, ly_89 hR, ly_90 hR, ly_91 hR, pa1, pa2, pa3, ea1, ea2, qa.1, qa.2, za, jid, i10, kb, ly_v hC kb, A2, pb1, pb2, pb3, eb1, eb2, qb.1, qb.2, zb, hra, cb, ct1, ← hw, hka, qc.1, zc, w1', q2, true_and, and_true, and_false, false_and, and_self, if_true, if_false, ite_self, Nat.reduceEqDiff, reduceIte, obt, jlt, jbt, jbd_ite, bind_ite]
              rw [if_neg (fun z => hin.mp z ci)]
            rw [e1, e2]
            by_cases cq : q = 0
            · rw [if_pos cq, if_pos cq]; exact fail 5 (by decide)
            · rw [if_neg cq, if_neg cq]
              exact good (fun _ => ⟨by rw [c8]; decide, fun _ => w2⟩)
          · have hka : f_X12_isKin (jI C 52 a) = 0 := by rw [m_isK, if_neg ck]
            have e1 : f_X3_with 1 a b c C = f_X3_with_65 a b c C := by
              unfold f_X3_with
              simp only [ka, k_2398, ly_v hC ka, A1, cl0, ly_88 hR, ly_89 hR, ly_90 hR, ly_91 hR, pa1, pa2, pa3, ea1, ea2, qa.1, qa.2, za, jid, i10, kb, ly_v hC kb, A2, pb1, pb2, pb3, eb1, eb2, qb.1, qb.2, zb, c_isR1 ka ca, cb, t4, ct1, hasItem_ok ka ea3.2.2.2.1, ci, c_isK0 ka ck, true_and, and_true, and_false, false_and, and_self, if_true, if_false, ite_self, Nat.reduceEqDiff, reduceIte, obt, jlt, jbt, jbd_ite, bind_ite]
            have e2 : f_X12_with_71 2398 (nI sa) (nI sb) (nI sc) (jI C 52 a) t R = f_X12_with_168 2398 (nI sa) (nI sc) (jI C 52 a) (jAL C (b + 1) 0) R := by
              unfold f_X12_with_71 f_X12_with_95
              simp only [ka, k_2398, ly_v hC ka, A1, cl0, ly_88 hR, ly_89 hR, ly_90 hR, ly_91 hR, pa1, pa2, pa3, ea1, ea2, qa.1, qa.2, za, jid, i10, kb, ly_v hC kb, A2, pb1, pb2, pb3, eb1, eb2, qb.1, qb.2, zb, hra, cb, ct1, ← hw, hka, true_and, and_true, and_false, false_and, and_self, if_true, if_false, ite_self, Nat.reduceEqDiff, reduceIte, obt, jlt, jbt, jbd_ite, bind_ite]
              rw [if_neg (fun z => hin.mp z ci)]
            rw [e1, e2]
            refine good (fun d4 => ⟨fun z => ?_, fun z => absurd ⟨z, ca.2⟩ ck⟩)
            rcases hfit with ⟨-, w⟩ | ⟨w, -⟩ | ⟨w, -⟩
            · rw [w] at z; exact absurd z (by decide)
            · exact d4 w
            · exact ck w
        · have e1 : f_X3_with 1 a b c C = some (3, C) := by
            unfold f_X3_with
            simp only [ka, k_2398, ly_v hC ka, A1, cl0, ly_88 hR, ly_89 hR, ly_90 hR, ly_91 hR, pa1, pa2, pa3, ea1, ea2, qa.1, qa.2, za, jid, i10, kb, ly_v hC kb, A2, pb1, pb2, pb3, eb1, eb2, qb.1, qb.2, zb, c_isR1 ka ca, cb, t4, ct1, hasItem_ok ka ea3.2.2.2.1, ci, true_and, and_true, and_false, false_and, and_self, if_true, if_false, ite_self, Nat.reduceEqDiff, reduceIte, obt, jlt, jbt, jbd_ite, bind_ite]
          have e2 : f_X12_with_71 2398 (nI sa) (nI sb) (nI sc) (jI C 52 a) t R = f_X12_failing 2398 3 R := by
            unfold f_X12_with_71 f_X12_with_95
            simp only [ka, k_2398, ly_v hC ka, A1, cl0, ly_88 hR, ly_89 hR, ly_90 hR, ly_91 hR, pa1, pa2, pa3, ea1, ea2, qa.1, qa.2, za, jid, i10, kb, ly_v hC kb, A2, pb1, pb2, pb3, eb1, eb2, qb.1, qb.2, zb, hra, cb, ct1, ← hw, true_and, and_true, and_false, false_and, and_self, if_true, if_false, ite_self, Nat.reduceEqDiff, reduceIte, obt, jlt, jbt, jbd_ite, bind_ite]
            rw [if_pos (hin.mpr ci)]
          rw [e1, e2]; exact fail 3 (by decide)
    · have e1 : f_X3_with 1 a b c C = some (2, C) := by
        unfold f_X3_with
        simp only [ka, k_2398, ly_v hC ka, A1, cl0, ly_88 hR, ly_89 hR, ly_90 hR, ly_91 hR, pa1, pa2, pa3, ea1, ea2, qa.1, qa.2, za, jid, i10, kb, ly_v hC kb, A2, pb1, pb2, pb3, eb1, eb2, qb.1, qb.2, zb, c_isR1 ka ca, cb, true_and, and_true, and_false, false_and, and_self, if_true, if_false, ite_self, Nat.reduceEqDiff, reduceIte, obt, jlt, jbt, jbd_ite, bind_ite]
      have e2 : f_X12_with_71 2398 (nI sa) (nI sb) (nI sc) (jI C 52 a) t R = f_X12_failing 2398 2 R := by
        unfold f_X12_with_71 f_X12_with_95
        simp only [ka, k_2398, ly_v hC ka, A1, cl0, ly_88 hR, ly_89 hR, ly_90 hR, ly_91 hR, pa1, pa2, pa3, ea1, ea2, qa.1, qa.2, za, jid, i10, kb, ly_v hC kb, A2, pb1, pb2, pb3, eb1, eb2, qb.1, qb.2, zb, hra, cb, true_and, and_true, and_false, false_and, and_self, if_true, if_false, ite_self, Nat.reduceEqDiff, reduceIte, obt, jlt, jbt, jbd_ite, bind_ite]
      rw [e1, e2]; exact fail 2 (by decide)
  · have hra : f_X12_isRow (jI C 52 a) = 0 := by rw [m_isR, if_neg ca]
    have e1 : f_X3_with 1 a b c C = some (2, C) := by
      unfold f_X3_with
      simp only [ka, k_2398, ly_v hC ka, A1, cl0, ly_88 hR, ly_89 hR, ly_90 hR, ly_91 hR, pa1, pa2, pa3, ea1, ea2, qa.1, qa.2, za, jid, i10, kb, ly_v hC kb, A2, pb1, pb2, pb3, eb1, eb2, qb.1, qb.2, zb, c_isR0 ka ca, true_and, and_true, and_false, false_and, and_self, if_true, if_false, ite_self, Nat.reduceEqDiff, reduceIte, obt, jlt, jbt, jbd_ite, bind_ite]
    have e2 : f_X12_with_71 2398 (nI sa) (nI sb) (nI sc) (jI C 52 a) t R = f_X12_failing 2398 2 R := by
      unfold f_X12_with_71 f_X12_with_95
      simp only [ka, k_2398, ly_v hC ka, A1, cl0, ly_88 hR, ly_89 hR, ly_90 hR, ly_91 hR, pa1, pa2, pa3, ea1, ea2, qa.1, qa.2, za, jid, i10, kb, ly_v hC kb, A2, pb1, pb2, pb3, eb1, eb2, qb.1, qb.2, zb, hra, true_and, and_true, and_false, false_and, and_self, if_true, if_false, ite_self, Nat.reduceEqDiff, reduceIte, obt, jlt, jbt, jbd_ite, bind_ite]
    rw [e1, e2]; exact fail 2 (by decide)
