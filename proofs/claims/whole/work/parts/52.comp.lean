/-! PURE: comparisons, min and max, the sign turned -/
theorem cg_gt {x y : Int64} : 0 < Op.cmpValue (FP.dcmp x.toUInt64 y.toUInt64) .g ↔ ¬ (nN x ∧ nN y ∧ kx x ≤ kx y) := by
  have h : ∀ o : Option Ordering, 0 < Op.cmpValue o .g ↔ ¬ (o = some .lt ∨ o = some .eq) := fun o => by
    cases o with
    | none => decide
    | some o => cases o <;> decide
  rw [h, dc_lt, dc_eq]
  refine not_congr ?_
  by_cases q : nN x ∧ nN y
  · simp only [q.1, q.2, true_and]; omega
  · exact ⟨fun z => by rcases z with z | z <;> exact absurd ⟨z.1, z.2.1⟩ q, fun z => absurd ⟨z.1, z.2.1⟩ q⟩
theorem oz_lt {x y : Int64} : f_X5_orderWithoutSignOfZero x < f_X5_orderWithoutSignOfZero y ↔ kx x < kx y := by
  rw [l_lt, orderz_int, orderz_int]
  unfold kx
  cases dS x <;> cases dS y <;> simp only [Bool.false_eq_true, if_false, if_true] <;> split <;> split <;> omega
theorem oz_eq {x y : Int64} : f_X5_orderWithoutSignOfZero x = f_X5_orderWithoutSignOfZero y ↔ kx x = kx y := by
  rw [l_eq, orderz_int, orderz_int]
  unfold kx
  cases dS x <;> cases dS y <;> simp only [Bool.false_eq_true, if_false, if_true] <;> split <;> split <;> omega
theorem oz_le {x y : Int64} : f_X5_orderWithoutSignOfZero x ≤ f_X5_orderWithoutSignOfZero y ↔ kx x ≤ kx y := by
  have h := oz_lt (x := y) (y := x)
  rw [l_lt] at h
  rw [l_le]; omega
theorem cmp_done {n : Int} {C R : jM} (hC : Lay C) (hR : Lay R) {a p : Nat} (ka : jK a = 7) (hp : jI R 92 2398 = nI p) (hp2 : p < 1500) (t : Int32) : ∃ C' R', f_X3_compare_137 a t C = some (0, C') ∧ f_X12_compare_255 2398 t R = some (nI p, R') ∧ OpR n C C' a R R' p 0 (nI p) := by
  unfold f_X3_compare_137 f_X12_compare_255 f_X3_compare_149 f_X12_compare_266
  rw [if_pos ka, if_pos ka, if_pos k_2398, if_pos k_2398, jid, jid]
  by_cases c : t = 0
  · rw [if_pos c, if_pos c]; exact whole_done hC hR ka hp hp2 0
  · rw [if_neg c, if_neg c]; exact whole_done hC hR ka hp hp2 1
theorem a_compare {n : Int} {C R : jM} {a b sa sb p : Nat} (hC : Lay C) (hR : Lay R) (ka : jK a = 7) (kb : jK b = 7) (ha : VR n C a R sa) (hb : VR n C b R sb) (hp : jI R 92 2398 = nI p) (hp2 : p < 1500) (hsa : sa < p) (hsb : sb < p) {k k' : Int32} (hk : (k = 60 ∧ k' = 160) ∨ (k = 9 ∧ k' = 46) ∨ (k = 61 ∧ k' = 161) ∨ (k = 10 ∧ k' = 45)) :
    ∃ fl x C' R', f_X3_compare k a b C = some (fl, C') ∧ f_X12_compare 2398 k' (nI sa) (nI sb) R = some (x, R') ∧ OpR n C C' a R R' p fl x := by
  obtain ⟨ea1, ea2, ea3⟩ := VR_so ha
  obtain ⟨pa1, pa2, pa3⟩ := apn (show sa < 1500 by omega)
  have A1 : jA (a + 1) 14 (0 : Int32) = true := jAz (kd_val ka).1 (by rw [(kd_val ka).2]; decide)
  have qa := a12p (show sa < 1500 by omega)
  have za := c12p (show sa < 1500 by omega)
  have ia : (nI sa).toInt = sa := nI_toInt (by omega)
  obtain ⟨eb1, eb2, eb3⟩ := VR_so hb
  obtain ⟨pb1, pb2, pb3⟩ := apn (show sb < 1500 by omega)
  have A2 : jA (b + 1) 14 (0 : Int32) = true := jAz (kd_val kb).1 (by rw [(kd_val kb).2]; decide)
  have qb := a12p (show sb < 1500 by omega)
  have zb := c12p (show sb < 1500 by omega)
  have ib : (nI sb).toInt = sb := nI_toInt (by omega)
  by_cases ca : (jI C 52 a).toInt < 2
  · by_cases cb : (jI C 52 b).toInt < 2
    · have real_case : ¬ (jI C 52 a = 0 ∧ jI C 52 b = 0) → ∃ fl x C' R', f_X3_compare k a b C = some (fl, C') ∧ f_X12_compare 2398 k' (nI sa) (nI sb) R = some (x, R') ∧ OpR n C C' a R R' p fl x := by
        intro hz
        obtain ⟨x, y, x1, y1, x2, y2, x3, y3⟩ := asR2 hC hR ka kb ha hb hp hp2 hsa hsb ca cb
        have f1 : ∀ t, f_X3_compare_42 k a b (jAL C (a + 1) 0) (jAL C (b + 1) 0) t C = f_X3_compare_105 k a x t y C := by
          intro t
          have e86 : ∀ q, f_X3_compare_86 k a b (jAL C (b + 1) 0) t q C = f_X3_compare_105 k a q t y C := fun q => by
            unfold f_X3_compare_86
            rw [if_pos kb]
            exact bind_num (f := fun z => f_X3_compare_105 k a q t z C) y3
          have e70 : f_X3_compare_70 k a b (jAL C (a + 1) 0) (jAL C (b + 1) 0) t C = f_X3_compare_105 k a x t y C := by
            unfold f_X3_compare_70
            rw [if_pos ka]
            exact (bind_num (f := fun z => f_X3_compare_86 k a b (jAL C (b + 1) 0) t z C) x3).trans (e86 x)
          unfold f_X3_compare_42
          rw [if_pos ka, if_pos kb, e70]
          by_cases c1 : jI C 52 a = 0
          · rw [if_pos c1, if_neg (fun z => hz ⟨c1, z⟩)]
          · rw [if_neg c1]
        have f2 : f_X12_compare 2398 k' (nI sa) (nI sb) R = f_X12_compare_50 2398 k' (nI sa) (nI sb) R := by
          unfold f_X12_compare
          simp only [ka, k_2398, ly_v hC ka, A1, cl0, ly_88 hR, ly_89 hR, ly_90 hR, ly_91 hR, pa1, pa2, pa3, ea1, ea2, qa.1, qa.2, za, jid, i10, kb, ly_v hC kb, A2, pb1, pb2, pb3, eb1, eb2, qb.1, qb.2, zb, m_isn1 ca, m_isn1 cb, true_and, and_true, and_false, false_and, and_self, if_true, if_false, ite_self, Nat.reduceEqDiff, reduceIte, obt, jlt, jbt, jbd_ite, bind_ite]
          by_cases c1 : jI C 52 a = 1
          · rw [if_pos c1]
          · rw [if_neg c1, if_pos]
            rcases so01 ea3.1 ca with z | z
            · rcases so01 eb3.1 cb with w | w
              · exact absurd ⟨z, w⟩ hz
              · exact w
            · exact absurd z c1
        have f3 : f_X3_compare k a b C = f_X3_compare_105 k a x (if k = 10 then 1 else 0) y C := by
          unfold f_X3_compare
          simp only [ka, k_2398, ly_v hC ka, A1, cl0, ly_88 hR, ly_89 hR, ly_90 hR, ly_91 hR, pa1, pa2, pa3, ea1, ea2, qa.1, qa.2, za, jid, i10, kb, ly_v hC kb, A2, pb1, pb2, pb3, eb1, eb2, qb.1, qb.2, zb, c_isn1 ka ea3.1 ca, c_isn1 kb eb3.1 cb, f1, true_and, and_true, and_false, false_and, and_self, if_true, if_false, ite_self, Nat.reduceEqDiff, reduceIte, obt, jlt, jbt, jbd_ite, bind_ite]
          by_cases c : k = 10
          · rw [if_pos c, if_pos c]
          · rw [if_neg c, if_neg c]
        have f4 : ∃ t, f_X3_compare_105 k a x (if k = 10 then 1 else 0) y C = f_X3_compare_137 a t C ∧ f_X12_compare_50 2398 k' (nI sa) (nI sb) R = f_X12_compare_255 2398 t R := by
          unfold f_X3_compare_105 f_X12_compare_50 f_X12_compare_145 f_X3_tells
          rw [if_pos k_2398, x2, obt, y2, obt, isNot_ok, isNot_ok]
          simp only [cg_ge, cg_gt, cl_eq, oz_lt, oz_le, oz_eq, jlt]
          rcases hk with ⟨rfl, rfl⟩ | ⟨rfl, rfl⟩ | ⟨rfl, rfl⟩ | ⟨rfl, rfl⟩
          · rw [if_pos (show (160 : Int32) = 160 from rfl)]
            by_cases h1 : nN x
            · by_cases h2 : nN y
              · rw [if_pos h1, if_pos h2, if_pos rfl, if_pos rfl, if_neg (show ¬ (60 : Int32) = 9 by decide), if_pos rfl]
                by_cases h3 : kx y ≤ kx x
                · rw [if_pos h3, if_pos (fun z => by have := z.2.2; omega)]; exact ⟨0, rfl, rfl⟩
                · rw [if_neg h3, if_neg (fun z => z ⟨h1, h2, by omega⟩)]; exact ⟨1, rfl, rfl⟩
              · rw [if_pos h1, if_neg h2, if_pos rfl, if_neg (show ¬ (1 : Int32) = 0 by decide), if_neg (show ¬ (60 : Int32) = 10 by decide), if_pos (fun z => h2 z.2.1)]; exact ⟨0, rfl, rfl⟩
            · rw [if_neg h1, if_neg (show ¬ (1 : Int32) = 0 by decide), if_neg (show ¬ (60 : Int32) = 10 by decide), if_pos (fun z => h1 z.1)]; exact ⟨0, rfl, rfl⟩
          · rw [if_neg (show ¬ (46 : Int32) = 160 by decide), if_pos (show (46 : Int32) = 46 from rfl)]
            by_cases h1 : nN x
            · by_cases h2 : nN y
              · rw [if_pos h1, if_pos h2, if_pos rfl, if_pos rfl, if_pos (show (9 : Int32) = 9 from rfl)]
                by_cases h3 : kx y < kx x
                · rw [if_pos h3, if_pos (fun z => by have := z.2.2; omega)]; exact ⟨0, rfl, rfl⟩
                · rw [if_neg h3, if_neg (fun z => z ⟨h1, h2, by omega⟩)]; exact ⟨1, rfl, rfl⟩
              · rw [if_pos h1, if_neg h2, if_pos rfl, if_neg (show ¬ (1 : Int32) = 0 by decide), if_neg (show ¬ (9 : Int32) = 10 by decide), if_pos (fun z => h2 z.2.1)]; exact ⟨0, rfl, rfl⟩
            · rw [if_neg h1, if_neg (show ¬ (1 : Int32) = 0 by decide), if_neg (show ¬ (9 : Int32) = 10 by decide), if_pos (fun z => h1 z.1)]; exact ⟨0, rfl, rfl⟩
          · rw [if_neg (show ¬ (161 : Int32) = 160 by decide), if_neg (show ¬ (161 : Int32) = 46 by decide), if_pos (show (161 : Int32) = 161 from rfl)]
            by_cases h1 : nN x
            · by_cases h2 : nN y
              · rw [if_pos h1, if_pos h2, if_pos rfl, if_pos rfl, if_neg (show ¬ (61 : Int32) = 9 by decide), if_neg (show ¬ (61 : Int32) = 60 by decide), if_pos (show (61 : Int32) = 61 from rfl)]
                by_cases h3 : kx x = kx y
                · rw [if_pos h3, if_pos ⟨h1, h2, h3⟩]; exact ⟨1, rfl, rfl⟩
                · rw [if_neg h3, if_neg (fun z => h3 z.2.2)]; exact ⟨0, rfl, rfl⟩
              · rw [if_pos h1, if_neg h2, if_pos rfl, if_neg (show ¬ (1 : Int32) = 0 by decide), if_neg (show ¬ (61 : Int32) = 10 by decide), if_neg (fun z => h2 z.2.1)]; exact ⟨0, rfl, rfl⟩
            · rw [if_neg h1, if_neg (show ¬ (1 : Int32) = 0 by decide), if_neg (show ¬ (61 : Int32) = 10 by decide), if_neg (fun z => h1 z.1)]; exact ⟨0, rfl, rfl⟩
          · rw [if_neg (show ¬ (45 : Int32) = 160 by decide), if_neg (show ¬ (45 : Int32) = 46 by decide), if_neg (show ¬ (45 : Int32) = 161 by decide)]
            by_cases h1 : nN x
            · by_cases h2 : nN y
              · rw [if_pos h1, if_pos h2, if_pos rfl, if_pos rfl, if_neg (show ¬ (10 : Int32) = 9 by decide), if_neg (show ¬ (10 : Int32) = 60 by decide), if_neg (show ¬ (10 : Int32) = 61 by decide)]
                by_cases h3 : kx x = kx y
                · rw [if_pos h3, if_pos ⟨h1, h2, h3⟩]; exact ⟨0, rfl, rfl⟩
                · rw [if_neg h3, if_neg (fun z => h3 z.2.2)]; exact ⟨1, rfl, rfl⟩
              · rw [if_pos h1, if_neg h2, if_pos rfl, if_neg (show ¬ (1 : Int32) = 0 by decide), if_pos (show (10 : Int32) = 10 from rfl), if_neg (fun z => h2 z.2.1)]; exact ⟨1, rfl, rfl⟩
            · rw [if_neg h1, if_neg (show ¬ (1 : Int32) = 0 by decide), if_pos (show (10 : Int32) = 10 from rfl), if_neg (fun z => h1 z.1)]; exact ⟨1, rfl, rfl⟩
        obtain ⟨t, t1, t2⟩ := f4
        obtain ⟨C', R', d1, d2, d3⟩ := cmp_done (n := n) hC hR ka hp hp2 t
        exact ⟨_, _, C', R', by rw [f3, t1]; exact d1, by rw [f2, t2]; exact d2, d3⟩
      rcases so01 ea3.1 ca with c1 | c1
      · rcases so01 eb3.1 cb with c2 | c2
        · have f1 : f_X3_compare k a b C = f_X3_compare_137 a (f_X3_tells k (jAL C (a + 1) 0) (jAL C (b + 1) 0)) C := by
            unfold f_X3_compare f_X3_compare_42
            simp only [ka, k_2398, ly_v hC ka, A1, cl0, ly_88 hR, ly_89 hR, ly_90 hR, ly_91 hR, pa1, pa2, pa3, ea1, ea2, qa.1, qa.2, za, jid, i10, kb, ly_v hC kb, A2, pb1, pb2, pb3, eb1, eb2, qb.1, qb.2, zb, c_isn1 ka ea3.1 ca, c_isn1 kb eb3.1 cb, c1, c2, true_and, and_true, and_false, false_and, and_self, if_true, if_false, ite_self, Nat.reduceEqDiff, reduceIte, obt, jlt, jbt, jbd_ite, bind_ite]
          have f2 : f_X12_compare 2398 k' (nI sa) (nI sb) R = f_X12_compare_255 2398 (f_X3_tells k (jAL C (a + 1) 0) (jAL C (b + 1) 0)) R := by
            unfold f_X12_compare f_X12_compare_253
            simp only [ka, k_2398, ly_v hC ka, A1, cl0, ly_88 hR, ly_89 hR, ly_90 hR, ly_91 hR, pa1, pa2, pa3, ea1, ea2, qa.1, qa.2, za, jid, i10, kb, ly_v hC kb, A2, pb1, pb2, pb3, eb1, eb2, qb.1, qb.2, zb, m_isn1 ca, m_isn1 cb, true_and, and_true, and_false, false_and, and_self, if_true, if_false, ite_self, Nat.reduceEqDiff, reduceIte, obt, jlt, jbt, jbd_ite, bind_ite]
            rw [if_neg (by rw [c1]; decide), if_neg (by rw [c2]; decide), ← VR_num0 ha c1, ← VR_num0 hb c2]
            unfold f_X3_tells
            generalize jAL C (a + 1) 0 = X
            generalize jAL C (b + 1) 0 = Y
            rcases hk with ⟨rfl, rfl⟩ | ⟨rfl, rfl⟩ | ⟨rfl, rfl⟩ | ⟨rfl, rfl⟩
            · rw [if_pos (show (160 : Int32) = 160 from rfl), if_neg (show ¬ (60 : Int32) = 9 by decide), if_pos (show (60 : Int32) = 60 from rfl)]
              by_cases h : Y ≤ X
              · rw [if_pos h, if_pos h]
              · rw [if_neg h, if_neg h]
            · rw [if_neg (show ¬ (46 : Int32) = 160 by decide), if_pos (show (46 : Int32) = 46 from rfl), if_pos (show (9 : Int32) = 9 from rfl)]
              by_cases h : Y < X
              · rw [if_pos h, if_pos h]
              · rw [if_neg h, if_neg h]
            · rw [if_neg (show ¬ (161 : Int32) = 160 by decide), if_neg (show ¬ (161 : Int32) = 46 by decide), if_pos (show (161 : Int32) = 161 from rfl), if_neg (show ¬ (61 : Int32) = 9 by decide), if_neg (show ¬ (61 : Int32) = 60 by decide), if_pos (show (61 : Int32) = 61 from rfl)]
              by_cases h : X = Y
              · rw [if_pos h, if_pos h]
              · rw [if_neg h, if_neg h]
            · rw [if_neg (show ¬ (45 : Int32) = 160 by decide), if_neg (show ¬ (45 : Int32) = 46 by decide), if_neg (show ¬ (45 : Int32) = 161 by decide), if_neg (show ¬ (10 : Int32) = 9 by decide), if_neg (show ¬ (10 : Int32) = 60 by decide), if_neg (show ¬ (10 : Int32) = 61 by decide)]
              by_cases h : X = Y
              · rw [if_pos h, if_pos h]
              · rw [if_neg h, if_neg h]
          obtain ⟨C', R', d1, d2, d3⟩ := cmp_done (n := n) hC hR ka hp hp2 (f_X3_tells k (jAL C (a + 1) 0) (jAL C (b + 1) 0))
          exact ⟨_, _, C', R', by rw [f1]; exact d1, by rw [f2]; exact d2, d3⟩
        · exact real_case (fun z => by rw [z.2] at c2; revert c2; decide)
      · exact real_case (fun z => by rw [z.1] at c1; revert c1; decide)
    · obtain ⟨R', d1, d2⟩ := fail_done (n := n) (C := C) (a := a) (fl := 2) hp (by decide)
      refine ⟨_, _, _, R', ?_, ?_, d2⟩
      · unfold f_X3_compare
        simp only [ka, k_2398, ly_v hC ka, A1, cl0, ly_88 hR, ly_89 hR, ly_90 hR, ly_91 hR, pa1, pa2, pa3, ea1, ea2, qa.1, qa.2, za, jid, i10, kb, ly_v hC kb, A2, pb1, pb2, pb3, eb1, eb2, qb.1, qb.2, zb, c_isn1 ka ea3.1 ca, c_isn0 kb cb, true_and, and_true, and_false, false_and, and_self, if_true, if_false, ite_self, Nat.reduceEqDiff, reduceIte, obt, jlt, jbt, jbd_ite, bind_ite]
      · unfold f_X12_compare f_X12_compare_24
        simp only [ka, k_2398, ly_v hC ka, A1, cl0, ly_88 hR, ly_89 hR, ly_90 hR, ly_91 hR, pa1, pa2, pa3, ea1, ea2, qa.1, qa.2, za, jid, i10, kb, ly_v hC kb, A2, pb1, pb2, pb3, eb1, eb2, qb.1, qb.2, zb, m_isn1 ca, m_isn0 cb, true_and, and_true, and_false, false_and, and_self, if_true, if_false, ite_self, Nat.reduceEqDiff, reduceIte, obt, jlt, jbt, jbd_ite, bind_ite]
        exact d1
  · obtain ⟨R', d1, d2⟩ := fail_done (n := n) (C := C) (a := a) (fl := 2) hp (by decide)
    refine ⟨_, _, _, R', ?_, ?_, d2⟩
    · unfold f_X3_compare
      simp only [ka, k_2398, ly_v hC ka, A1, cl0, ly_88 hR, ly_89 hR, ly_90 hR, ly_91 hR, pa1, pa2, pa3, ea1, ea2, qa.1, qa.2, za, jid, i10, kb, ly_v hC kb, A2, pb1, pb2, pb3, eb1, eb2, qb.1, qb.2, zb, c_isn0 ka ca, true_and, and_true, and_false, false_and, and_self, if_true, if_false, ite_self, Nat.reduceEqDiff, reduceIte, obt, jlt, jbt, jbd_ite, bind_ite]
    · unfold f_X12_compare f_X12_compare_24
      simp only [ka, k_2398, ly_v hC ka, A1, cl0, ly_88 hR, ly_89 hR, ly_90 hR, ly_91 hR, pa1, pa2, pa3, ea1, ea2, qa.1, qa.2, za, jid, i10, kb, ly_v hC kb, A2, pb1, pb2, pb3, eb1, eb2, qb.1, qb.2, zb, m_isn0 ca, true_and, and_true, and_false, false_and, and_self, if_true, if_false, ite_self, Nat.reduceEqDiff, reduceIte, obt, jlt, jbt, jbd_ite, bind_ite]
      exact d1
