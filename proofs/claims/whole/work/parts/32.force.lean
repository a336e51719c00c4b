/-! PURE: the text in force -/
theorem k_txt {a : Nat} (h : a < 33) : jK (txt a) = 6 := by
  unfold txt
  by_cases e : a = 0
  · rw [if_pos e]; exact k_610
  · rw [if_neg e]
    have := kf_text (show a - 1 < 32 by omega)
    rw [show 619 + 6 * (a - 1) = 613 + 6 * a from by omega] at this
    exact this
/-- the editions, with their places named -/
def rE' (sg : Nat → Nat) (C R : jM) : Prop := (∀ i : Nat, i < 33 → sg i < 33) ∧ (∀ i j : Nat, i < 33 → j < 33 → sg i = sg j → i = j) ∧ jR C 25 607 = some (txt (sg 32)) ∧
  (∀ s : Nat, s < 4 → 0 ≤ (jAI R 2436 s).toInt ∧ (jAI R 2436 s).toInt ≤ 8) ∧
  ∀ s k : Nat, s < 4 → k < 8 → jAR C 618 (8 * s + k) = some (txt (sg (8 * s + k))) ∧
    (((k : Int) < (jAI R 2436 s).toInt ∧ jI C 44 (txt (sg (8 * s + k))) = jAI R 2435 (8 * s + k) ∧ 0 ≤ (jAI R 2435 (8 * s + k)).toInt ∧ (jAI R 2435 (8 * s + k)).toInt ≤ 389 ∧ rX C (txt (sg (8 * s + k))) R (8 * s + k)) ∨ ((jAI R 2436 s).toInt ≤ (k : Int) ∧ jI C 44 (txt (sg (8 * s + k))) = -1))
theorem rE_iff {C R : jM} : rE C R ↔ ∃ sg, rE' sg C R := Iff.rfl
def relO (sg : Nat → Nat) (R : jM) (s : Nat) (o : Option Nat) (b : Int32) : Prop := (o = none ∧ b = -1) ∨ ∃ k : Nat, k < 8 ∧ (k : Int) < (jAI R 2436 s).toInt ∧ b.toInt = 8 * s + k ∧ o = some (txt (sg (8 * s + k)))
theorem tif_end {sg : Nat → Nat} {C R : jM} (hC : Lay C) (hE : rE' sg C R) {s : Nat} (hs : s < 4) {v d : Int32} (hv : v.toInt = s) : ∀ (m fuel : Nat) (k : Nat) (i : Int32) (o : Option Nat), m < fuel → k + m = 8 → i.toInt = 8 * s + k → (jAI R 2436 s).toInt ≤ k → f_X11_textInForce_8 fuel 0 v d o i C = some o := by
  have h8 : ((v + (1 : Int32)) * (8 : Int32)).toInt = 8 * s + 8 := by
    have h1 : (v + (1 : Int32)).toInt = v.toInt + 1 := i_add1 (by omega)
    rw [i_mul (by rw [h1, show (8 : Int32).toInt = 8 from rfl]; omega) (by rw [h1, show (8 : Int32).toInt = 8 from rfl]; omega), h1, show (8 : Int32).toInt = 8 from rfl]; omega
  intro m
  induction m with
  | zero =>
    intro fuel k i o hf hk hi he
    obtain ⟨q, rfl⟩ : ∃ q, fuel = q + 1 := ⟨fuel - 1, by omega⟩
    unfold f_X11_textInForce_8
    rw [if_pos (by rw [i_le]; omega)]
  | succ m ih =>
    intro fuel k i o hf hk hi he
    obtain ⟨q, rfl⟩ : ∃ q, fuel = q + 1 := ⟨fuel - 1, by omega⟩
    have hnext := ih q (k + 1) (i + 1) o (by omega) (by omega) (by rw [i_add1 (by omega)]; omega) (by omega)
    obtain ⟨a1, a2⟩ := hE.2.2.2.2 s k hs (by omega)
    have e1 : jI C 44 (txt (sg (8 * s + k))) = -1 := by
      rcases a2 with a2 | a2
      · omega
      · exact a2.2
    have hcl : i.toNatClampNeg = 8 * s + k := by rw [i_cl]; omega
    have hA : jA 618 18 i = true := jA_iff.mpr ⟨k_618, by omega, by rw [ln_618]; omega⟩
    unfold f_X11_textInForce_8 f_X11_textInForce_65
    rw [if_neg (by rw [i_le]; omega)]
    simp only [ly_73 hC, k_0, hA, hcl, a1, k_txt (hE.1 (8 * s + k) (by omega)), e1, true_and, and_true, and_false, false_and, and_self, if_true, if_false, ite_self, Nat.reduceEqDiff, reduceIte, Option.bind_some, jlet, jbd_some, jbd_ite, bind_ite]
    exact hnext
theorem tif_loop {sg : Nat → Nat} {C R : jM} (hC : Lay C) (hR : Lay R) (hE : rE' sg C R) {s : Nat} (hs : s < 4) {v d : Int32} (hv : v.toInt = s) : ∀ (m fuel fuel2 : Nat) (k : Nat) (i : Int32) (o : Option Nat) (b : Int32), m < fuel → m < fuel2 → k + m = 8 → i.toInt = 8 * s + k → (k : Int) ≤ (jAI R 2436 s).toInt → relO sg R s o b →
    ∃ (o' : Option Nat) (b' : Int32), f_X11_textInForce_8 fuel 0 v d o i C = some o' ∧ f_X12_inForceAt_8 fuel2 2398 v d b i R = some b' ∧ relO sg R s o' b' := by
  have hes := hE.2.2.2.1 s hs
  have hcv : v.toNatClampNeg = s := by rw [i_cl]; omega
  have hA0 : jA 2436 13 v = true := jA_iff.mpr ⟨k_2436, by omega, by rw [ln_2436]; omega⟩
  have h8v : ((8 : Int32) * v).toInt = 8 * v.toInt := i_mul (by rw [show (8 : Int32).toInt = 8 from rfl]; omega) (by rw [show (8 : Int32).toInt = 8 from rfl]; omega)
  have h8e : ((8 : Int32) * v + jAI R 2436 s).toInt = 8 * s + (jAI R 2436 s).toInt := by rw [i_add (by rw [h8v]; omega) (by rw [h8v]; omega), h8v]; omega
  have hl4 : jLen 2436 = 4 ∨ jLen 2436 = 32 := by rw [ln_2436]; decide
  have h8 : ((v + (1 : Int32)) * (8 : Int32)).toInt = 8 * s + 8 := by
    have h1 : (v + (1 : Int32)).toInt = v.toInt + 1 := i_add1 (by omega)
    rw [i_mul (by rw [h1, show (8 : Int32).toInt = 8 from rfl]; omega) (by rw [h1, show (8 : Int32).toInt = 8 from rfl]; omega), h1, show (8 : Int32).toInt = 8 from rfl]; omega
  intro m
  induction m with
  | zero =>
    intro fuel fuel2 k i o b hf hf2 hk hi he hr
    obtain ⟨q, rfl⟩ : ∃ q, fuel2 = q + 1 := ⟨fuel2 - 1, by omega⟩
    refine ⟨o, b, tif_end hC hE hs hv 0 fuel k i o hf hk hi (by omega), ?_, hr⟩
    unfold f_X12_inForceAt_8
    simp only [ly_148 hR, k_2398, hA0, hcv, true_and, and_true, and_false, false_and, and_self, if_true, if_false, ite_self, Nat.reduceEqDiff, reduceIte, Option.bind_some, jlet, jbd_some, jbd_ite, bind_ite]
    rw [if_pos (by rw [i_le]; omega)]
  | succ m ih =>
    intro fuel fuel2 k i o b hf hf2 hk hi he hr
    by_cases hke : (k : Int) = (jAI R 2436 s).toInt
    · obtain ⟨q, rfl⟩ : ∃ q, fuel2 = q + 1 := ⟨fuel2 - 1, by omega⟩
      refine ⟨o, b, tif_end hC hE hs hv (m + 1) fuel k i o hf hk hi (by omega), ?_, hr⟩
      unfold f_X12_inForceAt_8
      simp only [ly_148 hR, k_2398, hA0, hcv, true_and, and_true, and_false, false_and, and_self, if_true, if_false, ite_self, Nat.reduceEqDiff, reduceIte, Option.bind_some, jlet, jbd_some, jbd_ite, bind_ite]
      rw [if_pos (by rw [i_le]; omega)]
    · obtain ⟨q, rfl⟩ : ∃ q, fuel = q + 1 := ⟨fuel - 1, by omega⟩
      obtain ⟨q2, rfl⟩ : ∃ q, fuel2 = q + 1 := ⟨fuel2 - 1, by omega⟩
      have hnext := fun o b => ih q q2 (k + 1) (i + 1) o b (by omega) (by omega) (by omega) (by rw [i_add1 (by omega)]; omega) (by omega)
      have htake : relO sg R s (some (txt (sg (8 * s + k)))) i := .inr ⟨k, by omega, by omega, hi, rfl⟩
      obtain ⟨a1, a2⟩ := hE.2.2.2.2 s k hs (by omega)
      obtain ⟨b1, b2, b3, b4, -⟩ := a2.resolve_right (by omega)
      have hcl : i.toNatClampNeg = 8 * s + k := by rw [i_cl]; omega
      have hA : jA 618 18 i = true := jA_iff.mpr ⟨k_618, by omega, by rw [ln_618]; omega⟩
      have hA2 : jA 2435 13 i = true := jA_iff.mpr ⟨k_2435, by omega, by rw [ln_2435]; omega⟩
      have hne : ¬ jAI R 2435 (8 * s + k) = -1 := by rw [i_eq, t_m1]; omega
      unfold f_X11_textInForce_8 f_X12_inForceAt_8 f_X11_textInForce_62 f_X11_textInForce_65 f_X12_inForceAt_55 f_X12_inForceAt_60 f_X12_inForceAt_61
      rw [if_neg (show ¬ (v + 1) * 8 ≤ i by rw [i_le]; omega)]
      have hge : ¬ ((8 : Int32) * v + jAI R 2436 s) ≤ i := by rw [i_le]; omega
      simp only [ly_73 hC, ly_147 hR, ly_148 hR, k_0, k_2398, hA0, hA, hA2, hcl, hcv, a1, k_txt (hE.1 (8 * s + k) (by omega)), b2, if_neg hne, if_neg hge, true_and, and_true, and_false, false_and, and_self, if_true, if_false, ite_self, Nat.reduceEqDiff, reduceIte, Option.bind_some, jlet, jbd_some, jbd_ite, bind_ite]
      by_cases c1 : d < jAI R 2435 (8 * s + k)
      · simp only [if_pos c1]
        exact hnext o b hr
      · simp only [if_neg c1]
        rcases hr with ⟨e1, e2⟩ | ⟨k', g1, g2, g3, g4⟩
        · have hb : b < 0 := by rw [e2]; decide
          subst e1
          simp only [if_pos hb, Option.isNone_none, if_true]
          exact hnext _ _ htake
        · obtain ⟨z1, z2⟩ := hE.2.2.2.2 s k' hs g1
          obtain ⟨w1, w2, w3, w4, -⟩ := z2.resolve_right (by omega)
          have hb : ¬ b < 0 := by rw [i_lt, t_0]; omega
          have hcb : b.toNatClampNeg = 8 * s + k' := by rw [i_cl]; omega
          have hA3 : jA 2435 13 b = true := jA_iff.mpr ⟨k_2435, by omega, by rw [ln_2435]; omega⟩
          subst g4
          simp only [if_neg hb, Option.isNone_some, Bool.false_eq_true, if_false, hA3, hcb, k_txt (hE.1 (8 * s + k') (by omega)), w2, true_and, and_true, and_false, false_and, and_self, if_true, if_false, ite_self, Nat.reduceEqDiff, reduceIte, Option.bind_some, jlet, jbd_some, jbd_ite, bind_ite]
          by_cases c2 : jAI R 2435 (8 * s + k) ≤ jAI R 2435 (8 * s + k')
          · simp only [if_pos c2]
            exact hnext _ _ (.inr ⟨k', g1, g2, g3, rfl⟩)
          · simp only [if_neg c2]
            exact hnext _ _ htake
theorem tif_ok {sg : Nat → Nat} {C R : jM} (hC : Lay C) (hR : Lay R) (hE : rE' sg C R) {v d : Int32} (hv : 0 ≤ v.toInt ∧ v.toInt ≤ 3) : ∃ (o : Option Nat) (b : Int32), f_X11_textInForce 0 v d C = some o ∧ f_X12_inForceAt 2398 v d R = some b ∧ relO sg R v.toInt.toNat o b := by
  have h1 : (v * (8 : Int32)).toInt = v.toInt * 8 := i_mul (by rw [show (8 : Int32).toInt = 8 from rfl]; omega) (by rw [show (8 : Int32).toInt = 8 from rfl]; omega)
  have h2 : ((8 : Int32) * v).toInt = 8 * v.toInt := i_mul (by rw [show (8 : Int32).toInt = 8 from rfl]; omega) (by rw [show (8 : Int32).toInt = 8 from rfl]; omega)
  have h3 : (8 : Int32) * v = v * 8 := by rw [i_eq]; omega
  have hes := hE.2.2.2.1 v.toInt.toNat (by omega)
  unfold f_X11_textInForce f_X12_inForceAt jlet
  rw [h3]
  exact tif_loop hC hR hE (s := v.toInt.toNat) (by omega) (by omega) 8 1100000 1100000 0 (v * 8) none (-1) (by omega) (by omega) (by omega) (by omega) (by omega) (.inl ⟨rfl, rfl⟩)
theorem q_inForce {C R : jM} (hC : Lay C) (hR : Lay R) (h : Rel C R) (v d : Int32) : SimR (f_X11_inForce 0 v d) (f_X12_inForce 2398 v d) C R := by
  obtain ⟨sg, hE⟩ := rE_iff.mp h.E
  unfold SimR f_X11_inForce f_X12_inForce
  by_cases c : 0 ≤ v.toInt ∧ v.toInt ≤ 3
  · by_cases c2 : 0 ≤ d.toInt ∧ d.toInt ≤ 389
    · obtain ⟨o, b, g1, g2, g3⟩ := tif_ok hC hR hE (d := d) c
      simp only [p_isScheme, p_isDay, p_mDay, in0, i2l_toInt, t_l0, Int64.reduceToInt, t_if, g1, g2, k_0, k_2398, true_and, and_true, and_false, false_and, and_self, if_true, if_false, ite_self, Nat.reduceEqDiff, reduceIte, Option.bind_some, jlet, jbd_some, jbd_ite, bind_ite]
      rcases g3 with ⟨e1, e2⟩ | ⟨k, w1, w2, w3, w4⟩
      · subst e1 e2
        simp only [Option.isNone_none, if_true]
        rw [if_neg (by omega), if_neg (by omega), if_neg (by omega), if_neg (by omega), if_neg (by decide)]
        exact ⟨-1, rfl, rfl⟩
      · subst w4
        obtain ⟨z1, z2⟩ := hE.2.2.2.2 v.toInt.toNat k (by omega) w1
        obtain ⟨y1, y2, y3, y4, -⟩ := z2.resolve_right (by omega)
        have hcb : b.toNatClampNeg = 8 * v.toInt.toNat + k := by rw [i_cl]; omega
        have hA3 : jA 2435 13 b = true := jA_iff.mpr ⟨k_2435, by omega, by rw [ln_2435]; omega⟩
        simp only [Option.isNone_some, Bool.false_eq_true, if_false, k_txt (hE.1 (8 * v.toInt.toNat + k) (by omega)), hA3, hcb, ly_147 hR, true_and, and_true, and_false, false_and, and_self, if_true, if_false, ite_self, Nat.reduceEqDiff, reduceIte, Option.bind_some, jlet, jbd_some, jbd_ite, bind_ite]
        rw [if_neg (by omega), if_neg (by omega), if_neg (by omega), if_neg (by omega), if_pos (show (0 : Int32) ≤ b by rw [i_le, t_0]; omega), y2]
        exact ⟨_, rfl, rfl⟩
    · simp only [p_isScheme, p_isDay, p_mDay, in0, i2l_toInt, t_l0, Int64.reduceToInt, t_if, k_0, k_2398, true_and, and_true, and_false, false_and, and_self, if_true, if_false, ite_self, Nat.reduceEqDiff, reduceIte, Option.bind_some, jlet, jbd_some, jbd_ite, bind_ite]
      rw [if_neg (by omega), if_pos (by omega), if_neg (by omega), if_pos (by omega)]
      exact ⟨_, rfl, rfl⟩
  · simp only [p_isScheme, in0, i2l_toInt, t_l0, Int64.reduceToInt]
    rw [if_pos (by omega), if_pos (by omega)]
    exact ⟨_, rfl, rfl⟩
