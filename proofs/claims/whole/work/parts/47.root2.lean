/-! PURE: the root of a double: both answers -/
theorem par32 (e : Int32) : (e &&& (1 : Int32)) = 0 ↔ e.toInt % 2 = 0 := by
  have h1 : (e &&& (1 : Int32)) = 0 ↔ e.toBitVec.toNat % 2 = 0 := by
    rw [← Int32.toBitVec_inj, Int32.toBitVec_and]
    constructor
    · intro h
      have h2 := congrArg BitVec.toNat h
      rw [BitVec.toNat_and] at h2
      have h3 : e.toBitVec.toNat &&& 1 = 0 := h2
      rw [Nat.and_one_is_mod] at h3
      exact h3
    · intro h
      apply BitVec.eq_of_toNat_eq
      rw [BitVec.toNat_and]
      show e.toBitVec.toNat &&& 1 = 0
      rw [Nat.and_one_is_mod]
      exact h
  rw [h1]
  show _ ↔ e.toBitVec.toInt % 2 = 0
  rw [BitVec.toInt_eq_toNat_cond]
  split <;> omega
theorem par64 (e : Int64) : (e &&& (1 : Int64)) = (0 : Int64) ↔ e.toInt % 2 = 0 := by
  rw [ub_inj, ub_and, show ub (1 : Int64) = 2 ^ 1 - 1 from rfl, Nat.and_two_pow_sub_one_eq_mod, show ub (0 : Int64) = 0 from rfl, ub_toInt]
  split <;> omega
def rfin (r s : Nat) : Nat := r / 2 + (if r % 2 = 1 ∧ (0 < s ∨ r / 2 % 2 = 1) then 1 else 0)
theorem nk_57 (N : Nat) : nk N 57 = 64 * nk N 54 := by
  unfold nk
  rw [if_neg (by decide), if_neg (by decide), show 57 - 27 = 27 + 3 from rfl, show 54 - 27 = 27 from rfl, Nat.pow_add]
  rw [show (4 : Nat) ^ 3 = 64 from rfl, ← Nat.mul_assoc, Nat.mul_comm]
theorem nk_0 {N : Nat} (h : N < 18014398509481984) : nk N 0 = 0 := by
  unfold nk
  rw [if_pos (by decide)]
  exact Nat.div_eq_of_lt h
theorem r54_ge {N r s : Nat} (hN : 4503599627370496 ≤ N) (h : SQ (nk N 54) r s) : 9007199254740992 ≤ r := by
  obtain ⟨h1, h2⟩ := h
  have hn : 4503599627370496 * 18014398509481984 ≤ nk N 54 := by
    unfold nk
    rw [if_neg (by decide)]
    exact Nat.mul_le_mul_right _ hN
  refine Decidable.byContradiction (fun z => ?_)
  have h3 := Nat.mul_le_mul (show r ≤ 9007199254740991 by omega) (show r ≤ 9007199254740991 by omega)
  omega
theorem root_rr {R S r s st : Nat} {h : Int} (hh : -600 ≤ h ∧ h ≤ 600) (hr1 : 9007199254740992 ≤ r) (hr2 : r < 18014398509481984) (u1 : 8 * r ≤ R) (u2 : R < 8 * r + 8) (u3 : (R = 8 * r ∧ S = 0) ↔ s = 0) (hst : st = if S = 0 then 0 else 1) : FP.Core.roundRatio FP.Core.b64 false (2 * R + st) 1 (h - 31) = FP.Core.roundRatio FP.Core.b64 false (rfin r s) 1 (h - 26) := by
  have hst2 : (st = 0 ∧ S = 0) ∨ (st = 1 ∧ S ≠ 0) := by
    by_cases c : S = 0
    · rw [if_pos c] at hst; exact .inl ⟨hst, c⟩
    · rw [if_neg c] at hst; exact .inr ⟨hst, c⟩
  have hQ : FP.Core.quantum FP.Core.b64 (2 * R + st) 1 (h - 31) = h - 26 := by
    refine FP.Core.quantum_eq (by omega) Nat.one_pos (by rw [b_q]; omega) ?_ (.inr ?_)
    · have : (h - 26) - (h - 31) + FP.Core.b64.p = ((58 : Nat) : Int) - (0 : Nat) := by rw [b_p]; omega
      rw [this, FP.Core.below_iff]; omega
    · have : (h - 26) - (h - 31) + ((FP.Core.b64.p : Int) - 1) = ((57 : Nat) : Int) - (0 : Nat) := by rw [b_p]; omega
      rw [this, FP.Core.below_iff]; omega
  have hne : FP.Core.nearest (2 * R + st) (2 ^ 5) = rfin r s := by
    rw [n_ne (by decide), show (2 : Nat) ^ 5 = 32 from rfl, show (2 : Nat) ^ (5 - 1) = 16 from rfl]
    unfold rfin
    have d1 : (2 * R + st) / 32 = r / 2 := by omega
    have d2 : (2 * R + st) % 32 = 16 * (r % 2) + (2 * (R - 8 * r) + st) := by omega
    have d3 : 2 * (R - 8 * r) + st = 0 ↔ s = 0 := by rw [← u3]; omega
    have d4 : 2 * (R - 8 * r) + st < 16 := by omega
    rw [d1, d2]
    generalize 2 * (R - 8 * r) + st = w at d3 d4
    rcases Nat.mod_two_eq_zero_or_one r with q | q
    · rw [if_neg (by omega), if_neg (by omega), if_neg (by omega)]; rfl
    · by_cases c : s = 0
      · rw [if_neg (by omega), if_pos (by omega)]
        by_cases c2 : r / 2 % 2 = 0
        · rw [if_pos c2, if_neg (by omega)]; rfl
        · rw [if_neg c2, if_pos (by omega)]
      · rw [if_pos (by omega), if_pos (by omega)]
  have hb1 : 4503599627370496 ≤ rfin r s := by unfold rfin; omega
  have hb2 : rfin r s ≤ 9007199254740992 := by unfold rfin; split <;> omega
  rw [← settle_rr hb1 hb2 (by omega) (by omega), ← hne]
  unfold FP.Core.roundRatio FP.Core.roundAt
  rw [if_neg (by omega), hQ]
  unfold FP.Core.unitsNum FP.Core.unitsDen
  rw [show (h - 31 - (h - 26)).toNat = 0 by omega, show (h - 26 - (h - 31)).toNat = 5 by omega, Nat.pow_zero, Nat.mul_one, Nat.one_mul]
theorem rootc98 {v3 : Int64} {e : Int32} {N fuel : Nat} {h : Int} (hfu : 60 ≤ fuel) (hN : ub v3 = N) (hN1 : 4503599627370496 ≤ N) (hN2 : N < 18014398509481984) (he : e.toInt = 2 * h) (hh : -600 ≤ h ∧ h ≤ 600) {r54 s54 : Nat} (h54 : SQ (nk N 54) r54 s54) (hr2 : r54 < 18014398509481984) :
    ∃ r, f_X5_root_98 fuel v3 e 0 0 0 = some r ∧ dv r = FP.Core.roundRatio FP.Core.b64 false (rfin r54 s54) 1 (h - 26) := by
  obtain ⟨root, rest, f1, f2, f3⟩ := cr_loop (v5 := e) hN hN2 57 fuel 0 0 0 0 (by decide) t_0 (by omega) (by rw [nk_0 hN2]; exact ⟨rfl, Nat.le_refl _⟩) (by decide)
  have hr1 := r54_ge hN1 h54
  rw [show 0 + 57 = 57 from rfl, nk_57] at f2
  obtain ⟨u1, u2, u3⟩ := sq_uniq h54 f2
  obtain ⟨n, hn⟩ : ∃ n, fuel - 57 = n + 1 := ⟨fuel - 58, by omega⟩
  rw [f1, hn, f_X5_root_98]
  have t57 : (57 : Int32).toInt = 57 := by decide
  rw [if_pos (by rw [i_le, nI_toInt (by decide), t57]; decide)]
  have t60 : (60 : Int32).toInt = 60 := by decide
  have hd : ((e - (60 : Int32)) / (2 : Int32)).toInt = h - 30 := by
    have h1 : (e - (60 : Int32)).toInt = 2 * (h - 30) := by rw [i_sub (by rw [he, t60]; omega) (by rw [he, t60]; omega), he, t60]; omega
    rw [Int32.toInt_div_of_ne_right _ _ (by decide), h1, show (2 : Int32).toInt = 2 from rfl, Int.mul_tdiv_cancel_left _ (by decide)]
  have hE : (((e - (60 : Int32)) / (2 : Int32)) - (1 : Int32)).toInt = h - 31 := by
    rw [i_sub1 (by omega), hd]; omega
  have hsh : ub (root <<< ((1 : Int32).toInt64 &&& 63)) = 2 * ub root := by rw [ub_shl _ t_1sh (by decide)]; omega
  have hgo : ∀ (t3 : Int32) (st : Nat), ub t3.toInt64 = st → (st = if ub rest = 0 then 0 else 1) → ∃ r, f_X5_root_207 (0 : Int64) (((e - (60 : Int32)) / (2 : Int32)) - (1 : Int32)) (root <<< ((1 : Int32).toInt64 &&& 63)) t3 = some r ∧ dv r = FP.Core.roundRatio FP.Core.b64 false (rfin r54 s54) 1 (h - 26) := by
    intro t3 st h1 h2
    have hle : st ≤ 1 := by rw [h2]; split <;> omega
    have hm : ub ((root <<< ((1 : Int32).toInt64 &&& 63)) ||| t3.toInt64) = 2 * ub root + st := by
      rw [ub_or, hsh, h1, show 2 * ub root = 2 ^ 1 * ub root from rfl, n_or_top (by omega)]
    obtain ⟨r, g1, g2⟩ := rounded_ok (s := false) (sg := 0) (by decide) hm (by omega) (by omega) hE (by omega)
    unfold f_X5_root_207
    refine ⟨r, by rw [g1]; rfl, ?_⟩
    rw [g2]
    exact root_rr hh hr1 hr2 u1 u2 u3 h2
  have hz : rest = (0 : Int64) ↔ ub rest = 0 := by rw [ub_inj]; exact Iff.rfl
  by_cases d : ub rest = 0
  · rw [if_pos (hz.mpr d)]; exact hgo 0 0 (by decide) (by rw [if_pos d])
  · rw [if_neg (fun z => d (hz.mp z))]; exact hgo 1 1 (by decide) (by rw [if_neg d])
theorem rootm130 {v4 v6 : Int64} {N fuel : Nat} {h : Int} (hfu : 60 ≤ fuel) (hN : ub v6 = N) (hN1 : 4503599627370496 ≤ N) (hN2 : N < 18014398509481984) (he : v4.toInt = 2 * h) (hh : -600 ≤ h ∧ h ≤ 600) :
    ∃ (d : UInt64) (r54 s54 : Nat), SQ (nk N 54) r54 s54 ∧ r54 < 18014398509481984 ∧ f_X12_root_130 fuel v4 v6 0 0 0 = some d ∧ FP.Core.val64 d = FP.Core.roundRatio FP.Core.b64 false (rfin r54 s54) 1 (h - 26) := by
  obtain ⟨root, rest, f1, f2, f3⟩ := mr_loop (v4 := v4) hN hN2 54 fuel 0 0 0 0 (by decide) t_0 (by omega) (by rw [nk_0 hN2]; exact ⟨rfl, Nat.le_refl _⟩) (by decide)
  rw [show 0 + 54 = 54 from rfl] at f2 f3
  have hr1 := r54_ge hN1 f2
  have hr2 : ub root < 18014398509481984 := f3
  have hs2 := f2.2
  obtain ⟨n, hn⟩ : ∃ n, fuel - 54 = n + 1 := ⟨fuel - 55, by omega⟩
  suffices hd : ∃ d, f_X12_root_130 fuel v4 v6 0 0 0 = some d ∧ FP.Core.val64 d = FP.Core.roundRatio FP.Core.b64 false (rfin (ub root) (ub rest)) 1 (h - 26) by
    obtain ⟨d, d1, d2⟩ := hd
    exact ⟨d, _, _, f2, hr2, d1, d2⟩
  rw [f1, hn, f_X12_root_130]
  rw [if_pos (by rw [ub_lle (by decide) (by omega), show ub (9007199254740992 : Int64) = 9007199254740992 from by decide]; exact hr1)]
  simp only [jlet]
  have h27 : (nI (0 + 54) - (27 : Int32)).toInt64.toInt = 27 := by decide
  have hd2 : (v4 / (2 : Int64)).toInt = h := by
    rw [Int64.toInt_div_of_ne_right _ _ (by decide), he, show (2 : Int64).toInt = 2 from by decide, Int.mul_tdiv_cancel_left _ (by decide)]
  have hx : ((v4 / (2 : Int64)) - (nI (0 + 54) - (27 : Int32)).toInt64 + (1 : Int64)).toInt = h - 26 := by
    have h1 : ((v4 / (2 : Int64)) - (nI (0 + 54) - (27 : Int32)).toInt64).toInt = h - 27 := by
      rw [l_sub (by rw [hd2, h27]; omega) (by rw [hd2, h27]; omega), hd2, h27]
    rw [l_add (by rw [h1, t_l1]; omega) (by rw [h1, t_l1]; omega), h1, t_l1]; omega
  have hr20 : ub (root >>> ((1 : Int32).toInt64 &&& 63)) = ub root / 2 := by rw [ub_sar (by omega) t_1sh (by decide)]
  have c1 : (root &&& (1 : Int64)) = (1 : Int64) ↔ ub root % 2 = 1 := by
    rw [ub_inj, ub_and, show ub (1 : Int64) = 2 ^ 1 - 1 from rfl, Nat.and_two_pow_sub_one_eq_mod]
  have c2 : (0 : Int64) < rest ↔ 0 < ub rest := by
    rw [ub_llt (by decide) (by omega)]; exact Iff.rfl
  have c3 : ((root >>> ((1 : Int32).toInt64 &&& 63)) &&& (1 : Int64)) = (1 : Int64) ↔ ub root / 2 % 2 = 1 := by
    rw [ub_inj, ub_and, hr20, show ub (1 : Int64) = 2 ^ 1 - 1 from rfl, Nat.and_two_pow_sub_one_eq_mod]
  have up : ∀ v, ub v = ub root / 2 → rfin (ub root) (ub rest) = ub root / 2 + 1 → ∃ d, f_X12_root_272 ((v4 / (2 : Int64)) - (nI (0 + 54) - (27 : Int32)).toInt64 + (1 : Int64)) v = some d ∧ FP.Core.val64 d = FP.Core.roundRatio FP.Core.b64 false (rfin (ub root) (ub rest)) 1 (h - 26) := by
    intro v hv hf
    unfold f_X12_root_272
    simp only [jlet]
    have hv1 : ub (v + (1 : Int64)) = ub root / 2 + 1 := by rw [ub_add, hv, show ub (1 : Int64) = 1 from rfl]; omega
    obtain ⟨d, g1, g2⟩ := sc_ok (v4 := (v4 / (2 : Int64)) - (nI (0 + 54) - (27 : Int32)).toInt64 + (1 : Int64)) (by omega) hv1 (by rw [hx]; omega)
    exact ⟨d, g1, by rw [g2, hx, hf]⟩
  have dn : rfin (ub root) (ub rest) = ub root / 2 → ∃ d, f_X12_root_278 ((v4 / (2 : Int64)) - (nI (0 + 54) - (27 : Int32)).toInt64 + (1 : Int64)) (root >>> ((1 : Int32).toInt64 &&& 63)) = some d ∧ FP.Core.val64 d = FP.Core.roundRatio FP.Core.b64 false (rfin (ub root) (ub rest)) 1 (h - 26) := by
    intro hf
    obtain ⟨d, g1, g2⟩ := sc_ok (v4 := (v4 / (2 : Int64)) - (nI (0 + 54) - (27 : Int32)).toInt64 + (1 : Int64)) (by omega) hr20 (by rw [hx]; omega)
    exact ⟨d, g1, by rw [g2, hx, hf]⟩
  by_cases d1 : ub root % 2 = 1
  · rw [if_pos (c1.mpr d1)]
    by_cases d2 : 0 < ub rest
    · rw [if_pos (c2.mpr d2)]
      exact up _ hr20 (by unfold rfin; rw [if_pos ⟨d1, .inl d2⟩])
    · rw [if_neg (fun z => d2 (c2.mp z))]
      by_cases d3 : ub root / 2 % 2 = 1
      · rw [if_pos (c3.mpr d3)]
        exact up _ hr20 (by unfold rfin; rw [if_pos ⟨d1, .inr d3⟩])
      · rw [if_neg (fun z => d3 (c3.mp z))]
        exact dn (by unfold rfin; rw [if_neg (by rintro ⟨-, z | z⟩; exact d2 z; exact d3 z), Nat.add_zero])
  · rw [if_neg (fun z => d1 (c1.mp z))]
    exact dn (by unfold rfin; rw [if_neg (fun z => d1 z.1), Nat.add_zero])
theorem m60 : ∀ (k fuel : Nat) (v4 v6 : Int64) (M : Nat), k < fuel → ub v6 = M → M < 9007199254740992 → 4503599627370496 ≤ M * 2 ^ k → -2000 + (k : Int) ≤ v4.toInt → v4.toInt ≤ 2000 →
    ∃ (v4' v6' : Int64) (j : Nat), f_X12_root_60 fuel v4 v6 = f_X12_root_92 v4' v6' ∧ ub v6' = M * 2 ^ j ∧ v4'.toInt = v4.toInt - j ∧ 4503599627370496 ≤ M * 2 ^ j ∧ M * 2 ^ j < 9007199254740992 := by
  have tb : ub (4503599627370496 : Int64) = 4503599627370496 := by decide
  intro k
  induction k with
  | zero =>
    intro fuel v4 v6 M hf hm hM hge h4 h42
    obtain ⟨n, rfl⟩ : ∃ n, fuel = n + 1 := ⟨fuel - 1, by omega⟩
    rw [f_X12_root_60]
    rw [if_pos (by rw [ub_lle (by decide) (by omega), tb, hm]; simpa using hge)]
    exact ⟨v4, v6, 0, rfl, by simpa using hm, by simp, by simpa using hge, by simpa using hM⟩
  | succ k ih =>
    intro fuel v4 v6 M hf hm hM hge h4 h42
    obtain ⟨n, rfl⟩ : ∃ n, fuel = n + 1 := ⟨fuel - 1, by omega⟩
    rw [f_X12_root_60]
    have hc : (4503599627370496 : Int64) ≤ v6 ↔ 4503599627370496 ≤ M := by
      rw [ub_lle (by decide) (by omega), tb, hm]
    have o1 : k < n := Nat.lt_of_succ_lt_succ hf
    have hge2 : 4503599627370496 ≤ M * 2 * 2 ^ k := by rw [Nat.mul_assoc, ← Nat.pow_succ']; exact hge
    have o2 : -2000 + (k : Int) ≤ v4.toInt - 1 := by clear hge hge2 hM hc; omega
    have o3 : v4.toInt - 1 ≤ 2000 := by clear hge hge2 hM hc; omega
    have o4 : -9223372036854775808 ≤ v4.toInt - 1 := by clear hge hge2 hM hc; omega
    by_cases c : 4503599627370496 ≤ M
    · rw [if_pos (hc.mpr c)]
      exact ⟨v4, v6, 0, rfl, by simpa using hm, by simp, by simpa using c, by simpa using hM⟩
    · rw [if_neg (fun z => c (hc.mp z))]
      simp only [jlet]
      have h1 : ub (v6 <<< ((1 : Int32).toInt64 &&& 63)) = M * 2 := by
        rw [ub_shl v6 t_1sh (by decide), hm]; omega
      have h41 : (v4 - (1 : Int64)).toInt = v4.toInt - 1 := by rw [l_sub (by rw [t_l1]; exact o4) (by rw [t_l1]; exact Int.le_trans o3 (by decide)), t_l1]
      have o5 : M * 2 < 9007199254740992 := by clear hge hge2; omega
      obtain ⟨v4', v6', j, g1, g2, g3, g4, g5⟩ := ih n _ _ (M * 2) o1 h1 o5 hge2 (by rw [h41]; exact o2) (by rw [h41]; exact o3)
      have hp : M * 2 * 2 ^ j = M * 2 ^ (j + 1) := by rw [Nat.mul_assoc, ← Nat.pow_succ']
      have o6 : v4'.toInt = v4.toInt - ((j + 1 : Nat) : Int) := by rw [g3, h41, Int.natCast_succ]; clear hge hge2 hM g2 g4 g5 hp; omega
      rw [hp] at g2 g4 g5
      exact ⟨v4', v6', j + 1, g1, g2, o6, g4, g5⟩
theorem pow_uniq {T j j' : Nat} (h1 : 4503599627370496 ≤ T * 2 ^ j) (h2 : T * 2 ^ j < 9007199254740992) (h3 : 4503599627370496 ≤ T * 2 ^ j') (h4 : T * 2 ^ j' < 9007199254740992) : j = j' := by
  have key : ∀ a b : Nat, a < b → 4503599627370496 ≤ T * 2 ^ a → T * 2 ^ b < 9007199254740992 → False := by
    intro a b hab x1 x2
    have h5 : 2 ^ a * 2 ≤ 2 ^ b := by rw [← Nat.pow_succ]; exact Nat.pow_le_pow_right (by decide) (by omega)
    have h6 := Nat.mul_le_mul_left T h5
    rw [← Nat.mul_assoc] at h6
    omega
  rcases Nat.lt_trichotomy j j' with h | h | h
  · exact (key _ _ h h1 h4).elim
  · exact h
  · exact (key _ _ h h3 h2).elim
