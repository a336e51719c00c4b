/-! PURE: the root, and numbers with a point -/
theorem jlt {α β : Type} (x : α) (k : α → β) : jlet x k = k x := by
  have h : jlet x k = k x := by rfl
  exact h
theorem obt {α β : Type} (x : α) (f : α → Option β) : (some x).bind f = f x := by
  have h : (some x).bind f = f x := by rfl
  exact h
theorem m92a {v4 : Int64} (h : ((v4 - (1075 : Int64)) &&& (1 : Int64)) = (0 : Int64)) (v6 : Int64) : f_X12_root_92 v4 v6 = f_X12_root_130 1100000 (v4 - (1075 : Int64)) v6 0 0 0 := by
  rw [f_X12_root_92, jlt, if_pos h, f_X12_root_121]
theorem m92b {v4 : Int64} (h : ¬ ((v4 - (1075 : Int64)) &&& (1 : Int64)) = (0 : Int64)) (v6 : Int64) : f_X12_root_92 v4 v6 = f_X12_root_130 1100000 (v4 - (1075 : Int64) - (1 : Int64)) (v6 <<< ((1 : Int32).toInt64 &&& 63)) 0 0 0 := by
  rw [f_X12_root_92, jlt, if_neg h, jlt, jlt, f_X12_root_121]
theorem rootm92 {v4 v6 : Int64} {M : Nat} {e : Int} (hM : ub v6 = M) (hM1 : 4503599627370496 ≤ M) (hM2 : M < 9007199254740992) (he : v4.toInt - 1075 = e) (hh : -1126 ≤ e ∧ e ≤ 971) :
    ∃ (N : Nat) (h : Int) (d : UInt64) (r54 s54 : Nat), (if e % 2 = 0 then N = M ∧ e = 2 * h else N = 2 * M ∧ e - 1 = 2 * h) ∧ SQ (nk N 54) r54 s54 ∧ r54 < 18014398509481984 ∧ f_X12_root_92 v4 v6 = some d ∧ FP.Core.val64 d = FP.Core.roundRatio FP.Core.b64 false (rfin r54 s54) 1 (h - 26) := by
  have t1075 : (1075 : Int64).toInt = 1075 := by decide
  have hx : (v4 - (1075 : Int64)).toInt = e := by rw [l_sub (by rw [t1075]; omega) (by rw [t1075]; omega), t1075, he]
  by_cases c : e % 2 = 0
  · have key := m92a ((par64 (v4 - (1075 : Int64))).mpr (by rw [hx]; exact c)) v6
    obtain ⟨d, r, s, g1, g2, g3, g4⟩ := rootm130 (fuel := 1100000) (v4 := v4 - (1075 : Int64)) (h := e / 2) (by omega) hM hM1 (by omega) (by rw [hx]; omega) (by omega)
    exact ⟨M, e / 2, d, r, s, by rw [if_pos c]; exact ⟨rfl, by omega⟩, g1, g2, key.trans g3, g4⟩
  · have key := m92b (v4 := v4) (fun z => c (by have := (par64 _).mp z; rw [hx] at this; exact this)) v6
    have hx1 : (v4 - (1075 : Int64) - (1 : Int64)).toInt = e - 1 := by rw [l_sub (by rw [hx, t_l1]; omega) (by rw [hx, t_l1]; omega), hx, t_l1]
    have hm1 : ub (v6 <<< ((1 : Int32).toInt64 &&& 63)) = 2 * M := by rw [ub_shl _ t_1sh (by decide), hM]; omega
    obtain ⟨d, r, s, g1, g2, g3, g4⟩ := rootm130 (fuel := 1100000) (v4 := v4 - (1075 : Int64) - (1 : Int64)) (h := (e - 1) / 2) (by omega) hm1 (by omega) (by omega) (by rw [hx1]; omega) (by omega)
    exact ⟨2 * M, (e - 1) / 2, d, r, s, by rw [if_neg c]; exact ⟨rfl, by omega⟩, g1, g2, key.trans g3, g4⟩
theorem root_gen {x : Int64} (h0 : mg x ≠ 0) (hf : mg x < 9218868437227405312) (hs : dS x = false) : ∃ r, f_X5_root x = some r ∧ dv r ≠ .nan ∧ f_X12_root x.toUInt64 = some r.toUInt64 := by
  obtain ⟨m, e, c, q, a1, a2, a3, a4, a5, a6, a7, a8, a9, a10, a11, a12⟩ := mant_ok h0 hf
  have hsub := mg_sub (x := x)
  rw [hs] at hsub
  simp only [Bool.toNat_false, Nat.zero_mul, Nat.zero_add] at hsub
  obtain ⟨hE, hT⟩ := dS_ub (x := x)
  have hn : nN x := Nat.le_of_lt hf
  -- the reference
  have hm : ∃ (N : Nat) (h : Int) (d : UInt64) (r54 s54 : Nat), (if e.toInt % 2 = 0 then N = ub m ∧ e.toInt = 2 * h else N = 2 * ub m ∧ e.toInt - 1 = 2 * h) ∧ SQ (nk N 54) r54 s54 ∧ r54 < 18014398509481984 ∧ f_X12_root x.toUInt64 = some d ∧ FP.Core.val64 d = FP.Core.roundRatio FP.Core.b64 false (rfin r54 s54) 1 (h - 26) := by
    have hb := bitsOf_ok (x := x) (vcan_iff.mpr (fun z => absurd hn z))
    have hdz := cg_ge (x := x) (y := 0)
    rw [← d0_u, kx_0] at hdz
    have hi := cl_eq (x := x) (y := 9218868437227405312)
    rw [kx_inf, ← inf_u] at hi
    have hk : kx x = mg x := by unfold kx; rw [hs]; rfl
    unfold f_X12_root
    rw [if_pos (self_eq.mpr hn), if_pos (hdz.mpr (fun z => by have := z.2.2; omega)), if_neg (fun z => h0 (z_eq.mp z)), if_neg (fun z => by have := (hi.mp z).2.2; omega), hb]
    rw [obt, jlt, jlt]
    have hx52 : ub (x >>> ((52 : Int32).toInt64 &&& 63)) = ub x / 4503599627370496 := by rw [ub_sar (by omega) t_52 (by decide)]
    have hz : (x >>> ((52 : Int32).toInt64 &&& 63)) = (0 : Int64) ↔ ub x / 4503599627370496 = 0 := by rw [ub_inj, hx52]; exact Iff.rfl
    by_cases c0 : ub x / 4503599627370496 = 0
    · rw [if_pos (hz.mpr c0)]
      have hv : dv x = .fin (dS x) (ub x % 4503599627370496) (-1074) := by rw [dv_eq, if_neg (by omega), if_pos (by omega)]
      rw [hv] at a7
      injection a7 with _ e1 e2
      rw [← e1, ← e2] at a10
      obtain ⟨v4', v6', j, g1, g2, g3, g4, g5⟩ := m60 52 1100000 1 (x &&& (4503599627370495 : Int64)) (ub x % 4503599627370496) (by omega) (ub_frac x) (by omega) (by omega) (by decide) (by decide)
      have hj := pow_uniq g4 g5 (by rw [← a10]; exact a3) (by rw [← a10]; exact a4)
      rw [g1]
      refine rootm92 (by rw [g2, hj, ← a10]) a3 a4 ?_ ⟨a5, a6⟩
      rw [g3, t_l1]; omega
    · rw [if_neg (fun z => c0 (hz.mp z)), jlt]
      have hv : dv x = .fin (dS x) (4503599627370496 + ub x % 4503599627370496) ((ub x / 4503599627370496 % 2048 : Nat) - 1075) := by rw [dv_eq, if_neg (by omega), if_neg (by omega)]
      rw [hv] at a7
      injection a7 with _ e1 e2
      have hm2 : ub ((x &&& (4503599627370495 : Int64)) + (4503599627370496 : Int64)) = 4503599627370496 + ub x % 4503599627370496 := by
        rw [ub_add, ub_frac, show ub (4503599627370496 : Int64) = 4503599627370496 from by decide]; omega
      -- one way to write it
      have hqe : (q - e.toInt).toNat = 0 := by
        refine Decidable.byContradiction (fun z => ?_)
        have h1 : 2 ^ 1 ≤ 2 ^ (q - e.toInt).toNat := Nat.pow_le_pow_right (by decide) (by omega)
        have h2 := Nat.mul_le_mul_left c h1
        omega
      rw [hqe, Nat.pow_zero, Nat.mul_one, ← e1] at a10
      refine rootm92 (by rw [hm2, a10]) a3 a4 ?_ ⟨a5, a6⟩
      rw [ub_pos (by omega), hx52]; omega
  obtain ⟨N, h, d, r54, s54, k1, k2, k3, k4, k5⟩ := hm
  -- the other one
  have hc : ∃ r, f_X5_root x = some r ∧ dv r = FP.Core.roundRatio FP.Core.b64 false (rfin r54 s54) 1 (h - 26) := by
    have hne : ¬ x = (9218868437227405312 : Int64) := fun z => by rw [z] at hf; revert hf; decide
    have k0 : f_X5_root x = (if (e &&& (1 : Int32)) = 0 then f_X5_root_51 x (0 : Int32) else f_X5_root_51 x (1 : Int32)) := by
      rw [f_X5_root, isNot_ok, if_pos hn, if_pos rfl, if_neg (fun z => h0 (mag_0.mp z)), if_neg hne, if_pos (dS_nn.mpr hs), a2, obt]
    rw [k0]
    by_cases c0 : e.toInt % 2 = 0
    · rw [if_pos c0] at k1
      have k01 : f_X5_root_51 x 0 = f_X5_root_98 1100000 m e 0 0 0 := by
        rw [f_X5_root_51, if_pos rfl, a1, obt, f_X5_root_69, if_pos rfl, a2, obt, f_X5_root_87]
      rw [if_pos ((par32 e).mpr c0), k01]
      exact rootc98 (fuel := 1100000) (by omega) (by rw [k1.1]) (by omega) (by omega) k1.2 (by omega) k2 k3
    · rw [if_neg c0] at k1
      have k01 : f_X5_root_51 x 1 = f_X5_root_98 1100000 (m <<< ((1 : Int32).toInt64 &&& 63)) (e - (1 : Int32)) 0 0 0 := by
        rw [f_X5_root_51, if_neg (by decide), a1, obt, f_X5_root_69, if_neg (by decide), a2, obt, f_X5_root_87]
      rw [if_neg (fun z => c0 ((par32 e).mp z)), k01]
      have he1 : (e - (1 : Int32)).toInt = 2 * h := by rw [i_sub1 (by omega)]; omega
      have hm1 : ub (m <<< ((1 : Int32).toInt64 &&& 63)) = N := by rw [ub_shl _ t_1sh (by decide), k1.1]; omega
      exact rootc98 (fuel := 1100000) (by omega) hm1 (by omega) (by omega) he1 (by omega) k2 k3
  obtain ⟨r, g1, g2⟩ := hc
  have hnn : dv r ≠ .nan := by rw [g2]; exact FP.Core.roundRatio_ne_nan _ _ _ _ _
  have hd : d = r.toUInt64 := dv_inj (by rw [k5, g2]) hnn
  exact ⟨r, g1, hnn, by rw [k4, hd]⟩
theorem root_ok {x : Int64} (hx : vcan x) : ∃ r, f_X5_root x = some r ∧ f_X12_root x.toUInt64 = some r.toUInt64 ∧ vcan r := by
  have hm : mg x < 9223372036854775808 := Nat.mod_lt _ (by decide)
  have hdz := cg_ge (x := x) (y := 0)
  rw [← d0_u, kx_0] at hdz
  have hi := cl_eq (x := x) (y := 9218868437227405312)
  rw [kx_inf, ← inf_u] at hi
  by_cases hn : nN x
  · by_cases h0 : mg x = 0
    · refine ⟨x, ?_, ?_, hx⟩
      · unfold f_X5_root
        rw [isNot_ok, if_pos hn, if_pos rfl, if_pos (mag_0.mpr h0)]
      · unfold f_X12_root
        rw [if_pos (self_eq.mpr hn), if_pos (hdz.mpr (fun z => by have := z.2.2; rw [kx_zero.mpr h0] at this; omega)), if_pos (z_eq.mpr h0)]
    · cases hs : dS x
      · by_cases h1 : mg x = 9218868437227405312
        · have hxe : x = 9218868437227405312 := by
            rw [ub_inj, mg_sub (x := x), hs, h1]; decide
          refine ⟨x, ?_, ?_, hx⟩
          · unfold f_X5_root
            rw [isNot_ok, if_pos hn, if_pos rfl, if_neg (fun z => h0 (mag_0.mp z)), if_pos hxe]
          · unfold f_X12_root
            rw [if_pos (self_eq.mpr hn), if_pos (hdz.mpr (fun z => by have := z.2.2; unfold kx at this; rw [hs] at this; simp at this; omega)), if_neg (fun z => h0 (z_eq.mp z)), if_pos (hi.mpr ⟨hn, nN_inf, by unfold kx; rw [hs, h1]; rfl⟩)]
        · obtain ⟨r, g1, g2, g3⟩ := root_gen h0 (by unfold nN at hn; omega) hs
          exact ⟨r, g1, g3, can_of (.inr g2)⟩
      · refine ⟨9221120237041090560, ?_, ?_, can_of (.inl rfl)⟩
        · unfold f_X5_root
          rw [isNot_ok, if_pos hn, if_pos rfl, if_neg (fun z => h0 (mag_0.mp z)), if_neg (fun z => by rw [z] at hs; revert hs; decide), if_neg (by rw [dS_nn, hs]; decide)]
        · unfold f_X12_root
          rw [if_pos (self_eq.mpr hn), if_neg (fun z => hdz.mp z ⟨hn, nN_0, by unfold kx; rw [hs]; simp; omega⟩), nan_u]
  · refine ⟨9221120237041090560, ?_, ?_, can_of (.inl rfl)⟩
    · unfold f_X5_root
      rw [isNot_ok, if_neg hn, if_neg (by decide), nan_is hx hn]
    · unfold f_X12_root
      rw [if_neg (fun z => hn (self_eq.mp z)), nan_u]
theorem dec_loop {v : Int64} {sc : Int32} : ∀ (k fuel : Nat) (p : Int64) (P : UInt64) (i : Int32) (t : Nat), k < fuel → (t : Int) + k = sc.toInt → i.toInt = t → sc.toInt ≤ 6 → p.toInt = ((10 ^ t : Nat) : Int) → P = FP.l2d p →
    ∃ p' : Int64, f_X5_decimal_5 fuel v sc p i = (f_X5_nearest v).bind (fun x2 => (f_X5_nearest p').bind (fun x4 => (f_X5_over x2 x4).bind (fun x6 => some x6))) ∧ f_X12_decimal_5 fuel v sc P i = (if jnn (FP.ddiv (FP.l2d v) (FP.l2d p')) = true then some (FP.ddiv (FP.l2d v) (FP.l2d p')) else none) ∧ 0 < p'.toInt := by
  intro k
  induction k with
  | zero =>
    intro fuel p P i t hf ht hi hs hp hP
    obtain ⟨n, rfl⟩ : ∃ n, fuel = n + 1 := ⟨fuel - 1, by omega⟩
    rw [f_X5_decimal_5, f_X12_decimal_5]
    rw [if_pos (by rw [i_le]; omega), if_pos (by rw [i_le]; omega), hP]
    exact ⟨p, rfl, rfl, by rw [hp]; exact Int.natCast_pos.mpr (Nat.pow_pos (by decide))⟩
  | succ k ih =>
    intro fuel p P i t hf ht hi hs hp hP
    obtain ⟨n, rfl⟩ : ∃ n, fuel = n + 1 := ⟨fuel - 1, by omega⟩
    rw [f_X5_decimal_5, f_X12_decimal_5]
    have hnle : ¬ sc ≤ i := by rw [i_le]; omega
    rw [if_neg hnle, if_neg hnle]
    simp only [jlet]
    have hpow : 10 ^ t ≤ 10 ^ 5 := Nat.pow_le_pow_right (by decide) (by omega)
    have hpos : 0 < 10 ^ t := Nat.pow_pos (by decide)
    have t10 : (10 : Int64).toInt = 10 := by decide
    have hp1 : (p * (10 : Int64)).toInt = ((10 ^ (t + 1) : Nat) : Int) := by
      rw [FP.Core.int64_mul (by rw [hp, t10]; omega) (by rw [hp, t10]; omega), hp, t10, Nat.pow_succ]; omega
    have hmul : FP.dmul P (4621819117588971520 : UInt64) = FP.l2d (p * (10 : Int64)) := by
      rw [hP, show (4621819117588971520 : UInt64) = FP.l2d 10 from by decide +kernel]
      refine FP.Core.dmul_l2d ?_ (by unfold FP.Core.Small53; decide) (fun z => ?_) (by decide) (by rw [hp, t10]; omega) (by rw [hp, t10]; omega)
      · unfold FP.Core.Small53; rw [hp]; omega
      · rw [z] at hp
        have : (0 : Int64).toInt = 0 := by decide
        omega
    have hj : jnn (FP.dmul P (4621819117588971520 : UInt64)) = true := by
      rw [hmul, jnn_iff]
      exact (FP.Core.l2d_fin _).ne_nan
    rw [if_pos hj, hmul]
    exact ih n _ _ (i + (1 : Int32)) (t + 1) (by omega) (by omega) (by rw [i_add1 (by omega), hi]; omega) hs hp1 rfl
theorem dec_ok {v : Int64} {sc : Int32} (hs : 0 ≤ sc.toInt ∧ sc.toInt ≤ 6) : ∃ r, f_X5_decimal v sc = some r ∧ f_X12_decimal v sc = some r.toUInt64 ∧ vcan r := by
  unfold f_X5_decimal f_X12_decimal
  simp only [jlet]
  obtain ⟨p, g1, g2, g3⟩ := dec_loop (v := v) (sc := sc) sc.toInt.toNat 1100000 1 FP.dconst1 0 0 (by omega) (by omega) t_0 hs.2 (by decide) l2d_1
  obtain ⟨r1, a1, a2, a3⟩ := nearest_ok v
  obtain ⟨r2, b1, b2, b3⟩ := nearest_ok p
  obtain ⟨r, c1, c2, c3⟩ := over_ok r1 r2
  rw [g1, g2, a1, Option.bind_some, b1, Option.bind_some, c1]
  have hval : FP.Core.val64 (FP.ddiv (FP.l2d v) (FP.l2d p)) = dv r := by
    rw [c3, a3, b3]; exact FP.Core.val64_ddiv _ _
  have hnn : dv r ≠ .nan := by
    rw [← hval]
    have h1 := FP.Core.ddiv_out (a := FP.l2d v) (b := FP.l2d p) (FP.Core.l2d_fin v).notNaN (FP.Core.l2d_fin p) (fun z => by
      have hne : p ≠ 0 := fun w => by rw [w] at g3; revert g3; decide
      exact FP.Core.l2d_ne_zero hne ((FP.Core.zero_bits2 _).mp z))
    exact (FP.Core.notNaN_iff _).mp h1
  obtain ⟨k1, k2⟩ := fin_op hval hnn
  rw [if_pos k1]
  exact ⟨r, rfl, by rw [k2], can_of (.inr hnn)⟩
