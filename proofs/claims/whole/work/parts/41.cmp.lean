/-! PURE: the reference's doubles: comparisons, and the five operators -/
abbrev nN (x : Int64) : Prop := mg x ≤ 9218868437227405312
def kx (x : Int64) : Int := if dS x then -(mg x : Int) else (mg x : Int)
theorem nN_iff {x : Int64} : nN x ↔ dv x ≠ .nan := by
  rw [Ne, dv_nan]; unfold nN; omega
theorem kx_d (x : Int64) : FP.Core.dkey x.toUInt64 = kx x := by
  have h := mg_sub (x := x)
  have hm : mg x < 9223372036854775808 := Nat.mod_lt _ (by decide)
  unfold FP.Core.dkey kx
  show (if 2 ^ 63 ≤ ub x then ((2 ^ 63 : Nat) : Int) - (ub x : Int) else (ub x : Int)) = _
  cases hs : dS x
  · rw [hs] at h
    simp only [Bool.toNat_false] at h
    rw [if_neg (by omega), if_neg (by decide)]; omega
  · rw [hs] at h
    simp only [Bool.toNat_true] at h
    rw [if_pos (by omega), if_pos rfl]; omega
theorem dc_ok {x y : Int64} (hx : nN x) (hy : nN y) : FP.dcmp x.toUInt64 y.toUInt64 = some (compare (kx x) (kx y)) := by
  have := FP.Core.dcmp_key (a := x.toUInt64) (b := y.toUInt64) (nN_iff.mp hx) (nN_iff.mp hy)
  rw [kx_d, kx_d] at this
  exact this
theorem dc_none {x y : Int64} (h : ¬ (nN x ∧ nN y)) : FP.dcmp x.toUInt64 y.toUInt64 = none := by
  refine (FP.Core.dcmp_none x.toUInt64 y.toUInt64).mpr ?_
  by_cases hx : nN x
  · right
    have hy : ¬ nN y := fun z => h ⟨hx, z⟩
    rw [nN_iff] at hy
    exact Decidable.not_not.mp hy
  · left
    rw [nN_iff] at hx
    exact Decidable.not_not.mp hx
theorem co_l (o : Option Ordering) : (Op.cmpValue o .l = 0 ↔ o = some .eq) ∧ (Op.cmpValue o .l < 0 ↔ o = some .lt ∨ o = none) ∧ (Op.cmpValue o .l ≤ 0 ↔ o ≠ some .gt) ∧ (0 ≤ Op.cmpValue o .l ↔ o = some .gt ∨ o = some .eq) ∧ (0 < Op.cmpValue o .l ↔ o = some .gt) := by
  cases o with
  | none => decide
  | some o => cases o <;> decide
theorem co_g (o : Option Ordering) : (Op.cmpValue o .g < 0 ↔ o = some .lt) ∧ (Op.cmpValue o .g ≤ 0 ↔ o = some .lt ∨ o = some .eq) ∧ (0 ≤ Op.cmpValue o .g ↔ o ≠ some .lt) := by
  cases o with
  | none => decide
  | some o => cases o <;> decide
theorem dc_eq {x y : Int64} : FP.dcmp x.toUInt64 y.toUInt64 = some .eq ↔ nN x ∧ nN y ∧ kx x = kx y := by
  by_cases h : nN x ∧ nN y
  · rw [dc_ok h.1 h.2, Option.some.injEq, FP.Core.compare_eq_iff]; exact ⟨fun z => ⟨h.1, h.2, z⟩, fun z => z.2.2⟩
  · rw [dc_none h]; exact ⟨fun z => (by cases z), fun z => absurd ⟨z.1, z.2.1⟩ h⟩
theorem dc_lt {x y : Int64} : FP.dcmp x.toUInt64 y.toUInt64 = some .lt ↔ nN x ∧ nN y ∧ kx x < kx y := by
  by_cases h : nN x ∧ nN y
  · rw [dc_ok h.1 h.2, Option.some.injEq, FP.Core.compare_lt_iff]; exact ⟨fun z => ⟨h.1, h.2, z⟩, fun z => z.2.2⟩
  · rw [dc_none h]; exact ⟨fun z => (by cases z), fun z => absurd ⟨z.1, z.2.1⟩ h⟩
theorem dc_gt {x y : Int64} : FP.dcmp x.toUInt64 y.toUInt64 = some .gt ↔ nN x ∧ nN y ∧ kx y < kx x := by
  by_cases h : nN x ∧ nN y
  · rw [dc_ok h.1 h.2, Option.some.injEq, FP.Core.compare_gt_iff]; exact ⟨fun z => ⟨h.1, h.2, z⟩, fun z => z.2.2⟩
  · rw [dc_none h]; exact ⟨fun z => (by cases z), fun z => absurd ⟨z.1, z.2.1⟩ h⟩
theorem dc_no {x y : Int64} : FP.dcmp x.toUInt64 y.toUInt64 = none ↔ ¬ (nN x ∧ nN y) := by
  by_cases h : nN x ∧ nN y
  · rw [dc_ok h.1 h.2]; exact ⟨fun z => (by cases z), fun z => absurd h z⟩
  · rw [dc_none h]; exact ⟨fun _ => h, fun _ => rfl⟩
theorem cl_eq {x y : Int64} : Op.cmpValue (FP.dcmp x.toUInt64 y.toUInt64) .l = 0 ↔ nN x ∧ nN y ∧ kx x = kx y := by
  rw [(co_l _).1, dc_eq]
theorem cl_lt' {x y : Int64} : Op.cmpValue (FP.dcmp x.toUInt64 y.toUInt64) .l < 0 ↔ ¬ (nN x ∧ nN y ∧ kx y ≤ kx x) := by
  rw [(co_l _).2.1, dc_lt, dc_no]
  by_cases h : nN x ∧ nN y
  · simp only [h.1, h.2, true_and, not_true_eq_false, or_false, and_self]; omega
  · exact ⟨fun _ z => h ⟨z.1, z.2.1⟩, fun _ => .inr h⟩
theorem cl_le {x y : Int64} : Op.cmpValue (FP.dcmp x.toUInt64 y.toUInt64) .l ≤ 0 ↔ ¬ (nN x ∧ nN y ∧ kx y < kx x) := by
  rw [(co_l _).2.2.1, Ne, dc_gt]
theorem cl_ge {x y : Int64} : 0 ≤ Op.cmpValue (FP.dcmp x.toUInt64 y.toUInt64) .l ↔ nN x ∧ nN y ∧ kx y ≤ kx x := by
  rw [(co_l _).2.2.2.1, dc_gt, dc_eq]
  by_cases h : nN x ∧ nN y
  · simp only [h.1, h.2, true_and, not_true_eq_false, or_false, and_self]; omega
  · exact ⟨fun z => by rcases z with z | z <;> exact absurd ⟨z.1, z.2.1⟩ h, fun z => absurd ⟨z.1, z.2.1⟩ h⟩
theorem cl_gt {x y : Int64} : 0 < Op.cmpValue (FP.dcmp x.toUInt64 y.toUInt64) .l ↔ nN x ∧ nN y ∧ kx y < kx x := by
  rw [(co_l _).2.2.2.2, dc_gt]
theorem cg_lt {x y : Int64} : Op.cmpValue (FP.dcmp x.toUInt64 y.toUInt64) .g < 0 ↔ nN x ∧ nN y ∧ kx x < kx y := by
  rw [(co_g _).1, dc_lt]
theorem cg_le {x y : Int64} : Op.cmpValue (FP.dcmp x.toUInt64 y.toUInt64) .g ≤ 0 ↔ nN x ∧ nN y ∧ kx x ≤ kx y := by
  rw [(co_g _).2.1, dc_lt, dc_eq]
  by_cases h : nN x ∧ nN y
  · simp only [h.1, h.2, true_and, not_true_eq_false, or_false, and_self]; omega
  · exact ⟨fun z => by rcases z with z | z <;> exact absurd ⟨z.1, z.2.1⟩ h, fun z => absurd ⟨z.1, z.2.1⟩ h⟩
theorem cg_ge {x y : Int64} : 0 ≤ Op.cmpValue (FP.dcmp x.toUInt64 y.toUInt64) .g ↔ ¬ (nN x ∧ nN y ∧ kx x < kx y) := by
  rw [(co_g _).2.2, Ne, dc_lt]
theorem jnn_iff {d : UInt64} : jnn d = true ↔ FP.Core.val64 d ≠ .nan := by
  unfold jnn
  rw [decide_eq_true_eq, UInt64.le_iff_toNat_le, FP.Core.mask_toNat, FP.Core.ne_nan]
  exact Iff.rfl
theorem fin_op {d : UInt64} {r : Int64} (h : FP.Core.val64 d = dv r) (hn : dv r ≠ .nan) : jnn d = true ∧ d = r.toUInt64 := ⟨jnn_iff.mpr (by rw [h]; exact hn), dv_inj h hn⟩
theorem nan_u : (9221120237041090560 : UInt64) = (9221120237041090560 : Int64).toUInt64 := by decide
theorem inf_u : (9218868437227405312 : UInt64) = (9218868437227405312 : Int64).toUInt64 := by decide
theorem ninf_u : (18442240474082181120 : UInt64) = (-4503599627370496 : Int64).toUInt64 := by decide
theorem d0_u : FP.dconst0 = (0 : Int64).toUInt64 := by decide
theorem d1_u : FP.dconst1 = (4607182418800017408 : Int64).toUInt64 := by decide
theorem kx_inf : kx (9218868437227405312 : Int64) = 9218868437227405312 := by decide
theorem kx_ninf : kx (-4503599627370496 : Int64) = -9218868437227405312 := by decide
theorem kx_0 : kx (0 : Int64) = 0 := by decide
theorem nN_0 : nN (0 : Int64) := by unfold nN; decide
theorem nN_inf : nN (9218868437227405312 : Int64) := by unfold nN; decide
theorem nN_ninf : nN (-4503599627370496 : Int64) := by unfold nN; decide
theorem vcan_iff {b : Int64} : vcan b ↔ (¬ nN b → b = 9221120237041090560) := by
  unfold vcan nN
  have h1 : ub (b &&& 9223372036854775807) = mg b := ub_mag b
  have hm : mg b < 9223372036854775808 := Nat.mod_lt _ (by decide)
  have h := ub_pos (x := b &&& 9223372036854775807) (by omega)
  rw [h, h1]
  constructor
  · intro q z; exact q (by omega)
  · intro q z; exact q (by omega)
theorem endl_ok (x : Int64) : f_X12_isEndless x.toUInt64 = if mg x = 9218868437227405312 then 1 else 0 := by
  unfold f_X12_isEndless f_X12_isEndless_16
  rw [inf_u, ninf_u]
  have h1 := cl_eq (x := x) (y := 9218868437227405312)
  have h2 := cl_eq (x := x) (y := -4503599627370496)
  rw [kx_inf] at h1
  rw [kx_ninf] at h2
  have e1 : (nN x ∧ nN (9218868437227405312 : Int64) ∧ kx x = 9218868437227405312) ↔ (mg x = 9218868437227405312 ∧ dS x = false) := by
    unfold kx nN
    cases hs : dS x
    · simp only [Bool.false_eq_true, if_false, and_true]
      constructor
      · intro z; omega
      · intro z; exact ⟨by omega, nN_inf, by omega⟩
    · simp only [if_true]
      constructor
      · intro z; omega
      · intro z; exact absurd z.2 (by decide)
  have e2 : (nN x ∧ nN (-4503599627370496 : Int64) ∧ kx x = -9218868437227405312) ↔ (mg x = 9218868437227405312 ∧ dS x = true) := by
    unfold kx nN
    cases hs : dS x
    · simp only [Bool.false_eq_true, if_false]
      constructor
      · intro z; omega
      · intro z; exact absurd z.2 (by decide)
    · simp only [if_true, and_true]
      constructor
      · intro z; omega
      · intro z; exact ⟨by omega, nN_ninf, by omega⟩
  simp only [h1, h2, e1, e2]
  by_cases c : mg x = 9218868437227405312
  · rw [if_pos c]
    cases hs : dS x
    · rw [if_pos ⟨c, rfl⟩]
    · rw [if_neg (fun z => absurd z.2 (by decide)), if_pos ⟨c, rfl⟩]
  · rw [if_neg c, if_neg (fun z => c z.1), if_neg (fun z => c z.1)]
theorem self_eq {x : Int64} : Op.cmpValue (FP.dcmp x.toUInt64 x.toUInt64) .l = 0 ↔ nN x := by
  rw [cl_eq]; exact ⟨fun z => z.1, fun z => ⟨z, z, rfl⟩⟩
theorem can_of {r : Int64} (h : r = 9221120237041090560 ∨ dv r ≠ .nan) : vcan r := by
  rw [vcan_iff]
  rcases h with h | h
  · intro _; exact h
  · intro z; exact absurd (nN_iff.mpr h) z
theorem o_plus (x y : Int64) : ∃ r, f_X5_plus x y = some r ∧ f_X12_plus x.toUInt64 y.toUInt64 = some r.toUInt64 ∧ vcan r := by
  obtain ⟨r, g1, g2, g3⟩ := plus_ok x y
  refine ⟨r, g1, ?_, can_of g2⟩
  have g3' : FP.Core.val64 (FP.dadd x.toUInt64 y.toUInt64) = dv r := by rw [g3]; exact FP.Core.val64_dadd _ _
  have nanc : dv r = .nan → some (9221120237041090560 : UInt64) = some r.toUInt64 := by
    intro h
    rcases g2 with g2 | g2
    · rw [g2, nan_u]
    · exact absurd h g2
  have numc : dv r ≠ .nan → f_X12_plus_37 x.toUInt64 y.toUInt64 0 = some r.toUInt64 := by
    intro h
    obtain ⟨k1, k2⟩ := fin_op g3' h
    unfold f_X12_plus_37
    rw [if_pos rfl, if_pos k1, k2]
  have hnan : dv r = .nan ↔ (¬ nN x ∨ ¬ nN y ∨ (mg x = 9218868437227405312 ∧ mg y = 9218868437227405312 ∧ kx x ≠ kx y)) := by
    rw [g3, FP.Core.round_nan, FP.Core.exactSum_nan, dv_nan, dv_nan]
    unfold nN
    constructor
    · rintro (h | h | ⟨s, h1, h2⟩)
      · exact .inl (by omega)
      · exact .inr (.inl (by omega))
      · have m1 : mg x = 9218868437227405312 := by
          by_cases q : mg x < 9218868437227405312
          · obtain ⟨c, q', h', -⟩ := dv_fin q; rw [h'] at h1; cases h1
          · by_cases q2 : 9218868437227405312 < mg x
            · rw [(dv_nan x).mpr q2] at h1; cases h1
            · omega
        have m2 : mg y = 9218868437227405312 := by
          by_cases q : mg y < 9218868437227405312
          · obtain ⟨c, q', h', -⟩ := dv_fin q; rw [h'] at h2; cases h2
          · by_cases q2 : 9218868437227405312 < mg y
            · rw [(dv_nan y).mpr q2] at h2; cases h2
            · omega
        refine .inr (.inr ⟨m1, m2, ?_⟩)
        rw [dv_inf m1] at h1
        rw [dv_inf m2] at h2
        injection h1 with h1
        injection h2 with h2
        unfold kx
        rw [h1, h2, m1, m2]
        cases s <;> decide
    · rintro (h | h | ⟨h1, h2, h3⟩)
      · exact .inl (by omega)
      · exact .inr (.inl (by omega))
      · refine .inr (.inr ⟨dS x, dv_inf h1, ?_⟩)
        rw [dv_inf h2]
        congr 1
        unfold kx at h3
        rw [h1, h2] at h3
        revert h3
        cases dS x <;> cases dS y <;> decide
  unfold f_X12_plus f_X12_plus_36 f_X12_plus_32
  simp only [self_eq, endl_ok, cl_eq]
  have e37 : f_X12_plus_37 x.toUInt64 y.toUInt64 1 = some (9221120237041090560 : UInt64) := by unfold f_X12_plus_37; rw [if_neg (by decide)]
  rw [e37]
  by_cases h1 : nN x
  · by_cases h2 : nN y
    · rw [if_pos h1, if_pos h2]
      by_cases c1 : mg x = 9218868437227405312
      · rw [if_pos c1, if_neg (by decide)]
        by_cases c2 : mg y = 9218868437227405312
        · rw [if_pos c2, if_neg (by decide)]
          by_cases c3 : kx x = kx y
          · rw [if_pos ⟨h1, h2, c3⟩]; exact numc (fun z => by rcases hnan.mp z with q | q | q; exact q h1; exact q h2; exact q.2.2 c3)
          · rw [if_neg (fun z => c3 z.2.2)]; exact nanc (hnan.mpr (.inr (.inr ⟨c1, c2, c3⟩)))
        · rw [if_neg c2, if_pos rfl]; exact numc (fun z => by rcases hnan.mp z with q | q | q; exact q h1; exact q h2; exact c2 q.2.1)
      · rw [if_neg c1, if_pos rfl]; exact numc (fun z => by rcases hnan.mp z with q | q | q; exact q h1; exact q h2; exact c1 q.1)
    · rw [if_pos h1, if_neg h2]; exact nanc (hnan.mpr (.inr (.inl h2)))
  · rw [if_neg h1]; exact nanc (hnan.mpr (.inl h1))
theorem inf_of {x : Int64} {s : Bool} (h : dv x = .inf s) : mg x = 9218868437227405312 := by
  by_cases q : mg x < 9218868437227405312
  · obtain ⟨c, q', h', -⟩ := dv_fin q; rw [h'] at h; cases h
  · by_cases q2 : 9218868437227405312 < mg x
    · rw [(dv_nan x).mpr q2] at h; cases h
    · omega
theorem zero_of {x : Int64} {s : Bool} {q : Int} (h : dv x = .fin s 0 q) : mg x = 0 := by
  by_cases c : mg x < 9218868437227405312
  · obtain ⟨c', q', h', h0, -⟩ := dv_fin c
    rw [h'] at h
    injection h with e1 e2 e3
    exact h0.mp e2
  · by_cases q2 : 9218868437227405312 < mg x
    · rw [(dv_nan x).mpr q2] at h; cases h
    · rw [dv_inf (by omega)] at h; cases h
theorem kx_zero {x : Int64} : kx x = 0 ↔ mg x = 0 := by
  unfold kx; cases dS x <;> simp
theorem z_eq {x : Int64} : Op.cmpValue (FP.dcmp x.toUInt64 FP.dconst0) .l = 0 ↔ mg x = 0 := by
  rw [d0_u, cl_eq, kx_0, kx_zero]
  exact ⟨fun z => z.2.2, fun z => ⟨by unfold nN; omega, nN_0, z⟩⟩
theorem o_times (x y : Int64) : ∃ r, f_X5_times x y = some r ∧ f_X12_times x.toUInt64 y.toUInt64 = some r.toUInt64 ∧ vcan r := by
  obtain ⟨r, g1, g2, g3⟩ := times_ok x y
  refine ⟨r, g1, ?_, can_of g2⟩
  have g3' : FP.Core.val64 (FP.dmul x.toUInt64 y.toUInt64) = dv r := by rw [g3]; exact FP.Core.val64_dmul _ _
  have nanc : dv r = .nan → some (9221120237041090560 : UInt64) = some r.toUInt64 := by
    intro h
    rcases g2 with g2 | g2
    · rw [g2, nan_u]
    · exact absurd h g2
  have numc : dv r ≠ .nan → f_X12_times_43 x.toUInt64 y.toUInt64 0 = some r.toUInt64 := by
    intro h
    obtain ⟨k1, k2⟩ := fin_op g3' h
    unfold f_X12_times_43
    rw [if_pos rfl, if_pos k1, k2]
  have hnan : dv r = .nan ↔ (¬ nN x ∨ ¬ nN y ∨ (mg x = 9218868437227405312 ∧ mg y = 0) ∨ (mg x = 0 ∧ mg y = 9218868437227405312)) := by
    rw [g3, FP.Core.round_nan, FP.Core.exactProduct_nan, dv_nan, dv_nan]
    unfold nN
    constructor
    · rintro (h | h | ⟨s, t, q, h1, h2⟩ | ⟨s, t, q, h1, h2⟩)
      · exact .inl (by omega)
      · exact .inr (.inl (by omega))
      · exact .inr (.inr (.inl ⟨inf_of h1, zero_of h2⟩))
      · exact .inr (.inr (.inr ⟨zero_of h1, inf_of h2⟩))
    · rintro (h | h | ⟨h1, h2⟩ | ⟨h1, h2⟩)
      · exact .inl (by omega)
      · exact .inr (.inl (by omega))
      · exact .inr (.inr (.inl ⟨_, _, _, dv_inf h1, dv_zero h2⟩))
      · exact .inr (.inr (.inr ⟨_, _, _, dv_zero h1, dv_inf h2⟩))
  unfold f_X12_times f_X12_times_25 f_X12_times_42 f_X12_times_38
  simp only [self_eq, endl_ok, z_eq]
  have e43 : f_X12_times_43 x.toUInt64 y.toUInt64 1 = some (9221120237041090560 : UInt64) := by unfold f_X12_times_43; rw [if_neg (by decide)]
  rw [e43]
  unfold nN at hnan ⊢
  by_cases h1 : mg x ≤ 9218868437227405312
  · by_cases h2 : mg y ≤ 9218868437227405312
    · rw [if_pos h1, if_pos h2]
      by_cases c1 : mg x = 0
      · rw [if_pos c1]
        by_cases c2 : mg y = 9218868437227405312
        · rw [if_pos c2, if_neg (by decide)]; exact nanc (hnan.mpr (.inr (.inr (.inr ⟨c1, c2⟩))))
        · rw [if_neg c2, if_pos rfl]
          have hnum := numc (fun z => by have := hnan.mp z; omega)
          by_cases c3 : mg y = 0
          · rw [if_pos c3, if_neg (show ¬ mg x = 9218868437227405312 by omega), if_pos rfl]; exact hnum
          · rw [if_neg c3]; exact hnum
      · rw [if_neg c1]
        by_cases c3 : mg y = 0
        · rw [if_pos c3]
          by_cases c4 : mg x = 9218868437227405312
          · rw [if_pos c4, if_neg (by decide)]; exact nanc (hnan.mpr (.inr (.inr (.inl ⟨c4, c3⟩))))
          · rw [if_neg c4, if_pos rfl]; exact numc (fun z => by have := hnan.mp z; omega)
        · rw [if_neg c3]; exact numc (fun z => by have := hnan.mp z; omega)
    · rw [if_pos h1, if_neg h2]; exact nanc (hnan.mpr (.inr (.inl h2)))
  · rw [if_neg h1]; exact nanc (hnan.mpr (.inl h1))
theorem o_over (x y : Int64) : ∃ r, f_X5_over x y = some r ∧ f_X12_by x.toUInt64 y.toUInt64 = some r.toUInt64 ∧ vcan r := by
  obtain ⟨r, g1, g2, g3⟩ := over_ok x y
  refine ⟨r, g1, ?_, can_of g2⟩
  have g3' : FP.Core.val64 (FP.ddiv x.toUInt64 y.toUInt64) = dv r := by rw [g3]; exact FP.Core.val64_ddiv _ _
  have nanc : dv r = .nan → some (9221120237041090560 : UInt64) = some r.toUInt64 := by
    intro h
    rcases g2 with g2 | g2
    · rw [g2, nan_u]
    · exact absurd h g2
  have numc : dv r ≠ .nan → f_X12_by_43 x.toUInt64 y.toUInt64 0 = some r.toUInt64 := by
    intro h
    obtain ⟨k1, k2⟩ := fin_op g3' h
    unfold f_X12_by_43
    rw [if_pos rfl, if_pos k1, k2]
  have hnan : dv r = .nan ↔ (¬ nN x ∨ ¬ nN y ∨ (mg x = 9218868437227405312 ∧ mg y = 9218868437227405312) ∨ (mg x = 0 ∧ mg y = 0)) := by
    rw [g3, FP.Core.quotient_nan, dv_nan, dv_nan]
    unfold nN
    constructor
    · rintro (h | h | ⟨s, t, h1, h2⟩ | ⟨s, t, q, r, h1, h2⟩)
      · exact .inl (by omega)
      · exact .inr (.inl (by omega))
      · exact .inr (.inr (.inl ⟨inf_of h1, inf_of h2⟩))
      · exact .inr (.inr (.inr ⟨zero_of h1, zero_of h2⟩))
    · rintro (h | h | ⟨h1, h2⟩ | ⟨h1, h2⟩)
      · exact .inl (by omega)
      · exact .inr (.inl (by omega))
      · exact .inr (.inr (.inl ⟨_, _, dv_inf h1, dv_inf h2⟩))
      · exact .inr (.inr (.inr ⟨_, _, _, _, dv_zero h1, dv_zero h2⟩))
  unfold f_X12_by f_X12_by_24 f_X12_by_42 f_X12_by_38
  simp only [self_eq, endl_ok, z_eq]
  have e43 : f_X12_by_43 x.toUInt64 y.toUInt64 1 = some (9221120237041090560 : UInt64) := by unfold f_X12_by_43; rw [if_neg (by decide)]
  rw [e43]
  unfold nN at hnan ⊢
  by_cases h1 : mg x ≤ 9218868437227405312
  · by_cases h2 : mg y ≤ 9218868437227405312
    · rw [if_pos h1, if_pos h2]
      have rest : ¬ (mg x = 0 ∧ mg y = 0) → (if (if mg x = 9218868437227405312 then (1 : Int32) else 0) = 0 then f_X12_by_43 x.toUInt64 y.toUInt64 0 else if (if mg y = 9218868437227405312 then (1 : Int32) else 0) = 0 then f_X12_by_43 x.toUInt64 y.toUInt64 0 else some (9221120237041090560 : UInt64)) = some r.toUInt64 := by
        intro hz
        by_cases c1 : mg x = 9218868437227405312
        · rw [if_pos c1, if_neg (by decide)]
          by_cases c2 : mg y = 9218868437227405312
          · rw [if_pos c2, if_neg (by decide)]; exact nanc (hnan.mpr (.inr (.inr (.inl ⟨c1, c2⟩))))
          · rw [if_neg c2, if_pos rfl]; exact numc (fun z => by have := hnan.mp z; omega)
        · rw [if_neg c1, if_pos rfl]; exact numc (fun z => by have := hnan.mp z; omega)
      by_cases c1 : mg x = 0
      · rw [if_pos c1]
        by_cases c2 : mg y = 0
        · rw [if_pos c2]; exact nanc (hnan.mpr (.inr (.inr (.inr ⟨c1, c2⟩))))
        · rw [if_neg c2]; exact rest (fun z => c2 z.2)
      · rw [if_neg c1]; exact rest (fun z => c1 z.1)
    · rw [if_pos h1, if_neg h2]; exact nanc (hnan.mpr (.inr (.inl h2)))
  · rw [if_neg h1]; exact nanc (hnan.mpr (.inl h1))
theorem o_rem (x y : Int64) : ∃ r, f_X5_remainder x y = some r ∧ f_X12_rest x.toUInt64 y.toUInt64 = some r.toUInt64 ∧ vcan r := by
  obtain ⟨r, g1, g2, g3⟩ := rem_ok x y
  refine ⟨r, g1, ?_, can_of g2⟩
  have g3' : FP.Core.val64 (FP.drem x.toUInt64 y.toUInt64) = dv r := by rw [g3]; exact FP.Core.val64_drem _ _
  have nanc : dv r = .nan → some (9221120237041090560 : UInt64) = some r.toUInt64 := by
    intro h
    rcases g2 with g2 | g2
    · rw [g2, nan_u]
    · exact absurd h g2
  have numc : dv r ≠ .nan → f_X12_rest_30 x.toUInt64 y.toUInt64 0 = some r.toUInt64 := by
    intro h
    obtain ⟨k1, k2⟩ := fin_op g3' h
    unfold f_X12_rest_30
    rw [if_pos rfl, if_pos k1, k2]
  have hnan : dv r = .nan ↔ (¬ nN x ∨ ¬ nN y ∨ mg x = 9218868437227405312 ∨ mg y = 0) := by
    rw [g3, FP.Core.round_nan, FP.Core.exactRemainder_nan, dv_nan, dv_nan]
    unfold nN
    constructor
    · rintro (h | h | ⟨s, h1⟩ | ⟨t, r, h1⟩)
      · exact .inl (by omega)
      · exact .inr (.inl (by omega))
      · exact .inr (.inr (.inl (inf_of h1)))
      · exact .inr (.inr (.inr (zero_of h1)))
    · rintro (h | h | h1 | h1)
      · exact .inl (by omega)
      · exact .inr (.inl (by omega))
      · exact .inr (.inr (.inl ⟨_, dv_inf h1⟩))
      · exact .inr (.inr (.inr ⟨_, _, dv_zero h1⟩))
  unfold f_X12_rest f_X12_rest_25
  simp only [self_eq, endl_ok, z_eq]
  have e43 : f_X12_rest_30 x.toUInt64 y.toUInt64 1 = some (9221120237041090560 : UInt64) := by unfold f_X12_rest_30; rw [if_neg (by decide)]
  rw [e43]
  unfold nN at hnan ⊢
  by_cases h1 : mg x ≤ 9218868437227405312
  · by_cases h2 : mg y ≤ 9218868437227405312
    · rw [if_pos h1, if_pos h2]
      by_cases c1 : mg x = 9218868437227405312
      · rw [if_pos c1, if_neg (by decide)]; exact nanc (hnan.mpr (.inr (.inr (.inl c1))))
      · rw [if_neg c1, if_pos rfl]
        by_cases c2 : mg y = 0
        · rw [if_pos c2]; exact nanc (hnan.mpr (.inr (.inr (.inr c2))))
        · rw [if_neg c2]; exact numc (fun z => by have := hnan.mp z; omega)
    · rw [if_pos h1, if_neg h2]; exact nanc (hnan.mpr (.inr (.inl h2)))
  · rw [if_neg h1]; exact nanc (hnan.mpr (.inl h1))
