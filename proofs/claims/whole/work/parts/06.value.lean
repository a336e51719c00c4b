-- PensionHouse$Award.addDeduction(II)I  mode M
noncomputable def f_X0_addDeduction (v0 : Nat) (v1 : Int32) (v2 : Int32) (S : jM) : Option (Int32 × jM) := if jK v0 = 0 then if (jI S 3 v0) < (6 : Int32) then (jR S 4 v0).bind (fun r3 => if jA r3 13 (jI S 3 v0) = true then jlet (jrI S r3 (upd (jAI S r3) (jI S 3 v0).toNatClampNeg v1)) (fun S6 => (jR S6 5 v0).bind (fun r7 => if jA r7 13 (jI S6 3 v0) = true then jlet (jrI S6 r7 (upd (jAI S6 r7) (jI S6 3 v0).toNatClampNeg v2)) (fun S10 => jlet (jsI S10 3 v0 ((jI S10 3 v0) + (1 : Int32))) (fun S11 => some (jI S11 3 v0, S11))) else none)) else none) else some ((-5 : Int32), S) else none
set_option maxRecDepth 100000 in
set_option maxHeartbeats 4000000 in
theorem B_X0_addDeduction_0 {p : Program} {l : Launch} {e : Env} {s : State} {m : MethodId} {args : Array Value} {below : List Frame} {meth : Method} {c : Code} {g : jG} {rr : Int32} {SS : jM} {v0 : Nat} {v1 : Int32} {v2 : Int32} {S : jM} (E : jEnv p s m args meth c cX0_addDeduction "PensionHouse$Award" (some .int) 3 g)  {H : Heap} {locs : List Loc} {ls : Array Slot} (hf : f_X0_addDeduction v0 v1 v2 S = some (rr, SS)) (hM : jAt g S s H locs) (hl : lv_has ls 3 [(0, .ref (g.2.2 + v0)), (1, .int v1), (2, .int v2)]) : W p l e (jRm 1 0 0) s m args below meth c H locs 0 0 (MQ below (jQi g rr SS) args s 0 0 (jA0 g)) (F0 m 0 ls []) := by
  obtain ⟨hx, hb, hml, -, hts, hown, hK, -, hstr⟩ := id E
  unfold f_X0_addDeduction at hf
  refine lv_aload_n hx hb dX0_addDeduction_0 rfl (lv_at hl 0 rfl) ?_
  obtain ⟨hq1, hf⟩ := jif hf
  refine gt_3 E hM hq1 lk_2_119 dX0_addDeduction_1 ?_
  refine lv_bipush (v := (6 : Int32)) hx hb dX0_addDeduction_4 (by decide) ?_
  refine lv_icmp_lt (tgt := 12) hx hb dX0_addDeduction_6 (by decide) (fun c2 => ?_) (fun c2 => ?_)
  · have hf := jt c2 hf
    refine lv_aload_n hx hb dX0_addDeduction_12 rfl (lv_at hl 0 rfl) ?_
    refine gt_4 E hM hq1 lk_2_120 dX0_addDeduction_13 ?_
    obtain ⟨r3, hr4, hf⟩ := jb hf
    rw [hr4]
    show W p l e _ s m args below meth c H locs 0 0 _ (F0 m _ ls (.ref (g.2.2 + r3) :: _))
    refine lv_aload_n hx hb dX0_addDeduction_16 rfl (lv_at hl 0 rfl) ?_
    refine gt_3 E hM hq1 lk_2_119 dX0_addDeduction_17 ?_
    refine lv_iload_n hx hb dX0_addDeduction_20 rfl (lv_at hl 1 rfl) ?_
    obtain ⟨ha5, hf⟩ := jif hf
    refine jiast E hM ha5 dX0_addDeduction_21 (fun H locs S6 eS6 hM => ?_)
    have hf := jlet_y eS6 hf
    refine lv_aload_n hx hb dX0_addDeduction_22 rfl (lv_at hl 0 rfl) ?_
    refine gt_5 E hM hq1 lk_2_121 dX0_addDeduction_23 ?_
    obtain ⟨r7, hr8, hf⟩ := jb hf
    rw [hr8]
    show W p l e _ s m args below meth c H locs 0 0 _ (F0 m _ ls (.ref (g.2.2 + r7) :: _))
    refine lv_aload_n hx hb dX0_addDeduction_26 rfl (lv_at hl 0 rfl) ?_
    refine gt_3 E hM hq1 lk_2_119 dX0_addDeduction_27 ?_
    refine lv_iload_n hx hb dX0_addDeduction_30 rfl (lv_at hl 2 rfl) ?_
    obtain ⟨ha9, hf⟩ := jif hf
    refine jiast E hM ha9 dX0_addDeduction_31 (fun H locs S10 eS10 hM => ?_)
    have hf := jlet_y eS10 hf
    refine lv_aload_n hx hb dX0_addDeduction_32 rfl (lv_at hl 0 rfl) ?_
    refine lv_dup hx hb dX0_addDeduction_33 rfl ?_
    refine gt_3 E hM hq1 lk_2_119 dX0_addDeduction_34 ?_
    refine lv_iconst (v := (1 : Int32)) hx hb dX0_addDeduction_37 (by decide) ?_
    refine lv_iadd hx hb dX0_addDeduction_38 ?_
    refine pt_3 E hM hq1 lk_2_119 dX0_addDeduction_39 (fun H locs S11 eS11 hM => ?_)
    have hf := jlet_y eS11 hf
    refine lv_aload_n hx hb dX0_addDeduction_42 rfl (lv_at hl 0 rfl) ?_
    refine gt_3 E hM hq1 lk_2_119 dX0_addDeduction_43 ?_
    exact jireti (jr2 hf) E hM dX0_addDeduction_46
  · have hf := jf c2 hf
    refine lv_bipush (v := (-5 : Int32)) hx hb dX0_addDeduction_9 (by decide) ?_
    exact jireti (jr2 hf) E hM dX0_addDeduction_11
set_option maxRecDepth 100000 in
theorem C_X0_addDeduction {l : Launch} {g : jG} {a0 : Nat} {a1 : Int32} {a2 : Int32} {S : jM} {rr : Int32} {SS : jM} (hf : f_X0_addDeduction a0 a1 a2 S = some (rr, SS)) : jMet l g yX0_addDeduction cX0_addDeduction 3 (some .int) 1 0 0 [.ref (g.2.2 + a0), .int a1, .int a2] S (jQi g rr SS) := by
  refine jof (by decide +kernel) (Nat.le_of_ble_eq_true rfl) ?_
  intro p e s m below meth c E hM ls hl
  have hl : lv_has ls 3 [(0, .ref (g.2.2 + a0)),(1, .int a1),(2, .int a2)] := hl
  exact B_X0_addDeduction_0 E hf hM hl
-- PensionHouse$Award.takeFrom(J[JI)J  mode M
noncomputable def f_X0_takeFrom_84 (k6 : Nat → Nat → Int32 → Int64 → Int32 → jM → Option (Int64 × jM)) (v0 : Nat) (v3 : Nat) (v4 : Int32) (v5 : Int64) (v7 : Int32) (S : jM) : Option (Int64 × jM) := jlet (v7 + (1 : Int32)) (fun x1 => k6 v0 v3 v4 v5 x1 S)
noncomputable def f_X0_takeFrom_78 (k6 : Nat → Nat → Int32 → Int64 → Int32 → jM → Option (Int64 × jM)) (k16 : Nat → Nat → Int32 → Int64 → Int32 → Int32 → jM → Option (Int64 × jM)) (v0 : Nat) (v3 : Nat) (v4 : Int32) (v5 : Int64) (v7 : Int32) (v8 : Int32) (S : jM) : Option (Int64 × jM) := jlet (v8 + (1 : Int32)) (fun x2 => k16 v0 v3 v4 v5 v7 x2 S)
noncomputable def f_X0_takeFrom_16 (k6 : Nat → Nat → Int32 → Int64 → Int32 → jM → Option (Int64 × jM)) : Nat → Nat → Nat → Int32 → Int64 → Int32 → Int32 → jM → Option (Int64 × jM)
  | 0, _, _, _, _, _, _, _ => none
  | n + 1, v0, v3, v4, v5, v7, v8, S => if jK v0 = 0 then if (jI S 3 v0) ≤ v8 then f_X0_takeFrom_84 k6 v0 v3 v4 v5 v7 S else if jK v3 = 14 then if (Int32.ofNat (jLen v3)) ≤ (v4 + v8) then f_X0_takeFrom_84 k6 v0 v3 v4 v5 v7 S else (jR S 5 v0).bind (fun r7 => if jA r7 13 v8 = true then if (jAI S r7 (v8).toNatClampNeg) = v7 then (jR S 4 v0).bind (fun r11 => if jA r11 13 v8 = true then jlet ((if ((jAI S r11 (v8).toNatClampNeg).toInt64) < v5 then ((jAI S r11 (v8).toNatClampNeg).toInt64) else v5)) (fun x14 => if jA v3 14 (v4 + v8) = true then jlet (jrL S v3 (vp_updL (jAL S v3) (v4 + v8).toNatClampNeg x14)) (fun S16 => jlet (v5 - x14) (fun x17 => f_X0_takeFrom_78 k6 (f_X0_takeFrom_16 k6 n) v0 v3 v4 x17 v7 v8 S16)) else none) else none) else f_X0_takeFrom_78 k6 (f_X0_takeFrom_16 k6 n) v0 v3 v4 v5 v7 v8 S else none) else none else none
noncomputable def f_X0_takeFrom_6 : Nat → Nat → Nat → Int32 → Int64 → Int32 → jM → Option (Int64 × jM)
  | 0, _, _, _, _, _, _ => none
  | n + 1, v0, v3, v4, v5, v7, S => if (9 : Int32) < v7 then some (v5, S) else f_X0_takeFrom_16 (f_X0_takeFrom_6 n) 1100000 v0 v3 v4 v5 v7 (0 : Int32) S
noncomputable def f_X0_takeFrom (v0 : Nat) (v1 : Int64) (v3 : Nat) (v4 : Int32) (S : jM) : Option (Int64 × jM) := f_X0_takeFrom_6 1100000 v0 v3 v4 v1 (0 : Int32) S
set_option maxRecDepth 100000 in
set_option maxHeartbeats 4000000 in
theorem B_X0_takeFrom_84 {p : Program} {l : Launch} {e : Env} {s : State} {m : MethodId} {args : Array Value} {below : List Frame} {meth : Method} {c : Code} {g : jG} {rr : Int64} {SS : jM} {v0 : Nat} {v3 : Nat} {v4 : Int32} {v5 : Int64} {v7 : Int32} {S : jM} {k6 : Nat → Nat → Int32 → Int64 → Int32 → jM → Option (Int64 × jM)} (E : jEnv p s m args meth c cX0_takeFrom "PensionHouse$Award" (some .long) 11 g) (hk6 : ∀ (v0 : Nat) (v3 : Nat) (v4 : Int32) (v5 : Int64) (v7 : Int32) (S : jM) (H : Heap) (locs : List Loc) (ls : Array Slot), k6 v0 v3 v4 v5 v7 S = some (rr, SS) → jAt g S s H locs → lv_has ls 11 [(0, .ref (g.2.2 + v0)), (3, .ref (g.2.2 + v3)), (4, .int v4), (5, .long v5), (7, .int v7)] → W p l e (jRm 2 0 0) s m args below meth c H locs 0 0 (MQ below (jQl g rr SS) args s 0 0 (jA0 g)) (F0 m 6 ls [])) {H : Heap} {locs : List Loc} {ls : Array Slot} (hf : f_X0_takeFrom_84 k6 v0 v3 v4 v5 v7 S = some (rr, SS)) (hM : jAt g S s H locs) (hl : lv_has ls 11 [(0, .ref (g.2.2 + v0)), (3, .ref (g.2.2 + v3)), (4, .int v4), (5, .long v5), (7, .int v7)]) : W p l e (jRm 2 0 0) s m args below meth c H locs 0 0 (MQ below (jQl g rr SS) args s 0 0 (jA0 g)) (F0 m 84 ls []) := by
  obtain ⟨hx, hb, hml, -, hts, hown, hK, -, hstr⟩ := id E
  unfold f_X0_takeFrom_84 at hf
  obtain ⟨x1, ex1⟩ : ∃ z, z = v7 + (1 : Int32) := ⟨_, rfl⟩
  have hf := jlet_y ex1 hf
  refine lv_iinc (v := x1) (lv' := [(7, .int x1), (0, .ref (g.2.2 + v0)), (3, .ref (g.2.2 + v3)), (4, .int v4), (5, .long v5)]) hx hb dX0_takeFrom_84 hl (k := 4) rfl (by rw [ex1]; rfl) (by decide) rfl (fun ls hl => ?_)
  refine lv_goto (tgt := 6) hx hb dX0_takeFrom_87 (by decide) ?_
  exact hk6 v0 v3 v4 v5 x1 S _ _ _ hf hM (lv_sub hl [1, 2, 3, 4, 0] rfl)
set_option maxRecDepth 100000 in
set_option maxHeartbeats 4000000 in
theorem B_X0_takeFrom_78 {p : Program} {l : Launch} {e : Env} {s : State} {m : MethodId} {args : Array Value} {below : List Frame} {meth : Method} {c : Code} {g : jG} {rr : Int64} {SS : jM} {v0 : Nat} {v3 : Nat} {v4 : Int32} {v5 : Int64} {v7 : Int32} {v8 : Int32} {S : jM} {k6 : Nat → Nat → Int32 → Int64 → Int32 → jM → Option (Int64 × jM)} {k16 : Nat → Nat → Int32 → Int64 → Int32 → Int32 → jM → Option (Int64 × jM)} (E : jEnv p s m args meth c cX0_takeFrom "PensionHouse$Award" (some .long) 11 g) (hk6 : ∀ (v0 : Nat) (v3 : Nat) (v4 : Int32) (v5 : Int64) (v7 : Int32) (S : jM) (H : Heap) (locs : List Loc) (ls : Array Slot), k6 v0 v3 v4 v5 v7 S = some (rr, SS) → jAt g S s H locs → lv_has ls 11 [(0, .ref (g.2.2 + v0)), (3, .ref (g.2.2 + v3)), (4, .int v4), (5, .long v5), (7, .int v7)] → W p l e (jRm 2 0 0) s m args below meth c H locs 0 0 (MQ below (jQl g rr SS) args s 0 0 (jA0 g)) (F0 m 6 ls [])) (hk16 : ∀ (v0 : Nat) (v3 : Nat) (v4 : Int32) (v5 : Int64) (v7 : Int32) (v8 : Int32) (S : jM) (H : Heap) (locs : List Loc) (ls : Array Slot), k16 v0 v3 v4 v5 v7 v8 S = some (rr, SS) → jAt g S s H locs → lv_has ls 11 [(0, .ref (g.2.2 + v0)), (3, .ref (g.2.2 + v3)), (4, .int v4), (5, .long v5), (7, .int v7), (8, .int v8)] → W p l e (jRm 2 0 0) s m args below meth c H locs 0 0 (MQ below (jQl g rr SS) args s 0 0 (jA0 g)) (F0 m 16 ls [])) {H : Heap} {locs : List Loc} {ls : Array Slot} (hf : f_X0_takeFrom_78 k6 k16 v0 v3 v4 v5 v7 v8 S = some (rr, SS)) (hM : jAt g S s H locs) (hl : lv_has ls 11 [(0, .ref (g.2.2 + v0)), (3, .ref (g.2.2 + v3)), (4, .int v4), (5, .long v5), (7, .int v7), (8, .int v8)]) : W p l e (jRm 2 0 0) s m args below meth c H locs 0 0 (MQ below (jQl g rr SS) args s 0 0 (jA0 g)) (F0 m 78 ls []) := by
  obtain ⟨hx, hb, hml, -, hts, hown, hK, -, hstr⟩ := id E
  unfold f_X0_takeFrom_78 at hf
  obtain ⟨x2, ex2⟩ : ∃ z, z = v8 + (1 : Int32) := ⟨_, rfl⟩
  have hf := jlet_y ex2 hf
  refine lv_iinc (v := x2) (lv' := [(8, .int x2), (0, .ref (g.2.2 + v0)), (3, .ref (g.2.2 + v3)), (4, .int v4), (5, .long v5), (7, .int v7)]) hx hb dX0_takeFrom_78 hl (k := 5) rfl (by rw [ex2]; rfl) (by decide) rfl (fun ls hl => ?_)
  refine lv_goto (tgt := 16) hx hb dX0_takeFrom_81 (by decide) ?_
  exact hk16 v0 v3 v4 v5 v7 x2 S _ _ _ hf hM (lv_sub hl [1, 2, 3, 4, 5, 0] rfl)
set_option maxRecDepth 100000 in
set_option maxHeartbeats 4000000 in
theorem B_X0_takeFrom_16 {p : Program} {l : Launch} {e : Env} {s : State} {m : MethodId} {args : Array Value} {below : List Frame} {meth : Method} {c : Code} {g : jG} {rr : Int64} {SS : jM} {k6 : Nat → Nat → Int32 → Int64 → Int32 → jM → Option (Int64 × jM)} (E : jEnv p s m args meth c cX0_takeFrom "PensionHouse$Award" (some .long) 11 g) (hk6 : ∀ (v0 : Nat) (v3 : Nat) (v4 : Int32) (v5 : Int64) (v7 : Int32) (S : jM) (H : Heap) (locs : List Loc) (ls : Array Slot), k6 v0 v3 v4 v5 v7 S = some (rr, SS) → jAt g S s H locs → lv_has ls 11 [(0, .ref (g.2.2 + v0)), (3, .ref (g.2.2 + v3)), (4, .int v4), (5, .long v5), (7, .int v7)] → W p l e (jRm 2 0 0) s m args below meth c H locs 0 0 (MQ below (jQl g rr SS) args s 0 0 (jA0 g)) (F0 m 6 ls [])) : ∀ (n : Nat) (v0 : Nat) (v3 : Nat) (v4 : Int32) (v5 : Int64) (v7 : Int32) (v8 : Int32) (S : jM) (H : Heap) (locs : List Loc) (ls : Array Slot), f_X0_takeFrom_16 k6 n v0 v3 v4 v5 v7 v8 S = some (rr, SS) → jAt g S s H locs → lv_has ls 11 [(0, .ref (g.2.2 + v0)), (3, .ref (g.2.2 + v3)), (4, .int v4), (5, .long v5), (7, .int v7), (8, .int v8)] → W p l e (jRm 2 0 0) s m args below meth c H locs 0 0 (MQ below (jQl g rr SS) args s 0 0 (jA0 g)) (F0 m 16 ls []) := by
  obtain ⟨hx, hb, hml, -, hts, hown, hK, -, hstr⟩ := id E
  intro n
  induction n with
  | zero => intro v0 v3 v4 v5 v7 v8 S H locs ls hf hM hl; rw [f_X0_takeFrom_16] at hf; cases hf
  | succ n ih =>
    intro v0 v3 v4 v5 v7 v8 S H locs ls hf hM hl
    rw [f_X0_takeFrom_16] at hf
    refine lv_iload hx hb dX0_takeFrom_16 (lv_at hl 5 rfl) ?_
    refine lv_aload_n hx hb dX0_takeFrom_18 rfl (lv_at hl 0 rfl) ?_
    obtain ⟨hq3, hf⟩ := jif hf
    refine gt_3 E hM hq3 lk_2_119 dX0_takeFrom_19 ?_
    refine lv_icmp_ge (tgt := 84) hx hb dX0_takeFrom_22 (by decide) (fun c4 => ?_) (fun c4 => ?_)
    · have hf := jt c4 hf
      exact B_X0_takeFrom_84 E hk6 hf hM (lv_sub hl [0, 1, 2, 3, 4] rfl)
    · have hf := jf c4 hf
      refine lv_iload hx hb dX0_takeFrom_25 (lv_at hl 2 rfl) ?_
      refine lv_iload hx hb dX0_takeFrom_27 (lv_at hl 5 rfl) ?_
      refine lv_iadd hx hb dX0_takeFrom_29 ?_
      refine lv_aload_n hx hb dX0_takeFrom_30 rfl (lv_at hl 1 rfl) ?_
      obtain ⟨hq5, hf⟩ := jif hf
      refine jalen (t0 := 3) E hM hq5 (by decide) (by decide) rfl dX0_takeFrom_31 ?_
      refine lv_icmp_ge (tgt := 84) hx hb dX0_takeFrom_32 (by decide) (fun c6 => ?_) (fun c6 => ?_)
      · have hf := jt c6 hf
        exact B_X0_takeFrom_84 E hk6 hf hM (lv_sub hl [0, 1, 2, 3, 4] rfl)
      · have hf := jf c6 hf
        refine lv_aload_n hx hb dX0_takeFrom_35 rfl (lv_at hl 0 rfl) ?_
        refine gt_5 E hM hq3 lk_2_121 dX0_takeFrom_36 ?_
        obtain ⟨r7, hr8, hf⟩ := jb hf
        rw [hr8]
        show W p l e _ s m args below meth c H locs 0 0 _ (F0 m _ ls (.ref (g.2.2 + r7) :: _))
        refine lv_iload hx hb dX0_takeFrom_39 (lv_at hl 5 rfl) ?_
        obtain ⟨ha9, hf⟩ := jif hf
        refine jiald E hM ha9 dX0_takeFrom_41 ?_
        refine lv_iload hx hb dX0_takeFrom_42 (lv_at hl 4 rfl) ?_
        refine lv_icmp_ne (tgt := 78) hx hb dX0_takeFrom_44 (by decide) (fun c10 => ?_) (fun c10 => ?_)
        · have hf := jf c10 hf
          exact B_X0_takeFrom_78 E hk6 ih hf hM (lv_sub hl [0, 1, 2, 3, 4, 5] rfl)
        · have hf := jt c10 hf
          refine lv_lload hx hb dX0_takeFrom_47 (lv_at hl 3 rfl) ?_
          refine lv_aload_n hx hb dX0_takeFrom_49 rfl (lv_at hl 0 rfl) ?_
          refine gt_4 E hM hq3 lk_2_120 dX0_takeFrom_50 ?_
          obtain ⟨r11, hr12, hf⟩ := jb hf
          rw [hr12]
          show W p l e _ s m args below meth c H locs 0 0 _ (F0 m _ ls (.ref (g.2.2 + r11) :: _))
          refine lv_iload hx hb dX0_takeFrom_53 (lv_at hl 5 rfl) ?_
          obtain ⟨ha13, hf⟩ := jif hf
          refine jiald E hM ha13 dX0_takeFrom_55 ?_
          refine lv_i2l hx hb dX0_takeFrom_56 rfl ?_
          refine va_mmin_long hx hb (by rw [hml, hl.1]) hown (hts _ lk_5_215) (hts _ lk_5_107) (hts _ lk_1_18) (hts _ lk_5_108) (Nat.le_of_ble_eq_true rfl) (Nat.le_of_ble_eq_true rfl) (Nat.le_refl _) (Nat.le_refl _) dX0_takeFrom_57 ?_
          refine lv_topl (fun x14 ex14 => ?_)
          have hf := jlet_y ex14 hf
          refine lv_lstore (lv' := [(9, .long x14), (0, .ref (g.2.2 + v0)), (3, .ref (g.2.2 + v3)), (4, .int v4), (5, .long v5), (7, .int v7), (8, .int v8)]) hx hb dX0_takeFrom_60 hl (by decide) rfl (fun ls hl => ?_)
          refine lv_aload_n hx hb dX0_takeFrom_62 rfl (lv_at hl 2 rfl) ?_
          refine lv_iload hx hb dX0_takeFrom_63 (lv_at hl 3 rfl) ?_
          refine lv_iload hx hb dX0_takeFrom_65 (lv_at hl 6 rfl) ?_
          refine lv_iadd hx hb dX0_takeFrom_67 ?_
          refine lv_lload hx hb dX0_takeFrom_68 (lv_at hl 0 rfl) ?_
          obtain ⟨ha15, hf⟩ := jif hf
          refine jlast E hM ha15 dX0_takeFrom_70 (fun H locs S16 eS16 hM => ?_)
          have hf := jlet_y eS16 hf
          refine lv_lload hx hb dX0_takeFrom_71 (lv_at hl 4 rfl) ?_
          refine lv_lload hx hb dX0_takeFrom_73 (lv_at hl 0 rfl) ?_
          refine lv_lsub hx hb dX0_takeFrom_75 ?_
          refine lv_topl (fun x17 ex17 => ?_)
          have hf := jlet_y ex17 hf
          refine lv_lstore (lv' := [(5, .long x17), (9, .long x14), (0, .ref (g.2.2 + v0)), (3, .ref (g.2.2 + v3)), (4, .int v4), (7, .int v7), (8, .int v8)]) hx hb dX0_takeFrom_76 hl (by decide) rfl (fun ls hl => ?_)
          exact B_X0_takeFrom_78 E hk6 ih hf hM (lv_sub hl [2, 3, 4, 0, 5, 6] rfl)
set_option maxRecDepth 100000 in
set_option maxHeartbeats 4000000 in
theorem B_X0_takeFrom_6 {p : Program} {l : Launch} {e : Env} {s : State} {m : MethodId} {args : Array Value} {below : List Frame} {meth : Method} {c : Code} {g : jG} {rr : Int64} {SS : jM} (E : jEnv p s m args meth c cX0_takeFrom "PensionHouse$Award" (some .long) 11 g)  : ∀ (n : Nat) (v0 : Nat) (v3 : Nat) (v4 : Int32) (v5 : Int64) (v7 : Int32) (S : jM) (H : Heap) (locs : List Loc) (ls : Array Slot), f_X0_takeFrom_6 n v0 v3 v4 v5 v7 S = some (rr, SS) → jAt g S s H locs → lv_has ls 11 [(0, .ref (g.2.2 + v0)), (3, .ref (g.2.2 + v3)), (4, .int v4), (5, .long v5), (7, .int v7)] → W p l e (jRm 2 0 0) s m args below meth c H locs 0 0 (MQ below (jQl g rr SS) args s 0 0 (jA0 g)) (F0 m 6 ls []) := by
  obtain ⟨hx, hb, hml, -, hts, hown, hK, -, hstr⟩ := id E
  intro n
  induction n with
  | zero => intro v0 v3 v4 v5 v7 S H locs ls hf hM hl; rw [f_X0_takeFrom_6] at hf; cases hf
  | succ n ih =>
    intro v0 v3 v4 v5 v7 S H locs ls hf hM hl
    rw [f_X0_takeFrom_6] at hf
    refine lv_iload hx hb dX0_takeFrom_6 (lv_at hl 4 rfl) ?_
    refine lv_bipush (v := (9 : Int32)) hx hb dX0_takeFrom_8 (by decide) ?_
    refine lv_icmp_gt (tgt := 90) hx hb dX0_takeFrom_10 (by decide) (fun c18 => ?_) (fun c18 => ?_)
    · have hf := jt c18 hf
      refine lv_lload hx hb dX0_takeFrom_90 (lv_at hl 3 rfl) ?_
      exact jlret (jr2 hf) E hM dX0_takeFrom_92
    · have hf := jf c18 hf
      refine lv_iconst (v := (0 : Int32)) hx hb dX0_takeFrom_13 (by decide) ?_
      refine lv_istore (lv' := [(8, .int (0 : Int32)), (0, .ref (g.2.2 + v0)), (3, .ref (g.2.2 + v3)), (4, .int v4), (5, .long v5), (7, .int v7)]) hx hb dX0_takeFrom_14 hl (by decide) rfl (fun ls hl => ?_)
      exact B_X0_takeFrom_16 E ih 1100000 v0 v3 v4 v5 v7 (0 : Int32) S _ _ _ hf hM (lv_sub hl [1, 2, 3, 4, 5, 0] rfl)
set_option maxRecDepth 100000 in
set_option maxHeartbeats 4000000 in
theorem B_X0_takeFrom_0 {p : Program} {l : Launch} {e : Env} {s : State} {m : MethodId} {args : Array Value} {below : List Frame} {meth : Method} {c : Code} {g : jG} {rr : Int64} {SS : jM} {v0 : Nat} {v1 : Int64} {v3 : Nat} {v4 : Int32} {S : jM} (E : jEnv p s m args meth c cX0_takeFrom "PensionHouse$Award" (some .long) 11 g)  {H : Heap} {locs : List Loc} {ls : Array Slot} (hf : f_X0_takeFrom v0 v1 v3 v4 S = some (rr, SS)) (hM : jAt g S s H locs) (hl : lv_has ls 11 [(0, .ref (g.2.2 + v0)), (1, .long v1), (3, .ref (g.2.2 + v3)), (4, .int v4)]) : W p l e (jRm 2 0 0) s m args below meth c H locs 0 0 (MQ below (jQl g rr SS) args s 0 0 (jA0 g)) (F0 m 0 ls []) := by
  obtain ⟨hx, hb, hml, -, hts, hown, hK, -, hstr⟩ := id E
  unfold f_X0_takeFrom at hf
  refine lv_lload_n hx hb dX0_takeFrom_0 rfl (lv_at hl 1 rfl) ?_
  refine lv_lstore (lv' := [(5, .long v1), (0, .ref (g.2.2 + v0)), (1, .long v1), (3, .ref (g.2.2 + v3)), (4, .int v4)]) hx hb dX0_takeFrom_1 hl (by decide) rfl (fun ls hl => ?_)
  refine lv_iconst (v := (0 : Int32)) hx hb dX0_takeFrom_3 (by decide) ?_
  refine lv_istore (lv' := [(7, .int (0 : Int32)), (5, .long v1), (0, .ref (g.2.2 + v0)), (1, .long v1), (3, .ref (g.2.2 + v3)), (4, .int v4)]) hx hb dX0_takeFrom_4 hl (by decide) rfl (fun ls hl => ?_)
  exact B_X0_takeFrom_6 E  1100000 v0 v3 v4 v1 (0 : Int32) S _ _ _ hf hM (lv_sub hl [2, 4, 5, 1, 0] rfl)
set_option maxRecDepth 100000 in
theorem C_X0_takeFrom {l : Launch} {g : jG} {a0 : Nat} {a1 : Int64} {a3 : Nat} {a4 : Int32} {S : jM} {rr : Int64} {SS : jM} (hf : f_X0_takeFrom a0 a1 a3 a4 S = some (rr, SS)) : jMet l g yX0_takeFrom cX0_takeFrom 11 (some .long) 2 0 0 [.ref (g.2.2 + a0), .long a1, .ref (g.2.2 + a3), .int a4] S (jQl g rr SS) := by
  refine jof (by decide +kernel) (Nat.le_of_ble_eq_true rfl) ?_
  intro p e s m below meth c E hM ls hl
  have hl : lv_has ls 11 [(0, .ref (g.2.2 + a0)),(1, .long a1),(3, .ref (g.2.2 + a3)),(4, .int a4)] := hl
  exact B_X0_takeFrom_0 E hf hM hl
-- PensionHouse$Value.setNumber(IJ)V  mode M
noncomputable def f_X9_setNumber (v0 : Nat) (v1 : Int32) (v2 : Int64) (S : jM) : Option jM := if jK v0 = 7 then jlet (jsI S 52 v0 v1) (fun S2 => jlet (jsI S2 53 v0 (0 : Int32)) (fun S3 => (jR S3 54 v0).bind (fun r4 => if jA r4 14 (0 : Int32) = true then jlet (jrL S3 r4 (vp_updL (jAL S3 r4) ((0 : Int32)).toNatClampNeg v2)) (fun S7 => some S7) else none))) else none
set_option maxRecDepth 100000 in
set_option maxHeartbeats 4000000 in
theorem B_X9_setNumber_0 {p : Program} {l : Launch} {e : Env} {s : State} {m : MethodId} {args : Array Value} {below : List Frame} {meth : Method} {c : Code} {g : jG} {SS : jM} {v0 : Nat} {v1 : Int32} {v2 : Int64} {S : jM} (E : jEnv p s m args meth c cX9_setNumber "PensionHouse$Value" none 4 g)  {H : Heap} {locs : List Loc} {ls : Array Slot} (hf : f_X9_setNumber v0 v1 v2 S = some SS) (hM : jAt g S s H locs) (hl : lv_has ls 4 [(0, .ref (g.2.2 + v0)), (1, .int v1), (2, .long v2)]) : W p l e (jRm 1 0 0) s m args below meth c H locs 0 0 (MQ below (jQv g SS) args s 0 0 (jA0 g)) (F0 m 0 ls []) := by
  obtain ⟨hx, hb, hml, -, hts, hown, hK, -, hstr⟩ := id E
  unfold f_X9_setNumber at hf
  refine lv_aload_n hx hb dX9_setNumber_0 rfl (lv_at hl 0 rfl) ?_
  refine lv_iload_n hx hb dX9_setNumber_1 rfl (lv_at hl 1 rfl) ?_
  obtain ⟨hq1, hf⟩ := jif hf
  refine pt_52 E hM hq1 lk_1_49 dX9_setNumber_2 (fun H locs S2 eS2 hM => ?_)
  have hf := jlet_y eS2 hf
  refine lv_aload_n hx hb dX9_setNumber_5 rfl (lv_at hl 0 rfl) ?_
  refine lv_iconst (v := (0 : Int32)) hx hb dX9_setNumber_6 (by decide) ?_
  refine pt_53 E hM hq1 lk_1_54 dX9_setNumber_7 (fun H locs S3 eS3 hM => ?_)
  have hf := jlet_y eS3 hf
  refine lv_aload_n hx hb dX9_setNumber_10 rfl (lv_at hl 0 rfl) ?_
  refine gt_54 E hM hq1 lk_1_57 dX9_setNumber_11 ?_
  obtain ⟨r4, hr5, hf⟩ := jb hf
  rw [hr5]
  show W p l e _ s m args below meth c H locs 0 0 _ (F0 m _ ls (.ref (g.2.2 + r4) :: _))
  refine lv_iconst (v := (0 : Int32)) hx hb dX9_setNumber_14 (by decide) ?_
  refine lv_lload_n hx hb dX9_setNumber_15 rfl (lv_at hl 2 rfl) ?_
  obtain ⟨ha6, hf⟩ := jif hf
  refine jlast E hM ha6 dX9_setNumber_16 (fun H locs S7 eS7 hM => ?_)
  have hf := jlet_y eS7 hf
  exact jvret (jrv hf) E hM dX9_setNumber_17
set_option maxRecDepth 100000 in
theorem C_X9_setNumber {l : Launch} {g : jG} {a0 : Nat} {a1 : Int32} {a2 : Int64} {S : jM} {SS : jM} (hf : f_X9_setNumber a0 a1 a2 S = some SS) : jMet l g yX9_setNumber cX9_setNumber 4 none 1 0 0 [.ref (g.2.2 + a0), .int a1, .long a2] S (jQv g SS) := by
  refine jof (by decide +kernel) (Nat.le_of_ble_eq_true rfl) ?_
  intro p e s m below meth c E hM ls hl
  have hl : lv_has ls 4 [(0, .ref (g.2.2 + a0)),(1, .int a1),(2, .long a2)] := hl
  exact B_X9_setNumber_0 E hf hM hl
-- PensionHouse$Value.isNumber()Z  mode R
noncomputable def f_X9_isNumber_15 (S : jM) : Option Int32 := some (1 : Int32)
noncomputable def f_X9_isNumber (v0 : Nat) (S : jM) : Option Int32 := if jK v0 = 7 then if (jI S 52 v0) = 0 then f_X9_isNumber_15 S else if (jI S 52 v0) = (1 : Int32) then f_X9_isNumber_15 S else some (0 : Int32) else none
set_option maxRecDepth 100000 in
set_option maxHeartbeats 4000000 in
theorem B_X9_isNumber_15 {p : Program} {l : Launch} {e : Env} {s : State} {m : MethodId} {args : Array Value} {below : List Frame} {meth : Method} {c : Code} {g : jG} {rr : Int32} {S : jM} (E : jEnv p s m args meth c cX9_isNumber "PensionHouse$Value" (some .boolean) 1 g)  {H : Heap} {locs : List Loc} {ls : Array Slot} (hf : f_X9_isNumber_15 S = some rr) (hM : jAt g S s H locs) (hl : lv_has ls 1 []) : W p l e (jRm 1 0 0) s m args below meth c H locs 0 0 (MQ below (jQi g rr S) args s 0 0 (jA0 g)) (F0 m 15 ls []) := by
  obtain ⟨hx, hb, hml, -, hts, hown, hK, -, hstr⟩ := id E
  unfold f_X9_isNumber_15 at hf
  refine lv_iconst (v := (1 : Int32)) hx hb dX9_isNumber_15 (by decide) ?_
  refine lv_goto (tgt := 20) hx hb dX9_isNumber_16 (by decide) ?_
  exact jiretz (jr1 hf) E hM (by decide) dX9_isNumber_20
set_option maxRecDepth 100000 in
set_option maxHeartbeats 4000000 in
theorem B_X9_isNumber_0 {p : Program} {l : Launch} {e : Env} {s : State} {m : MethodId} {args : Array Value} {below : List Frame} {meth : Method} {c : Code} {g : jG} {rr : Int32} {S : jM} {v0 : Nat} (E : jEnv p s m args meth c cX9_isNumber "PensionHouse$Value" (some .boolean) 1 g)  {H : Heap} {locs : List Loc} {ls : Array Slot} (hf : f_X9_isNumber v0 S = some rr) (hM : jAt g S s H locs) (hl : lv_has ls 1 [(0, .ref (g.2.2 + v0))]) : W p l e (jRm 1 0 0) s m args below meth c H locs 0 0 (MQ below (jQi g rr S) args s 0 0 (jA0 g)) (F0 m 0 ls []) := by
  obtain ⟨hx, hb, hml, -, hts, hown, hK, -, hstr⟩ := id E
  unfold f_X9_isNumber at hf
  refine lv_aload_n hx hb dX9_isNumber_0 rfl (lv_at hl 0 rfl) ?_
  obtain ⟨hq1, hf⟩ := jif hf
  refine gt_52 E hM hq1 lk_1_49 dX9_isNumber_1 ?_
  refine lv_if_eq (tgt := 15) hx hb dX9_isNumber_4 (by decide) (fun c2 => ?_) (fun c2 => ?_)
  · have hf := jt c2 hf
    exact B_X9_isNumber_15 E  hf hM (lv_sub hl [] rfl)
  · have hf := jf c2 hf
    refine lv_aload_n hx hb dX9_isNumber_7 rfl (lv_at hl 0 rfl) ?_
    refine gt_52 E hM hq1 lk_1_49 dX9_isNumber_8 ?_
    refine lv_iconst (v := (1 : Int32)) hx hb dX9_isNumber_11 (by decide) ?_
    refine lv_icmp_ne (tgt := 19) hx hb dX9_isNumber_12 (by decide) (fun c3 => ?_) (fun c3 => ?_)
    · have hf := jf c3 hf
      refine lv_iconst (v := (0 : Int32)) hx hb dX9_isNumber_19 (by decide) ?_
      exact jiretz (jr1 hf) E hM (by decide) dX9_isNumber_20
    · have hf := jt c3 hf
      exact B_X9_isNumber_15 E  hf hM (lv_sub hl [] rfl)
set_option maxRecDepth 100000 in
theorem C_X9_isNumber {l : Launch} {g : jG} {a0 : Nat} {S : jM} {rr : Int32} (hf : f_X9_isNumber a0 S = some rr) : jMet l g yX9_isNumber cX9_isNumber 1 (some .boolean) 1 0 0 [.ref (g.2.2 + a0)] S (jQi g rr S) := by
  refine jof (by decide +kernel) (Nat.le_of_ble_eq_true rfl) ?_
  intro p e s m below meth c E hM ls hl
  have hl : lv_has ls 1 [(0, .ref (g.2.2 + a0))] := hl
  exact B_X9_isNumber_0 E hf hM hl
-- PensionHouse$Value.setTo(LPensionHouse$Value;)V  mode M
noncomputable def f_X9_setTo (v0 : Nat) (v1 : Nat) (S : jM) : Option jM := if jK v1 = 7 then if jK v0 = 7 then jlet (jsI S 52 v0 (jI S 52 v1)) (fun S3 => jlet (jsI S3 53 v0 (jI S3 53 v1)) (fun S4 => (jR S4 54 v1).bind (fun r5 => (jR S4 54 v0).bind (fun r7 => if jK r5 = 14 then if jK r7 = 14 then if jcp (0 : Int32) (0 : Int32) (12 : Int32) (jLen r5) (jLen r7) = true then jlet (jrL S4 r7 (va_cpy (jAL S4 r5) (jAL S4 r7) ((0 : Int32)).toNatClampNeg ((0 : Int32)).toNatClampNeg ((12 : Int32)).toNatClampNeg)) (fun S12 => some S12) else none else none else none)))) else none else none
set_option maxRecDepth 100000 in
set_option maxHeartbeats 4000000 in
theorem B_X9_setTo_0 {p : Program} {l : Launch} {e : Env} {s : State} {m : MethodId} {args : Array Value} {below : List Frame} {meth : Method} {c : Code} {g : jG} {SS : jM} {v0 : Nat} {v1 : Nat} {S : jM} (E : jEnv p s m args meth c cX9_setTo "PensionHouse$Value" none 2 g)  {H : Heap} {locs : List Loc} {ls : Array Slot} (hf : f_X9_setTo v0 v1 S = some SS) (hM : jAt g S s H locs) (hl : lv_has ls 2 [(0, .ref (g.2.2 + v0)), (1, .ref (g.2.2 + v1))]) : W p l e (jRm 2 0 0) s m args below meth c H locs 0 0 (MQ below (jQv g SS) args s 0 0 (jA0 g)) (F0 m 0 ls []) := by
  obtain ⟨hx, hb, hml, -, hts, hown, hK, -, hstr⟩ := id E
  unfold f_X9_setTo at hf
  refine lv_aload_n hx hb dX9_setTo_0 rfl (lv_at hl 0 rfl) ?_
  refine lv_aload_n hx hb dX9_setTo_1 rfl (lv_at hl 1 rfl) ?_
  obtain ⟨hq1, hf⟩ := jif hf
  refine gt_52 E hM hq1 lk_1_49 dX9_setTo_2 ?_
  obtain ⟨hq2, hf⟩ := jif hf
  refine pt_52 E hM hq2 lk_1_49 dX9_setTo_5 (fun H locs S3 eS3 hM => ?_)
  have hf := jlet_y eS3 hf
  refine lv_aload_n hx hb dX9_setTo_8 rfl (lv_at hl 0 rfl) ?_
  refine lv_aload_n hx hb dX9_setTo_9 rfl (lv_at hl 1 rfl) ?_
  refine gt_53 E hM hq1 lk_1_54 dX9_setTo_10 ?_
  refine pt_53 E hM hq2 lk_1_54 dX9_setTo_13 (fun H locs S4 eS4 hM => ?_)
  have hf := jlet_y eS4 hf
  refine lv_aload_n hx hb dX9_setTo_16 rfl (lv_at hl 1 rfl) ?_
  refine gt_54 E hM hq1 lk_1_57 dX9_setTo_17 ?_
  obtain ⟨r5, hr6, hf⟩ := jb hf
  rw [hr6]
  show W p l e _ s m args below meth c H locs 0 0 _ (F0 m _ ls (.ref (g.2.2 + r5) :: _))
  refine lv_iconst (v := (0 : Int32)) hx hb dX9_setTo_20 (by decide) ?_
  refine lv_aload_n hx hb dX9_setTo_21 rfl (lv_at hl 0 rfl) ?_
  refine gt_54 E hM hq2 lk_1_57 dX9_setTo_22 ?_
  obtain ⟨r7, hr8, hf⟩ := jb hf
  rw [hr8]
  show W p l e _ s m args below meth c H locs 0 0 _ (F0 m _ ls (.ref (g.2.2 + r7) :: _))
  refine lv_iconst (v := (0 : Int32)) hx hb dX9_setTo_25 (by decide) ?_
  refine lv_bipush (v := (12 : Int32)) hx hb dX9_setTo_26 (by decide) ?_
  obtain ⟨hq9, hf⟩ := jif hf
  obtain ⟨hq10, hf⟩ := jif hf
  obtain ⟨hc11, hf⟩ := jif hf
  refine jcopy E hM hl.1 hq9 hq10 hc11 lk_3_217 (Nat.le_of_ble_eq_true rfl) (Nat.le_of_ble_eq_true rfl) dX9_setTo_28 (fun H locs S12 eS12 hM => ?_)
  have hf := jlet_y eS12 hf
  exact jvret (jrv hf) E hM dX9_setTo_31
set_option maxRecDepth 100000 in
theorem C_X9_setTo {l : Launch} {g : jG} {a0 : Nat} {a1 : Nat} {S : jM} {SS : jM} (hf : f_X9_setTo a0 a1 S = some SS) : jMet l g yX9_setTo cX9_setTo 2 none 2 0 0 [.ref (g.2.2 + a0), .ref (g.2.2 + a1)] S (jQv g SS) := by
  refine jof (by decide +kernel) (Nat.le_of_ble_eq_true rfl) ?_
  intro p e s m below meth c E hM ls hl
  have hl : lv_has ls 2 [(0, .ref (g.2.2 + a0)),(1, .ref (g.2.2 + a1))] := hl
  exact B_X9_setTo_0 E hf hM hl
-- PensionHouse$Fact.isKnown(II)Z  mode R
noncomputable def f_X2_isKnown_21 (v0 : Nat) (v1 : Int32) (v2 : Int32) (t0 : Int32) (S : jM) : Option Int32 := if jK v0 = 2 then if v2 < (jI S 21 v0) then some (0 : Int32) else if t0 = 0 then if v1 < (jI S 19 v0) then some (0 : Int32) else if (jI S 20 v0) < v1 then some (0 : Int32) else some (1 : Int32) else some (0 : Int32) else none
noncomputable def f_X2_isKnown_20 (v0 : Nat) (v1 : Int32) (v2 : Int32) (S : jM) : Option Int32 := f_X2_isKnown_21 v0 v1 v2 (0 : Int32) S
noncomputable def f_X2_isKnown (v0 : Nat) (v1 : Int32) (v2 : Int32) (S : jM) : Option Int32 := if jK v0 = 2 then if (jI S 22 v0) = (-1 : Int32) then f_X2_isKnown_20 v0 v1 v2 S else if v2 < (jI S 22 v0) then f_X2_isKnown_20 v0 v1 v2 S else f_X2_isKnown_21 v0 v1 v2 (1 : Int32) S else none
set_option maxRecDepth 100000 in
set_option maxHeartbeats 4000000 in
theorem B_X2_isKnown_21 {p : Program} {l : Launch} {e : Env} {s : State} {m : MethodId} {args : Array Value} {below : List Frame} {meth : Method} {c : Code} {g : jG} {rr : Int32} {S : jM} {v0 : Nat} {v1 : Int32} {v2 : Int32} {t0 : Int32} (E : jEnv p s m args meth c cX2_isKnown "PensionHouse$Fact" (some .boolean) 4 g)  {H : Heap} {locs : List Loc} {ls : Array Slot} (hf : f_X2_isKnown_21 v0 v1 v2 t0 S = some rr) (hM : jAt g S s H locs) (hl : lv_has ls 4 [(0, .ref (g.2.2 + v0)), (1, .int v1), (2, .int v2)]) : W p l e (jRm 1 0 0) s m args below meth c H locs 0 0 (MQ below (jQi g rr S) args s 0 0 (jA0 g)) (F0 m 21 ls [.int t0]) := by
  obtain ⟨hx, hb, hml, -, hts, hown, hK, -, hstr⟩ := id E
  unfold f_X2_isKnown_21 at hf
  refine lv_istore_n (lv' := [(3, .int t0), (0, .ref (g.2.2 + v0)), (1, .int v1), (2, .int v2)]) hx hb dX2_isKnown_21 rfl hl (by decide) rfl (fun ls hl => ?_)
  refine lv_aload_n hx hb dX2_isKnown_22 rfl (lv_at hl 1 rfl) ?_
  obtain ⟨hq1, hf⟩ := jif hf
  refine gt_21 E hM hq1 lk_1_80 dX2_isKnown_23 ?_
  refine lv_iload_n hx hb dX2_isKnown_26 rfl (lv_at hl 3 rfl) ?_
  refine lv_icmp_gt (tgt := 54) hx hb dX2_isKnown_27 (by decide) (fun c2 => ?_) (fun c2 => ?_)
  · have hf := jt c2 hf
    refine lv_iconst (v := (0 : Int32)) hx hb dX2_isKnown_54 (by decide) ?_
    exact jiretz (jr1 hf) E hM (by decide) dX2_isKnown_55
  · have hf := jf c2 hf
    refine lv_iload_n hx hb dX2_isKnown_30 rfl (lv_at hl 0 rfl) ?_
    refine lv_if_ne (tgt := 54) hx hb dX2_isKnown_31 (by decide) (fun c3 => ?_) (fun c3 => ?_)
    · have hf := jf c3 hf
      refine lv_iconst (v := (0 : Int32)) hx hb dX2_isKnown_54 (by decide) ?_
      exact jiretz (jr1 hf) E hM (by decide) dX2_isKnown_55
    · have hf := jt c3 hf
      refine lv_aload_n hx hb dX2_isKnown_34 rfl (lv_at hl 1 rfl) ?_
      refine gt_19 E hM hq1 lk_1_76 dX2_isKnown_35 ?_
      refine lv_iload_n hx hb dX2_isKnown_38 rfl (lv_at hl 2 rfl) ?_
      refine lv_icmp_gt (tgt := 54) hx hb dX2_isKnown_39 (by decide) (fun c4 => ?_) (fun c4 => ?_)
      · have hf := jt c4 hf
        refine lv_iconst (v := (0 : Int32)) hx hb dX2_isKnown_54 (by decide) ?_
        exact jiretz (jr1 hf) E hM (by decide) dX2_isKnown_55
      · have hf := jf c4 hf
        refine lv_iload_n hx hb dX2_isKnown_42 rfl (lv_at hl 2 rfl) ?_
        refine lv_aload_n hx hb dX2_isKnown_43 rfl (lv_at hl 1 rfl) ?_
        refine gt_20 E hM hq1 lk_1_78 dX2_isKnown_44 ?_
        refine lv_icmp_gt (tgt := 54) hx hb dX2_isKnown_47 (by decide) (fun c5 => ?_) (fun c5 => ?_)
        · have hf := jt c5 hf
          refine lv_iconst (v := (0 : Int32)) hx hb dX2_isKnown_54 (by decide) ?_
          exact jiretz (jr1 hf) E hM (by decide) dX2_isKnown_55
        · have hf := jf c5 hf
          refine lv_iconst (v := (1 : Int32)) hx hb dX2_isKnown_50 (by decide) ?_
          refine lv_goto (tgt := 55) hx hb dX2_isKnown_51 (by decide) ?_
          exact jiretz (jr1 hf) E hM (by decide) dX2_isKnown_55
set_option maxRecDepth 100000 in
set_option maxHeartbeats 4000000 in
theorem B_X2_isKnown_20 {p : Program} {l : Launch} {e : Env} {s : State} {m : MethodId} {args : Array Value} {below : List Frame} {meth : Method} {c : Code} {g : jG} {rr : Int32} {S : jM} {v0 : Nat} {v1 : Int32} {v2 : Int32} (E : jEnv p s m args meth c cX2_isKnown "PensionHouse$Fact" (some .boolean) 4 g)  {H : Heap} {locs : List Loc} {ls : Array Slot} (hf : f_X2_isKnown_20 v0 v1 v2 S = some rr) (hM : jAt g S s H locs) (hl : lv_has ls 4 [(0, .ref (g.2.2 + v0)), (1, .int v1), (2, .int v2)]) : W p l e (jRm 1 0 0) s m args below meth c H locs 0 0 (MQ below (jQi g rr S) args s 0 0 (jA0 g)) (F0 m 20 ls []) := by
  obtain ⟨hx, hb, hml, -, hts, hown, hK, -, hstr⟩ := id E
  unfold f_X2_isKnown_20 at hf
  refine lv_iconst (v := (0 : Int32)) hx hb dX2_isKnown_20 (by decide) ?_
  exact B_X2_isKnown_21 E  hf hM (lv_sub hl [0, 1, 2] rfl)
set_option maxRecDepth 100000 in
set_option maxHeartbeats 4000000 in
theorem B_X2_isKnown_0 {p : Program} {l : Launch} {e : Env} {s : State} {m : MethodId} {args : Array Value} {below : List Frame} {meth : Method} {c : Code} {g : jG} {rr : Int32} {S : jM} {v0 : Nat} {v1 : Int32} {v2 : Int32} (E : jEnv p s m args meth c cX2_isKnown "PensionHouse$Fact" (some .boolean) 4 g)  {H : Heap} {locs : List Loc} {ls : Array Slot} (hf : f_X2_isKnown v0 v1 v2 S = some rr) (hM : jAt g S s H locs) (hl : lv_has ls 4 [(0, .ref (g.2.2 + v0)), (1, .int v1), (2, .int v2)]) : W p l e (jRm 1 0 0) s m args below meth c H locs 0 0 (MQ below (jQi g rr S) args s 0 0 (jA0 g)) (F0 m 0 ls []) := by
  obtain ⟨hx, hb, hml, -, hts, hown, hK, -, hstr⟩ := id E
  unfold f_X2_isKnown at hf
  refine lv_aload_n hx hb dX2_isKnown_0 rfl (lv_at hl 0 rfl) ?_
  obtain ⟨hq6, hf⟩ := jif hf
  refine gt_22 E hM hq6 lk_1_82 dX2_isKnown_1 ?_
  refine lv_iconst (v := (-1 : Int32)) hx hb dX2_isKnown_4 (by decide) ?_
  refine lv_icmp_eq (tgt := 20) hx hb dX2_isKnown_5 (by decide) (fun c7 => ?_) (fun c7 => ?_)
  · have hf := jt c7 hf
    exact B_X2_isKnown_20 E  hf hM (lv_sub hl [0, 1, 2] rfl)
  · have hf := jf c7 hf
    refine lv_aload_n hx hb dX2_isKnown_8 rfl (lv_at hl 0 rfl) ?_
    refine gt_22 E hM hq6 lk_1_82 dX2_isKnown_9 ?_
    refine lv_iload_n hx hb dX2_isKnown_12 rfl (lv_at hl 2 rfl) ?_
    refine lv_icmp_gt (tgt := 20) hx hb dX2_isKnown_13 (by decide) (fun c8 => ?_) (fun c8 => ?_)
    · have hf := jt c8 hf
      exact B_X2_isKnown_20 E  hf hM (lv_sub hl [0, 1, 2] rfl)
    · have hf := jf c8 hf
      refine lv_iconst (v := (1 : Int32)) hx hb dX2_isKnown_16 (by decide) ?_
      refine lv_goto (tgt := 21) hx hb dX2_isKnown_17 (by decide) ?_
      exact B_X2_isKnown_21 E  hf hM (lv_sub hl [0, 1, 2] rfl)
set_option maxRecDepth 100000 in
theorem C_X2_isKnown {l : Launch} {g : jG} {a0 : Nat} {a1 : Int32} {a2 : Int32} {S : jM} {rr : Int32} (hf : f_X2_isKnown a0 a1 a2 S = some rr) : jMet l g yX2_isKnown cX2_isKnown 4 (some .boolean) 1 0 0 [.ref (g.2.2 + a0), .int a1, .int a2] S (jQi g rr S) := by
  refine jof (by decide +kernel) (Nat.le_of_ble_eq_true rfl) ?_
  intro p e s m below meth c E hM ls hl
  have hl : lv_has ls 4 [(0, .ref (g.2.2 + a0)),(1, .int a1),(2, .int a2)] := hl
  exact B_X2_isKnown_0 E hf hM hl
-- PensionHouse$Register.latest(IJII)I  mode R
noncomputable def f_X6_latest_56 (k8 : Nat → Int32 → Int64 → Int32 → Int32 → Int32 → jM → Option Int32) (v0 : Nat) (v1 : Int32) (v2 : Int64) (v4 : Int32) (v5 : Int32) (v6 : Int32) (S : jM) : Option Int32 := jlet (v6 + (-1 : Int32)) (fun x1 => k8 v0 v1 v2 v4 v5 x1 S)
noncomputable def f_X6_latest_8 : Nat → Nat → Int32 → Int64 → Int32 → Int32 → Int32 → jM → Option Int32
  | 0, _, _, _, _, _, _, _ => none
  | n + 1, v0, v1, v2, v4, v5, v6, S => if v6 < 0 then some (-1 : Int32) else if jK v0 = 4 then (jR S 35 v0).bind (fun r4 => if jA r4 17 v6 = true then (jAR S r4 (v6).toNatClampNeg).bind (fun r7 => if jK r7 = 2 then if (jI S 17 r7) = v1 then if (jL S 18 r7) = v2 then (f_X2_isKnown r7 v4 v5 S).bind (fun x12 => if x12 = 0 then f_X6_latest_56 (f_X6_latest_8 n) v0 v1 v2 v4 v5 v6 S else some v6) else f_X6_latest_56 (f_X6_latest_8 n) v0 v1 v2 v4 v5 v6 S else f_X6_latest_56 (f_X6_latest_8 n) v0 v1 v2 v4 v5 v6 S else none) else none) else none
noncomputable def f_X6_latest (v0 : Nat) (v1 : Int32) (v2 : Int64) (v4 : Int32) (v5 : Int32) (S : jM) : Option Int32 := if jK v0 = 4 then jlet ((jI S 34 v0) - (1 : Int32)) (fun x16 => f_X6_latest_8 1100000 v0 v1 v2 v4 v5 x16 S) else none
set_option maxRecDepth 100000 in
set_option maxHeartbeats 4000000 in
theorem B_X6_latest_56 {p : Program} {l : Launch} {e : Env} {s : State} {m : MethodId} {args : Array Value} {below : List Frame} {meth : Method} {c : Code} {g : jG} {rr : Int32} {S : jM} {v0 : Nat} {v1 : Int32} {v2 : Int64} {v4 : Int32} {v5 : Int32} {v6 : Int32} {k8 : Nat → Int32 → Int64 → Int32 → Int32 → Int32 → jM → Option Int32} (E : jEnv p s m args meth c cX6_latest "PensionHouse$Register" (some .int) 8 g) (hk8 : ∀ (v0 : Nat) (v1 : Int32) (v2 : Int64) (v4 : Int32) (v5 : Int32) (v6 : Int32) (H : Heap) (locs : List Loc) (ls : Array Slot), k8 v0 v1 v2 v4 v5 v6 S = some rr → jAt g S s H locs → lv_has ls 8 [(0, .ref (g.2.2 + v0)), (1, .int v1), (2, .long v2), (4, .int v4), (5, .int v5), (6, .int v6)] → W p l e (jRm 2 0 0) s m args below meth c H locs 0 0 (MQ below (jQi g rr S) args s 0 0 (jA0 g)) (F0 m 8 ls [])) {H : Heap} {locs : List Loc} {ls : Array Slot} (hf : f_X6_latest_56 k8 v0 v1 v2 v4 v5 v6 S = some rr) (hM : jAt g S s H locs) (hl : lv_has ls 8 [(0, .ref (g.2.2 + v0)), (1, .int v1), (2, .long v2), (4, .int v4), (5, .int v5), (6, .int v6)]) : W p l e (jRm 2 0 0) s m args below meth c H locs 0 0 (MQ below (jQi g rr S) args s 0 0 (jA0 g)) (F0 m 56 ls []) := by
  obtain ⟨hx, hb, hml, -, hts, hown, hK, -, hstr⟩ := id E
  unfold f_X6_latest_56 at hf
  obtain ⟨x1, ex1⟩ : ∃ z, z = v6 + (-1 : Int32) := ⟨_, rfl⟩
  have hf := jlet_y ex1 hf
  refine lv_iinc (v := x1) (lv' := [(6, .int x1), (0, .ref (g.2.2 + v0)), (1, .int v1), (2, .long v2), (4, .int v4), (5, .int v5)]) hx hb dX6_latest_56 hl (k := 5) rfl (by rw [ex1]; rfl) (by decide) rfl (fun ls hl => ?_)
  refine lv_goto (tgt := 8) hx hb dX6_latest_59 (by decide) ?_
  exact hk8 v0 v1 v2 v4 v5 x1 _ _ _ hf hM (lv_sub hl [1, 2, 3, 4, 5, 0] rfl)
set_option maxRecDepth 100000 in
set_option maxHeartbeats 4000000 in
theorem B_X6_latest_8 {p : Program} {l : Launch} {e : Env} {s : State} {m : MethodId} {args : Array Value} {below : List Frame} {meth : Method} {c : Code} {g : jG} {rr : Int32} {S : jM} (E : jEnv p s m args meth c cX6_latest "PensionHouse$Register" (some .int) 8 g)  : ∀ (n : Nat) (v0 : Nat) (v1 : Int32) (v2 : Int64) (v4 : Int32) (v5 : Int32) (v6 : Int32) (H : Heap) (locs : List Loc) (ls : Array Slot), f_X6_latest_8 n v0 v1 v2 v4 v5 v6 S = some rr → jAt g S s H locs → lv_has ls 8 [(0, .ref (g.2.2 + v0)), (1, .int v1), (2, .long v2), (4, .int v4), (5, .int v5), (6, .int v6)] → W p l e (jRm 2 0 0) s m args below meth c H locs 0 0 (MQ below (jQi g rr S) args s 0 0 (jA0 g)) (F0 m 8 ls []) := by
  obtain ⟨hx, hb, hml, -, hts, hown, hK, -, hstr⟩ := id E
  intro n
  induction n with
  | zero => intro v0 v1 v2 v4 v5 v6 H locs ls hf hM hl; rw [f_X6_latest_8] at hf; cases hf
  | succ n ih =>
    intro v0 v1 v2 v4 v5 v6 H locs ls hf hM hl
    rw [f_X6_latest_8] at hf
    refine lv_iload hx hb dX6_latest_8 (lv_at hl 5 rfl) ?_
    refine lv_if_lt (tgt := 62) hx hb dX6_latest_10 (by decide) (fun c2 => ?_) (fun c2 => ?_)
    · have hf := jt c2 hf
      refine lv_iconst (v := (-1 : Int32)) hx hb dX6_latest_62 (by decide) ?_
      exact jireti (jr1 hf) E hM dX6_latest_63
    · have hf := jf c2 hf
      refine lv_aload_n hx hb dX6_latest_13 rfl (lv_at hl 0 rfl) ?_
      obtain ⟨hq3, hf⟩ := jif hf
      refine gt_35 E hM hq3 lk_1_109 dX6_latest_14 ?_
      obtain ⟨r4, hr5, hf⟩ := jb hf
      rw [hr5]
      show W p l e _ s m args below meth c H locs 0 0 _ (F0 m _ ls (.ref (g.2.2 + r4) :: _))
      refine lv_iload hx hb dX6_latest_17 (lv_at hl 5 rfl) ?_
      obtain ⟨ha6, hf⟩ := jif hf
      refine jaald (k := 17) (t0 := 6) E hM ha6 (by decide) (by decide) rfl dX6_latest_19 ?_
      obtain ⟨r7, hr8, hf⟩ := jb hf
      rw [hr8]
      show W p l e _ s m args below meth c H locs 0 0 _ (F0 m _ ls (.ref (g.2.2 + r7) :: _))
      refine lv_astore (lv' := [(7, .ref (g.2.2 + r7)), (0, .ref (g.2.2 + v0)), (1, .int v1), (2, .long v2), (4, .int v4), (5, .int v5), (6, .int v6)]) hx hb dX6_latest_20 hl (by decide) rfl (fun ls hl => ?_)
      refine lv_aload hx hb dX6_latest_22 (lv_at hl 0 rfl) ?_
      obtain ⟨hq9, hf⟩ := jif hf
      refine gt_17 E hM hq9 lk_1_72 dX6_latest_24 ?_
      refine lv_iload_n hx hb dX6_latest_27 rfl (lv_at hl 2 rfl) ?_
      refine lv_icmp_ne (tgt := 56) hx hb dX6_latest_28 (by decide) (fun c10 => ?_) (fun c10 => ?_)
      · have hf := jf c10 hf
        exact B_X6_latest_56 E ih hf hM (lv_sub hl [1, 2, 3, 4, 5, 6] rfl)
      · have hf := jt c10 hf
        refine lv_aload hx hb dX6_latest_31 (lv_at hl 0 rfl) ?_
        refine gt_18 E hM hq9 lk_1_74 dX6_latest_33 ?_
        refine lv_lload_n hx hb dX6_latest_36 rfl (lv_at hl 3 rfl) ?_
        refine jl_ne (tgt := 56) hx hb dX6_latest_37 dX6_latest_38 (by decide) (fun c11 => ?_) (fun c11 => ?_)
        · have hf := jf c11 hf
          exact B_X6_latest_56 E ih hf hM (lv_sub hl [1, 2, 3, 4, 5, 6] rfl)
        · have hf := jt c11 hf
          refine lv_aload hx hb dX6_latest_41 (lv_at hl 0 rfl) ?_
          refine lv_iload hx hb dX6_latest_43 (lv_at hl 4 rfl) ?_
          refine lv_iload hx hb dX6_latest_45 (lv_at hl 5 rfl) ?_
          obtain ⟨x12, hc13, hf⟩ := jb hf
          refine jbackI hM (jrunV E hM ci_X2_isKnown (C_X2_isKnown hc13) lk_3_236 hq9 (by decide) rfl hl.1 rfl rfl (Nat.le_of_ble_eq_true rfl) ⟨Nat.le_of_ble_eq_true rfl, Nat.le_of_ble_eq_true rfl⟩ ⟨Nat.le_refl _, Nat.le_refl _⟩ dX6_latest_47) (fun H locs hM => ?_)
          refine lv_if_eq (tgt := 56) hx hb dX6_latest_50 (by decide) (fun c14 => ?_) (fun c14 => ?_)
          · have hf := jt c14 hf
            exact B_X6_latest_56 E ih hf hM (lv_sub hl [1, 2, 3, 4, 5, 6] rfl)
          · have hf := jf c14 hf
            refine lv_iload hx hb dX6_latest_53 (lv_at hl 6 rfl) ?_
            exact jireti (jr1 hf) E hM dX6_latest_55
set_option maxRecDepth 100000 in
set_option maxHeartbeats 4000000 in
theorem B_X6_latest_0 {p : Program} {l : Launch} {e : Env} {s : State} {m : MethodId} {args : Array Value} {below : List Frame} {meth : Method} {c : Code} {g : jG} {rr : Int32} {S : jM} {v0 : Nat} {v1 : Int32} {v2 : Int64} {v4 : Int32} {v5 : Int32} (E : jEnv p s m args meth c cX6_latest "PensionHouse$Register" (some .int) 8 g)  {H : Heap} {locs : List Loc} {ls : Array Slot} (hf : f_X6_latest v0 v1 v2 v4 v5 S = some rr) (hM : jAt g S s H locs) (hl : lv_has ls 8 [(0, .ref (g.2.2 + v0)), (1, .int v1), (2, .long v2), (4, .int v4), (5, .int v5)]) : W p l e (jRm 2 0 0) s m args below meth c H locs 0 0 (MQ below (jQi g rr S) args s 0 0 (jA0 g)) (F0 m 0 ls []) := by
  obtain ⟨hx, hb, hml, -, hts, hown, hK, -, hstr⟩ := id E
  unfold f_X6_latest at hf
  refine lv_aload_n hx hb dX6_latest_0 rfl (lv_at hl 0 rfl) ?_
  obtain ⟨hq15, hf⟩ := jif hf
  refine gt_34 E hM hq15 lk_1_107 dX6_latest_1 ?_
  refine lv_iconst (v := (1 : Int32)) hx hb dX6_latest_4 (by decide) ?_
  refine lv_isub hx hb dX6_latest_5 ?_
  refine lv_topi (fun x16 ex16 => ?_)
  have hf := jlet_y ex16 hf
  refine lv_istore (lv' := [(6, .int x16), (0, .ref (g.2.2 + v0)), (1, .int v1), (2, .long v2), (4, .int v4), (5, .int v5)]) hx hb dX6_latest_6 hl (by decide) rfl (fun ls hl => ?_)
  exact B_X6_latest_8 E  1100000 v0 v1 v2 v4 v5 x16 _ _ _ hf hM (lv_sub hl [1, 2, 3, 4, 5, 0] rfl)
set_option maxRecDepth 100000 in
theorem C_X6_latest {l : Launch} {g : jG} {a0 : Nat} {a1 : Int32} {a2 : Int64} {a4 : Int32} {a5 : Int32} {S : jM} {rr : Int32} (hf : f_X6_latest a0 a1 a2 a4 a5 S = some rr) : jMet l g yX6_latest cX6_latest 8 (some .int) 2 0 0 [.ref (g.2.2 + a0), .int a1, .long a2, .int a4, .int a5] S (jQi g rr S) := by
  refine jof (by decide +kernel) (Nat.le_of_ble_eq_true rfl) ?_
  intro p e s m below meth c E hM ls hl
  have hl : lv_has ls 8 [(0, .ref (g.2.2 + a0)),(1, .int a1),(2, .long a2),(4, .int a4),(5, .int a5)] := hl
  exact B_X6_latest_0 E hf hM hl
-- PensionHouse$Value.isRow()Z  mode R
noncomputable def f_X9_isRow (v0 : Nat) (S : jM) : Option Int32 := if jK v0 = 7 then if (jI S 52 v0) < (2 : Int32) then some (0 : Int32) else if (7 : Int32) < (jI S 52 v0) then some (0 : Int32) else some (1 : Int32) else none
set_option maxRecDepth 100000 in
set_option maxHeartbeats 4000000 in
theorem B_X9_isRow_0 {p : Program} {l : Launch} {e : Env} {s : State} {m : MethodId} {args : Array Value} {below : List Frame} {meth : Method} {c : Code} {g : jG} {rr : Int32} {S : jM} {v0 : Nat} (E : jEnv p s m args meth c cX9_isRow "PensionHouse$Value" (some .boolean) 1 g)  {H : Heap} {locs : List Loc} {ls : Array Slot} (hf : f_X9_isRow v0 S = some rr) (hM : jAt g S s H locs) (hl : lv_has ls 1 [(0, .ref (g.2.2 + v0))]) : W p l e (jRm 1 0 0) s m args below meth c H locs 0 0 (MQ below (jQi g rr S) args s 0 0 (jA0 g)) (F0 m 0 ls []) := by
  obtain ⟨hx, hb, hml, -, hts, hown, hK, -, hstr⟩ := id E
  unfold f_X9_isRow at hf
  refine lv_aload_n hx hb dX9_isRow_0 rfl (lv_at hl 0 rfl) ?_
  obtain ⟨hq1, hf⟩ := jif hf
  refine gt_52 E hM hq1 lk_1_49 dX9_isRow_1 ?_
  refine lv_iconst (v := (2 : Int32)) hx hb dX9_isRow_4 (by decide) ?_
  refine lv_icmp_lt (tgt := 21) hx hb dX9_isRow_5 (by decide) (fun c2 => ?_) (fun c2 => ?_)
  · have hf := jt c2 hf
    refine lv_iconst (v := (0 : Int32)) hx hb dX9_isRow_21 (by decide) ?_
    exact jiretz (jr1 hf) E hM (by decide) dX9_isRow_22
  · have hf := jf c2 hf
    refine lv_aload_n hx hb dX9_isRow_8 rfl (lv_at hl 0 rfl) ?_
    refine gt_52 E hM hq1 lk_1_49 dX9_isRow_9 ?_
    refine lv_bipush (v := (7 : Int32)) hx hb dX9_isRow_12 (by decide) ?_
    refine lv_icmp_gt (tgt := 21) hx hb dX9_isRow_14 (by decide) (fun c3 => ?_) (fun c3 => ?_)
    · have hf := jt c3 hf
      refine lv_iconst (v := (0 : Int32)) hx hb dX9_isRow_21 (by decide) ?_
      exact jiretz (jr1 hf) E hM (by decide) dX9_isRow_22
    · have hf := jf c3 hf
      refine lv_iconst (v := (1 : Int32)) hx hb dX9_isRow_17 (by decide) ?_
      refine lv_goto (tgt := 22) hx hb dX9_isRow_18 (by decide) ?_
      exact jiretz (jr1 hf) E hM (by decide) dX9_isRow_22
set_option maxRecDepth 100000 in
theorem C_X9_isRow {l : Launch} {g : jG} {a0 : Nat} {S : jM} {rr : Int32} (hf : f_X9_isRow a0 S = some rr) : jMet l g yX9_isRow cX9_isRow 1 (some .boolean) 1 0 0 [.ref (g.2.2 + a0)] S (jQi g rr S) := by
  refine jof (by decide +kernel) (Nat.le_of_ble_eq_true rfl) ?_
  intro p e s m below meth c E hM ls hl
  have hl : lv_has ls 1 [(0, .ref (g.2.2 + a0))] := hl
  exact B_X9_isRow_0 E hf hM hl
-- PensionHouse$Value.hasItem(J)Z  mode R
noncomputable def f_X9_hasItem (v0 : Nat) (v1 : Int64) (S : jM) : Option Int32 := if v1 < (0 : Int64) then some (0 : Int32) else if jK v0 = 7 then if ((jI S 53 v0).toInt64) ≤ v1 then some (0 : Int32) else if (12 : Int64) ≤ v1 then some (0 : Int32) else some (1 : Int32) else none
set_option maxRecDepth 100000 in
set_option maxHeartbeats 4000000 in
theorem B_X9_hasItem_0 {p : Program} {l : Launch} {e : Env} {s : State} {m : MethodId} {args : Array Value} {below : List Frame} {meth : Method} {c : Code} {g : jG} {rr : Int32} {S : jM} {v0 : Nat} {v1 : Int64} (E : jEnv p s m args meth c cX9_hasItem "PensionHouse$Value" (some .boolean) 3 g)  {H : Heap} {locs : List Loc} {ls : Array Slot} (hf : f_X9_hasItem v0 v1 S = some rr) (hM : jAt g S s H locs) (hl : lv_has ls 3 [(0, .ref (g.2.2 + v0)), (1, .long v1)]) : W p l e (jRm 1 0 0) s m args below meth c H locs 0 0 (MQ below (jQi g rr S) args s 0 0 (jA0 g)) (F0 m 0 ls []) := by
  obtain ⟨hx, hb, hml, -, hts, hown, hK, -, hstr⟩ := id E
  unfold f_X9_hasItem at hf
  refine lv_lload_n hx hb dX9_hasItem_0 rfl (lv_at hl 1 rfl) ?_
  refine lv_lconst (v := (0 : Int64)) hx hb dX9_hasItem_1 (by decide) ?_
  refine jl_lt (tgt := 28) hx hb dX9_hasItem_2 dX9_hasItem_3 (by decide) (fun c1 => ?_) (fun c1 => ?_)
  · have hf := jt c1 hf
    refine lv_iconst (v := (0 : Int32)) hx hb dX9_hasItem_28 (by decide) ?_
    exact jiretz (jr1 hf) E hM (by decide) dX9_hasItem_29
  · have hf := jf c1 hf
    refine lv_lload_n hx hb dX9_hasItem_6 rfl (lv_at hl 1 rfl) ?_
    refine lv_aload_n hx hb dX9_hasItem_7 rfl (lv_at hl 0 rfl) ?_
    obtain ⟨hq2, hf⟩ := jif hf
    refine gt_53 E hM hq2 lk_1_54 dX9_hasItem_8 ?_
    refine lv_i2l hx hb dX9_hasItem_11 rfl ?_
    refine jl_ge (tgt := 28) hx hb dX9_hasItem_12 dX9_hasItem_13 (by decide) (fun c3 => ?_) (fun c3 => ?_)
    · have hf := jt c3 hf
      refine lv_iconst (v := (0 : Int32)) hx hb dX9_hasItem_28 (by decide) ?_
      exact jiretz (jr1 hf) E hM (by decide) dX9_hasItem_29
    · have hf := jf c3 hf
      refine lv_lload_n hx hb dX9_hasItem_16 rfl (lv_at hl 1 rfl) ?_
      refine lv_ldc2 (v := (12 : Int64)) hx hb hown (hts _ lk_3_15) dX9_hasItem_17 ?_
      refine jl_ge (tgt := 28) hx hb dX9_hasItem_20 dX9_hasItem_21 (by decide) (fun c4 => ?_) (fun c4 => ?_)
      · have hf := jt c4 hf
        refine lv_iconst (v := (0 : Int32)) hx hb dX9_hasItem_28 (by decide) ?_
        exact jiretz (jr1 hf) E hM (by decide) dX9_hasItem_29
      · have hf := jf c4 hf
        refine lv_iconst (v := (1 : Int32)) hx hb dX9_hasItem_24 (by decide) ?_
        refine lv_goto (tgt := 29) hx hb dX9_hasItem_25 (by decide) ?_
        exact jiretz (jr1 hf) E hM (by decide) dX9_hasItem_29
set_option maxRecDepth 100000 in
theorem C_X9_hasItem {l : Launch} {g : jG} {a0 : Nat} {a1 : Int64} {S : jM} {rr : Int32} (hf : f_X9_hasItem a0 a1 S = some rr) : jMet l g yX9_hasItem cX9_hasItem 3 (some .boolean) 1 0 0 [.ref (g.2.2 + a0), .long a1] S (jQi g rr S) := by
  refine jof (by decide +kernel) (Nat.le_of_ble_eq_true rfl) ?_
  intro p e s m below meth c E hM ls hl
  have hl : lv_has ls 3 [(0, .ref (g.2.2 + a0)),(1, .long a1)] := hl
  exact B_X9_hasItem_0 E hf hM hl
-- PensionHouse$Value.isKin()Z  mode R
noncomputable def f_X9_isKin (v0 : Nat) (S : jM) : Option Int32 := if jK v0 = 7 then if (jI S 52 v0) < (5 : Int32) then some (0 : Int32) else if (7 : Int32) < (jI S 52 v0) then some (0 : Int32) else some (1 : Int32) else none
set_option maxRecDepth 100000 in
set_option maxHeartbeats 4000000 in
theorem B_X9_isKin_0 {p : Program} {l : Launch} {e : Env} {s : State} {m : MethodId} {args : Array Value} {below : List Frame} {meth : Method} {c : Code} {g : jG} {rr : Int32} {S : jM} {v0 : Nat} (E : jEnv p s m args meth c cX9_isKin "PensionHouse$Value" (some .boolean) 1 g)  {H : Heap} {locs : List Loc} {ls : Array Slot} (hf : f_X9_isKin v0 S = some rr) (hM : jAt g S s H locs) (hl : lv_has ls 1 [(0, .ref (g.2.2 + v0))]) : W p l e (jRm 1 0 0) s m args below meth c H locs 0 0 (MQ below (jQi g rr S) args s 0 0 (jA0 g)) (F0 m 0 ls []) := by
  obtain ⟨hx, hb, hml, -, hts, hown, hK, -, hstr⟩ := id E
  unfold f_X9_isKin at hf
  refine lv_aload_n hx hb dX9_isKin_0 rfl (lv_at hl 0 rfl) ?_
  obtain ⟨hq1, hf⟩ := jif hf
  refine gt_52 E hM hq1 lk_1_49 dX9_isKin_1 ?_
  refine lv_iconst (v := (5 : Int32)) hx hb dX9_isKin_4 (by decide) ?_
  refine lv_icmp_lt (tgt := 21) hx hb dX9_isKin_5 (by decide) (fun c2 => ?_) (fun c2 => ?_)
  · have hf := jt c2 hf
    refine lv_iconst (v := (0 : Int32)) hx hb dX9_isKin_21 (by decide) ?_
    exact jiretz (jr1 hf) E hM (by decide) dX9_isKin_22
  · have hf := jf c2 hf
    refine lv_aload_n hx hb dX9_isKin_8 rfl (lv_at hl 0 rfl) ?_
    refine gt_52 E hM hq1 lk_1_49 dX9_isKin_9 ?_
    refine lv_bipush (v := (7 : Int32)) hx hb dX9_isKin_12 (by decide) ?_
    refine lv_icmp_gt (tgt := 21) hx hb dX9_isKin_14 (by decide) (fun c3 => ?_) (fun c3 => ?_)
    · have hf := jt c3 hf
      refine lv_iconst (v := (0 : Int32)) hx hb dX9_isKin_21 (by decide) ?_
      exact jiretz (jr1 hf) E hM (by decide) dX9_isKin_22
    · have hf := jf c3 hf
      refine lv_iconst (v := (1 : Int32)) hx hb dX9_isKin_17 (by decide) ?_
      refine lv_goto (tgt := 22) hx hb dX9_isKin_18 (by decide) ?_
      exact jiretz (jr1 hf) E hM (by decide) dX9_isKin_22
set_option maxRecDepth 100000 in
theorem C_X9_isKin {l : Launch} {g : jG} {a0 : Nat} {S : jM} {rr : Int32} (hf : f_X9_isKin a0 S = some rr) : jMet l g yX9_isKin cX9_isKin 1 (some .boolean) 1 0 0 [.ref (g.2.2 + a0)] S (jQi g rr S) := by
  refine jof (by decide +kernel) (Nat.le_of_ble_eq_true rfl) ?_
  intro p e s m below meth c E hM ls hl
  have hl : lv_has ls 1 [(0, .ref (g.2.2 + a0))] := hl
  exact B_X9_isKin_0 E hf hM hl
-- PensionHouse$Value.setBits(IJ)V  mode M
noncomputable def f_X9_setBits_66 (v0 : Nat) (v1 : Int32) (v2 : Int64) (S : jM) : Option jM := if jK v0 = 7 then (jR S 54 v0).bind (fun r2 => if jA r2 14 v1 = true then jlet (jrL S r2 (vp_updL (jAL S r2) (v1).toNatClampNeg v2)) (fun S5 => some S5) else none) else none
noncomputable def f_X9_setBits_47 (v0 : Nat) (v1 : Int32) (v2 : Int64) (S : jM) : Option jM := if (f_X5_isNot v2) = 0 then f_X9_setBits_66 v0 v1 v2 S else if jK v0 = 7 then (jR S 54 v0).bind (fun r8 => if jA r8 14 v1 = true then jlet (jrL S r8 (vp_updL (jAL S r8) (v1).toNatClampNeg (9221120237041090560 : Int64))) (fun S11 => some S11) else none) else none
noncomputable def f_X9_setBits (v0 : Nat) (v1 : Int32) (v2 : Int64) (S : jM) : Option jM := if v1 < 0 then some S else if v1 < (12 : Int32) then if jK v0 = 7 then if (jI S 52 v0) = (2 : Int32) then (jR S 54 v0).bind (fun r18 => if jA r18 14 v1 = true then jlet (jrL S r18 (vp_updL (jAL S r18) (v1).toNatClampNeg ((v2.toInt32).toInt64))) (fun S21 => some S21) else none) else if (jI S 52 v0) = (1 : Int32) then f_X9_setBits_47 v0 v1 v2 S else if (jI S 52 v0) = (4 : Int32) then f_X9_setBits_47 v0 v1 v2 S else f_X9_setBits_66 v0 v1 v2 S else none else some S
set_option maxRecDepth 100000 in
set_option maxHeartbeats 4000000 in
theorem B_X9_setBits_66 {p : Program} {l : Launch} {e : Env} {s : State} {m : MethodId} {args : Array Value} {below : List Frame} {meth : Method} {c : Code} {g : jG} {SS : jM} {v0 : Nat} {v1 : Int32} {v2 : Int64} {S : jM} (E : jEnv p s m args meth c cX9_setBits "PensionHouse$Value" none 4 g)  {H : Heap} {locs : List Loc} {ls : Array Slot} (hf : f_X9_setBits_66 v0 v1 v2 S = some SS) (hM : jAt g S s H locs) (hl : lv_has ls 4 [(0, .ref (g.2.2 + v0)), (1, .int v1), (2, .long v2)]) : W p l e (jRm 2 0 0) s m args below meth c H locs 0 0 (MQ below (jQv g SS) args s 0 0 (jA0 g)) (F0 m 66 ls []) := by
  obtain ⟨hx, hb, hml, -, hts, hown, hK, -, hstr⟩ := id E
  unfold f_X9_setBits_66 at hf
  refine lv_aload_n hx hb dX9_setBits_66 rfl (lv_at hl 0 rfl) ?_
  obtain ⟨hq1, hf⟩ := jif hf
  refine gt_54 E hM hq1 lk_1_57 dX9_setBits_67 ?_
  obtain ⟨r2, hr3, hf⟩ := jb hf
  rw [hr3]
  show W p l e _ s m args below meth c H locs 0 0 _ (F0 m _ ls (.ref (g.2.2 + r2) :: _))
  refine lv_iload_n hx hb dX9_setBits_70 rfl (lv_at hl 1 rfl) ?_
  refine lv_lload_n hx hb dX9_setBits_71 rfl (lv_at hl 2 rfl) ?_
  obtain ⟨ha4, hf⟩ := jif hf
  refine jlast E hM ha4 dX9_setBits_72 (fun H locs S5 eS5 hM => ?_)
  have hf := jlet_y eS5 hf
  exact jvret (jrv hf) E hM dX9_setBits_73
set_option maxRecDepth 100000 in
set_option maxHeartbeats 4000000 in
theorem B_X9_setBits_47 {p : Program} {l : Launch} {e : Env} {s : State} {m : MethodId} {args : Array Value} {below : List Frame} {meth : Method} {c : Code} {g : jG} {SS : jM} {v0 : Nat} {v1 : Int32} {v2 : Int64} {S : jM} (E : jEnv p s m args meth c cX9_setBits "PensionHouse$Value" none 4 g)  {H : Heap} {locs : List Loc} {ls : Array Slot} (hf : f_X9_setBits_47 v0 v1 v2 S = some SS) (hM : jAt g S s H locs) (hl : lv_has ls 4 [(0, .ref (g.2.2 + v0)), (1, .int v1), (2, .long v2)]) : W p l e (jRm 2 0 0) s m args below meth c H locs 0 0 (MQ below (jQv g SS) args s 0 0 (jA0 g)) (F0 m 47 ls []) := by
  obtain ⟨hx, hb, hml, -, hts, hown, hK, -, hstr⟩ := id E
  unfold f_X9_setBits_47 at hf
  refine lv_lload_n hx hb dX9_setBits_47 rfl (lv_at hl 2 rfl) ?_
  refine jbackI hM (jrunS E hM ci_X5_isNot (C_X5_isNot rfl) lk_3_20 hl.1 rfl rfl (Nat.le_of_ble_eq_true rfl) ⟨Nat.le_of_ble_eq_true rfl, Nat.le_of_ble_eq_true rfl⟩ ⟨Nat.le_refl _, Nat.le_refl _⟩ dX9_setBits_48) (fun H locs hM => ?_)
  refine lv_if_eq (tgt := 66) hx hb dX9_setBits_51 (by decide) (fun c6 => ?_) (fun c6 => ?_)
  · have hf := jt c6 hf
    exact B_X9_setBits_66 E  hf hM (lv_sub hl [0, 1, 2] rfl)
  · have hf := jf c6 hf
    refine lv_aload_n hx hb dX9_setBits_54 rfl (lv_at hl 0 rfl) ?_
    obtain ⟨hq7, hf⟩ := jif hf
    refine gt_54 E hM hq7 lk_1_57 dX9_setBits_55 ?_
    obtain ⟨r8, hr9, hf⟩ := jb hf
    rw [hr9]
    show W p l e _ s m args below meth c H locs 0 0 _ (F0 m _ ls (.ref (g.2.2 + r8) :: _))
    refine lv_iload_n hx hb dX9_setBits_58 rfl (lv_at hl 1 rfl) ?_
    refine lv_ldc2 (v := (9221120237041090560 : Int64)) hx hb hown (hts _ lk_3_25) dX9_setBits_59 ?_
    obtain ⟨ha10, hf⟩ := jif hf
    refine jlast E hM ha10 dX9_setBits_62 (fun H locs S11 eS11 hM => ?_)
    have hf := jlet_y eS11 hf
    refine lv_goto (tgt := 73) hx hb dX9_setBits_63 (by decide) ?_
    exact jvret (jrv hf) E hM dX9_setBits_73
set_option maxRecDepth 100000 in
set_option maxHeartbeats 4000000 in
theorem B_X9_setBits_0 {p : Program} {l : Launch} {e : Env} {s : State} {m : MethodId} {args : Array Value} {below : List Frame} {meth : Method} {c : Code} {g : jG} {SS : jM} {v0 : Nat} {v1 : Int32} {v2 : Int64} {S : jM} (E : jEnv p s m args meth c cX9_setBits "PensionHouse$Value" none 4 g)  {H : Heap} {locs : List Loc} {ls : Array Slot} (hf : f_X9_setBits v0 v1 v2 S = some SS) (hM : jAt g S s H locs) (hl : lv_has ls 4 [(0, .ref (g.2.2 + v0)), (1, .int v1), (2, .long v2)]) : W p l e (jRm 2 0 0) s m args below meth c H locs 0 0 (MQ below (jQv g SS) args s 0 0 (jA0 g)) (F0 m 0 ls []) := by
  obtain ⟨hx, hb, hml, -, hts, hown, hK, -, hstr⟩ := id E
  unfold f_X9_setBits at hf
  refine lv_iload_n hx hb dX9_setBits_0 rfl (lv_at hl 1 rfl) ?_
  refine lv_if_lt (tgt := 10) hx hb dX9_setBits_1 (by decide) (fun c12 => ?_) (fun c12 => ?_)
  · have hf := jt c12 hf
    exact jvret (jrv hf) E hM dX9_setBits_10
  · have hf := jf c12 hf
    refine lv_iload_n hx hb dX9_setBits_4 rfl (lv_at hl 1 rfl) ?_
    refine lv_bipush (v := (12 : Int32)) hx hb dX9_setBits_5 (by decide) ?_
    refine lv_icmp_lt (tgt := 11) hx hb dX9_setBits_7 (by decide) (fun c13 => ?_) (fun c13 => ?_)
    · have hf := jt c13 hf
      refine lv_aload_n hx hb dX9_setBits_11 rfl (lv_at hl 0 rfl) ?_
      obtain ⟨hq14, hf⟩ := jif hf
      refine gt_52 E hM hq14 lk_1_49 dX9_setBits_12 ?_
      refine lv_iconst (v := (2 : Int32)) hx hb dX9_setBits_15 (by decide) ?_
      refine lv_icmp_ne (tgt := 31) hx hb dX9_setBits_16 (by decide) (fun c15 => ?_) (fun c15 => ?_)
      · have hf := jf c15 hf
        refine lv_aload_n hx hb dX9_setBits_31 rfl (lv_at hl 0 rfl) ?_
        refine gt_52 E hM hq14 lk_1_49 dX9_setBits_32 ?_
        refine lv_iconst (v := (1 : Int32)) hx hb dX9_setBits_35 (by decide) ?_
        refine lv_icmp_eq (tgt := 47) hx hb dX9_setBits_36 (by decide) (fun c16 => ?_) (fun c16 => ?_)
        · have hf := jt c16 hf
          exact B_X9_setBits_47 E  hf hM (lv_sub hl [0, 1, 2] rfl)
        · have hf := jf c16 hf
          refine lv_aload_n hx hb dX9_setBits_39 rfl (lv_at hl 0 rfl) ?_
          refine gt_52 E hM hq14 lk_1_49 dX9_setBits_40 ?_
          refine lv_iconst (v := (4 : Int32)) hx hb dX9_setBits_43 (by decide) ?_
          refine lv_icmp_ne (tgt := 66) hx hb dX9_setBits_44 (by decide) (fun c17 => ?_) (fun c17 => ?_)
          · have hf := jf c17 hf
            exact B_X9_setBits_66 E  hf hM (lv_sub hl [0, 1, 2] rfl)
          · have hf := jt c17 hf
            exact B_X9_setBits_47 E  hf hM (lv_sub hl [0, 1, 2] rfl)
      · have hf := jt c15 hf
        refine lv_aload_n hx hb dX9_setBits_19 rfl (lv_at hl 0 rfl) ?_
        refine gt_54 E hM hq14 lk_1_57 dX9_setBits_20 ?_
        obtain ⟨r18, hr19, hf⟩ := jb hf
        rw [hr19]
        show W p l e _ s m args below meth c H locs 0 0 _ (F0 m _ ls (.ref (g.2.2 + r18) :: _))
        refine lv_iload_n hx hb dX9_setBits_23 rfl (lv_at hl 1 rfl) ?_
        refine lv_lload_n hx hb dX9_setBits_24 rfl (lv_at hl 2 rfl) ?_
        refine lv_l2i hx hb dX9_setBits_25 rfl ?_
        refine lv_i2l hx hb dX9_setBits_26 rfl ?_
        obtain ⟨ha20, hf⟩ := jif hf
        refine jlast E hM ha20 dX9_setBits_27 (fun H locs S21 eS21 hM => ?_)
        have hf := jlet_y eS21 hf
        refine lv_goto (tgt := 73) hx hb dX9_setBits_28 (by decide) ?_
        exact jvret (jrv hf) E hM dX9_setBits_73
    · have hf := jf c13 hf
      exact jvret (jrv hf) E hM dX9_setBits_10
set_option maxRecDepth 100000 in
theorem C_X9_setBits {l : Launch} {g : jG} {a0 : Nat} {a1 : Int32} {a2 : Int64} {S : jM} {SS : jM} (hf : f_X9_setBits a0 a1 a2 S = some SS) : jMet l g yX9_setBits cX9_setBits 4 none 2 0 0 [.ref (g.2.2 + a0), .int a1, .long a2] S (jQv g SS) := by
  refine jof (by decide +kernel) (Nat.le_of_ble_eq_true rfl) ?_
  intro p e s m below meth c E hM ls hl
  have hl : lv_has ls 4 [(0, .ref (g.2.2 + a0)),(1, .int a1),(2, .long a2)] := hl
  exact B_X9_setBits_0 E hf hM hl
-- PensionHouse$Register.hasPerson(J)Z  mode R
noncomputable def f_X6_hasPerson (v0 : Nat) (v1 : Int64) (S : jM) : Option Int32 := if v1 < (0 : Int64) then some (0 : Int32) else if jK v0 = 4 then if ((jI S 31 v0).toInt64) ≤ v1 then some (0 : Int32) else some (1 : Int32) else none
set_option maxRecDepth 100000 in
set_option maxHeartbeats 4000000 in
theorem B_X6_hasPerson_0 {p : Program} {l : Launch} {e : Env} {s : State} {m : MethodId} {args : Array Value} {below : List Frame} {meth : Method} {c : Code} {g : jG} {rr : Int32} {S : jM} {v0 : Nat} {v1 : Int64} (E : jEnv p s m args meth c cX6_hasPerson "PensionHouse$Register" (some .boolean) 3 g)  {H : Heap} {locs : List Loc} {ls : Array Slot} (hf : f_X6_hasPerson v0 v1 S = some rr) (hM : jAt g S s H locs) (hl : lv_has ls 3 [(0, .ref (g.2.2 + v0)), (1, .long v1)]) : W p l e (jRm 1 0 0) s m args below meth c H locs 0 0 (MQ below (jQi g rr S) args s 0 0 (jA0 g)) (F0 m 0 ls []) := by
  obtain ⟨hx, hb, hml, -, hts, hown, hK, -, hstr⟩ := id E
  unfold f_X6_hasPerson at hf
  refine lv_lload_n hx hb dX6_hasPerson_0 rfl (lv_at hl 1 rfl) ?_
  refine lv_lconst (v := (0 : Int64)) hx hb dX6_hasPerson_1 (by decide) ?_
  refine jl_lt (tgt := 20) hx hb dX6_hasPerson_2 dX6_hasPerson_3 (by decide) (fun c1 => ?_) (fun c1 => ?_)
  · have hf := jt c1 hf
    refine lv_iconst (v := (0 : Int32)) hx hb dX6_hasPerson_20 (by decide) ?_
    exact jiretz (jr1 hf) E hM (by decide) dX6_hasPerson_21
  · have hf := jf c1 hf
    refine lv_lload_n hx hb dX6_hasPerson_6 rfl (lv_at hl 1 rfl) ?_
    refine lv_aload_n hx hb dX6_hasPerson_7 rfl (lv_at hl 0 rfl) ?_
    obtain ⟨hq2, hf⟩ := jif hf
    refine gt_31 E hM hq2 lk_1_102 dX6_hasPerson_8 ?_
    refine lv_i2l hx hb dX6_hasPerson_11 rfl ?_
    refine jl_ge (tgt := 20) hx hb dX6_hasPerson_12 dX6_hasPerson_13 (by decide) (fun c3 => ?_) (fun c3 => ?_)
    · have hf := jt c3 hf
      refine lv_iconst (v := (0 : Int32)) hx hb dX6_hasPerson_20 (by decide) ?_
      exact jiretz (jr1 hf) E hM (by decide) dX6_hasPerson_21
    · have hf := jf c3 hf
      refine lv_iconst (v := (1 : Int32)) hx hb dX6_hasPerson_16 (by decide) ?_
      refine lv_goto (tgt := 21) hx hb dX6_hasPerson_17 (by decide) ?_
      exact jiretz (jr1 hf) E hM (by decide) dX6_hasPerson_21
set_option maxRecDepth 100000 in
theorem C_X6_hasPerson {l : Launch} {g : jG} {a0 : Nat} {a1 : Int64} {S : jM} {rr : Int32} (hf : f_X6_hasPerson a0 a1 S = some rr) : jMet l g yX6_hasPerson cX6_hasPerson 3 (some .boolean) 1 0 0 [.ref (g.2.2 + a0), .long a1] S (jQi g rr S) := by
  refine jof (by decide +kernel) (Nat.le_of_ble_eq_true rfl) ?_
  intro p e s m below meth c E hM ls hl
  have hl : lv_has ls 3 [(0, .ref (g.2.2 + a0)),(1, .long a1)] := hl
  exact B_X6_hasPerson_0 E hf hM hl
-- PensionHouse$Value.setRow(II)V  mode M
noncomputable def f_X9_setRow_26 (t0 : Nat) (t1 : Int64) (S : jM) : Option jM := (f_J7_fill_d0a16 t0 t1 S).bind (fun S1 => some S1)
noncomputable def f_X9_setRow (v0 : Nat) (v1 : Int32) (v2 : Int32) (S : jM) : Option jM := if jK v0 = 7 then jlet (jsI S 52 v0 v1) (fun S4 => jlet (jsI S4 53 v0 v2) (fun S5 => (jR S5 54 v0).bind (fun r6 => if v1 < (5 : Int32) then f_X9_setRow_26 r6 (0 : Int64) S5 else f_X9_setRow_26 r6 (-1 : Int64) S5))) else none
set_option maxRecDepth 100000 in
set_option maxHeartbeats 4000000 in
theorem B_X9_setRow_26 {p : Program} {l : Launch} {e : Env} {s : State} {m : MethodId} {args : Array Value} {below : List Frame} {meth : Method} {c : Code} {g : jG} {SS : jM} {t0 : Nat} {t1 : Int64} {S : jM} (E : jEnv p s m args meth c cX9_setRow "PensionHouse$Value" none 3 g)  {H : Heap} {locs : List Loc} {ls : Array Slot} (hf : f_X9_setRow_26 t0 t1 S = some SS) (hM : jAt g S s H locs) (hl : lv_has ls 3 []) : W p l e (jRm 2 0 0) s m args below meth c H locs 0 0 (MQ below (jQv g SS) args s 0 0 (jA0 g)) (F0 m 26 ls [.long t1, .ref (g.2.2 + t0)]) := by
  obtain ⟨hx, hb, hml, -, hts, hown, hK, -, hstr⟩ := id E
  unfold f_X9_setRow_26 at hf
  obtain ⟨S1, hc2, hf⟩ := jb hf
  refine jbackV hM (jrunS E hM ci_J7_fill_d0a16 (C_J7_fill_d0a16 hc2) lk_2_232 hl.1 rfl rfl (Nat.le_of_ble_eq_true rfl) ⟨Nat.le_of_ble_eq_true rfl, Nat.le_of_ble_eq_true rfl⟩ ⟨Nat.le_refl _, Nat.le_refl _⟩ dX9_setRow_26) (fun H locs hM => ?_)
  exact jvret (jrv hf) E hM dX9_setRow_29
set_option maxRecDepth 100000 in
set_option maxHeartbeats 4000000 in
theorem B_X9_setRow_0 {p : Program} {l : Launch} {e : Env} {s : State} {m : MethodId} {args : Array Value} {below : List Frame} {meth : Method} {c : Code} {g : jG} {SS : jM} {v0 : Nat} {v1 : Int32} {v2 : Int32} {S : jM} (E : jEnv p s m args meth c cX9_setRow "PensionHouse$Value" none 3 g)  {H : Heap} {locs : List Loc} {ls : Array Slot} (hf : f_X9_setRow v0 v1 v2 S = some SS) (hM : jAt g S s H locs) (hl : lv_has ls 3 [(0, .ref (g.2.2 + v0)), (1, .int v1), (2, .int v2)]) : W p l e (jRm 2 0 0) s m args below meth c H locs 0 0 (MQ below (jQv g SS) args s 0 0 (jA0 g)) (F0 m 0 ls []) := by
  obtain ⟨hx, hb, hml, -, hts, hown, hK, -, hstr⟩ := id E
  unfold f_X9_setRow at hf
  refine lv_aload_n hx hb dX9_setRow_0 rfl (lv_at hl 0 rfl) ?_
  refine lv_iload_n hx hb dX9_setRow_1 rfl (lv_at hl 1 rfl) ?_
  obtain ⟨hq3, hf⟩ := jif hf
  refine pt_52 E hM hq3 lk_1_49 dX9_setRow_2 (fun H locs S4 eS4 hM => ?_)
  have hf := jlet_y eS4 hf
  refine lv_aload_n hx hb dX9_setRow_5 rfl (lv_at hl 0 rfl) ?_
  refine lv_iload_n hx hb dX9_setRow_6 rfl (lv_at hl 2 rfl) ?_
  refine pt_53 E hM hq3 lk_1_54 dX9_setRow_7 (fun H locs S5 eS5 hM => ?_)
  have hf := jlet_y eS5 hf
  refine lv_aload_n hx hb dX9_setRow_10 rfl (lv_at hl 0 rfl) ?_
  refine gt_54 E hM hq3 lk_1_57 dX9_setRow_11 ?_
  obtain ⟨r6, hr7, hf⟩ := jb hf
  rw [hr7]
  show W p l e _ s m args below meth c H locs 0 0 _ (F0 m _ ls (.ref (g.2.2 + r6) :: _))
  refine lv_iload_n hx hb dX9_setRow_14 rfl (lv_at hl 1 rfl) ?_
  refine lv_iconst (v := (5 : Int32)) hx hb dX9_setRow_15 (by decide) ?_
  refine lv_icmp_lt (tgt := 25) hx hb dX9_setRow_16 (by decide) (fun c8 => ?_) (fun c8 => ?_)
  · have hf := jt c8 hf
    refine lv_lconst (v := (0 : Int64)) hx hb dX9_setRow_25 (by decide) ?_
    exact B_X9_setRow_26 E  hf hM (lv_sub hl [] rfl)
  · have hf := jf c8 hf
    refine lv_ldc2 (v := (-1 : Int64)) hx hb hown (hts _ lk_2_231) dX9_setRow_19 ?_
    refine lv_goto (tgt := 26) hx hb dX9_setRow_22 (by decide) ?_
    exact B_X9_setRow_26 E  hf hM (lv_sub hl [] rfl)
set_option maxRecDepth 100000 in
theorem C_X9_setRow {l : Launch} {g : jG} {a0 : Nat} {a1 : Int32} {a2 : Int32} {S : jM} {SS : jM} (hf : f_X9_setRow a0 a1 a2 S = some SS) : jMet l g yX9_setRow cX9_setRow 3 none 2 0 0 [.ref (g.2.2 + a0), .int a1, .int a2] S (jQv g SS) := by
  refine jof (by decide +kernel) (Nat.le_of_ble_eq_true rfl) ?_
  intro p e s m below meth c E hM ls hl
  have hl : lv_has ls 3 [(0, .ref (g.2.2 + a0)),(1, .int a1),(2, .int a2)] := hl
  exact B_X9_setRow_0 E hf hM hl
-- PensionHouse$Value.isRowOfNumbers()Z  mode R
noncomputable def f_X9_isRowOfNumbers (v0 : Nat) (S : jM) : Option Int32 := if jK v0 = 7 then if (jI S 52 v0) < (2 : Int32) then some (0 : Int32) else if (4 : Int32) < (jI S 52 v0) then some (0 : Int32) else some (1 : Int32) else none
set_option maxRecDepth 100000 in
set_option maxHeartbeats 4000000 in
theorem B_X9_isRowOfNumbers_0 {p : Program} {l : Launch} {e : Env} {s : State} {m : MethodId} {args : Array Value} {below : List Frame} {meth : Method} {c : Code} {g : jG} {rr : Int32} {S : jM} {v0 : Nat} (E : jEnv p s m args meth c cX9_isRowOfNumbers "PensionHouse$Value" (some .boolean) 1 g)  {H : Heap} {locs : List Loc} {ls : Array Slot} (hf : f_X9_isRowOfNumbers v0 S = some rr) (hM : jAt g S s H locs) (hl : lv_has ls 1 [(0, .ref (g.2.2 + v0))]) : W p l e (jRm 1 0 0) s m args below meth c H locs 0 0 (MQ below (jQi g rr S) args s 0 0 (jA0 g)) (F0 m 0 ls []) := by
  obtain ⟨hx, hb, hml, -, hts, hown, hK, -, hstr⟩ := id E
  unfold f_X9_isRowOfNumbers at hf
  refine lv_aload_n hx hb dX9_isRowOfNumbers_0 rfl (lv_at hl 0 rfl) ?_
  obtain ⟨hq1, hf⟩ := jif hf
  refine gt_52 E hM hq1 lk_1_49 dX9_isRowOfNumbers_1 ?_
  refine lv_iconst (v := (2 : Int32)) hx hb dX9_isRowOfNumbers_4 (by decide) ?_
  refine lv_icmp_lt (tgt := 20) hx hb dX9_isRowOfNumbers_5 (by decide) (fun c2 => ?_) (fun c2 => ?_)
  · have hf := jt c2 hf
    refine lv_iconst (v := (0 : Int32)) hx hb dX9_isRowOfNumbers_20 (by decide) ?_
    exact jiretz (jr1 hf) E hM (by decide) dX9_isRowOfNumbers_21
  · have hf := jf c2 hf
    refine lv_aload_n hx hb dX9_isRowOfNumbers_8 rfl (lv_at hl 0 rfl) ?_
    refine gt_52 E hM hq1 lk_1_49 dX9_isRowOfNumbers_9 ?_
    refine lv_iconst (v := (4 : Int32)) hx hb dX9_isRowOfNumbers_12 (by decide) ?_
    refine lv_icmp_gt (tgt := 20) hx hb dX9_isRowOfNumbers_13 (by decide) (fun c3 => ?_) (fun c3 => ?_)
    · have hf := jt c3 hf
      refine lv_iconst (v := (0 : Int32)) hx hb dX9_isRowOfNumbers_20 (by decide) ?_
      exact jiretz (jr1 hf) E hM (by decide) dX9_isRowOfNumbers_21
    · have hf := jf c3 hf
      refine lv_iconst (v := (1 : Int32)) hx hb dX9_isRowOfNumbers_16 (by decide) ?_
      refine lv_goto (tgt := 21) hx hb dX9_isRowOfNumbers_17 (by decide) ?_
      exact jiretz (jr1 hf) E hM (by decide) dX9_isRowOfNumbers_21
set_option maxRecDepth 100000 in
theorem C_X9_isRowOfNumbers {l : Launch} {g : jG} {a0 : Nat} {S : jM} {rr : Int32} (hf : f_X9_isRowOfNumbers a0 S = some rr) : jMet l g yX9_isRowOfNumbers cX9_isRowOfNumbers 1 (some .boolean) 1 0 0 [.ref (g.2.2 + a0)] S (jQi g rr S) := by
  refine jof (by decide +kernel) (Nat.le_of_ble_eq_true rfl) ?_
  intro p e s m below meth c E hM ls hl
  have hl : lv_has ls 1 [(0, .ref (g.2.2 + a0))] := hl
  exact B_X9_isRowOfNumbers_0 E hf hM hl
-- PensionHouse$Register.belongs(IJ)Z  mode R
noncomputable def f_X6_belongs_33 (t0 : Int32) (t1 : Int32) (S : jM) : Option Int32 := if t0 = t1 then some (1 : Int32) else some (0 : Int32)
noncomputable def f_X6_belongs (v0 : Nat) (v1 : Int32) (v2 : Int64) (S : jM) : Option Int32 := if v1 = (5 : Int32) then some (1 : Int32) else if jK v0 = 4 then (f_X6_hasPerson v0 v2 S).bind (fun x3 => if x3 = 0 then some (1 : Int32) else (jR S 32 v0).bind (fun r7 => if jA r7 15 (v2.toInt32) = true then if v1 = (6 : Int32) then f_X6_belongs_33 (jAI S r7 (v2.toInt32).toNatClampNeg) (1 : Int32) S else f_X6_belongs_33 (jAI S r7 (v2.toInt32).toNatClampNeg) (0 : Int32) S else none)) else none
set_option maxRecDepth 100000 in
set_option maxHeartbeats 4000000 in
theorem B_X6_belongs_33 {p : Program} {l : Launch} {e : Env} {s : State} {m : MethodId} {args : Array Value} {below : List Frame} {meth : Method} {c : Code} {g : jG} {rr : Int32} {S : jM} {t0 : Int32} {t1 : Int32} (E : jEnv p s m args meth c cX6_belongs "PensionHouse$Register" (some .boolean) 4 g)  {H : Heap} {locs : List Loc} {ls : Array Slot} (hf : f_X6_belongs_33 t0 t1 S = some rr) (hM : jAt g S s H locs) (hl : lv_has ls 4 []) : W p l e (jRm 2 0 0) s m args below meth c H locs 0 0 (MQ below (jQi g rr S) args s 0 0 (jA0 g)) (F0 m 33 ls [.int t1, .int t0]) := by
  obtain ⟨hx, hb, hml, -, hts, hown, hK, -, hstr⟩ := id E
  unfold f_X6_belongs_33 at hf
  refine lv_icmp_ne (tgt := 40) hx hb dX6_belongs_33 (by decide) (fun c1 => ?_) (fun c1 => ?_)
  · have hf := jf c1 hf
    refine lv_iconst (v := (0 : Int32)) hx hb dX6_belongs_40 (by decide) ?_
    exact jiretz (jr1 hf) E hM (by decide) dX6_belongs_41
  · have hf := jt c1 hf
    refine lv_iconst (v := (1 : Int32)) hx hb dX6_belongs_36 (by decide) ?_
    refine lv_goto (tgt := 41) hx hb dX6_belongs_37 (by decide) ?_
    exact jiretz (jr1 hf) E hM (by decide) dX6_belongs_41
set_option maxRecDepth 100000 in
set_option maxHeartbeats 4000000 in
theorem B_X6_belongs_0 {p : Program} {l : Launch} {e : Env} {s : State} {m : MethodId} {args : Array Value} {below : List Frame} {meth : Method} {c : Code} {g : jG} {rr : Int32} {S : jM} {v0 : Nat} {v1 : Int32} {v2 : Int64} (E : jEnv p s m args meth c cX6_belongs "PensionHouse$Register" (some .boolean) 4 g)  {H : Heap} {locs : List Loc} {ls : Array Slot} (hf : f_X6_belongs v0 v1 v2 S = some rr) (hM : jAt g S s H locs) (hl : lv_has ls 4 [(0, .ref (g.2.2 + v0)), (1, .int v1), (2, .long v2)]) : W p l e (jRm 2 0 0) s m args below meth c H locs 0 0 (MQ below (jQi g rr S) args s 0 0 (jA0 g)) (F0 m 0 ls []) := by
  obtain ⟨hx, hb, hml, -, hts, hown, hK, -, hstr⟩ := id E
  unfold f_X6_belongs at hf
  refine lv_iload_n hx hb dX6_belongs_0 rfl (lv_at hl 1 rfl) ?_
  refine lv_iconst (v := (5 : Int32)) hx hb dX6_belongs_1 (by decide) ?_
  refine lv_icmp_eq (tgt := 13) hx hb dX6_belongs_2 (by decide) (fun c2 => ?_) (fun c2 => ?_)
  · have hf := jt c2 hf
    refine lv_iconst (v := (1 : Int32)) hx hb dX6_belongs_13 (by decide) ?_
    exact jiretz (jr1 hf) E hM (by decide) dX6_belongs_14
  · have hf := jf c2 hf
    refine lv_aload_n hx hb dX6_belongs_5 rfl (lv_at hl 0 rfl) ?_
    refine lv_lload_n hx hb dX6_belongs_6 rfl (lv_at hl 2 rfl) ?_
    obtain ⟨hq5, hf⟩ := jif hf
    obtain ⟨x3, hc4, hf⟩ := jb hf
    refine jbackI hM (jrunV E hM ci_X6_hasPerson (C_X6_hasPerson hc4) lk_3_42 hq5 (by decide) rfl hl.1 rfl rfl (Nat.le_of_ble_eq_true rfl) ⟨Nat.le_of_ble_eq_true rfl, Nat.le_of_ble_eq_true rfl⟩ ⟨Nat.le_refl _, Nat.le_refl _⟩ dX6_belongs_7) (fun H locs hM => ?_)
    refine lv_if_ne (tgt := 15) hx hb dX6_belongs_10 (by decide) (fun c6 => ?_) (fun c6 => ?_)
    · have hf := jf c6 hf
      refine lv_aload_n hx hb dX6_belongs_15 rfl (lv_at hl 0 rfl) ?_
      refine gt_32 E hM hq5 lk_1_104 dX6_belongs_16 ?_
      obtain ⟨r7, hr8, hf⟩ := jb hf
      rw [hr8]
      show W p l e _ s m args below meth c H locs 0 0 _ (F0 m _ ls (.ref (g.2.2 + r7) :: _))
      refine lv_lload_n hx hb dX6_belongs_19 rfl (lv_at hl 2 rfl) ?_
      refine lv_l2i hx hb dX6_belongs_20 rfl ?_
      obtain ⟨ha9, hf⟩ := jif hf
      refine jzald E hM ha9 dX6_belongs_21 ?_
      refine lv_iload_n hx hb dX6_belongs_22 rfl (lv_at hl 1 rfl) ?_
      refine lv_bipush (v := (6 : Int32)) hx hb dX6_belongs_23 (by decide) ?_
      refine lv_icmp_ne (tgt := 32) hx hb dX6_belongs_25 (by decide) (fun c10 => ?_) (fun c10 => ?_)
      · have hf := jf c10 hf
        refine lv_iconst (v := (0 : Int32)) hx hb dX6_belongs_32 (by decide) ?_
        exact B_X6_belongs_33 E  hf hM (lv_sub hl [] rfl)
      · have hf := jt c10 hf
        refine lv_iconst (v := (1 : Int32)) hx hb dX6_belongs_28 (by decide) ?_
        refine lv_goto (tgt := 33) hx hb dX6_belongs_29 (by decide) ?_
        exact B_X6_belongs_33 E  hf hM (lv_sub hl [] rfl)
    · have hf := jt c6 hf
      refine lv_iconst (v := (1 : Int32)) hx hb dX6_belongs_13 (by decide) ?_
      exact jiretz (jr1 hf) E hM (by decide) dX6_belongs_14
set_option maxRecDepth 100000 in
theorem C_X6_belongs {l : Launch} {g : jG} {a0 : Nat} {a1 : Int32} {a2 : Int64} {S : jM} {rr : Int32} (hf : f_X6_belongs a0 a1 a2 S = some rr) : jMet l g yX6_belongs cX6_belongs 4 (some .boolean) 2 0 0 [.ref (g.2.2 + a0), .int a1, .long a2] S (jQi g rr S) := by
  refine jof (by decide +kernel) (Nat.le_of_ble_eq_true rfl) ?_
  intro p e s m below meth c E hM ls hl
  have hl : lv_has ls 4 [(0, .ref (g.2.2 + a0)),(1, .int a1),(2, .long a2)] := hl
  exact B_X6_belongs_0 E hf hM hl
-- PensionHouse$Case.isWorked(I)Z  mode R
noncomputable def f_X1_isWorked (v0 : Nat) (v1 : Int32) (S : jM) : Option Int32 := if v1 < 0 then some (0 : Int32) else if jK v0 = 1 then (jR S 12 v0).bind (fun r3 => if jK r3 = 13 then if (Int32.ofNat (jLen r3)) ≤ v1 then some (0 : Int32) else (jR S 12 v0).bind (fun r7 => if jA r7 13 v1 = true then if (jAI S r7 (v1).toNatClampNeg) = (-1 : Int32) then some (0 : Int32) else some (1 : Int32) else none) else none) else none
set_option maxRecDepth 100000 in
set_option maxHeartbeats 4000000 in
theorem B_X1_isWorked_0 {p : Program} {l : Launch} {e : Env} {s : State} {m : MethodId} {args : Array Value} {below : List Frame} {meth : Method} {c : Code} {g : jG} {rr : Int32} {S : jM} {v0 : Nat} {v1 : Int32} (E : jEnv p s m args meth c cX1_isWorked "PensionHouse$Case" (some .boolean) 2 g)  {H : Heap} {locs : List Loc} {ls : Array Slot} (hf : f_X1_isWorked v0 v1 S = some rr) (hM : jAt g S s H locs) (hl : lv_has ls 2 [(0, .ref (g.2.2 + v0)), (1, .int v1)]) : W p l e (jRm 1 0 0) s m args below meth c H locs 0 0 (MQ below (jQi g rr S) args s 0 0 (jA0 g)) (F0 m 0 ls []) := by
  obtain ⟨hx, hb, hml, -, hts, hown, hK, -, hstr⟩ := id E
  unfold f_X1_isWorked at hf
  refine lv_iload_n hx hb dX1_isWorked_0 rfl (lv_at hl 1 rfl) ?_
  refine lv_if_lt (tgt := 27) hx hb dX1_isWorked_1 (by decide) (fun c1 => ?_) (fun c1 => ?_)
  · have hf := jt c1 hf
    refine lv_iconst (v := (0 : Int32)) hx hb dX1_isWorked_27 (by decide) ?_
    exact jiretz (jr1 hf) E hM (by decide) dX1_isWorked_28
  · have hf := jf c1 hf
    refine lv_iload_n hx hb dX1_isWorked_4 rfl (lv_at hl 1 rfl) ?_
    refine lv_aload_n hx hb dX1_isWorked_5 rfl (lv_at hl 0 rfl) ?_
    obtain ⟨hq2, hf⟩ := jif hf
    refine gt_12 E hM hq2 lk_2_74 dX1_isWorked_6 ?_
    obtain ⟨r3, hr4, hf⟩ := jb hf
    rw [hr4]
    show W p l e _ s m args below meth c H locs 0 0 _ (F0 m _ ls (.ref (g.2.2 + r3) :: _))
    obtain ⟨hq5, hf⟩ := jif hf
    refine jalen (t0 := 2) E hM hq5 (by decide) (by decide) rfl dX1_isWorked_9 ?_
    refine lv_icmp_ge (tgt := 27) hx hb dX1_isWorked_10 (by decide) (fun c6 => ?_) (fun c6 => ?_)
    · have hf := jt c6 hf
      refine lv_iconst (v := (0 : Int32)) hx hb dX1_isWorked_27 (by decide) ?_
      exact jiretz (jr1 hf) E hM (by decide) dX1_isWorked_28
    · have hf := jf c6 hf
      refine lv_aload_n hx hb dX1_isWorked_13 rfl (lv_at hl 0 rfl) ?_
      refine gt_12 E hM hq2 lk_2_74 dX1_isWorked_14 ?_
      obtain ⟨r7, hr8, hf⟩ := jb hf
      rw [hr8]
      show W p l e _ s m args below meth c H locs 0 0 _ (F0 m _ ls (.ref (g.2.2 + r7) :: _))
      refine lv_iload_n hx hb dX1_isWorked_17 rfl (lv_at hl 1 rfl) ?_
      obtain ⟨ha9, hf⟩ := jif hf
      refine jiald E hM ha9 dX1_isWorked_18 ?_
      refine lv_iconst (v := (-1 : Int32)) hx hb dX1_isWorked_19 (by decide) ?_
      refine lv_icmp_eq (tgt := 27) hx hb dX1_isWorked_20 (by decide) (fun c10 => ?_) (fun c10 => ?_)
      · have hf := jt c10 hf
        refine lv_iconst (v := (0 : Int32)) hx hb dX1_isWorked_27 (by decide) ?_
        exact jiretz (jr1 hf) E hM (by decide) dX1_isWorked_28
      · have hf := jf c10 hf
        refine lv_iconst (v := (1 : Int32)) hx hb dX1_isWorked_23 (by decide) ?_
        refine lv_goto (tgt := 28) hx hb dX1_isWorked_24 (by decide) ?_
        exact jiretz (jr1 hf) E hM (by decide) dX1_isWorked_28
set_option maxRecDepth 100000 in
theorem C_X1_isWorked {l : Launch} {g : jG} {a0 : Nat} {a1 : Int32} {S : jM} {rr : Int32} (hf : f_X1_isWorked a0 a1 S = some rr) : jMet l g yX1_isWorked cX1_isWorked 2 (some .boolean) 1 0 0 [.ref (g.2.2 + a0), .int a1] S (jQi g rr S) := by
  refine jof (by decide +kernel) (Nat.le_of_ble_eq_true rfl) ?_
  intro p e s m below meth c E hM ls hl
  have hl : lv_has ls 2 [(0, .ref (g.2.2 + a0)),(1, .int a1)] := hl
  exact B_X1_isWorked_0 E hf hM hl
-- PensionHouse$Case.endRule(ILPensionHouse$Value;)V  mode M
noncomputable def f_X1_endRule_71 (v0 : Nat) (v1 : Int32) (S : jM) : Option jM := if jK v0 = 1 then (jR S 15 v0).bind (fun r2 => jlet (jI S 16 v0) (fun x4 => jlet (jsI S 16 v0 (x4 + (1 : Int32))) (fun S5 => if jA r2 13 x4 = true then jlet (jrI S5 r2 (upd (jAI S5 r2) (x4).toNatClampNeg v1)) (fun S7 => some S7) else none))) else none
noncomputable def f_X1_endRule (v0 : Nat) (v1 : Int32) (v2 : Nat) (S : jM) : Option jM := if v1 < 0 then some S else if jK v0 = 1 then (jR S 12 v0).bind (fun r10 => if jK r10 = 13 then if (Int32.ofNat (jLen r10)) ≤ v1 then some S else (jR S 15 v0).bind (fun r14 => if jK r14 = 13 then if (Int32.ofNat (jLen r14)) ≤ (jI S 16 v0) then some S else (f_X1_isWorked v0 v1 S).bind (fun x18 => if x18 = 0 then (jR S 12 v0).bind (fun r21 => if jA r21 13 v1 = true then jlet (jrI S r21 (upd (jAI S r21) (v1).toNatClampNeg (jI S 7 v0))) (fun S24 => (jR S24 13 v0).bind (fun r25 => if jA r25 13 v1 = true then jlet (jrI S24 r25 (upd (jAI S24 r25) (v1).toNatClampNeg (jI S24 8 v0))) (fun S28 => if (jI S28 7 v0) = 0 then (jR S28 14 v0).bind (fun r30 => if jA r30 19 v1 = true then (jAR S28 r30 (v1).toNatClampNeg).bind (fun r33 => if jK r33 = 7 then (f_X9_setTo r33 v2 S28).bind (fun S35 => f_X1_endRule_71 v0 v1 S35) else none) else none) else f_X1_endRule_71 v0 v1 S28) else none)) else none) else some S) else none) else none) else none
set_option maxRecDepth 100000 in
set_option maxHeartbeats 4000000 in
theorem B_X1_endRule_71 {p : Program} {l : Launch} {e : Env} {s : State} {m : MethodId} {args : Array Value} {below : List Frame} {meth : Method} {c : Code} {g : jG} {SS : jM} {v0 : Nat} {v1 : Int32} {S : jM} (E : jEnv p s m args meth c cX1_endRule "PensionHouse$Case" none 3 g)  {H : Heap} {locs : List Loc} {ls : Array Slot} (hf : f_X1_endRule_71 v0 v1 S = some SS) (hM : jAt g S s H locs) (hl : lv_has ls 3 [(0, .ref (g.2.2 + v0)), (1, .int v1)]) : W p l e (jRm 3 0 0) s m args below meth c H locs 0 0 (MQ below (jQv g SS) args s 0 0 (jA0 g)) (F0 m 71 ls []) := by
  obtain ⟨hx, hb, hml, -, hts, hown, hK, -, hstr⟩ := id E
  unfold f_X1_endRule_71 at hf
  refine lv_aload_n hx hb dX1_endRule_71 rfl (lv_at hl 0 rfl) ?_
  obtain ⟨hq1, hf⟩ := jif hf
  refine gt_15 E hM hq1 lk_2_82 dX1_endRule_72 ?_
  obtain ⟨r2, hr3, hf⟩ := jb hf
  rw [hr3]
  show W p l e _ s m args below meth c H locs 0 0 _ (F0 m _ ls (.ref (g.2.2 + r2) :: _))
  refine lv_aload_n hx hb dX1_endRule_75 rfl (lv_at hl 0 rfl) ?_
  refine lv_dup hx hb dX1_endRule_76 rfl ?_
  refine gt_16 E hM hq1 lk_2_84 dX1_endRule_77 ?_
  refine lv_topi (fun x4 ex4 => ?_)
  have hf := jlet_y ex4 hf
  refine lv_dup_x1 hx hb dX1_endRule_80 rfl rfl ?_
  refine lv_iconst (v := (1 : Int32)) hx hb dX1_endRule_81 (by decide) ?_
  refine lv_iadd hx hb dX1_endRule_82 ?_
  refine pt_16 E hM hq1 lk_2_84 dX1_endRule_83 (fun H locs S5 eS5 hM => ?_)
  have hf := jlet_y eS5 hf
  refine lv_iload_n hx hb dX1_endRule_86 rfl (lv_at hl 1 rfl) ?_
  obtain ⟨ha6, hf⟩ := jif hf
  refine jiast E hM ha6 dX1_endRule_87 (fun H locs S7 eS7 hM => ?_)
  have hf := jlet_y eS7 hf
  exact jvret (jrv hf) E hM dX1_endRule_88
set_option maxRecDepth 100000 in
set_option maxHeartbeats 4000000 in
theorem B_X1_endRule_0 {p : Program} {l : Launch} {e : Env} {s : State} {m : MethodId} {args : Array Value} {below : List Frame} {meth : Method} {c : Code} {g : jG} {SS : jM} {v0 : Nat} {v1 : Int32} {v2 : Nat} {S : jM} (E : jEnv p s m args meth c cX1_endRule "PensionHouse$Case" none 3 g)  {H : Heap} {locs : List Loc} {ls : Array Slot} (hf : f_X1_endRule v0 v1 v2 S = some SS) (hM : jAt g S s H locs) (hl : lv_has ls 3 [(0, .ref (g.2.2 + v0)), (1, .int v1), (2, .ref (g.2.2 + v2))]) : W p l e (jRm 3 0 0) s m args below meth c H locs 0 0 (MQ below (jQv g SS) args s 0 0 (jA0 g)) (F0 m 0 ls []) := by
  obtain ⟨hx, hb, hml, -, hts, hown, hK, -, hstr⟩ := id E
  unfold f_X1_endRule at hf
  refine lv_iload_n hx hb dX1_endRule_0 rfl (lv_at hl 1 rfl) ?_
  refine lv_if_lt (tgt := 33) hx hb dX1_endRule_1 (by decide) (fun c8 => ?_) (fun c8 => ?_)
  · have hf := jt c8 hf
    exact jvret (jrv hf) E hM dX1_endRule_33
  · have hf := jf c8 hf
    refine lv_iload_n hx hb dX1_endRule_4 rfl (lv_at hl 1 rfl) ?_
    refine lv_aload_n hx hb dX1_endRule_5 rfl (lv_at hl 0 rfl) ?_
    obtain ⟨hq9, hf⟩ := jif hf
    refine gt_12 E hM hq9 lk_2_74 dX1_endRule_6 ?_
    obtain ⟨r10, hr11, hf⟩ := jb hf
    rw [hr11]
    show W p l e _ s m args below meth c H locs 0 0 _ (F0 m _ ls (.ref (g.2.2 + r10) :: _))
    obtain ⟨hq12, hf⟩ := jif hf
    refine jalen (t0 := 2) E hM hq12 (by decide) (by decide) rfl dX1_endRule_9 ?_
    refine lv_icmp_ge (tgt := 33) hx hb dX1_endRule_10 (by decide) (fun c13 => ?_) (fun c13 => ?_)
    · have hf := jt c13 hf
      exact jvret (jrv hf) E hM dX1_endRule_33
    · have hf := jf c13 hf
      refine lv_aload_n hx hb dX1_endRule_13 rfl (lv_at hl 0 rfl) ?_
      refine gt_16 E hM hq9 lk_2_84 dX1_endRule_14 ?_
      refine lv_aload_n hx hb dX1_endRule_17 rfl (lv_at hl 0 rfl) ?_
      refine gt_15 E hM hq9 lk_2_82 dX1_endRule_18 ?_
      obtain ⟨r14, hr15, hf⟩ := jb hf
      rw [hr15]
      show W p l e _ s m args below meth c H locs 0 0 _ (F0 m _ ls (.ref (g.2.2 + r14) :: _))
      obtain ⟨hq16, hf⟩ := jif hf
      refine jalen (t0 := 2) E hM hq16 (by decide) (by decide) rfl dX1_endRule_21 ?_
      refine lv_icmp_ge (tgt := 33) hx hb dX1_endRule_22 (by decide) (fun c17 => ?_) (fun c17 => ?_)
      · have hf := jt c17 hf
        exact jvret (jrv hf) E hM dX1_endRule_33
      · have hf := jf c17 hf
        refine lv_aload_n hx hb dX1_endRule_25 rfl (lv_at hl 0 rfl) ?_
        refine lv_iload_n hx hb dX1_endRule_26 rfl (lv_at hl 1 rfl) ?_
        obtain ⟨x18, hc19, hf⟩ := jb hf
        refine jbackI hM (jrunV E hM ci_X1_isWorked (C_X1_isWorked hc19) lk_4_210 hq9 (by decide) rfl hl.1 rfl rfl (Nat.le_of_ble_eq_true rfl) ⟨Nat.le_of_ble_eq_true rfl, Nat.le_of_ble_eq_true rfl⟩ ⟨Nat.le_refl _, Nat.le_refl _⟩ dX1_endRule_27) (fun H locs hM => ?_)
        refine lv_if_eq (tgt := 34) hx hb dX1_endRule_30 (by decide) (fun c20 => ?_) (fun c20 => ?_)
        · have hf := jt c20 hf
          refine lv_aload_n hx hb dX1_endRule_34 rfl (lv_at hl 0 rfl) ?_
          refine gt_12 E hM hq9 lk_2_74 dX1_endRule_35 ?_
          obtain ⟨r21, hr22, hf⟩ := jb hf
          rw [hr22]
          show W p l e _ s m args below meth c H locs 0 0 _ (F0 m _ ls (.ref (g.2.2 + r21) :: _))
          refine lv_iload_n hx hb dX1_endRule_38 rfl (lv_at hl 1 rfl) ?_
          refine lv_aload_n hx hb dX1_endRule_39 rfl (lv_at hl 0 rfl) ?_
          refine gt_7 E hM hq9 lk_2_59 dX1_endRule_40 ?_
          obtain ⟨ha23, hf⟩ := jif hf
          refine jiast E hM ha23 dX1_endRule_43 (fun H locs S24 eS24 hM => ?_)
          have hf := jlet_y eS24 hf
          refine lv_aload_n hx hb dX1_endRule_44 rfl (lv_at hl 0 rfl) ?_
          refine gt_13 E hM hq9 lk_2_77 dX1_endRule_45 ?_
          obtain ⟨r25, hr26, hf⟩ := jb hf
          rw [hr26]
          show W p l e _ s m args below meth c H locs 0 0 _ (F0 m _ ls (.ref (g.2.2 + r25) :: _))
          refine lv_iload_n hx hb dX1_endRule_48 rfl (lv_at hl 1 rfl) ?_
          refine lv_aload_n hx hb dX1_endRule_49 rfl (lv_at hl 0 rfl) ?_
          refine gt_8 E hM hq9 lk_2_62 dX1_endRule_50 ?_
          obtain ⟨ha27, hf⟩ := jif hf
          refine jiast E hM ha27 dX1_endRule_53 (fun H locs S28 eS28 hM => ?_)
          have hf := jlet_y eS28 hf
          refine lv_aload_n hx hb dX1_endRule_54 rfl (lv_at hl 0 rfl) ?_
          refine gt_7 E hM hq9 lk_2_59 dX1_endRule_55 ?_
          refine lv_if_ne (tgt := 71) hx hb dX1_endRule_58 (by decide) (fun c29 => ?_) (fun c29 => ?_)
          · have hf := jf c29 hf
            exact B_X1_endRule_71 E  hf hM (lv_sub hl [0, 1] rfl)
          · have hf := jt c29 hf
            refine lv_aload_n hx hb dX1_endRule_61 rfl (lv_at hl 0 rfl) ?_
            refine gt_14 E hM hq9 lk_2_79 dX1_endRule_62 ?_
            obtain ⟨r30, hr31, hf⟩ := jb hf
            rw [hr31]
            show W p l e _ s m args below meth c H locs 0 0 _ (F0 m _ ls (.ref (g.2.2 + r30) :: _))
            refine lv_iload_n hx hb dX1_endRule_65 rfl (lv_at hl 1 rfl) ?_
            obtain ⟨ha32, hf⟩ := jif hf
            refine jaald (k := 19) (t0 := 8) E hM ha32 (by decide) (by decide) rfl dX1_endRule_66 ?_
            obtain ⟨r33, hr34, hf⟩ := jb hf
            rw [hr34]
            show W p l e _ s m args below meth c H locs 0 0 _ (F0 m _ ls (.ref (g.2.2 + r33) :: _))
            refine lv_aload_n hx hb dX1_endRule_67 rfl (lv_at hl 2 rfl) ?_
            obtain ⟨hq37, hf⟩ := jif hf
            obtain ⟨S35, hc36, hf⟩ := jb hf
            refine jbackV hM (jrunV E hM ci_X9_setTo (C_X9_setTo hc36) lk_4_214 hq37 (by decide) rfl hl.1 rfl rfl (Nat.le_of_ble_eq_true rfl) ⟨Nat.le_of_ble_eq_true rfl, Nat.le_of_ble_eq_true rfl⟩ ⟨Nat.le_refl _, Nat.le_refl _⟩ dX1_endRule_68) (fun H locs hM => ?_)
            exact B_X1_endRule_71 E  hf hM (lv_sub hl [0, 1] rfl)
        · have hf := jf c20 hf
          exact jvret (jrv hf) E hM dX1_endRule_33
set_option maxRecDepth 100000 in
theorem C_X1_endRule {l : Launch} {g : jG} {a0 : Nat} {a1 : Int32} {a2 : Nat} {S : jM} {SS : jM} (hf : f_X1_endRule a0 a1 a2 S = some SS) : jMet l g yX1_endRule cX1_endRule 3 none 3 0 0 [.ref (g.2.2 + a0), .int a1, .ref (g.2.2 + a2)] S (jQv g SS) := by
  refine jof (by decide +kernel) (Nat.le_of_ble_eq_true rfl) ?_
  intro p e s m below meth c E hM ls hl
  have hl : lv_has ls 3 [(0, .ref (g.2.2 + a0)),(1, .int a1),(2, .ref (g.2.2 + a2))] := hl
  exact B_X1_endRule_0 E hf hM hl
-- PensionHouse$Case.clear()V  mode M
noncomputable def f_X1_clear (v0 : Nat) (S : jM) : Option jM := if jK v0 = 1 then jlet (jsI S 6 v0 (0 : Int32)) (fun S2 => jlet (jsI S2 7 v0 (0 : Int32)) (fun S3 => jlet (jsI S3 8 v0 (-1 : Int32)) (fun S4 => jlet (jsI S4 9 v0 (0 : Int32)) (fun S5 => jlet (jsI S5 10 v0 (0 : Int32)) (fun S6 => jlet (jsI S6 11 v0 (0 : Int32)) (fun S7 => jlet (jsI S7 16 v0 (0 : Int32)) (fun S8 => (jR S8 12 v0).bind (fun r9 => (f_J7_fill_53178 r9 (-1 : Int32) S8).bind (fun S11 => some S11))))))))) else none
set_option maxRecDepth 100000 in
set_option maxHeartbeats 4000000 in
theorem B_X1_clear_0 {p : Program} {l : Launch} {e : Env} {s : State} {m : MethodId} {args : Array Value} {below : List Frame} {meth : Method} {c : Code} {g : jG} {SS : jM} {v0 : Nat} {S : jM} (E : jEnv p s m args meth c cX1_clear "PensionHouse$Case" none 1 g)  {H : Heap} {locs : List Loc} {ls : Array Slot} (hf : f_X1_clear v0 S = some SS) (hM : jAt g S s H locs) (hl : lv_has ls 1 [(0, .ref (g.2.2 + v0))]) : W p l e (jRm 2 0 0) s m args below meth c H locs 0 0 (MQ below (jQv g SS) args s 0 0 (jA0 g)) (F0 m 0 ls []) := by
  obtain ⟨hx, hb, hml, -, hts, hown, hK, -, hstr⟩ := id E
  unfold f_X1_clear at hf
  refine lv_aload_n hx hb dX1_clear_0 rfl (lv_at hl 0 rfl) ?_
  refine lv_iconst (v := (0 : Int32)) hx hb dX1_clear_1 (by decide) ?_
  obtain ⟨hq1, hf⟩ := jif hf
  refine pt_6 E hM hq1 lk_2_56 dX1_clear_2 (fun H locs S2 eS2 hM => ?_)
  have hf := jlet_y eS2 hf
  refine lv_aload_n hx hb dX1_clear_5 rfl (lv_at hl 0 rfl) ?_
  refine lv_iconst (v := (0 : Int32)) hx hb dX1_clear_6 (by decide) ?_
  refine pt_7 E hM hq1 lk_2_59 dX1_clear_7 (fun H locs S3 eS3 hM => ?_)
  have hf := jlet_y eS3 hf
  refine lv_aload_n hx hb dX1_clear_10 rfl (lv_at hl 0 rfl) ?_
  refine lv_iconst (v := (-1 : Int32)) hx hb dX1_clear_11 (by decide) ?_
  refine pt_8 E hM hq1 lk_2_62 dX1_clear_12 (fun H locs S4 eS4 hM => ?_)
  have hf := jlet_y eS4 hf
  refine lv_aload_n hx hb dX1_clear_15 rfl (lv_at hl 0 rfl) ?_
  refine lv_iconst (v := (0 : Int32)) hx hb dX1_clear_16 (by decide) ?_
  refine pt_9 E hM hq1 lk_2_65 dX1_clear_17 (fun H locs S5 eS5 hM => ?_)
  have hf := jlet_y eS5 hf
  refine lv_aload_n hx hb dX1_clear_20 rfl (lv_at hl 0 rfl) ?_
  refine lv_iconst (v := (0 : Int32)) hx hb dX1_clear_21 (by decide) ?_
  refine pt_10 E hM hq1 lk_2_68 dX1_clear_22 (fun H locs S6 eS6 hM => ?_)
  have hf := jlet_y eS6 hf
  refine lv_aload_n hx hb dX1_clear_25 rfl (lv_at hl 0 rfl) ?_
  refine lv_iconst (v := (0 : Int32)) hx hb dX1_clear_26 (by decide) ?_
  refine pt_11 E hM hq1 lk_2_71 dX1_clear_27 (fun H locs S7 eS7 hM => ?_)
  have hf := jlet_y eS7 hf
  refine lv_aload_n hx hb dX1_clear_30 rfl (lv_at hl 0 rfl) ?_
  refine lv_iconst (v := (0 : Int32)) hx hb dX1_clear_31 (by decide) ?_
  refine pt_16 E hM hq1 lk_2_84 dX1_clear_32 (fun H locs S8 eS8 hM => ?_)
  have hf := jlet_y eS8 hf
  refine lv_aload_n hx hb dX1_clear_35 rfl (lv_at hl 0 rfl) ?_
  refine gt_12 E hM hq1 lk_2_74 dX1_clear_36 ?_
  obtain ⟨r9, hr10, hf⟩ := jb hf
  rw [hr10]
  show W p l e _ s m args below meth c H locs 0 0 _ (F0 m _ ls (.ref (g.2.2 + r9) :: _))
  refine lv_iconst (v := (-1 : Int32)) hx hb dX1_clear_39 (by decide) ?_
  obtain ⟨S11, hc12, hf⟩ := jb hf
  refine jbackV hM (jrunS E hM ci_J7_fill_53178 (C_J7_fill_53178 hc12) lk_4_154 hl.1 rfl rfl (Nat.le_of_ble_eq_true rfl) ⟨Nat.le_of_ble_eq_true rfl, Nat.le_of_ble_eq_true rfl⟩ ⟨Nat.le_refl _, Nat.le_refl _⟩ dX1_clear_40) (fun H locs hM => ?_)
  exact jvret (jrv hf) E hM dX1_clear_43
set_option maxRecDepth 100000 in
theorem C_X1_clear {l : Launch} {g : jG} {a0 : Nat} {S : jM} {SS : jM} (hf : f_X1_clear a0 S = some SS) : jMet l g yX1_clear cX1_clear 1 none 2 0 0 [.ref (g.2.2 + a0)] S (jQv g SS) := by
  refine jof (by decide +kernel) (Nat.le_of_ble_eq_true rfl) ?_
  intro p e s m below meth c E hM ls hl
  have hl : lv_has ls 1 [(0, .ref (g.2.2 + a0))] := hl
  exact B_X1_clear_0 E hf hM hl
-- PensionHouse$Case.cents()I  mode R
noncomputable def f_X1_cents (v0 : Nat) (S : jM) : Option Int32 := if jK v0 = 1 then if (jI S 7 v0) = 0 then (jR S 14 v0).bind (fun r3 => if jA r3 19 (jI S 6 v0) = true then (jAR S r3 (jI S 6 v0).toNatClampNeg).bind (fun r6 => if jK r6 = 7 then if (jI S 52 r6) = 0 then (jR S 14 v0).bind (fun r10 => if jA r10 19 (jI S 6 v0) = true then (jAR S r10 (jI S 6 v0).toNatClampNeg).bind (fun r13 => if jK r13 = 7 then (jR S 54 r13).bind (fun r16 => if jA r16 14 (0 : Int32) = true then some ((if (if (jAL S r16 ((0 : Int32)).toNatClampNeg) < (0 : Int64) then (0 : Int64) else (jAL S r16 ((0 : Int32)).toNatClampNeg)) < (1000000000 : Int64) then (if (jAL S r16 ((0 : Int32)).toNatClampNeg) < (0 : Int64) then (0 : Int64) else (jAL S r16 ((0 : Int32)).toNatClampNeg)) else (1000000000 : Int64)).toInt32) else none) else none) else none) else some (-1 : Int32) else none) else none) else some (-1 : Int32) else none
set_option maxRecDepth 100000 in
set_option maxHeartbeats 4000000 in
theorem B_X1_cents_0 {p : Program} {l : Launch} {e : Env} {s : State} {m : MethodId} {args : Array Value} {below : List Frame} {meth : Method} {c : Code} {g : jG} {rr : Int32} {S : jM} {v0 : Nat} (E : jEnv p s m args meth c cX1_cents "PensionHouse$Case" (some .int) 1 g)  {H : Heap} {locs : List Loc} {ls : Array Slot} (hf : f_X1_cents v0 S = some rr) (hM : jAt g S s H locs) (hl : lv_has ls 1 [(0, .ref (g.2.2 + v0))]) : W p l e (jRm 2 0 0) s m args below meth c H locs 0 0 (MQ below (jQi g rr S) args s 0 0 (jA0 g)) (F0 m 0 ls []) := by
  obtain ⟨hx, hb, hml, -, hts, hown, hK, -, hstr⟩ := id E
  unfold f_X1_cents at hf
  refine lv_aload_n hx hb dX1_cents_0 rfl (lv_at hl 0 rfl) ?_
  obtain ⟨hq1, hf⟩ := jif hf
  refine gt_7 E hM hq1 lk_2_59 dX1_cents_1 ?_
  refine lv_if_ne (tgt := 22) hx hb dX1_cents_4 (by decide) (fun c2 => ?_) (fun c2 => ?_)
  · have hf := jf c2 hf
    refine lv_iconst (v := (-1 : Int32)) hx hb dX1_cents_22 (by decide) ?_
    exact jireti (jr1 hf) E hM dX1_cents_23
  · have hf := jt c2 hf
    refine lv_aload_n hx hb dX1_cents_7 rfl (lv_at hl 0 rfl) ?_
    refine gt_14 E hM hq1 lk_2_79 dX1_cents_8 ?_
    obtain ⟨r3, hr4, hf⟩ := jb hf
    rw [hr4]
    show W p l e _ s m args below meth c H locs 0 0 _ (F0 m _ ls (.ref (g.2.2 + r3) :: _))
    refine lv_aload_n hx hb dX1_cents_11 rfl (lv_at hl 0 rfl) ?_
    refine gt_6 E hM hq1 lk_2_56 dX1_cents_12 ?_
    obtain ⟨ha5, hf⟩ := jif hf
    refine jaald (k := 19) (t0 := 8) E hM ha5 (by decide) (by decide) rfl dX1_cents_15 ?_
    obtain ⟨r6, hr7, hf⟩ := jb hf
    rw [hr7]
    show W p l e _ s m args below meth c H locs 0 0 _ (F0 m _ ls (.ref (g.2.2 + r6) :: _))
    obtain ⟨hq8, hf⟩ := jif hf
    refine gt_52 E hM hq8 lk_1_51 dX1_cents_16 ?_
    refine lv_if_eq (tgt := 24) hx hb dX1_cents_19 (by decide) (fun c9 => ?_) (fun c9 => ?_)
    · have hf := jt c9 hf
      refine lv_ldc2 (v := (1000000000 : Int64)) hx hb hown (hts _ lk_5_172) dX1_cents_24 ?_
      refine lv_lconst (v := (0 : Int64)) hx hb dX1_cents_27 (by decide) ?_
      refine lv_aload_n hx hb dX1_cents_28 rfl (lv_at hl 0 rfl) ?_
      refine gt_14 E hM hq1 lk_2_79 dX1_cents_29 ?_
      obtain ⟨r10, hr11, hf⟩ := jb hf
      rw [hr11]
      show W p l e _ s m args below meth c H locs 0 0 _ (F0 m _ ls (.ref (g.2.2 + r10) :: _))
      refine lv_aload_n hx hb dX1_cents_32 rfl (lv_at hl 0 rfl) ?_
      refine gt_6 E hM hq1 lk_2_56 dX1_cents_33 ?_
      obtain ⟨ha12, hf⟩ := jif hf
      refine jaald (k := 19) (t0 := 8) E hM ha12 (by decide) (by decide) rfl dX1_cents_36 ?_
      obtain ⟨r13, hr14, hf⟩ := jb hf
      rw [hr14]
      show W p l e _ s m args below meth c H locs 0 0 _ (F0 m _ ls (.ref (g.2.2 + r13) :: _))
      obtain ⟨hq15, hf⟩ := jif hf
      refine gt_54 E hM hq15 lk_1_59 dX1_cents_37 ?_
      obtain ⟨r16, hr17, hf⟩ := jb hf
      rw [hr17]
      show W p l e _ s m args below meth c H locs 0 0 _ (F0 m _ ls (.ref (g.2.2 + r16) :: _))
      refine lv_iconst (v := (0 : Int32)) hx hb dX1_cents_40 (by decide) ?_
      obtain ⟨ha18, hf⟩ := jif hf
      refine jlald E hM ha18 dX1_cents_41 ?_
      refine va_mmax_long hx hb (by rw [hml, hl.1]) hown (hts _ lk_5_173) (hts _ lk_5_110) (hts _ lk_1_18) (hts _ lk_5_111) (Nat.le_of_ble_eq_true rfl) (Nat.le_of_ble_eq_true rfl) (Nat.le_refl _) (Nat.le_refl _) dX1_cents_42 ?_
      refine va_mmin_long hx hb (by rw [hml, hl.1]) hown (hts _ lk_5_174) (hts _ lk_5_107) (hts _ lk_1_18) (hts _ lk_5_108) (Nat.le_of_ble_eq_true rfl) (Nat.le_of_ble_eq_true rfl) (Nat.le_refl _) (Nat.le_refl _) dX1_cents_45 ?_
      refine lv_l2i hx hb dX1_cents_48 rfl ?_
      exact jireti (jr1 hf) E hM dX1_cents_49
    · have hf := jf c9 hf
      refine lv_iconst (v := (-1 : Int32)) hx hb dX1_cents_22 (by decide) ?_
      exact jireti (jr1 hf) E hM dX1_cents_23
set_option maxRecDepth 100000 in
theorem C_X1_cents {l : Launch} {g : jG} {a0 : Nat} {S : jM} {rr : Int32} (hf : f_X1_cents a0 S = some rr) : jMet l g yX1_cents cX1_cents 1 (some .int) 2 0 0 [.ref (g.2.2 + a0)] S (jQi g rr S) := by
  refine jof (by decide +kernel) (Nat.le_of_ble_eq_true rfl) ?_
  intro p e s m below meth c E hM ls hl
  have hl : lv_has ls 1 [(0, .ref (g.2.2 + a0))] := hl
  exact B_X1_cents_0 E hf hM hl
-- PensionHouse$Register.addPerson(ZI)I  mode M
noncomputable def f_X6_addPerson (v0 : Nat) (v1 : Int32) (v2 : Int32) (S : jM) : Option (Int32 × jM) := if jK v0 = 4 then if (jI S 31 v0) < (16 : Int32) then (jR S 32 v0).bind (fun r3 => if jA r3 15 (jI S 31 v0) = true then jlet (jrI S r3 (upd (jAI S r3) (jI S 31 v0).toNatClampNeg (vp_nar .boolean v1))) (fun S6 => (jR S6 33 v0).bind (fun r7 => if jA r7 13 (jI S6 31 v0) = true then jlet (jrI S6 r7 (upd (jAI S6 r7) (jI S6 31 v0).toNatClampNeg v2)) (fun S10 => jlet (jI S10 31 v0) (fun x11 => jlet (jsI S10 31 v0 (x11 + (1 : Int32))) (fun S12 => some (x11, S12)))) else none)) else none) else some ((-5 : Int32), S) else none
set_option maxRecDepth 100000 in
set_option maxHeartbeats 4000000 in
theorem B_X6_addPerson_0 {p : Program} {l : Launch} {e : Env} {s : State} {m : MethodId} {args : Array Value} {below : List Frame} {meth : Method} {c : Code} {g : jG} {rr : Int32} {SS : jM} {v0 : Nat} {v1 : Int32} {v2 : Int32} {S : jM} (E : jEnv p s m args meth c cX6_addPerson "PensionHouse$Register" (some .int) 3 g)  {H : Heap} {locs : List Loc} {ls : Array Slot} (hf : f_X6_addPerson v0 v1 v2 S = some (rr, SS)) (hM : jAt g S s H locs) (hl : lv_has ls 3 [(0, .ref (g.2.2 + v0)), (1, .int v1), (2, .int v2)]) : W p l e (jRm 1 0 0) s m args below meth c H locs 0 0 (MQ below (jQi g rr SS) args s 0 0 (jA0 g)) (F0 m 0 ls []) := by
  obtain ⟨hx, hb, hml, -, hts, hown, hK, -, hstr⟩ := id E
  unfold f_X6_addPerson at hf
  refine lv_aload_n hx hb dX6_addPerson_0 rfl (lv_at hl 0 rfl) ?_
  obtain ⟨hq1, hf⟩ := jif hf
  refine gt_31 E hM hq1 lk_1_102 dX6_addPerson_1 ?_
  refine lv_bipush (v := (16 : Int32)) hx hb dX6_addPerson_4 (by decide) ?_
  refine lv_icmp_lt (tgt := 12) hx hb dX6_addPerson_6 (by decide) (fun c2 => ?_) (fun c2 => ?_)
  · have hf := jt c2 hf
    refine lv_aload_n hx hb dX6_addPerson_12 rfl (lv_at hl 0 rfl) ?_
    refine gt_32 E hM hq1 lk_1_104 dX6_addPerson_13 ?_
    obtain ⟨r3, hr4, hf⟩ := jb hf
    rw [hr4]
    show W p l e _ s m args below meth c H locs 0 0 _ (F0 m _ ls (.ref (g.2.2 + r3) :: _))
    refine lv_aload_n hx hb dX6_addPerson_16 rfl (lv_at hl 0 rfl) ?_
    refine gt_31 E hM hq1 lk_1_102 dX6_addPerson_17 ?_
    refine lv_iload_n hx hb dX6_addPerson_20 rfl (lv_at hl 1 rfl) ?_
    obtain ⟨ha5, hf⟩ := jif hf
    refine jzast E hM ha5 dX6_addPerson_21 (fun H locs S6 eS6 hM => ?_)
    have hf := jlet_y eS6 hf
    refine lv_aload_n hx hb dX6_addPerson_22 rfl (lv_at hl 0 rfl) ?_
    refine gt_33 E hM hq1 lk_1_105 dX6_addPerson_23 ?_
    obtain ⟨r7, hr8, hf⟩ := jb hf
    rw [hr8]
    show W p l e _ s m args below meth c H locs 0 0 _ (F0 m _ ls (.ref (g.2.2 + r7) :: _))
    refine lv_aload_n hx hb dX6_addPerson_26 rfl (lv_at hl 0 rfl) ?_
    refine gt_31 E hM hq1 lk_1_102 dX6_addPerson_27 ?_
    refine lv_iload_n hx hb dX6_addPerson_30 rfl (lv_at hl 2 rfl) ?_
    obtain ⟨ha9, hf⟩ := jif hf
    refine jiast E hM ha9 dX6_addPerson_31 (fun H locs S10 eS10 hM => ?_)
    have hf := jlet_y eS10 hf
    refine lv_aload_n hx hb dX6_addPerson_32 rfl (lv_at hl 0 rfl) ?_
    refine lv_dup hx hb dX6_addPerson_33 rfl ?_
    refine gt_31 E hM hq1 lk_1_102 dX6_addPerson_34 ?_
    refine lv_topi (fun x11 ex11 => ?_)
    have hf := jlet_y ex11 hf
    refine lv_dup_x1 hx hb dX6_addPerson_37 rfl rfl ?_
    refine lv_iconst (v := (1 : Int32)) hx hb dX6_addPerson_38 (by decide) ?_
    refine lv_iadd hx hb dX6_addPerson_39 ?_
    refine pt_31 E hM hq1 lk_1_102 dX6_addPerson_40 (fun H locs S12 eS12 hM => ?_)
    have hf := jlet_y eS12 hf
    exact jireti (jr2 hf) E hM dX6_addPerson_43
  · have hf := jf c2 hf
    refine lv_bipush (v := (-5 : Int32)) hx hb dX6_addPerson_9 (by decide) ?_
    exact jireti (jr2 hf) E hM dX6_addPerson_11
set_option maxRecDepth 100000 in
theorem C_X6_addPerson {l : Launch} {g : jG} {a0 : Nat} {a1 : Int32} {a2 : Int32} {S : jM} {rr : Int32} {SS : jM} (hf : f_X6_addPerson a0 a1 a2 S = some (rr, SS)) : jMet l g yX6_addPerson cX6_addPerson 3 (some .int) 1 0 0 [.ref (g.2.2 + a0), .int a1, .int a2] S (jQi g rr SS) := by
  refine jof (by decide +kernel) (Nat.le_of_ble_eq_true rfl) ?_
  intro p e s m below meth c E hM ls hl
  have hl : lv_has ls 3 [(0, .ref (g.2.2 + a0)),(1, .int a1),(2, .int a2)] := hl
  exact B_X6_addPerson_0 E hf hM hl
-- PensionHouse$Value.isLike(LPensionHouse$Value;)Z  mode R
noncomputable def f_X9_isLike_42 : Nat → Nat → Nat → Int32 → Int32 → jM → Option Int32
  | 0, _, _, _, _, _ => none
  | n + 1, v0, v1, v2, v3, S => if v2 ≤ v3 then some (1 : Int32) else if (12 : Int32) ≤ v3 then some (1 : Int32) else if jK v0 = 7 then (jR S 54 v0).bind (fun r4 => if jA r4 14 v3 = true then if jK v1 = 7 then (jR S 54 v1).bind (fun r8 => if jA r8 14 v3 = true then if (jAL S r4 (v3).toNatClampNeg) = (jAL S r8 (v3).toNatClampNeg) then jlet (v3 + (1 : Int32)) (fun x12 => (f_X9_isLike_42 n) v0 v1 v2 x12 S) else some (0 : Int32) else none) else none else none) else none
noncomputable def f_X9_isLike_39 (v0 : Nat) (v1 : Nat) (t0 : Int32) (S : jM) : Option Int32 := f_X9_isLike_42 1100000 v0 v1 t0 (0 : Int32) S
noncomputable def f_X9_isLike (v0 : Nat) (v1 : Nat) (S : jM) : Option Int32 := if jK v0 = 7 then if jK v1 = 7 then if (jI S 52 v0) = (jI S 52 v1) then if (jI S 53 v0) = (jI S 53 v1) then (f_X9_isRow v0 S).bind (fun x17 => if x17 = 0 then f_X9_isLike_39 v0 v1 (1 : Int32) S else f_X9_isLike_39 v0 v1 (jI S 53 v0) S) else some (0 : Int32) else some (0 : Int32) else none else none
set_option maxRecDepth 100000 in
set_option maxHeartbeats 4000000 in
theorem B_X9_isLike_42 {p : Program} {l : Launch} {e : Env} {s : State} {m : MethodId} {args : Array Value} {below : List Frame} {meth : Method} {c : Code} {g : jG} {rr : Int32} {S : jM} (E : jEnv p s m args meth c cX9_isLike "PensionHouse$Value" (some .boolean) 4 g)  : ∀ (n : Nat) (v0 : Nat) (v1 : Nat) (v2 : Int32) (v3 : Int32) (H : Heap) (locs : List Loc) (ls : Array Slot), f_X9_isLike_42 n v0 v1 v2 v3 S = some rr → jAt g S s H locs → lv_has ls 4 [(0, .ref (g.2.2 + v0)), (1, .ref (g.2.2 + v1)), (2, .int v2), (3, .int v3)] → W p l e (jRm 2 0 0) s m args below meth c H locs 0 0 (MQ below (jQi g rr S) args s 0 0 (jA0 g)) (F0 m 42 ls []) := by
  obtain ⟨hx, hb, hml, -, hts, hown, hK, -, hstr⟩ := id E
  intro n
  induction n with
  | zero => intro v0 v1 v2 v3 H locs ls hf hM hl; rw [f_X9_isLike_42] at hf; cases hf
  | succ n ih =>
    intro v0 v1 v2 v3 H locs ls hf hM hl
    rw [f_X9_isLike_42] at hf
    refine lv_iload_n hx hb dX9_isLike_42 rfl (lv_at hl 3 rfl) ?_
    refine lv_iload_n hx hb dX9_isLike_43 rfl (lv_at hl 2 rfl) ?_
    refine lv_icmp_ge (tgt := 77) hx hb dX9_isLike_44 (by decide) (fun c1 => ?_) (fun c1 => ?_)
    · have hf := jt c1 hf
      refine lv_iconst (v := (1 : Int32)) hx hb dX9_isLike_77 (by decide) ?_
      exact jiretz (jr1 hf) E hM (by decide) dX9_isLike_78
    · have hf := jf c1 hf
      refine lv_iload_n hx hb dX9_isLike_47 rfl (lv_at hl 3 rfl) ?_
      refine lv_bipush (v := (12 : Int32)) hx hb dX9_isLike_48 (by decide) ?_
      refine lv_icmp_ge (tgt := 77) hx hb dX9_isLike_50 (by decide) (fun c2 => ?_) (fun c2 => ?_)
      · have hf := jt c2 hf
        refine lv_iconst (v := (1 : Int32)) hx hb dX9_isLike_77 (by decide) ?_
        exact jiretz (jr1 hf) E hM (by decide) dX9_isLike_78
      · have hf := jf c2 hf
        refine lv_aload_n hx hb dX9_isLike_53 rfl (lv_at hl 0 rfl) ?_
        obtain ⟨hq3, hf⟩ := jif hf
        refine gt_54 E hM hq3 lk_1_57 dX9_isLike_54 ?_
        obtain ⟨r4, hr5, hf⟩ := jb hf
        rw [hr5]
        show W p l e _ s m args below meth c H locs 0 0 _ (F0 m _ ls (.ref (g.2.2 + r4) :: _))
        refine lv_iload_n hx hb dX9_isLike_57 rfl (lv_at hl 3 rfl) ?_
        obtain ⟨ha6, hf⟩ := jif hf
        refine jlald E hM ha6 dX9_isLike_58 ?_
        refine lv_aload_n hx hb dX9_isLike_59 rfl (lv_at hl 1 rfl) ?_
        obtain ⟨hq7, hf⟩ := jif hf
        refine gt_54 E hM hq7 lk_1_57 dX9_isLike_60 ?_
        obtain ⟨r8, hr9, hf⟩ := jb hf
        rw [hr9]
        show W p l e _ s m args below meth c H locs 0 0 _ (F0 m _ ls (.ref (g.2.2 + r8) :: _))
        refine lv_iload_n hx hb dX9_isLike_63 rfl (lv_at hl 3 rfl) ?_
        obtain ⟨ha10, hf⟩ := jif hf
        refine jlald E hM ha10 dX9_isLike_64 ?_
        refine jl_eq (tgt := 71) hx hb dX9_isLike_65 dX9_isLike_66 (by decide) (fun c11 => ?_) (fun c11 => ?_)
        · have hf := jt c11 hf
          obtain ⟨x12, ex12⟩ : ∃ z, z = v3 + (1 : Int32) := ⟨_, rfl⟩
          have hf := jlet_y ex12 hf
          refine lv_iinc (v := x12) (lv' := [(3, .int x12), (0, .ref (g.2.2 + v0)), (1, .ref (g.2.2 + v1)), (2, .int v2)]) hx hb dX9_isLike_71 hl (k := 3) rfl (by rw [ex12]; rfl) (by decide) rfl (fun ls hl => ?_)
          refine lv_goto (tgt := 42) hx hb dX9_isLike_74 (by decide) ?_
          exact ih v0 v1 v2 x12 _ _ _ hf hM (lv_sub hl [1, 2, 3, 0] rfl)
        · have hf := jf c11 hf
          refine lv_iconst (v := (0 : Int32)) hx hb dX9_isLike_69 (by decide) ?_
          exact jiretz (jr1 hf) E hM (by decide) dX9_isLike_70
set_option maxRecDepth 100000 in
set_option maxHeartbeats 4000000 in
theorem B_X9_isLike_39 {p : Program} {l : Launch} {e : Env} {s : State} {m : MethodId} {args : Array Value} {below : List Frame} {meth : Method} {c : Code} {g : jG} {rr : Int32} {S : jM} {v0 : Nat} {v1 : Nat} {t0 : Int32} (E : jEnv p s m args meth c cX9_isLike "PensionHouse$Value" (some .boolean) 4 g)  {H : Heap} {locs : List Loc} {ls : Array Slot} (hf : f_X9_isLike_39 v0 v1 t0 S = some rr) (hM : jAt g S s H locs) (hl : lv_has ls 4 [(0, .ref (g.2.2 + v0)), (1, .ref (g.2.2 + v1))]) : W p l e (jRm 2 0 0) s m args below meth c H locs 0 0 (MQ below (jQi g rr S) args s 0 0 (jA0 g)) (F0 m 39 ls [.int t0]) := by
  obtain ⟨hx, hb, hml, -, hts, hown, hK, -, hstr⟩ := id E
  unfold f_X9_isLike_39 at hf
  refine lv_istore_n (lv' := [(2, .int t0), (0, .ref (g.2.2 + v0)), (1, .ref (g.2.2 + v1))]) hx hb dX9_isLike_39 rfl hl (by decide) rfl (fun ls hl => ?_)
  refine lv_iconst (v := (0 : Int32)) hx hb dX9_isLike_40 (by decide) ?_
  refine lv_istore_n (lv' := [(3, .int (0 : Int32)), (2, .int t0), (0, .ref (g.2.2 + v0)), (1, .ref (g.2.2 + v1))]) hx hb dX9_isLike_41 rfl hl (by decide) rfl (fun ls hl => ?_)
  exact B_X9_isLike_42 E  1100000 v0 v1 t0 (0 : Int32) _ _ _ hf hM (lv_sub hl [2, 3, 1, 0] rfl)
set_option maxRecDepth 100000 in
set_option maxHeartbeats 4000000 in
theorem B_X9_isLike_0 {p : Program} {l : Launch} {e : Env} {s : State} {m : MethodId} {args : Array Value} {below : List Frame} {meth : Method} {c : Code} {g : jG} {rr : Int32} {S : jM} {v0 : Nat} {v1 : Nat} (E : jEnv p s m args meth c cX9_isLike "PensionHouse$Value" (some .boolean) 4 g)  {H : Heap} {locs : List Loc} {ls : Array Slot} (hf : f_X9_isLike v0 v1 S = some rr) (hM : jAt g S s H locs) (hl : lv_has ls 4 [(0, .ref (g.2.2 + v0)), (1, .ref (g.2.2 + v1))]) : W p l e (jRm 2 0 0) s m args below meth c H locs 0 0 (MQ below (jQi g rr S) args s 0 0 (jA0 g)) (F0 m 0 ls []) := by
  obtain ⟨hx, hb, hml, -, hts, hown, hK, -, hstr⟩ := id E
  unfold f_X9_isLike at hf
  refine lv_aload_n hx hb dX9_isLike_0 rfl (lv_at hl 0 rfl) ?_
  obtain ⟨hq13, hf⟩ := jif hf
  refine gt_52 E hM hq13 lk_1_49 dX9_isLike_1 ?_
  refine lv_aload_n hx hb dX9_isLike_4 rfl (lv_at hl 1 rfl) ?_
  obtain ⟨hq14, hf⟩ := jif hf
  refine gt_52 E hM hq14 lk_1_49 dX9_isLike_5 ?_
  refine lv_icmp_ne (tgt := 22) hx hb dX9_isLike_8 (by decide) (fun c15 => ?_) (fun c15 => ?_)
  · have hf := jf c15 hf
    refine lv_iconst (v := (0 : Int32)) hx hb dX9_isLike_22 (by decide) ?_
    exact jiretz (jr1 hf) E hM (by decide) dX9_isLike_23
  · have hf := jt c15 hf
    refine lv_aload_n hx hb dX9_isLike_11 rfl (lv_at hl 0 rfl) ?_
    refine gt_53 E hM hq13 lk_1_54 dX9_isLike_12 ?_
    refine lv_aload_n hx hb dX9_isLike_15 rfl (lv_at hl 1 rfl) ?_
    refine gt_53 E hM hq14 lk_1_54 dX9_isLike_16 ?_
    refine lv_icmp_eq (tgt := 24) hx hb dX9_isLike_19 (by decide) (fun c16 => ?_) (fun c16 => ?_)
    · have hf := jt c16 hf
      refine lv_aload_n hx hb dX9_isLike_24 rfl (lv_at hl 0 rfl) ?_
      obtain ⟨x17, hc18, hf⟩ := jb hf
      refine jbackI hM (jrunV E hM ci_X9_isRow (C_X9_isRow hc18) lk_5_148 hq13 (by decide) rfl hl.1 rfl rfl (Nat.le_of_ble_eq_true rfl) ⟨Nat.le_of_ble_eq_true rfl, Nat.le_of_ble_eq_true rfl⟩ ⟨Nat.le_refl _, Nat.le_refl _⟩ dX9_isLike_25) (fun H locs hM => ?_)
      refine lv_if_eq (tgt := 38) hx hb dX9_isLike_28 (by decide) (fun c19 => ?_) (fun c19 => ?_)
      · have hf := jt c19 hf
        refine lv_iconst (v := (1 : Int32)) hx hb dX9_isLike_38 (by decide) ?_
        exact B_X9_isLike_39 E  hf hM (lv_sub hl [0, 1] rfl)
      · have hf := jf c19 hf
        refine lv_aload_n hx hb dX9_isLike_31 rfl (lv_at hl 0 rfl) ?_
        refine gt_53 E hM hq13 lk_1_54 dX9_isLike_32 ?_
        refine lv_goto (tgt := 39) hx hb dX9_isLike_35 (by decide) ?_
        exact B_X9_isLike_39 E  hf hM (lv_sub hl [0, 1] rfl)
    · have hf := jf c16 hf
      refine lv_iconst (v := (0 : Int32)) hx hb dX9_isLike_22 (by decide) ?_
      exact jiretz (jr1 hf) E hM (by decide) dX9_isLike_23
set_option maxRecDepth 100000 in
theorem C_X9_isLike {l : Launch} {g : jG} {a0 : Nat} {a1 : Nat} {S : jM} {rr : Int32} (hf : f_X9_isLike a0 a1 S = some rr) : jMet l g yX9_isLike cX9_isLike 4 (some .boolean) 2 0 0 [.ref (g.2.2 + a0), .ref (g.2.2 + a1)] S (jQi g rr S) := by
  refine jof (by decide +kernel) (Nat.le_of_ble_eq_true rfl) ?_
  intro p e s m below meth c E hM ls hl
  have hl : lv_has ls 4 [(0, .ref (g.2.2 + a0)),(1, .ref (g.2.2 + a1))] := hl
  exact B_X9_isLike_0 E hf hM hl
-- PensionHouse$Case.endsLike(LPensionHouse$Case;)Z  mode R
noncomputable def f_X1_endsLike_44 (S : jM) : Option Int32 := some (1 : Int32)
noncomputable def f_X1_endsLike (v0 : Nat) (v1 : Nat) (S : jM) : Option Int32 := if jK v0 = 1 then if jK v1 = 1 then if (jI S 7 v0) = (jI S 7 v1) then if (jI S 7 v0) = 0 then (jR S 14 v0).bind (fun r5 => if jA r5 19 (jI S 6 v0) = true then (jAR S r5 (jI S 6 v0).toNatClampNeg).bind (fun r8 => (jR S 14 v1).bind (fun r10 => if jA r10 19 (jI S 6 v1) = true then (jAR S r10 (jI S 6 v1).toNatClampNeg).bind (fun r13 => if jK r8 = 7 then (f_X9_isLike r8 r13 S).bind (fun x15 => if x15 = 0 then some (0 : Int32) else f_X1_endsLike_44 S) else none) else none)) else none) else f_X1_endsLike_44 S else some (0 : Int32) else none else none
set_option maxRecDepth 100000 in
set_option maxHeartbeats 4000000 in
theorem B_X1_endsLike_44 {p : Program} {l : Launch} {e : Env} {s : State} {m : MethodId} {args : Array Value} {below : List Frame} {meth : Method} {c : Code} {g : jG} {rr : Int32} {S : jM} (E : jEnv p s m args meth c cX1_endsLike "PensionHouse$Case" (some .boolean) 2 g)  {H : Heap} {locs : List Loc} {ls : Array Slot} (hf : f_X1_endsLike_44 S = some rr) (hM : jAt g S s H locs) (hl : lv_has ls 2 []) : W p l e (jRm 3 0 0) s m args below meth c H locs 0 0 (MQ below (jQi g rr S) args s 0 0 (jA0 g)) (F0 m 44 ls []) := by
  obtain ⟨hx, hb, hml, -, hts, hown, hK, -, hstr⟩ := id E
  unfold f_X1_endsLike_44 at hf
  refine lv_iconst (v := (1 : Int32)) hx hb dX1_endsLike_44 (by decide) ?_
  refine lv_goto (tgt := 49) hx hb dX1_endsLike_45 (by decide) ?_
  exact jiretz (jr1 hf) E hM (by decide) dX1_endsLike_49
set_option maxRecDepth 100000 in
set_option maxHeartbeats 4000000 in
theorem B_X1_endsLike_0 {p : Program} {l : Launch} {e : Env} {s : State} {m : MethodId} {args : Array Value} {below : List Frame} {meth : Method} {c : Code} {g : jG} {rr : Int32} {S : jM} {v0 : Nat} {v1 : Nat} (E : jEnv p s m args meth c cX1_endsLike "PensionHouse$Case" (some .boolean) 2 g)  {H : Heap} {locs : List Loc} {ls : Array Slot} (hf : f_X1_endsLike v0 v1 S = some rr) (hM : jAt g S s H locs) (hl : lv_has ls 2 [(0, .ref (g.2.2 + v0)), (1, .ref (g.2.2 + v1))]) : W p l e (jRm 3 0 0) s m args below meth c H locs 0 0 (MQ below (jQi g rr S) args s 0 0 (jA0 g)) (F0 m 0 ls []) := by
  obtain ⟨hx, hb, hml, -, hts, hown, hK, -, hstr⟩ := id E
  unfold f_X1_endsLike at hf
  refine lv_aload_n hx hb dX1_endsLike_0 rfl (lv_at hl 0 rfl) ?_
  obtain ⟨hq1, hf⟩ := jif hf
  refine gt_7 E hM hq1 lk_2_59 dX1_endsLike_1 ?_
  refine lv_aload_n hx hb dX1_endsLike_4 rfl (lv_at hl 1 rfl) ?_
  obtain ⟨hq2, hf⟩ := jif hf
  refine gt_7 E hM hq2 lk_2_59 dX1_endsLike_5 ?_
  refine lv_icmp_eq (tgt := 13) hx hb dX1_endsLike_8 (by decide) (fun c3 => ?_) (fun c3 => ?_)
  · have hf := jt c3 hf
    refine lv_aload_n hx hb dX1_endsLike_13 rfl (lv_at hl 0 rfl) ?_
    refine gt_7 E hM hq1 lk_2_59 dX1_endsLike_14 ?_
    refine lv_if_ne (tgt := 44) hx hb dX1_endsLike_17 (by decide) (fun c4 => ?_) (fun c4 => ?_)
    · have hf := jf c4 hf
      exact B_X1_endsLike_44 E  hf hM (lv_sub hl [] rfl)
    · have hf := jt c4 hf
      refine lv_aload_n hx hb dX1_endsLike_20 rfl (lv_at hl 0 rfl) ?_
      refine gt_14 E hM hq1 lk_2_79 dX1_endsLike_21 ?_
      obtain ⟨r5, hr6, hf⟩ := jb hf
      rw [hr6]
      show W p l e _ s m args below meth c H locs 0 0 _ (F0 m _ ls (.ref (g.2.2 + r5) :: _))
      refine lv_aload_n hx hb dX1_endsLike_24 rfl (lv_at hl 0 rfl) ?_
      refine gt_6 E hM hq1 lk_2_56 dX1_endsLike_25 ?_
      obtain ⟨ha7, hf⟩ := jif hf
      refine jaald (k := 19) (t0 := 8) E hM ha7 (by decide) (by decide) rfl dX1_endsLike_28 ?_
      obtain ⟨r8, hr9, hf⟩ := jb hf
      rw [hr9]
      show W p l e _ s m args below meth c H locs 0 0 _ (F0 m _ ls (.ref (g.2.2 + r8) :: _))
      refine lv_aload_n hx hb dX1_endsLike_29 rfl (lv_at hl 1 rfl) ?_
      refine gt_14 E hM hq2 lk_2_79 dX1_endsLike_30 ?_
      obtain ⟨r10, hr11, hf⟩ := jb hf
      rw [hr11]
      show W p l e _ s m args below meth c H locs 0 0 _ (F0 m _ ls (.ref (g.2.2 + r10) :: _))
      refine lv_aload_n hx hb dX1_endsLike_33 rfl (lv_at hl 1 rfl) ?_
      refine gt_6 E hM hq2 lk_2_56 dX1_endsLike_34 ?_
      obtain ⟨ha12, hf⟩ := jif hf
      refine jaald (k := 19) (t0 := 8) E hM ha12 (by decide) (by decide) rfl dX1_endsLike_37 ?_
      obtain ⟨r13, hr14, hf⟩ := jb hf
      rw [hr14]
      show W p l e _ s m args below meth c H locs 0 0 _ (F0 m _ ls (.ref (g.2.2 + r13) :: _))
      obtain ⟨hq17, hf⟩ := jif hf
      obtain ⟨x15, hc16, hf⟩ := jb hf
      refine jbackI hM (jrunV E hM ci_X9_isLike (C_X9_isLike hc16) lk_5_144 hq17 (by decide) rfl hl.1 rfl rfl (Nat.le_of_ble_eq_true rfl) ⟨Nat.le_of_ble_eq_true rfl, Nat.le_of_ble_eq_true rfl⟩ ⟨Nat.le_refl _, Nat.le_refl _⟩ dX1_endsLike_38) (fun H locs hM => ?_)
      refine lv_if_eq (tgt := 48) hx hb dX1_endsLike_41 (by decide) (fun c18 => ?_) (fun c18 => ?_)
      · have hf := jt c18 hf
        refine lv_iconst (v := (0 : Int32)) hx hb dX1_endsLike_48 (by decide) ?_
        exact jiretz (jr1 hf) E hM (by decide) dX1_endsLike_49
      · have hf := jf c18 hf
        exact B_X1_endsLike_44 E  hf hM (lv_sub hl [] rfl)
  · have hf := jf c3 hf
    refine lv_iconst (v := (0 : Int32)) hx hb dX1_endsLike_11 (by decide) ?_
    exact jiretz (jr1 hf) E hM (by decide) dX1_endsLike_12
set_option maxRecDepth 100000 in
theorem C_X1_endsLike {l : Launch} {g : jG} {a0 : Nat} {a1 : Nat} {S : jM} {rr : Int32} (hf : f_X1_endsLike a0 a1 S = some rr) : jMet l g yX1_endsLike cX1_endsLike 2 (some .boolean) 3 0 0 [.ref (g.2.2 + a0), .ref (g.2.2 + a1)] S (jQi g rr S) := by
  refine jof (by decide +kernel) (Nat.le_of_ble_eq_true rfl) ?_
  intro p e s m below meth c E hM ls hl
  have hl : lv_has ls 2 [(0, .ref (g.2.2 + a0)),(1, .ref (g.2.2 + a1))] := hl
  exact B_X1_endsLike_0 E hf hM hl
