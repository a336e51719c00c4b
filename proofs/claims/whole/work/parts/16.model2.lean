-- PensionHouseModel.paid(I)J  mode R
noncomputable def f_X12_paid_51 (k5 : Nat → Int32 → Int64 → Int32 → jM → Option Int64) (v0 : Nat) (v1 : Int32) (v4 : Int32) (t0 : Int64) (t1 : Int64) (S : jM) : Option Int64 := jlet (t0 + t1) (fun x1 => jlet (v4 + (1 : Int32)) (fun x2 => k5 v0 v1 x1 x2 S))
noncomputable def f_X12_paid_50 (k5 : Nat → Int32 → Int64 → Int32 → jM → Option Int64) (v0 : Nat) (v1 : Int32) (v4 : Int32) (t0 : Int64) (S : jM) : Option Int64 := f_X12_paid_51 k5 v0 v1 v4 t0 (0 : Int64) S
noncomputable def f_X12_paid_5 : Nat → Nat → Int32 → Int64 → Int32 → jM → Option Int64
  | 0, _, _, _, _, _ => none
  | n + 1, v0, v1, v2, v4, S => if jK v0 = 10 then if (jI S 175 v0) ≤ v4 then some v2 else (jR S 169 v0).bind (fun r5 => if jA r5 13 v4 = true then if (jAI S r5 (v4).toNatClampNeg) = v1 then (jR S 172 v0).bind (fun r9 => if jA r9 15 v4 = true then if (jAI S r9 (v4).toNatClampNeg) = 0 then (jR S 171 v0).bind (fun r13 => if jA r13 14 (((4 : Int32) * v4) + (2 : Int32)) = true then f_X12_paid_51 (f_X12_paid_5 n) v0 v1 v4 v2 (jAL S r13 (((4 : Int32) * v4) + (2 : Int32)).toNatClampNeg) S else none) else f_X12_paid_50 (f_X12_paid_5 n) v0 v1 v4 v2 S else none) else f_X12_paid_50 (f_X12_paid_5 n) v0 v1 v4 v2 S else none) else none
noncomputable def f_X12_paid (v0 : Nat) (v1 : Int32) (S : jM) : Option Int64 := f_X12_paid_5 1100000 v0 v1 (0 : Int64) (0 : Int32) S
set_option maxRecDepth 100000 in
set_option maxHeartbeats 4000000 in
theorem B_X12_paid_51 {p : Program} {l : Launch} {e : Env} {s : State} {m : MethodId} {args : Array Value} {below : List Frame} {meth : Method} {c : Code} {g : jG} {rr : Int64} {S : jM} {v0 : Nat} {v1 : Int32} {v4 : Int32} {t0 : Int64} {t1 : Int64} {k5 : Nat → Int32 → Int64 → Int32 → jM → Option Int64} (E : jEnv p s m args meth c cX12_paid "PensionHouseModel" (some .long) 5 g) (hk5 : ∀ (v0 : Nat) (v1 : Int32) (v2 : Int64) (v4 : Int32) (H : Heap) (locs : List Loc) (ls : Array Slot), k5 v0 v1 v2 v4 S = some rr → jAt g S s H locs → lv_has ls 5 [(0, .ref (g.2.2 + v0)), (1, .int v1), (2, .long v2), (4, .int v4)] → W p l e (jRm 1 0 0) s m args below meth c H locs 0 0 (MQ below (jQl g rr S) args s 0 0 (jA0 g)) (F0 m 5 ls [])) {H : Heap} {locs : List Loc} {ls : Array Slot} (hf : f_X12_paid_51 k5 v0 v1 v4 t0 t1 S = some rr) (hM : jAt g S s H locs) (hl : lv_has ls 5 [(0, .ref (g.2.2 + v0)), (1, .int v1), (4, .int v4)]) : W p l e (jRm 1 0 0) s m args below meth c H locs 0 0 (MQ below (jQl g rr S) args s 0 0 (jA0 g)) (F0 m 51 ls [.long t1, .long t0]) := by
  obtain ⟨hx, hb, hml, -, hts, hown, hK, -, hstr⟩ := id E
  unfold f_X12_paid_51 at hf
  refine lv_ladd hx hb dX12_paid_51 ?_
  refine lv_topl (fun x1 ex1 => ?_)
  have hf := jlet_y ex1 hf
  refine lv_lstore_n (lv' := [(2, .long x1), (0, .ref (g.2.2 + v0)), (1, .int v1), (4, .int v4)]) hx hb dX12_paid_52 rfl hl (by decide) rfl (fun ls hl => ?_)
  obtain ⟨x2, ex2⟩ : ∃ z, z = v4 + (1 : Int32) := ⟨_, rfl⟩
  have hf := jlet_y ex2 hf
  refine lv_iinc (v := x2) (lv' := [(4, .int x2), (2, .long x1), (0, .ref (g.2.2 + v0)), (1, .int v1)]) hx hb dX12_paid_53 hl (k := 3) rfl (by rw [ex2]; rfl) (by decide) rfl (fun ls hl => ?_)
  refine lv_goto (tgt := 5) hx hb dX12_paid_56 (by decide) ?_
  exact hk5 v0 v1 x1 x2 _ _ _ hf hM (lv_sub hl [2, 3, 1, 0] rfl)
set_option maxRecDepth 100000 in
set_option maxHeartbeats 4000000 in
theorem B_X12_paid_50 {p : Program} {l : Launch} {e : Env} {s : State} {m : MethodId} {args : Array Value} {below : List Frame} {meth : Method} {c : Code} {g : jG} {rr : Int64} {S : jM} {v0 : Nat} {v1 : Int32} {v4 : Int32} {t0 : Int64} {k5 : Nat → Int32 → Int64 → Int32 → jM → Option Int64} (E : jEnv p s m args meth c cX12_paid "PensionHouseModel" (some .long) 5 g) (hk5 : ∀ (v0 : Nat) (v1 : Int32) (v2 : Int64) (v4 : Int32) (H : Heap) (locs : List Loc) (ls : Array Slot), k5 v0 v1 v2 v4 S = some rr → jAt g S s H locs → lv_has ls 5 [(0, .ref (g.2.2 + v0)), (1, .int v1), (2, .long v2), (4, .int v4)] → W p l e (jRm 1 0 0) s m args below meth c H locs 0 0 (MQ below (jQl g rr S) args s 0 0 (jA0 g)) (F0 m 5 ls [])) {H : Heap} {locs : List Loc} {ls : Array Slot} (hf : f_X12_paid_50 k5 v0 v1 v4 t0 S = some rr) (hM : jAt g S s H locs) (hl : lv_has ls 5 [(0, .ref (g.2.2 + v0)), (1, .int v1), (4, .int v4)]) : W p l e (jRm 1 0 0) s m args below meth c H locs 0 0 (MQ below (jQl g rr S) args s 0 0 (jA0 g)) (F0 m 50 ls [.long t0]) := by
  obtain ⟨hx, hb, hml, -, hts, hown, hK, -, hstr⟩ := id E
  unfold f_X12_paid_50 at hf
  refine lv_lconst (v := (0 : Int64)) hx hb dX12_paid_50 (by decide) ?_
  exact B_X12_paid_51 E hk5 hf hM (lv_sub hl [0, 1, 2] rfl)
set_option maxRecDepth 100000 in
set_option maxHeartbeats 4000000 in
theorem B_X12_paid_5 {p : Program} {l : Launch} {e : Env} {s : State} {m : MethodId} {args : Array Value} {below : List Frame} {meth : Method} {c : Code} {g : jG} {rr : Int64} {S : jM} (E : jEnv p s m args meth c cX12_paid "PensionHouseModel" (some .long) 5 g)  : ∀ (n : Nat) (v0 : Nat) (v1 : Int32) (v2 : Int64) (v4 : Int32) (H : Heap) (locs : List Loc) (ls : Array Slot), f_X12_paid_5 n v0 v1 v2 v4 S = some rr → jAt g S s H locs → lv_has ls 5 [(0, .ref (g.2.2 + v0)), (1, .int v1), (2, .long v2), (4, .int v4)] → W p l e (jRm 1 0 0) s m args below meth c H locs 0 0 (MQ below (jQl g rr S) args s 0 0 (jA0 g)) (F0 m 5 ls []) := by
  obtain ⟨hx, hb, hml, -, hts, hown, hK, -, hstr⟩ := id E
  intro n
  induction n with
  | zero => intro v0 v1 v2 v4 H locs ls hf hM hl; rw [f_X12_paid_5] at hf; cases hf
  | succ n ih =>
    intro v0 v1 v2 v4 H locs ls hf hM hl
    rw [f_X12_paid_5] at hf
    refine lv_iload hx hb dX12_paid_5 (lv_at hl 3 rfl) ?_
    refine lv_aload_n hx hb dX12_paid_7 rfl (lv_at hl 0 rfl) ?_
    obtain ⟨hq3, hf⟩ := jif hf
    refine gt_175 E hM hq3 lk_6_89 dX12_paid_8 ?_
    refine lv_icmp_ge (tgt := 59) hx hb dX12_paid_11 (by decide) (fun c4 => ?_) (fun c4 => ?_)
    · have hf := jt c4 hf
      refine lv_lload_n hx hb dX12_paid_59 rfl (lv_at hl 2 rfl) ?_
      exact jlret (jr1 hf) E hM dX12_paid_60
    · have hf := jf c4 hf
      refine lv_lload_n hx hb dX12_paid_14 rfl (lv_at hl 2 rfl) ?_
      refine lv_aload_n hx hb dX12_paid_15 rfl (lv_at hl 0 rfl) ?_
      refine gt_169 E hM hq3 lk_6_83 dX12_paid_16 ?_
      obtain ⟨r5, hr6, hf⟩ := jb hf
      rw [hr6]
      show W p l e _ s m args below meth c H locs 0 0 _ (F0 m _ ls (.ref (g.2.2 + r5) :: _))
      refine lv_iload hx hb dX12_paid_19 (lv_at hl 3 rfl) ?_
      obtain ⟨ha7, hf⟩ := jif hf
      refine jiald E hM ha7 dX12_paid_21 ?_
      refine lv_iload_n hx hb dX12_paid_22 rfl (lv_at hl 1 rfl) ?_
      refine lv_icmp_ne (tgt := 50) hx hb dX12_paid_23 (by decide) (fun c8 => ?_) (fun c8 => ?_)
      · have hf := jf c8 hf
        exact B_X12_paid_50 E ih hf hM (lv_sub hl [0, 1, 3] rfl)
      · have hf := jt c8 hf
        refine lv_aload_n hx hb dX12_paid_26 rfl (lv_at hl 0 rfl) ?_
        refine gt_172 E hM hq3 lk_6_86 dX12_paid_27 ?_
        obtain ⟨r9, hr10, hf⟩ := jb hf
        rw [hr10]
        show W p l e _ s m args below meth c H locs 0 0 _ (F0 m _ ls (.ref (g.2.2 + r9) :: _))
        refine lv_iload hx hb dX12_paid_30 (lv_at hl 3 rfl) ?_
        obtain ⟨ha11, hf⟩ := jif hf
        refine jzald E hM ha11 dX12_paid_32 ?_
        refine lv_if_ne (tgt := 50) hx hb dX12_paid_33 (by decide) (fun c12 => ?_) (fun c12 => ?_)
        · have hf := jf c12 hf
          exact B_X12_paid_50 E ih hf hM (lv_sub hl [0, 1, 3] rfl)
        · have hf := jt c12 hf
          refine lv_aload_n hx hb dX12_paid_36 rfl (lv_at hl 0 rfl) ?_
          refine gt_171 E hM hq3 lk_6_85 dX12_paid_37 ?_
          obtain ⟨r13, hr14, hf⟩ := jb hf
          rw [hr14]
          show W p l e _ s m args below meth c H locs 0 0 _ (F0 m _ ls (.ref (g.2.2 + r13) :: _))
          refine lv_iconst (v := (4 : Int32)) hx hb dX12_paid_40 (by decide) ?_
          refine lv_iload hx hb dX12_paid_41 (lv_at hl 3 rfl) ?_
          refine lv_imul hx hb dX12_paid_43 ?_
          refine lv_iconst (v := (2 : Int32)) hx hb dX12_paid_44 (by decide) ?_
          refine lv_iadd hx hb dX12_paid_45 ?_
          obtain ⟨ha15, hf⟩ := jif hf
          refine jlald E hM ha15 dX12_paid_46 ?_
          refine lv_goto (tgt := 51) hx hb dX12_paid_47 (by decide) ?_
          exact B_X12_paid_51 E ih hf hM (lv_sub hl [0, 1, 3] rfl)
set_option maxRecDepth 100000 in
set_option maxHeartbeats 4000000 in
theorem B_X12_paid_0 {p : Program} {l : Launch} {e : Env} {s : State} {m : MethodId} {args : Array Value} {below : List Frame} {meth : Method} {c : Code} {g : jG} {rr : Int64} {S : jM} {v0 : Nat} {v1 : Int32} (E : jEnv p s m args meth c cX12_paid "PensionHouseModel" (some .long) 5 g)  {H : Heap} {locs : List Loc} {ls : Array Slot} (hf : f_X12_paid v0 v1 S = some rr) (hM : jAt g S s H locs) (hl : lv_has ls 5 [(0, .ref (g.2.2 + v0)), (1, .int v1)]) : W p l e (jRm 1 0 0) s m args below meth c H locs 0 0 (MQ below (jQl g rr S) args s 0 0 (jA0 g)) (F0 m 0 ls []) := by
  obtain ⟨hx, hb, hml, -, hts, hown, hK, -, hstr⟩ := id E
  unfold f_X12_paid at hf
  refine lv_lconst (v := (0 : Int64)) hx hb dX12_paid_0 (by decide) ?_
  refine lv_lstore_n (lv' := [(2, .long (0 : Int64)), (0, .ref (g.2.2 + v0)), (1, .int v1)]) hx hb dX12_paid_1 rfl hl (by decide) rfl (fun ls hl => ?_)
  refine lv_iconst (v := (0 : Int32)) hx hb dX12_paid_2 (by decide) ?_
  refine lv_istore (lv' := [(4, .int (0 : Int32)), (2, .long (0 : Int64)), (0, .ref (g.2.2 + v0)), (1, .int v1)]) hx hb dX12_paid_3 hl (by decide) rfl (fun ls hl => ?_)
  exact B_X12_paid_5 E  1100000 v0 v1 (0 : Int64) (0 : Int32) _ _ _ hf hM (lv_sub hl [2, 3, 1, 0] rfl)
set_option maxRecDepth 100000 in
theorem C_X12_paid {l : Launch} {g : jG} {a0 : Nat} {a1 : Int32} {S : jM} {rr : Int64} (hf : f_X12_paid a0 a1 S = some rr) : jMet l g yX12_paid cX12_paid 5 (some .long) 1 0 0 [.ref (g.2.2 + a0), .int a1] S (jQl g rr S) := by
  refine jof (by decide +kernel) (Nat.le_of_ble_eq_true rfl) ?_
  intro p e s m below meth c E hM ls hl
  have hl : lv_has ls 5 [(0, .ref (g.2.2 + a0)),(1, .int a1)] := hl
  exact B_X12_paid_0 E hf hM hl
-- PensionHouseModel.inForceAt(II)I  mode R
noncomputable def f_X12_inForceAt_61 (k8 : Nat → Int32 → Int32 → Int32 → Int32 → jM → Option Int32) (v0 : Nat) (v1 : Int32) (v2 : Int32) (v4 : Int32) (t0 : Int32) (S : jM) : Option Int32 := jlet (v4 + (1 : Int32)) (fun x1 => k8 v0 v1 v2 t0 x1 S)
noncomputable def f_X12_inForceAt_60 (k8 : Nat → Int32 → Int32 → Int32 → Int32 → jM → Option Int32) (v0 : Nat) (v1 : Int32) (v2 : Int32) (v3 : Int32) (v4 : Int32) (S : jM) : Option Int32 := f_X12_inForceAt_61 k8 v0 v1 v2 v4 v3 S
noncomputable def f_X12_inForceAt_55 (k8 : Nat → Int32 → Int32 → Int32 → Int32 → jM → Option Int32) (v0 : Nat) (v1 : Int32) (v2 : Int32) (v4 : Int32) (S : jM) : Option Int32 := f_X12_inForceAt_61 k8 v0 v1 v2 v4 v4 S
noncomputable def f_X12_inForceAt_8 : Nat → Nat → Int32 → Int32 → Int32 → Int32 → jM → Option Int32
  | 0, _, _, _, _, _, _ => none
  | n + 1, v0, v1, v2, v3, v4, S => if jK v0 = 10 then (jR S 148 v0).bind (fun r3 => if jA r3 13 v1 = true then if (((8 : Int32) * v1) + (jAI S r3 (v1).toNatClampNeg)) ≤ v4 then some v3 else (jR S 147 v0).bind (fun r7 => if jA r7 13 v4 = true then if v2 < (jAI S r7 (v4).toNatClampNeg) then f_X12_inForceAt_60 (f_X12_inForceAt_8 n) v0 v1 v2 v3 v4 S else if v3 < 0 then f_X12_inForceAt_55 (f_X12_inForceAt_8 n) v0 v1 v2 v4 S else (jR S 147 v0).bind (fun r12 => if jA r12 13 v4 = true then (jR S 147 v0).bind (fun r15 => if jA r15 13 v3 = true then if (jAI S r12 (v4).toNatClampNeg) ≤ (jAI S r15 (v3).toNatClampNeg) then f_X12_inForceAt_60 (f_X12_inForceAt_8 n) v0 v1 v2 v3 v4 S else f_X12_inForceAt_55 (f_X12_inForceAt_8 n) v0 v1 v2 v4 S else none) else none) else none) else none) else none
noncomputable def f_X12_inForceAt (v0 : Nat) (v1 : Int32) (v2 : Int32) (S : jM) : Option Int32 := jlet ((8 : Int32) * v1) (fun x19 => f_X12_inForceAt_8 1100000 v0 v1 v2 (-1 : Int32) x19 S)
set_option maxRecDepth 100000 in
set_option maxHeartbeats 4000000 in
theorem B_X12_inForceAt_61 {p : Program} {l : Launch} {e : Env} {s : State} {m : MethodId} {args : Array Value} {below : List Frame} {meth : Method} {c : Code} {g : jG} {rr : Int32} {S : jM} {v0 : Nat} {v1 : Int32} {v2 : Int32} {v4 : Int32} {t0 : Int32} {k8 : Nat → Int32 → Int32 → Int32 → Int32 → jM → Option Int32} (E : jEnv p s m args meth c cX12_inForceAt "PensionHouseModel" (some .int) 5 g) (hk8 : ∀ (v0 : Nat) (v1 : Int32) (v2 : Int32) (v3 : Int32) (v4 : Int32) (H : Heap) (locs : List Loc) (ls : Array Slot), k8 v0 v1 v2 v3 v4 S = some rr → jAt g S s H locs → lv_has ls 5 [(0, .ref (g.2.2 + v0)), (1, .int v1), (2, .int v2), (3, .int v3), (4, .int v4)] → W p l e (jRm 1 0 0) s m args below meth c H locs 0 0 (MQ below (jQi g rr S) args s 0 0 (jA0 g)) (F0 m 8 ls [])) {H : Heap} {locs : List Loc} {ls : Array Slot} (hf : f_X12_inForceAt_61 k8 v0 v1 v2 v4 t0 S = some rr) (hM : jAt g S s H locs) (hl : lv_has ls 5 [(0, .ref (g.2.2 + v0)), (1, .int v1), (2, .int v2), (4, .int v4)]) : W p l e (jRm 1 0 0) s m args below meth c H locs 0 0 (MQ below (jQi g rr S) args s 0 0 (jA0 g)) (F0 m 61 ls [.int t0]) := by
  obtain ⟨hx, hb, hml, -, hts, hown, hK, -, hstr⟩ := id E
  unfold f_X12_inForceAt_61 at hf
  refine lv_istore_n (lv' := [(3, .int t0), (0, .ref (g.2.2 + v0)), (1, .int v1), (2, .int v2), (4, .int v4)]) hx hb dX12_inForceAt_61 rfl hl (by decide) rfl (fun ls hl => ?_)
  obtain ⟨x1, ex1⟩ : ∃ z, z = v4 + (1 : Int32) := ⟨_, rfl⟩
  have hf := jlet_y ex1 hf
  refine lv_iinc (v := x1) (lv' := [(4, .int x1), (3, .int t0), (0, .ref (g.2.2 + v0)), (1, .int v1), (2, .int v2)]) hx hb dX12_inForceAt_62 hl (k := 4) rfl (by rw [ex1]; rfl) (by decide) rfl (fun ls hl => ?_)
  refine lv_goto (tgt := 8) hx hb dX12_inForceAt_65 (by decide) ?_
  exact hk8 v0 v1 v2 t0 x1 _ _ _ hf hM (lv_sub hl [2, 3, 4, 1, 0] rfl)
set_option maxRecDepth 100000 in
set_option maxHeartbeats 4000000 in
theorem B_X12_inForceAt_60 {p : Program} {l : Launch} {e : Env} {s : State} {m : MethodId} {args : Array Value} {below : List Frame} {meth : Method} {c : Code} {g : jG} {rr : Int32} {S : jM} {v0 : Nat} {v1 : Int32} {v2 : Int32} {v3 : Int32} {v4 : Int32} {k8 : Nat → Int32 → Int32 → Int32 → Int32 → jM → Option Int32} (E : jEnv p s m args meth c cX12_inForceAt "PensionHouseModel" (some .int) 5 g) (hk8 : ∀ (v0 : Nat) (v1 : Int32) (v2 : Int32) (v3 : Int32) (v4 : Int32) (H : Heap) (locs : List Loc) (ls : Array Slot), k8 v0 v1 v2 v3 v4 S = some rr → jAt g S s H locs → lv_has ls 5 [(0, .ref (g.2.2 + v0)), (1, .int v1), (2, .int v2), (3, .int v3), (4, .int v4)] → W p l e (jRm 1 0 0) s m args below meth c H locs 0 0 (MQ below (jQi g rr S) args s 0 0 (jA0 g)) (F0 m 8 ls [])) {H : Heap} {locs : List Loc} {ls : Array Slot} (hf : f_X12_inForceAt_60 k8 v0 v1 v2 v3 v4 S = some rr) (hM : jAt g S s H locs) (hl : lv_has ls 5 [(0, .ref (g.2.2 + v0)), (1, .int v1), (2, .int v2), (3, .int v3), (4, .int v4)]) : W p l e (jRm 1 0 0) s m args below meth c H locs 0 0 (MQ below (jQi g rr S) args s 0 0 (jA0 g)) (F0 m 60 ls []) := by
  obtain ⟨hx, hb, hml, -, hts, hown, hK, -, hstr⟩ := id E
  unfold f_X12_inForceAt_60 at hf
  refine lv_iload_n hx hb dX12_inForceAt_60 rfl (lv_at hl 3 rfl) ?_
  exact B_X12_inForceAt_61 E hk8 hf hM (lv_sub hl [0, 1, 2, 4] rfl)
set_option maxRecDepth 100000 in
set_option maxHeartbeats 4000000 in
theorem B_X12_inForceAt_55 {p : Program} {l : Launch} {e : Env} {s : State} {m : MethodId} {args : Array Value} {below : List Frame} {meth : Method} {c : Code} {g : jG} {rr : Int32} {S : jM} {v0 : Nat} {v1 : Int32} {v2 : Int32} {v4 : Int32} {k8 : Nat → Int32 → Int32 → Int32 → Int32 → jM → Option Int32} (E : jEnv p s m args meth c cX12_inForceAt "PensionHouseModel" (some .int) 5 g) (hk8 : ∀ (v0 : Nat) (v1 : Int32) (v2 : Int32) (v3 : Int32) (v4 : Int32) (H : Heap) (locs : List Loc) (ls : Array Slot), k8 v0 v1 v2 v3 v4 S = some rr → jAt g S s H locs → lv_has ls 5 [(0, .ref (g.2.2 + v0)), (1, .int v1), (2, .int v2), (3, .int v3), (4, .int v4)] → W p l e (jRm 1 0 0) s m args below meth c H locs 0 0 (MQ below (jQi g rr S) args s 0 0 (jA0 g)) (F0 m 8 ls [])) {H : Heap} {locs : List Loc} {ls : Array Slot} (hf : f_X12_inForceAt_55 k8 v0 v1 v2 v4 S = some rr) (hM : jAt g S s H locs) (hl : lv_has ls 5 [(0, .ref (g.2.2 + v0)), (1, .int v1), (2, .int v2), (4, .int v4)]) : W p l e (jRm 1 0 0) s m args below meth c H locs 0 0 (MQ below (jQi g rr S) args s 0 0 (jA0 g)) (F0 m 55 ls []) := by
  obtain ⟨hx, hb, hml, -, hts, hown, hK, -, hstr⟩ := id E
  unfold f_X12_inForceAt_55 at hf
  refine lv_iload hx hb dX12_inForceAt_55 (lv_at hl 3 rfl) ?_
  refine lv_goto (tgt := 61) hx hb dX12_inForceAt_57 (by decide) ?_
  exact B_X12_inForceAt_61 E hk8 hf hM (lv_sub hl [0, 1, 2, 3] rfl)
set_option maxRecDepth 100000 in
set_option maxHeartbeats 4000000 in
theorem B_X12_inForceAt_8 {p : Program} {l : Launch} {e : Env} {s : State} {m : MethodId} {args : Array Value} {below : List Frame} {meth : Method} {c : Code} {g : jG} {rr : Int32} {S : jM} (E : jEnv p s m args meth c cX12_inForceAt "PensionHouseModel" (some .int) 5 g)  : ∀ (n : Nat) (v0 : Nat) (v1 : Int32) (v2 : Int32) (v3 : Int32) (v4 : Int32) (H : Heap) (locs : List Loc) (ls : Array Slot), f_X12_inForceAt_8 n v0 v1 v2 v3 v4 S = some rr → jAt g S s H locs → lv_has ls 5 [(0, .ref (g.2.2 + v0)), (1, .int v1), (2, .int v2), (3, .int v3), (4, .int v4)] → W p l e (jRm 1 0 0) s m args below meth c H locs 0 0 (MQ below (jQi g rr S) args s 0 0 (jA0 g)) (F0 m 8 ls []) := by
  obtain ⟨hx, hb, hml, -, hts, hown, hK, -, hstr⟩ := id E
  intro n
  induction n with
  | zero => intro v0 v1 v2 v3 v4 H locs ls hf hM hl; rw [f_X12_inForceAt_8] at hf; cases hf
  | succ n ih =>
    intro v0 v1 v2 v3 v4 H locs ls hf hM hl
    rw [f_X12_inForceAt_8] at hf
    refine lv_iload hx hb dX12_inForceAt_8 (lv_at hl 4 rfl) ?_
    refine lv_bipush (v := (8 : Int32)) hx hb dX12_inForceAt_10 (by decide) ?_
    refine lv_iload_n hx hb dX12_inForceAt_12 rfl (lv_at hl 1 rfl) ?_
    refine lv_imul hx hb dX12_inForceAt_13 ?_
    refine lv_aload_n hx hb dX12_inForceAt_14 rfl (lv_at hl 0 rfl) ?_
    obtain ⟨hq2, hf⟩ := jif hf
    refine gt_148 E hM hq2 lk_6_62 dX12_inForceAt_15 ?_
    obtain ⟨r3, hr4, hf⟩ := jb hf
    rw [hr4]
    show W p l e _ s m args below meth c H locs 0 0 _ (F0 m _ ls (.ref (g.2.2 + r3) :: _))
    refine lv_iload_n hx hb dX12_inForceAt_18 rfl (lv_at hl 1 rfl) ?_
    obtain ⟨ha5, hf⟩ := jif hf
    refine jiald E hM ha5 dX12_inForceAt_19 ?_
    refine lv_iadd hx hb dX12_inForceAt_20 ?_
    refine lv_icmp_ge (tgt := 68) hx hb dX12_inForceAt_21 (by decide) (fun c6 => ?_) (fun c6 => ?_)
    · have hf := jt c6 hf
      refine lv_iload_n hx hb dX12_inForceAt_68 rfl (lv_at hl 3 rfl) ?_
      exact jireti (jr1 hf) E hM dX12_inForceAt_69
    · have hf := jf c6 hf
      refine lv_aload_n hx hb dX12_inForceAt_24 rfl (lv_at hl 0 rfl) ?_
      refine gt_147 E hM hq2 lk_6_61 dX12_inForceAt_25 ?_
      obtain ⟨r7, hr8, hf⟩ := jb hf
      rw [hr8]
      show W p l e _ s m args below meth c H locs 0 0 _ (F0 m _ ls (.ref (g.2.2 + r7) :: _))
      refine lv_iload hx hb dX12_inForceAt_28 (lv_at hl 4 rfl) ?_
      obtain ⟨ha9, hf⟩ := jif hf
      refine jiald E hM ha9 dX12_inForceAt_30 ?_
      refine lv_iload_n hx hb dX12_inForceAt_31 rfl (lv_at hl 2 rfl) ?_
      refine lv_icmp_gt (tgt := 60) hx hb dX12_inForceAt_32 (by decide) (fun c10 => ?_) (fun c10 => ?_)
      · have hf := jt c10 hf
        exact B_X12_inForceAt_60 E ih hf hM (lv_sub hl [0, 1, 2, 3, 4] rfl)
      · have hf := jf c10 hf
        refine lv_iload_n hx hb dX12_inForceAt_35 rfl (lv_at hl 3 rfl) ?_
        refine lv_if_lt (tgt := 55) hx hb dX12_inForceAt_36 (by decide) (fun c11 => ?_) (fun c11 => ?_)
        · have hf := jt c11 hf
          exact B_X12_inForceAt_55 E ih hf hM (lv_sub hl [0, 1, 2, 4] rfl)
        · have hf := jf c11 hf
          refine lv_aload_n hx hb dX12_inForceAt_39 rfl (lv_at hl 0 rfl) ?_
          refine gt_147 E hM hq2 lk_6_61 dX12_inForceAt_40 ?_
          obtain ⟨r12, hr13, hf⟩ := jb hf
          rw [hr13]
          show W p l e _ s m args below meth c H locs 0 0 _ (F0 m _ ls (.ref (g.2.2 + r12) :: _))
          refine lv_iload hx hb dX12_inForceAt_43 (lv_at hl 4 rfl) ?_
          obtain ⟨ha14, hf⟩ := jif hf
          refine jiald E hM ha14 dX12_inForceAt_45 ?_
          refine lv_aload_n hx hb dX12_inForceAt_46 rfl (lv_at hl 0 rfl) ?_
          refine gt_147 E hM hq2 lk_6_61 dX12_inForceAt_47 ?_
          obtain ⟨r15, hr16, hf⟩ := jb hf
          rw [hr16]
          show W p l e _ s m args below meth c H locs 0 0 _ (F0 m _ ls (.ref (g.2.2 + r15) :: _))
          refine lv_iload_n hx hb dX12_inForceAt_50 rfl (lv_at hl 3 rfl) ?_
          obtain ⟨ha17, hf⟩ := jif hf
          refine jiald E hM ha17 dX12_inForceAt_51 ?_
          refine lv_icmp_le (tgt := 60) hx hb dX12_inForceAt_52 (by decide) (fun c18 => ?_) (fun c18 => ?_)
          · have hf := jt c18 hf
            exact B_X12_inForceAt_60 E ih hf hM (lv_sub hl [0, 1, 2, 3, 4] rfl)
          · have hf := jf c18 hf
            exact B_X12_inForceAt_55 E ih hf hM (lv_sub hl [0, 1, 2, 4] rfl)
set_option maxRecDepth 100000 in
set_option maxHeartbeats 4000000 in
theorem B_X12_inForceAt_0 {p : Program} {l : Launch} {e : Env} {s : State} {m : MethodId} {args : Array Value} {below : List Frame} {meth : Method} {c : Code} {g : jG} {rr : Int32} {S : jM} {v0 : Nat} {v1 : Int32} {v2 : Int32} (E : jEnv p s m args meth c cX12_inForceAt "PensionHouseModel" (some .int) 5 g)  {H : Heap} {locs : List Loc} {ls : Array Slot} (hf : f_X12_inForceAt v0 v1 v2 S = some rr) (hM : jAt g S s H locs) (hl : lv_has ls 5 [(0, .ref (g.2.2 + v0)), (1, .int v1), (2, .int v2)]) : W p l e (jRm 1 0 0) s m args below meth c H locs 0 0 (MQ below (jQi g rr S) args s 0 0 (jA0 g)) (F0 m 0 ls []) := by
  obtain ⟨hx, hb, hml, -, hts, hown, hK, -, hstr⟩ := id E
  unfold f_X12_inForceAt at hf
  refine lv_iconst (v := (-1 : Int32)) hx hb dX12_inForceAt_0 (by decide) ?_
  refine lv_istore_n (lv' := [(3, .int (-1 : Int32)), (0, .ref (g.2.2 + v0)), (1, .int v1), (2, .int v2)]) hx hb dX12_inForceAt_1 rfl hl (by decide) rfl (fun ls hl => ?_)
  refine lv_bipush (v := (8 : Int32)) hx hb dX12_inForceAt_2 (by decide) ?_
  refine lv_iload_n hx hb dX12_inForceAt_4 rfl (lv_at hl 2 rfl) ?_
  refine lv_imul hx hb dX12_inForceAt_5 ?_
  refine lv_topi (fun x19 ex19 => ?_)
  have hf := jlet_y ex19 hf
  refine lv_istore (lv' := [(4, .int x19), (3, .int (-1 : Int32)), (0, .ref (g.2.2 + v0)), (1, .int v1), (2, .int v2)]) hx hb dX12_inForceAt_6 hl (by decide) rfl (fun ls hl => ?_)
  exact B_X12_inForceAt_8 E  1100000 v0 v1 v2 (-1 : Int32) x19 _ _ _ hf hM (lv_sub hl [2, 3, 4, 1, 0] rfl)
set_option maxRecDepth 100000 in
theorem C_X12_inForceAt {l : Launch} {g : jG} {a0 : Nat} {a1 : Int32} {a2 : Int32} {S : jM} {rr : Int32} (hf : f_X12_inForceAt a0 a1 a2 S = some rr) : jMet l g yX12_inForceAt cX12_inForceAt 5 (some .int) 1 0 0 [.ref (g.2.2 + a0), .int a1, .int a2] S (jQi g rr S) := by
  refine jof (by decide +kernel) (Nat.le_of_ble_eq_true rfl) ?_
  intro p e s m below meth c E hM ls hl
  have hl : lv_has ls 5 [(0, .ref (g.2.2 + a0)),(1, .int a1),(2, .int a2)] := hl
  exact B_X12_inForceAt_0 E hf hM hl
-- PensionHouseModel.beginCase(IIIII)I  mode M
noncomputable def f_X12_beginCase_62 : Nat → Nat → Int32 → Int32 → jM → Option (Int32 × jM)
  | 0, _, _, _, _ => none
  | n + 1, v0, v2, v6, S => if (24 : Int32) ≤ v6 then if jK v0 = 10 then jlet (jsI S 122 v0 v2) (fun S3 => jbd (f_X12_workRule (g_V 1000) v0 v2 S3) (fun x4 S5 => some (x4, S5))) else none else if jK v0 = 10 then (jR S 128 v0).bind (fun r8 => if jA r8 13 v6 = true then jlet (jrI S r8 (upd (jAI S r8) (v6).toNatClampNeg (0 : Int32))) (fun S11 => jlet (v6 + (1 : Int32)) (fun x12 => (f_X12_beginCase_62 n) v0 v2 x12 S11)) else none) else none
noncomputable def f_X12_beginCase (v0 : Nat) (v1 : Int32) (v2 : Int32) (v3 : Int32) (v4 : Int32) (v5 : Int32) (S : jM) : Option (Int32 × jM) := if jK v0 = 10 then jlet (jsI S 118 v0 v1) (fun S14 => jlet (jsI S14 119 v0 v3) (fun S15 => jlet (jsI S15 120 v0 v4) (fun S16 => jlet (jsI S16 121 v0 v5) (fun S17 => jlet (jsI S17 92 v0 (226 : Int32)) (fun S18 => jlet (jsI S18 123 v0 (0 : Int32)) (fun S19 => jlet (jsI S19 124 v0 (0 : Int32)) (fun S20 => jlet (jsI S20 125 v0 (0 : Int32)) (fun S21 => jlet (jsI S21 126 v0 (0 : Int32)) (fun S22 => jlet (jsI S22 127 v0 (-1 : Int32)) (fun S23 => jlet (jsI S23 133 v0 (0 : Int32)) (fun S24 => f_X12_beginCase_62 1100000 v0 v2 (0 : Int32) S24))))))))))) else none
set_option maxRecDepth 100000 in
set_option maxHeartbeats 4000000 in
theorem B_X12_beginCase_62 {p : Program} {l : Launch} {e : Env} {s : State} {m : MethodId} {args : Array Value} {below : List Frame} {meth : Method} {c : Code} {g : jG} {rr : Int32} {SS : jM} (E : jEnv p s m args meth c cX12_beginCase "PensionHouseModel" (some .int) 7 g)  : ∀ (n : Nat) (v0 : Nat) (v2 : Int32) (v6 : Int32) (S : jM) (H : Heap) (locs : List Loc) (ls : Array Slot), f_X12_beginCase_62 n v0 v2 v6 S = some (rr, SS) → jAt g S s H locs → lv_has ls 7 [(0, .ref (g.2.2 + v0)), (2, .int v2), (6, .int v6)] → W p l e (jRm 1018 0 0) s m args below meth c H locs 0 0 (MQ below (jQi g rr SS) args s 0 0 (jA0 g)) (F0 m 62 ls []) := by
  obtain ⟨hx, hb, hml, -, hts, hown, hK, -, hstr⟩ := id E
  intro n
  induction n with
  | zero => intro v0 v2 v6 S H locs ls hf hM hl; rw [f_X12_beginCase_62] at hf; cases hf
  | succ n ih =>
    intro v0 v2 v6 S H locs ls hf hM hl
    rw [f_X12_beginCase_62] at hf
    refine lv_iload hx hb dX12_beginCase_62 (lv_at hl 2 rfl) ?_
    refine lv_bipush (v := (24 : Int32)) hx hb dX12_beginCase_64 (by decide) ?_
    refine lv_icmp_ge (tgt := 83) hx hb dX12_beginCase_66 (by decide) (fun c1 => ?_) (fun c1 => ?_)
    · have hf := jt c1 hf
      refine lv_aload_n hx hb dX12_beginCase_83 rfl (lv_at hl 0 rfl) ?_
      refine lv_iload_n hx hb dX12_beginCase_84 rfl (lv_at hl 1 rfl) ?_
      obtain ⟨hq2, hf⟩ := jif hf
      refine pt_122 E hM hq2 lk_6_36 dX12_beginCase_85 (fun H locs S3 eS3 hM => ?_)
      have hf := jlet_y eS3 hf
      refine lv_aload_n hx hb dX12_beginCase_88 rfl (lv_at hl 0 rfl) ?_
      refine lv_iload_n hx hb dX12_beginCase_89 rfl (lv_at hl 1 rfl) ?_
      obtain ⟨x4, S5, hc6, hf⟩ := jbd_e hf
      refine jbackI hM (jrunV E hM ci_X12_workRule (C_X12_workRule hc6) lk_8_75 hq2 (by decide) rfl hl.1 rfl rfl (Nat.le_of_ble_eq_true rfl) ⟨Nat.le_of_ble_eq_true rfl, Nat.le_of_ble_eq_true rfl⟩ ⟨Nat.le_refl _, Nat.le_refl _⟩ dX12_beginCase_90) (fun H locs hM => ?_)
      exact jireti (jr2 hf) E hM dX12_beginCase_93
    · have hf := jf c1 hf
      refine lv_aload_n hx hb dX12_beginCase_69 rfl (lv_at hl 0 rfl) ?_
      obtain ⟨hq7, hf⟩ := jif hf
      refine gt_128 E hM hq7 lk_6_42 dX12_beginCase_70 ?_
      obtain ⟨r8, hr9, hf⟩ := jb hf
      rw [hr9]
      show W p l e _ s m args below meth c H locs 0 0 _ (F0 m _ ls (.ref (g.2.2 + r8) :: _))
      refine lv_iload hx hb dX12_beginCase_73 (lv_at hl 2 rfl) ?_
      refine lv_iconst (v := (0 : Int32)) hx hb dX12_beginCase_75 (by decide) ?_
      obtain ⟨ha10, hf⟩ := jif hf
      refine jiast E hM ha10 dX12_beginCase_76 (fun H locs S11 eS11 hM => ?_)
      have hf := jlet_y eS11 hf
      obtain ⟨x12, ex12⟩ : ∃ z, z = v6 + (1 : Int32) := ⟨_, rfl⟩
      have hf := jlet_y ex12 hf
      refine lv_iinc (v := x12) (lv' := [(6, .int x12), (0, .ref (g.2.2 + v0)), (2, .int v2)]) hx hb dX12_beginCase_77 hl (k := 2) rfl (by rw [ex12]; rfl) (by decide) rfl (fun ls hl => ?_)
      refine lv_goto (tgt := 62) hx hb dX12_beginCase_80 (by decide) ?_
      exact ih v0 v2 x12 S11 _ _ _ hf hM (lv_sub hl [1, 2, 0] rfl)
set_option maxRecDepth 100000 in
set_option maxHeartbeats 4000000 in
theorem B_X12_beginCase_0 {p : Program} {l : Launch} {e : Env} {s : State} {m : MethodId} {args : Array Value} {below : List Frame} {meth : Method} {c : Code} {g : jG} {rr : Int32} {SS : jM} {v0 : Nat} {v1 : Int32} {v2 : Int32} {v3 : Int32} {v4 : Int32} {v5 : Int32} {S : jM} (E : jEnv p s m args meth c cX12_beginCase "PensionHouseModel" (some .int) 7 g)  {H : Heap} {locs : List Loc} {ls : Array Slot} (hf : f_X12_beginCase v0 v1 v2 v3 v4 v5 S = some (rr, SS)) (hM : jAt g S s H locs) (hl : lv_has ls 7 [(0, .ref (g.2.2 + v0)), (1, .int v1), (2, .int v2), (3, .int v3), (4, .int v4), (5, .int v5)]) : W p l e (jRm 1018 0 0) s m args below meth c H locs 0 0 (MQ below (jQi g rr SS) args s 0 0 (jA0 g)) (F0 m 0 ls []) := by
  obtain ⟨hx, hb, hml, -, hts, hown, hK, -, hstr⟩ := id E
  unfold f_X12_beginCase at hf
  refine lv_aload_n hx hb dX12_beginCase_0 rfl (lv_at hl 0 rfl) ?_
  refine lv_iload_n hx hb dX12_beginCase_1 rfl (lv_at hl 1 rfl) ?_
  obtain ⟨hq13, hf⟩ := jif hf
  refine pt_118 E hM hq13 lk_6_32 dX12_beginCase_2 (fun H locs S14 eS14 hM => ?_)
  have hf := jlet_y eS14 hf
  refine lv_aload_n hx hb dX12_beginCase_5 rfl (lv_at hl 0 rfl) ?_
  refine lv_iload_n hx hb dX12_beginCase_6 rfl (lv_at hl 3 rfl) ?_
  refine pt_119 E hM hq13 lk_6_33 dX12_beginCase_7 (fun H locs S15 eS15 hM => ?_)
  have hf := jlet_y eS15 hf
  refine lv_aload_n hx hb dX12_beginCase_10 rfl (lv_at hl 0 rfl) ?_
  refine lv_iload hx hb dX12_beginCase_11 (lv_at hl 4 rfl) ?_
  refine pt_120 E hM hq13 lk_6_34 dX12_beginCase_13 (fun H locs S16 eS16 hM => ?_)
  have hf := jlet_y eS16 hf
  refine lv_aload_n hx hb dX12_beginCase_16 rfl (lv_at hl 0 rfl) ?_
  refine lv_iload hx hb dX12_beginCase_17 (lv_at hl 5 rfl) ?_
  refine pt_121 E hM hq13 lk_6_35 dX12_beginCase_19 (fun H locs S17 eS17 hM => ?_)
  have hf := jlet_y eS17 hf
  refine lv_aload_n hx hb dX12_beginCase_22 rfl (lv_at hl 0 rfl) ?_
  refine lv_sipush (v := (226 : Int32)) hx hb dX12_beginCase_23 (by decide) ?_
  refine pt_92 E hM hq13 lk_6_6 dX12_beginCase_26 (fun H locs S18 eS18 hM => ?_)
  have hf := jlet_y eS18 hf
  refine lv_aload_n hx hb dX12_beginCase_29 rfl (lv_at hl 0 rfl) ?_
  refine lv_iconst (v := (0 : Int32)) hx hb dX12_beginCase_30 (by decide) ?_
  refine pt_123 E hM hq13 lk_6_37 dX12_beginCase_31 (fun H locs S19 eS19 hM => ?_)
  have hf := jlet_y eS19 hf
  refine lv_aload_n hx hb dX12_beginCase_34 rfl (lv_at hl 0 rfl) ?_
  refine lv_iconst (v := (0 : Int32)) hx hb dX12_beginCase_35 (by decide) ?_
  refine pt_124 E hM hq13 lk_6_38 dX12_beginCase_36 (fun H locs S20 eS20 hM => ?_)
  have hf := jlet_y eS20 hf
  refine lv_aload_n hx hb dX12_beginCase_39 rfl (lv_at hl 0 rfl) ?_
  refine lv_iconst (v := (0 : Int32)) hx hb dX12_beginCase_40 (by decide) ?_
  refine pt_125 E hM hq13 lk_6_39 dX12_beginCase_41 (fun H locs S21 eS21 hM => ?_)
  have hf := jlet_y eS21 hf
  refine lv_aload_n hx hb dX12_beginCase_44 rfl (lv_at hl 0 rfl) ?_
  refine lv_iconst (v := (0 : Int32)) hx hb dX12_beginCase_45 (by decide) ?_
  refine pt_126 E hM hq13 lk_6_40 dX12_beginCase_46 (fun H locs S22 eS22 hM => ?_)
  have hf := jlet_y eS22 hf
  refine lv_aload_n hx hb dX12_beginCase_49 rfl (lv_at hl 0 rfl) ?_
  refine lv_iconst (v := (-1 : Int32)) hx hb dX12_beginCase_50 (by decide) ?_
  refine pt_127 E hM hq13 lk_6_41 dX12_beginCase_51 (fun H locs S23 eS23 hM => ?_)
  have hf := jlet_y eS23 hf
  refine lv_aload_n hx hb dX12_beginCase_54 rfl (lv_at hl 0 rfl) ?_
  refine lv_iconst (v := (0 : Int32)) hx hb dX12_beginCase_55 (by decide) ?_
  refine pt_133 E hM hq13 lk_6_47 dX12_beginCase_56 (fun H locs S24 eS24 hM => ?_)
  have hf := jlet_y eS24 hf
  refine lv_iconst (v := (0 : Int32)) hx hb dX12_beginCase_59 (by decide) ?_
  refine lv_istore (lv' := [(6, .int (0 : Int32)), (0, .ref (g.2.2 + v0)), (1, .int v1), (2, .int v2), (3, .int v3), (4, .int v4), (5, .int v5)]) hx hb dX12_beginCase_60 hl (by decide) rfl (fun ls hl => ?_)
  exact B_X12_beginCase_62 E  1100000 v0 v2 (0 : Int32) S24 _ _ _ hf hM (lv_sub hl [1, 3, 0] rfl)
set_option maxRecDepth 100000 in
theorem C_X12_beginCase {l : Launch} {g : jG} {a0 : Nat} {a1 : Int32} {a2 : Int32} {a3 : Int32} {a4 : Int32} {a5 : Int32} {S : jM} {rr : Int32} {SS : jM} (hf : f_X12_beginCase a0 a1 a2 a3 a4 a5 S = some (rr, SS)) : jMet l g yX12_beginCase cX12_beginCase 7 (some .int) 1018 0 0 [.ref (g.2.2 + a0), .int a1, .int a2, .int a3, .int a4, .int a5] S (jQi g rr SS) := by
  refine jof (by decide +kernel) (Nat.le_of_ble_eq_true rfl) ?_
  intro p e s m below meth c E hM ls hl
  have hl : lv_has ls 7 [(0, .ref (g.2.2 + a0)),(1, .int a1),(2, .int a2),(3, .int a3),(4, .int a4),(5, .int a5)] := hl
  exact B_X12_beginCase_0 E hf hM hl
-- PensionHouseModel.workDue(IIII)I  mode M
noncomputable def f_X12_workDue_16 (v0 : Nat) (v1 : Int32) (v2 : Int32) (v3 : Int32) (v4 : Int32) (t0 : Int32) (S : jM) : Option (Int32 × jM) := if 0 ≤ t0 then if jK v0 = 10 then jbd (f_X12_beginCase v0 v1 t0 v2 v3 v4 S) (fun x2 S3 => jlet (jsI S3 156 v0 x2) (fun S6 => if 0 ≤ (jI S6 156 v0) then some ((0 : Int32), S6) else some (jI S6 126 v0, S6))) else none else some ((1 : Int32), S)
noncomputable def f_X12_workDue (v0 : Nat) (v1 : Int32) (v2 : Int32) (v3 : Int32) (v4 : Int32) (S : jM) : Option (Int32 × jM) := if 0 ≤ v1 then if jK v0 = 10 then (f_X12_findRule v0 v1 (6583653 : Int64) S).bind (fun x9 => f_X12_workDue_16 v0 v1 v2 v3 v4 x9 S) else none else f_X12_workDue_16 v0 v1 v2 v3 v4 (-1 : Int32) S
set_option maxRecDepth 100000 in
set_option maxHeartbeats 4000000 in
theorem B_X12_workDue_16 {p : Program} {l : Launch} {e : Env} {s : State} {m : MethodId} {args : Array Value} {below : List Frame} {meth : Method} {c : Code} {g : jG} {rr : Int32} {SS : jM} {v0 : Nat} {v1 : Int32} {v2 : Int32} {v3 : Int32} {v4 : Int32} {t0 : Int32} {S : jM} (E : jEnv p s m args meth c cX12_workDue "PensionHouseModel" (some .int) 6 g)  {H : Heap} {locs : List Loc} {ls : Array Slot} (hf : f_X12_workDue_16 v0 v1 v2 v3 v4 t0 S = some (rr, SS)) (hM : jAt g S s H locs) (hl : lv_has ls 6 [(0, .ref (g.2.2 + v0)), (1, .int v1), (2, .int v2), (3, .int v3), (4, .int v4)]) : W p l e (jRm 1019 0 0) s m args below meth c H locs 0 0 (MQ below (jQi g rr SS) args s 0 0 (jA0 g)) (F0 m 16 ls [.int t0]) := by
  obtain ⟨hx, hb, hml, -, hts, hown, hK, -, hstr⟩ := id E
  unfold f_X12_workDue_16 at hf
  refine lv_istore (lv' := [(5, .int t0), (0, .ref (g.2.2 + v0)), (1, .int v1), (2, .int v2), (3, .int v3), (4, .int v4)]) hx hb dX12_workDue_16 hl (by decide) rfl (fun ls hl => ?_)
  refine lv_iload hx hb dX12_workDue_18 (lv_at hl 0 rfl) ?_
  refine lv_if_ge (tgt := 25) hx hb dX12_workDue_20 (by decide) (fun c1 => ?_) (fun c1 => ?_)
  · have hf := jt c1 hf
    refine lv_aload_n hx hb dX12_workDue_25 rfl (lv_at hl 1 rfl) ?_
    refine lv_aload_n hx hb dX12_workDue_26 rfl (lv_at hl 1 rfl) ?_
    refine lv_iload_n hx hb dX12_workDue_27 rfl (lv_at hl 2 rfl) ?_
    refine lv_iload hx hb dX12_workDue_28 (lv_at hl 0 rfl) ?_
    refine lv_iload_n hx hb dX12_workDue_30 rfl (lv_at hl 3 rfl) ?_
    refine lv_iload_n hx hb dX12_workDue_31 rfl (lv_at hl 4 rfl) ?_
    refine lv_iload hx hb dX12_workDue_32 (lv_at hl 5 rfl) ?_
    obtain ⟨hq5, hf⟩ := jif hf
    obtain ⟨x2, S3, hc4, hf⟩ := jbd_e hf
    refine jbackI hM (jrunV E hM ci_X12_beginCase (C_X12_beginCase hc4) lk_8_71 hq5 (by decide) rfl hl.1 rfl rfl (Nat.le_of_ble_eq_true rfl) ⟨Nat.le_of_ble_eq_true rfl, Nat.le_of_ble_eq_true rfl⟩ ⟨Nat.le_refl _, Nat.le_refl _⟩ dX12_workDue_34) (fun H locs hM => ?_)
    refine pt_156 E hM hq5 lk_6_70 dX12_workDue_37 (fun H locs S6 eS6 hM => ?_)
    have hf := jlet_y eS6 hf
    refine lv_aload_n hx hb dX12_workDue_40 rfl (lv_at hl 1 rfl) ?_
    refine gt_156 E hM hq5 lk_6_70 dX12_workDue_41 ?_
    refine lv_if_ge (tgt := 54) hx hb dX12_workDue_44 (by decide) (fun c7 => ?_) (fun c7 => ?_)
    · have hf := jt c7 hf
      refine lv_iconst (v := (0 : Int32)) hx hb dX12_workDue_54 (by decide) ?_
      exact jireti (jr2 hf) E hM dX12_workDue_55
    · have hf := jf c7 hf
      refine lv_aload_n hx hb dX12_workDue_47 rfl (lv_at hl 1 rfl) ?_
      refine gt_126 E hM hq5 lk_6_40 dX12_workDue_48 ?_
      refine lv_goto (tgt := 55) hx hb dX12_workDue_51 (by decide) ?_
      exact jireti (jr2 hf) E hM dX12_workDue_55
  · have hf := jf c1 hf
    refine lv_iconst (v := (1 : Int32)) hx hb dX12_workDue_23 (by decide) ?_
    exact jireti (jr2 hf) E hM dX12_workDue_24
set_option maxRecDepth 100000 in
set_option maxHeartbeats 4000000 in
theorem B_X12_workDue_0 {p : Program} {l : Launch} {e : Env} {s : State} {m : MethodId} {args : Array Value} {below : List Frame} {meth : Method} {c : Code} {g : jG} {rr : Int32} {SS : jM} {v0 : Nat} {v1 : Int32} {v2 : Int32} {v3 : Int32} {v4 : Int32} {S : jM} (E : jEnv p s m args meth c cX12_workDue "PensionHouseModel" (some .int) 6 g)  {H : Heap} {locs : List Loc} {ls : Array Slot} (hf : f_X12_workDue v0 v1 v2 v3 v4 S = some (rr, SS)) (hM : jAt g S s H locs) (hl : lv_has ls 6 [(0, .ref (g.2.2 + v0)), (1, .int v1), (2, .int v2), (3, .int v3), (4, .int v4)]) : W p l e (jRm 1019 0 0) s m args below meth c H locs 0 0 (MQ below (jQi g rr SS) args s 0 0 (jA0 g)) (F0 m 0 ls []) := by
  obtain ⟨hx, hb, hml, -, hts, hown, hK, -, hstr⟩ := id E
  unfold f_X12_workDue at hf
  refine lv_iload_n hx hb dX12_workDue_0 rfl (lv_at hl 1 rfl) ?_
  refine lv_if_ge (tgt := 8) hx hb dX12_workDue_1 (by decide) (fun c8 => ?_) (fun c8 => ?_)
  · have hf := jt c8 hf
    refine lv_aload_n hx hb dX12_workDue_8 rfl (lv_at hl 0 rfl) ?_
    refine lv_iload_n hx hb dX12_workDue_9 rfl (lv_at hl 1 rfl) ?_
    refine lv_ldc2 (v := (6583653 : Int64)) hx hb hown (hts _ lk_8_234) dX12_workDue_10 ?_
    obtain ⟨hq11, hf⟩ := jif hf
    obtain ⟨x9, hc10, hf⟩ := jb hf
    refine jbackI hM (jrunV E hM ci_X12_findRule (C_X12_findRule hc10) lk_7_229 hq11 (by decide) rfl hl.1 rfl rfl (Nat.le_of_ble_eq_true rfl) ⟨Nat.le_of_ble_eq_true rfl, Nat.le_of_ble_eq_true rfl⟩ ⟨Nat.le_refl _, Nat.le_refl _⟩ dX12_workDue_13) (fun H locs hM => ?_)
    exact B_X12_workDue_16 E  hf hM (lv_sub hl [0, 1, 2, 3, 4] rfl)
  · have hf := jf c8 hf
    refine lv_iconst (v := (-1 : Int32)) hx hb dX12_workDue_4 (by decide) ?_
    refine lv_goto (tgt := 16) hx hb dX12_workDue_5 (by decide) ?_
    exact B_X12_workDue_16 E  hf hM (lv_sub hl [0, 1, 2, 3, 4] rfl)
set_option maxRecDepth 100000 in
theorem C_X12_workDue {l : Launch} {g : jG} {a0 : Nat} {a1 : Int32} {a2 : Int32} {a3 : Int32} {a4 : Int32} {S : jM} {rr : Int32} {SS : jM} (hf : f_X12_workDue a0 a1 a2 a3 a4 S = some (rr, SS)) : jMet l g yX12_workDue cX12_workDue 6 (some .int) 1019 0 0 [.ref (g.2.2 + a0), .int a1, .int a2, .int a3, .int a4] S (jQi g rr SS) := by
  refine jof (by decide +kernel) (Nat.le_of_ble_eq_true rfl) ?_
  intro p e s m below meth c E hM ls hl
  have hl : lv_has ls 6 [(0, .ref (g.2.2 + a0)),(1, .int a1),(2, .int a2),(3, .int a3),(4, .int a4)] := hl
  exact B_X12_workDue_0 E hf hM hl
-- PensionHouseModel.dueOf(III)J  mode M
noncomputable def f_X12_dueOf_54 (v0 : Nat) (t0 : Nat) (t1 : Int32) (S : jM) : Option (Int64 × jM) := if jK t0 = 10 then if jZ t1 = true then jlet (jsI S 176 t0 t1) (fun S2 => if jK v0 = 10 then if (jI S2 176 v0) = 0 then (jR S2 90 v0).bind (fun r6 => if jA r6 14 ((12 : Int32) * (jI S2 156 v0)) = true then jlet (jAL S2 r6 ((12 : Int32) * (jI S2 156 v0)).toNatClampNeg) (fun x9 => if (0 : Int64) ≤ x9 then if x9 ≤ (1000000000 : Int64) then some (x9, S2) else some ((1000000000 : Int64), S2) else some ((0 : Int64), S2)) else none) else some ((0 : Int64), S2) else none) else none else none
noncomputable def f_X12_dueOf_49 (v0 : Nat) (t0 : Nat) (S : jM) : Option (Int64 × jM) := f_X12_dueOf_54 v0 t0 (1 : Int32) S
noncomputable def f_X12_dueOf (v0 : Nat) (v1 : Int32) (v2 : Int32) (v3 : Int32) (S : jM) : Option (Int64 × jM) := if jK v0 = 10 then (jR S 158 v0).bind (fun r13 => if jA r13 13 v1 = true then (f_X12_inForceAt v0 (jAI S r13 (v1).toNatClampNeg) ((30 : Int32) * v2) S).bind (fun x16 => (jR S 157 v0).bind (fun r18 => if jA r18 13 v1 = true then jbd (f_X12_workDue v0 x16 (jAI S r18 (v1).toNatClampNeg) ((30 : Int32) * v2) v3 S) (fun x21 S22 => if x21 = 0 then (jR S22 88 v0).bind (fun r25 => if jA r25 13 (jI S22 156 v0) = true then if (jAI S22 r25 (jI S22 156 v0).toNatClampNeg) = 0 then f_X12_dueOf_54 v0 v0 (0 : Int32) S22 else f_X12_dueOf_49 v0 v0 S22 else none) else f_X12_dueOf_49 v0 v0 S22) else none)) else none) else none
set_option maxRecDepth 100000 in
set_option maxHeartbeats 4000000 in
theorem B_X12_dueOf_54 {p : Program} {l : Launch} {e : Env} {s : State} {m : MethodId} {args : Array Value} {below : List Frame} {meth : Method} {c : Code} {g : jG} {rr : Int64} {SS : jM} {v0 : Nat} {t0 : Nat} {t1 : Int32} {S : jM} (E : jEnv p s m args meth c cX12_dueOf "PensionHouseModel" (some .long) 7 g)  {H : Heap} {locs : List Loc} {ls : Array Slot} (hf : f_X12_dueOf_54 v0 t0 t1 S = some (rr, SS)) (hM : jAt g S s H locs) (hl : lv_has ls 7 [(0, .ref (g.2.2 + v0))]) : W p l e (jRm 1020 0 0) s m args below meth c H locs 0 0 (MQ below (jQl g rr SS) args s 0 0 (jA0 g)) (F0 m 54 ls [.int t1, .ref (g.2.2 + t0)]) := by
  obtain ⟨hx, hb, hml, -, hts, hown, hK, -, hstr⟩ := id E
  unfold f_X12_dueOf_54 at hf
  obtain ⟨hq1, hf⟩ := jif hf
  obtain ⟨hz3, hf⟩ := jif hf
  refine pt_176 E hM hq1 lk_6_90 hz3 dX12_dueOf_54 (fun H locs S2 eS2 hM => ?_)
  have hf := jlet_y eS2 hf
  refine lv_aload_n hx hb dX12_dueOf_57 rfl (lv_at hl 0 rfl) ?_
  obtain ⟨hq4, hf⟩ := jif hf
  refine gt_176 E hM hq4 lk_6_90 dX12_dueOf_58 ?_
  refine lv_if_eq (tgt := 66) hx hb dX12_dueOf_61 (by decide) (fun c5 => ?_) (fun c5 => ?_)
  · have hf := jt c5 hf
    refine lv_aload_n hx hb dX12_dueOf_66 rfl (lv_at hl 0 rfl) ?_
    refine gt_90 E hM hq4 lk_6_4 dX12_dueOf_67 ?_
    obtain ⟨r6, hr7, hf⟩ := jb hf
    rw [hr7]
    show W p l e _ s m args below meth c H locs 0 0 _ (F0 m _ ls (.ref (g.2.2 + r6) :: _))
    refine lv_bipush (v := (12 : Int32)) hx hb dX12_dueOf_70 (by decide) ?_
    refine lv_aload_n hx hb dX12_dueOf_72 rfl (lv_at hl 0 rfl) ?_
    refine gt_156 E hM hq4 lk_6_70 dX12_dueOf_73 ?_
    refine lv_imul hx hb dX12_dueOf_76 ?_
    obtain ⟨ha8, hf⟩ := jif hf
    refine jlald E hM ha8 dX12_dueOf_77 ?_
    refine lv_topl (fun x9 ex9 => ?_)
    have hf := jlet_y ex9 hf
    refine lv_lstore (lv' := [(5, .long x9), (0, .ref (g.2.2 + v0))]) hx hb dX12_dueOf_78 hl (by decide) rfl (fun ls hl => ?_)
    refine lv_lload hx hb dX12_dueOf_80 (lv_at hl 0 rfl) ?_
    refine lv_lconst (v := (0 : Int64)) hx hb dX12_dueOf_82 (by decide) ?_
    refine jl_ge (tgt := 91) hx hb dX12_dueOf_83 dX12_dueOf_84 (by decide) (fun c10 => ?_) (fun c10 => ?_)
    · have hf := jt c10 hf
      refine lv_lload hx hb dX12_dueOf_91 (lv_at hl 0 rfl) ?_
      refine lv_ldc2 (v := (1000000000 : Int64)) hx hb hown (hts _ lk_9_11) dX12_dueOf_93 ?_
      refine jl_le (tgt := 106) hx hb dX12_dueOf_96 dX12_dueOf_97 (by decide) (fun c11 => ?_) (fun c11 => ?_)
      · have hf := jt c11 hf
        refine lv_lload hx hb dX12_dueOf_106 (lv_at hl 0 rfl) ?_
        exact jlret (jr2 hf) E hM dX12_dueOf_108
      · have hf := jf c11 hf
        refine lv_ldc2 (v := (1000000000 : Int64)) hx hb hown (hts _ lk_9_11) dX12_dueOf_100 ?_
        refine lv_goto (tgt := 108) hx hb dX12_dueOf_103 (by decide) ?_
        exact jlret (jr2 hf) E hM dX12_dueOf_108
    · have hf := jf c10 hf
      refine lv_lconst (v := (0 : Int64)) hx hb dX12_dueOf_87 (by decide) ?_
      refine lv_goto (tgt := 108) hx hb dX12_dueOf_88 (by decide) ?_
      exact jlret (jr2 hf) E hM dX12_dueOf_108
  · have hf := jf c5 hf
    refine lv_lconst (v := (0 : Int64)) hx hb dX12_dueOf_64 (by decide) ?_
    exact jlret (jr2 hf) E hM dX12_dueOf_65
set_option maxRecDepth 100000 in
set_option maxHeartbeats 4000000 in
theorem B_X12_dueOf_49 {p : Program} {l : Launch} {e : Env} {s : State} {m : MethodId} {args : Array Value} {below : List Frame} {meth : Method} {c : Code} {g : jG} {rr : Int64} {SS : jM} {v0 : Nat} {t0 : Nat} {S : jM} (E : jEnv p s m args meth c cX12_dueOf "PensionHouseModel" (some .long) 7 g)  {H : Heap} {locs : List Loc} {ls : Array Slot} (hf : f_X12_dueOf_49 v0 t0 S = some (rr, SS)) (hM : jAt g S s H locs) (hl : lv_has ls 7 [(0, .ref (g.2.2 + v0))]) : W p l e (jRm 1020 0 0) s m args below meth c H locs 0 0 (MQ below (jQl g rr SS) args s 0 0 (jA0 g)) (F0 m 49 ls [.ref (g.2.2 + t0)]) := by
  obtain ⟨hx, hb, hml, -, hts, hown, hK, -, hstr⟩ := id E
  unfold f_X12_dueOf_49 at hf
  refine lv_iconst (v := (1 : Int32)) hx hb dX12_dueOf_49 (by decide) ?_
  refine lv_goto (tgt := 54) hx hb dX12_dueOf_50 (by decide) ?_
  exact B_X12_dueOf_54 E  hf hM (lv_sub hl [0] rfl)
set_option maxRecDepth 100000 in
set_option maxHeartbeats 4000000 in
theorem B_X12_dueOf_0 {p : Program} {l : Launch} {e : Env} {s : State} {m : MethodId} {args : Array Value} {below : List Frame} {meth : Method} {c : Code} {g : jG} {rr : Int64} {SS : jM} {v0 : Nat} {v1 : Int32} {v2 : Int32} {v3 : Int32} {S : jM} (E : jEnv p s m args meth c cX12_dueOf "PensionHouseModel" (some .long) 7 g)  {H : Heap} {locs : List Loc} {ls : Array Slot} (hf : f_X12_dueOf v0 v1 v2 v3 S = some (rr, SS)) (hM : jAt g S s H locs) (hl : lv_has ls 7 [(0, .ref (g.2.2 + v0)), (1, .int v1), (2, .int v2), (3, .int v3)]) : W p l e (jRm 1020 0 0) s m args below meth c H locs 0 0 (MQ below (jQl g rr SS) args s 0 0 (jA0 g)) (F0 m 0 ls []) := by
  obtain ⟨hx, hb, hml, -, hts, hown, hK, -, hstr⟩ := id E
  unfold f_X12_dueOf at hf
  refine lv_aload_n hx hb dX12_dueOf_0 rfl (lv_at hl 0 rfl) ?_
  refine lv_aload_n hx hb dX12_dueOf_1 rfl (lv_at hl 0 rfl) ?_
  obtain ⟨hq12, hf⟩ := jif hf
  refine gt_158 E hM hq12 lk_6_72 dX12_dueOf_2 ?_
  obtain ⟨r13, hr14, hf⟩ := jb hf
  rw [hr14]
  show W p l e _ s m args below meth c H locs 0 0 _ (F0 m _ ls (.ref (g.2.2 + r13) :: _))
  refine lv_iload_n hx hb dX12_dueOf_5 rfl (lv_at hl 1 rfl) ?_
  obtain ⟨ha15, hf⟩ := jif hf
  refine jiald E hM ha15 dX12_dueOf_6 ?_
  refine lv_bipush (v := (30 : Int32)) hx hb dX12_dueOf_7 (by decide) ?_
  refine lv_iload_n hx hb dX12_dueOf_9 rfl (lv_at hl 2 rfl) ?_
  refine lv_imul hx hb dX12_dueOf_10 ?_
  obtain ⟨x16, hc17, hf⟩ := jb hf
  refine jbackI hM (jrunV E hM ci_X12_inForceAt (C_X12_inForceAt hc17) lk_8_63 hq12 (by decide) rfl hl.1 rfl rfl (Nat.le_of_ble_eq_true rfl) ⟨Nat.le_of_ble_eq_true rfl, Nat.le_of_ble_eq_true rfl⟩ ⟨Nat.le_refl _, Nat.le_refl _⟩ dX12_dueOf_11) (fun H locs hM => ?_)
  refine lv_istore (lv' := [(4, .int x16), (0, .ref (g.2.2 + v0)), (1, .int v1), (2, .int v2), (3, .int v3)]) hx hb dX12_dueOf_14 hl (by decide) rfl (fun ls hl => ?_)
  refine lv_aload_n hx hb dX12_dueOf_16 rfl (lv_at hl 1 rfl) ?_
  refine lv_aload_n hx hb dX12_dueOf_17 rfl (lv_at hl 1 rfl) ?_
  refine lv_iload hx hb dX12_dueOf_18 (lv_at hl 0 rfl) ?_
  refine lv_aload_n hx hb dX12_dueOf_20 rfl (lv_at hl 1 rfl) ?_
  refine gt_157 E hM hq12 lk_6_71 dX12_dueOf_21 ?_
  obtain ⟨r18, hr19, hf⟩ := jb hf
  rw [hr19]
  show W p l e _ s m args below meth c H locs 0 0 _ (F0 m _ ls (.ref (g.2.2 + r18) :: _))
  refine lv_iload_n hx hb dX12_dueOf_24 rfl (lv_at hl 2 rfl) ?_
  obtain ⟨ha20, hf⟩ := jif hf
  refine jiald E hM ha20 dX12_dueOf_25 ?_
  refine lv_bipush (v := (30 : Int32)) hx hb dX12_dueOf_26 (by decide) ?_
  refine lv_iload_n hx hb dX12_dueOf_28 rfl (lv_at hl 3 rfl) ?_
  refine lv_imul hx hb dX12_dueOf_29 ?_
  refine lv_iload_n hx hb dX12_dueOf_30 rfl (lv_at hl 4 rfl) ?_
  obtain ⟨x21, S22, hc23, hf⟩ := jbd_e hf
  refine jbackI hM (jrunV E hM ci_X12_workDue (C_X12_workDue hc23) lk_8_230 hq12 (by decide) rfl hl.1 rfl rfl (Nat.le_of_ble_eq_true rfl) ⟨Nat.le_of_ble_eq_true rfl, Nat.le_of_ble_eq_true rfl⟩ ⟨Nat.le_refl _, Nat.le_refl _⟩ dX12_dueOf_31) (fun H locs hM => ?_)
  refine lv_if_ne (tgt := 49) hx hb dX12_dueOf_34 (by decide) (fun c24 => ?_) (fun c24 => ?_)
  · have hf := jf c24 hf
    exact B_X12_dueOf_49 E  hf hM (lv_sub hl [1] rfl)
  · have hf := jt c24 hf
    refine lv_aload_n hx hb dX12_dueOf_37 rfl (lv_at hl 1 rfl) ?_
    refine gt_88 E hM hq12 lk_6_2 dX12_dueOf_38 ?_
    obtain ⟨r25, hr26, hf⟩ := jb hf
    rw [hr26]
    show W p l e _ s m args below meth c H locs 0 0 _ (F0 m _ ls (.ref (g.2.2 + r25) :: _))
    refine lv_aload_n hx hb dX12_dueOf_41 rfl (lv_at hl 1 rfl) ?_
    refine gt_156 E hM hq12 lk_6_70 dX12_dueOf_42 ?_
    obtain ⟨ha27, hf⟩ := jif hf
    refine jiald E hM ha27 dX12_dueOf_45 ?_
    refine lv_if_eq (tgt := 53) hx hb dX12_dueOf_46 (by decide) (fun c28 => ?_) (fun c28 => ?_)
    · have hf := jt c28 hf
      refine lv_iconst (v := (0 : Int32)) hx hb dX12_dueOf_53 (by decide) ?_
      exact B_X12_dueOf_54 E  hf hM (lv_sub hl [1] rfl)
    · have hf := jf c28 hf
      exact B_X12_dueOf_49 E  hf hM (lv_sub hl [1] rfl)
set_option maxRecDepth 100000 in
theorem C_X12_dueOf {l : Launch} {g : jG} {a0 : Nat} {a1 : Int32} {a2 : Int32} {a3 : Int32} {S : jM} {rr : Int64} {SS : jM} (hf : f_X12_dueOf a0 a1 a2 a3 S = some (rr, SS)) : jMet l g yX12_dueOf cX12_dueOf 7 (some .long) 1020 0 0 [.ref (g.2.2 + a0), .int a1, .int a2, .int a3] S (jQl g rr SS) := by
  refine jof (by decide +kernel) (Nat.le_of_ble_eq_true rfl) ?_
  intro p e s m below meth c E hM ls hl
  have hl : lv_has ls 7 [(0, .ref (g.2.2 + a0)),(1, .int a1),(2, .int a2),(3, .int a3)] := hl
  exact B_X12_dueOf_0 E hf hM hl
-- PensionHouseModel.pay(I)V  mode M
noncomputable def f_X12_pay_302 (k202 : Nat → Int32 → Int32 → Int64 → Int32 → jM → Option jM) (k212 : Nat → Int32 → Int32 → Int64 → Int32 → Int32 → jM → Option jM) (v0 : Nat) (v1 : Int32) (v10 : Int32) (v11 : Int64) (v13 : Int32) (v14 : Int32) (S : jM) : Option jM := jlet (v14 + (1 : Int32)) (fun x1 => k212 v0 v1 v10 v11 v13 x1 S)
noncomputable def f_X12_pay_277 (k202 : Nat → Int32 → Int32 → Int64 → Int32 → jM → Option jM) (k212 : Nat → Int32 → Int32 → Int64 → Int32 → Int32 → jM → Option jM) (v0 : Nat) (v1 : Int32) (v10 : Int32) (v11 : Int64) (v13 : Int32) (v14 : Int32) (t0 : Int64) (S : jM) : Option jM := if jK v0 = 10 then (jR S 174 v0).bind (fun r3 => if jA r3 13 (((6 : Int32) * v10) + v14) = true then jlet (jrI S r3 (upd (jAI S r3) (((6 : Int32) * v10) + v14).toNatClampNeg (t0.toInt32))) (fun S6 => jlet (v11 - t0) (fun x7 => f_X12_pay_302 k202 k212 v0 v1 v10 x7 v13 v14 S6)) else none) else none
noncomputable def f_X12_pay_212 (k202 : Nat → Int32 → Int32 → Int64 → Int32 → jM → Option jM) : Nat → Nat → Int32 → Int32 → Int64 → Int32 → Int32 → jM → Option jM
  | 0, _, _, _, _, _, _, _ => none
  | n + 1, v0, v1, v10, v11, v13, v14, S => if jK v0 = 10 then (jR S 163 v0).bind (fun r9 => if jA r9 13 v1 = true then if (jAI S r9 (v1).toNatClampNeg) ≤ v14 then jlet (v13 + (1 : Int32)) (fun x13 => k202 v0 v1 v10 v11 x13 S) else (jR S 162 v0).bind (fun r14 => if jA r14 13 (((6 : Int32) * v1) + v14) = true then if (jAI S r14 (((6 : Int32) * v1) + v14).toNatClampNeg) = v13 then (jR S 161 v0).bind (fun r18 => if jA r18 13 (((6 : Int32) * v1) + v14) = true then if ((jAI S r18 (((6 : Int32) * v1) + v14).toNatClampNeg).toInt64) ≤ v11 then (jR S 161 v0).bind (fun r22 => if jA r22 13 (((6 : Int32) * v1) + v14) = true then f_X12_pay_277 k202 (f_X12_pay_212 k202 n) v0 v1 v10 v11 v13 v14 ((jAI S r22 (((6 : Int32) * v1) + v14).toNatClampNeg).toInt64) S else none) else f_X12_pay_277 k202 (f_X12_pay_212 k202 n) v0 v1 v10 v11 v13 v14 v11 S else none) else f_X12_pay_302 k202 (f_X12_pay_212 k202 n) v0 v1 v10 v11 v13 v14 S else none) else none) else none
noncomputable def f_X12_pay_202 : Nat → Nat → Int32 → Int32 → Int64 → Int32 → jM → Option jM
  | 0, _, _, _, _, _, _ => none
  | n + 1, v0, v1, v10, v11, v13, S => if (10 : Int32) ≤ v13 then if jK v0 = 10 then (jR S 171 v0).bind (fun r27 => if jA r27 14 (((4 : Int32) * v10) + (3 : Int32)) = true then jlet (jrL S r27 (vp_updL (jAL S r27) (((4 : Int32) * v10) + (3 : Int32)).toNatClampNeg v11)) (fun S30 => some S30) else none) else none else f_X12_pay_212 (f_X12_pay_202 n) 1100000 v0 v1 v10 v11 v13 (0 : Int32) S
noncomputable def f_X12_pay_105 (v0 : Nat) (v1 : Int32) (v2 : Int64) (v4 : Int64) (v8 : Int64) (S : jM) : Option jM := if jK v0 = 10 then jlet (jI S 175 v0) (fun x32 => jlet (jsI S 175 v0 ((jI S 175 v0) + (1 : Int32))) (fun S33 => (jR S33 169 v0).bind (fun r34 => if jA r34 13 x32 = true then jlet (jrI S33 r34 (upd (jAI S33 r34) (x32).toNatClampNeg v1)) (fun S37 => (jR S37 170 v0).bind (fun r38 => if jA r38 13 x32 = true then jlet (jrI S37 r38 (upd (jAI S37 r38) (x32).toNatClampNeg (jI S37 165 v0))) (fun S41 => (jR S41 172 v0).bind (fun r42 => if jA r42 15 x32 = true then jlet (jrI S41 r42 (upd (jAI S41 r42) (x32).toNatClampNeg (vp_nar .boolean (0 : Int32)))) (fun S45 => (jR S45 173 v0).bind (fun r46 => if jA r46 15 x32 = true then jlet (jrI S45 r46 (upd (jAI S45 r46) (x32).toNatClampNeg (vp_nar .boolean (jI S45 176 v0)))) (fun S49 => (jR S49 171 v0).bind (fun r50 => if jA r50 14 ((4 : Int32) * x32) = true then jlet (jrL S49 r50 (vp_updL (jAL S49 r50) ((4 : Int32) * x32).toNatClampNeg v4)) (fun S53 => (jR S53 171 v0).bind (fun r54 => if jA r54 14 (((4 : Int32) * x32) + (1 : Int32)) = true then jlet (jrL S53 r54 (vp_updL (jAL S53 r54) (((4 : Int32) * x32) + (1 : Int32)).toNatClampNeg v2)) (fun S57 => (jR S57 171 v0).bind (fun r58 => if jA r58 14 (((4 : Int32) * x32) + (2 : Int32)) = true then jlet (jrL S57 r58 (vp_updL (jAL S57 r58) (((4 : Int32) * x32) + (2 : Int32)).toNatClampNeg v8)) (fun S61 => f_X12_pay_202 1100000 v0 v1 x32 v8 (0 : Int32) S61) else none)) else none)) else none)) else none)) else none)) else none)) else none))) else none
noncomputable def f_X12_pay_102 (v0 : Nat) (v1 : Int32) (v2 : Int64) (v4 : Int64) (t0 : Int64) (t1 : Int64) (S : jM) : Option jM := jlet (t0 - t1) (fun x62 => f_X12_pay_105 v0 v1 v2 v4 x62 S)
noncomputable def f_X12_pay_15 : Nat → Nat → Int32 → Int64 → Int32 → jM → Option jM
  | 0, _, _, _, _, _ => none
  | n + 1, v0, v1, v2, v4, S => if jK v0 = 10 then if (jI S 165 v0) ≤ v4 then jbd (f_X12_dueOf v0 v1 (jI S 165 v0) (jI S 139 v0) S) (fun x65 S66 => jlet ((x65 * ((jI S66 164 v0).toInt64)) / (100 : Int64)) (fun x68 => jlet (x65 + v2) (fun x69 => if (0 : Int64) ≤ v2 then f_X12_pay_105 v0 v1 v2 x65 x69 S66 else if x68 ≤ (-v2) then f_X12_pay_102 v0 v1 v2 x65 x65 x68 S66 else f_X12_pay_102 v0 v1 v2 x65 x65 (-v2) S66))) else jbd (f_X12_dueOf v0 v1 v4 (jI S 139 v0) S) (fun x72 S73 => jlet (v2 + x72) (fun x75 => jlet (v4 + (1 : Int32)) (fun x76 => (f_X12_pay_15 n) v0 v1 x75 x76 S73))) else none
noncomputable def f_X12_pay (v0 : Nat) (v1 : Int32) (S : jM) : Option jM := if jK v0 = 10 then (f_X12_paid v0 v1 S).bind (fun x77 => jlet (-x77) (fun x80 => (jR S 159 v0).bind (fun r81 => if jA r81 13 v1 = true then jlet (jAI S r81 (v1).toNatClampNeg) (fun x84 => f_X12_pay_15 1100000 v0 v1 x80 x84 S) else none))) else none
set_option maxRecDepth 100000 in
set_option maxHeartbeats 4000000 in
theorem B_X12_pay_302 {p : Program} {l : Launch} {e : Env} {s : State} {m : MethodId} {args : Array Value} {below : List Frame} {meth : Method} {c : Code} {g : jG} {SS : jM} {v0 : Nat} {v1 : Int32} {v10 : Int32} {v11 : Int64} {v13 : Int32} {v14 : Int32} {S : jM} {k202 : Nat → Int32 → Int32 → Int64 → Int32 → jM → Option jM} {k212 : Nat → Int32 → Int32 → Int64 → Int32 → Int32 → jM → Option jM} (E : jEnv p s m args meth c cX12_pay "PensionHouseModel" none 17 g) (hk202 : ∀ (v0 : Nat) (v1 : Int32) (v10 : Int32) (v11 : Int64) (v13 : Int32) (S : jM) (H : Heap) (locs : List Loc) (ls : Array Slot), k202 v0 v1 v10 v11 v13 S = some SS → jAt g S s H locs → lv_has ls 17 [(0, .ref (g.2.2 + v0)), (1, .int v1), (10, .int v10), (11, .long v11), (13, .int v13)] → W p l e (jRm 1021 0 0) s m args below meth c H locs 0 0 (MQ below (jQv g SS) args s 0 0 (jA0 g)) (F0 m 202 ls [])) (hk212 : ∀ (v0 : Nat) (v1 : Int32) (v10 : Int32) (v11 : Int64) (v13 : Int32) (v14 : Int32) (S : jM) (H : Heap) (locs : List Loc) (ls : Array Slot), k212 v0 v1 v10 v11 v13 v14 S = some SS → jAt g S s H locs → lv_has ls 17 [(0, .ref (g.2.2 + v0)), (1, .int v1), (10, .int v10), (11, .long v11), (13, .int v13), (14, .int v14)] → W p l e (jRm 1021 0 0) s m args below meth c H locs 0 0 (MQ below (jQv g SS) args s 0 0 (jA0 g)) (F0 m 212 ls [])) {H : Heap} {locs : List Loc} {ls : Array Slot} (hf : f_X12_pay_302 k202 k212 v0 v1 v10 v11 v13 v14 S = some SS) (hM : jAt g S s H locs) (hl : lv_has ls 17 [(0, .ref (g.2.2 + v0)), (1, .int v1), (10, .int v10), (11, .long v11), (13, .int v13), (14, .int v14)]) : W p l e (jRm 1021 0 0) s m args below meth c H locs 0 0 (MQ below (jQv g SS) args s 0 0 (jA0 g)) (F0 m 302 ls []) := by
  obtain ⟨hx, hb, hml, -, hts, hown, hK, -, hstr⟩ := id E
  unfold f_X12_pay_302 at hf
  obtain ⟨x1, ex1⟩ : ∃ z, z = v14 + (1 : Int32) := ⟨_, rfl⟩
  have hf := jlet_y ex1 hf
  refine lv_iinc (v := x1) (lv' := [(14, .int x1), (0, .ref (g.2.2 + v0)), (1, .int v1), (10, .int v10), (11, .long v11), (13, .int v13)]) hx hb dX12_pay_302 hl (k := 5) rfl (by rw [ex1]; rfl) (by decide) rfl (fun ls hl => ?_)
  refine lv_goto (tgt := 212) hx hb dX12_pay_305 (by decide) ?_
  exact hk212 v0 v1 v10 v11 v13 x1 S _ _ _ hf hM (lv_sub hl [1, 2, 3, 4, 5, 0] rfl)
set_option maxRecDepth 100000 in
set_option maxHeartbeats 4000000 in
theorem B_X12_pay_277 {p : Program} {l : Launch} {e : Env} {s : State} {m : MethodId} {args : Array Value} {below : List Frame} {meth : Method} {c : Code} {g : jG} {SS : jM} {v0 : Nat} {v1 : Int32} {v10 : Int32} {v11 : Int64} {v13 : Int32} {v14 : Int32} {t0 : Int64} {S : jM} {k202 : Nat → Int32 → Int32 → Int64 → Int32 → jM → Option jM} {k212 : Nat → Int32 → Int32 → Int64 → Int32 → Int32 → jM → Option jM} (E : jEnv p s m args meth c cX12_pay "PensionHouseModel" none 17 g) (hk202 : ∀ (v0 : Nat) (v1 : Int32) (v10 : Int32) (v11 : Int64) (v13 : Int32) (S : jM) (H : Heap) (locs : List Loc) (ls : Array Slot), k202 v0 v1 v10 v11 v13 S = some SS → jAt g S s H locs → lv_has ls 17 [(0, .ref (g.2.2 + v0)), (1, .int v1), (10, .int v10), (11, .long v11), (13, .int v13)] → W p l e (jRm 1021 0 0) s m args below meth c H locs 0 0 (MQ below (jQv g SS) args s 0 0 (jA0 g)) (F0 m 202 ls [])) (hk212 : ∀ (v0 : Nat) (v1 : Int32) (v10 : Int32) (v11 : Int64) (v13 : Int32) (v14 : Int32) (S : jM) (H : Heap) (locs : List Loc) (ls : Array Slot), k212 v0 v1 v10 v11 v13 v14 S = some SS → jAt g S s H locs → lv_has ls 17 [(0, .ref (g.2.2 + v0)), (1, .int v1), (10, .int v10), (11, .long v11), (13, .int v13), (14, .int v14)] → W p l e (jRm 1021 0 0) s m args below meth c H locs 0 0 (MQ below (jQv g SS) args s 0 0 (jA0 g)) (F0 m 212 ls [])) {H : Heap} {locs : List Loc} {ls : Array Slot} (hf : f_X12_pay_277 k202 k212 v0 v1 v10 v11 v13 v14 t0 S = some SS) (hM : jAt g S s H locs) (hl : lv_has ls 17 [(0, .ref (g.2.2 + v0)), (1, .int v1), (10, .int v10), (11, .long v11), (13, .int v13), (14, .int v14)]) : W p l e (jRm 1021 0 0) s m args below meth c H locs 0 0 (MQ below (jQv g SS) args s 0 0 (jA0 g)) (F0 m 277 ls [.long t0]) := by
  obtain ⟨hx, hb, hml, -, hts, hown, hK, -, hstr⟩ := id E
  unfold f_X12_pay_277 at hf
  refine lv_lstore (lv' := [(15, .long t0), (0, .ref (g.2.2 + v0)), (1, .int v1), (10, .int v10), (11, .long v11), (13, .int v13), (14, .int v14)]) hx hb dX12_pay_277 hl (by decide) rfl (fun ls hl => ?_)
  refine lv_aload_n hx hb dX12_pay_279 rfl (lv_at hl 1 rfl) ?_
  obtain ⟨hq2, hf⟩ := jif hf
  refine gt_174 E hM hq2 lk_6_88 dX12_pay_280 ?_
  obtain ⟨r3, hr4, hf⟩ := jb hf
  rw [hr4]
  show W p l e _ s m args below meth c H locs 0 0 _ (F0 m _ ls (.ref (g.2.2 + r3) :: _))
  refine lv_bipush (v := (6 : Int32)) hx hb dX12_pay_283 (by decide) ?_
  refine lv_iload hx hb dX12_pay_285 (lv_at hl 3 rfl) ?_
  refine lv_imul hx hb dX12_pay_287 ?_
  refine lv_iload hx hb dX12_pay_288 (lv_at hl 6 rfl) ?_
  refine lv_iadd hx hb dX12_pay_290 ?_
  refine lv_lload hx hb dX12_pay_291 (lv_at hl 0 rfl) ?_
  refine lv_l2i hx hb dX12_pay_293 rfl ?_
  obtain ⟨ha5, hf⟩ := jif hf
  refine jiast E hM ha5 dX12_pay_294 (fun H locs S6 eS6 hM => ?_)
  have hf := jlet_y eS6 hf
  refine lv_lload hx hb dX12_pay_295 (lv_at hl 4 rfl) ?_
  refine lv_lload hx hb dX12_pay_297 (lv_at hl 0 rfl) ?_
  refine lv_lsub hx hb dX12_pay_299 ?_
  refine lv_topl (fun x7 ex7 => ?_)
  have hf := jlet_y ex7 hf
  refine lv_lstore (lv' := [(11, .long x7), (15, .long t0), (0, .ref (g.2.2 + v0)), (1, .int v1), (10, .int v10), (13, .int v13), (14, .int v14)]) hx hb dX12_pay_300 hl (by decide) rfl (fun ls hl => ?_)
  exact B_X12_pay_302 E hk202 hk212 hf hM (lv_sub hl [2, 3, 4, 0, 5, 6] rfl)
set_option maxRecDepth 100000 in
set_option maxHeartbeats 4000000 in
theorem B_X12_pay_212 {p : Program} {l : Launch} {e : Env} {s : State} {m : MethodId} {args : Array Value} {below : List Frame} {meth : Method} {c : Code} {g : jG} {SS : jM} {k202 : Nat → Int32 → Int32 → Int64 → Int32 → jM → Option jM} (E : jEnv p s m args meth c cX12_pay "PensionHouseModel" none 17 g) (hk202 : ∀ (v0 : Nat) (v1 : Int32) (v10 : Int32) (v11 : Int64) (v13 : Int32) (S : jM) (H : Heap) (locs : List Loc) (ls : Array Slot), k202 v0 v1 v10 v11 v13 S = some SS → jAt g S s H locs → lv_has ls 17 [(0, .ref (g.2.2 + v0)), (1, .int v1), (10, .int v10), (11, .long v11), (13, .int v13)] → W p l e (jRm 1021 0 0) s m args below meth c H locs 0 0 (MQ below (jQv g SS) args s 0 0 (jA0 g)) (F0 m 202 ls [])) : ∀ (n : Nat) (v0 : Nat) (v1 : Int32) (v10 : Int32) (v11 : Int64) (v13 : Int32) (v14 : Int32) (S : jM) (H : Heap) (locs : List Loc) (ls : Array Slot), f_X12_pay_212 k202 n v0 v1 v10 v11 v13 v14 S = some SS → jAt g S s H locs → lv_has ls 17 [(0, .ref (g.2.2 + v0)), (1, .int v1), (10, .int v10), (11, .long v11), (13, .int v13), (14, .int v14)] → W p l e (jRm 1021 0 0) s m args below meth c H locs 0 0 (MQ below (jQv g SS) args s 0 0 (jA0 g)) (F0 m 212 ls []) := by
  obtain ⟨hx, hb, hml, -, hts, hown, hK, -, hstr⟩ := id E
  intro n
  induction n with
  | zero => intro v0 v1 v10 v11 v13 v14 S H locs ls hf hM hl; rw [f_X12_pay_212] at hf; cases hf
  | succ n ih =>
    intro v0 v1 v10 v11 v13 v14 S H locs ls hf hM hl
    rw [f_X12_pay_212] at hf
    refine lv_iload hx hb dX12_pay_212 (lv_at hl 5 rfl) ?_
    refine lv_aload_n hx hb dX12_pay_214 rfl (lv_at hl 0 rfl) ?_
    obtain ⟨hq8, hf⟩ := jif hf
    refine gt_163 E hM hq8 lk_6_77 dX12_pay_215 ?_
    obtain ⟨r9, hr10, hf⟩ := jb hf
    rw [hr10]
    show W p l e _ s m args below meth c H locs 0 0 _ (F0 m _ ls (.ref (g.2.2 + r9) :: _))
    refine lv_iload_n hx hb dX12_pay_218 rfl (lv_at hl 1 rfl) ?_
    obtain ⟨ha11, hf⟩ := jif hf
    refine jiald E hM ha11 dX12_pay_219 ?_
    refine lv_icmp_ge (tgt := 308) hx hb dX12_pay_220 (by decide) (fun c12 => ?_) (fun c12 => ?_)
    · have hf := jt c12 hf
      obtain ⟨x13, ex13⟩ : ∃ z, z = v13 + (1 : Int32) := ⟨_, rfl⟩
      have hf := jlet_y ex13 hf
      refine lv_iinc (v := x13) (lv' := [(13, .int x13), (0, .ref (g.2.2 + v0)), (1, .int v1), (10, .int v10), (11, .long v11), (14, .int v14)]) hx hb dX12_pay_308 hl (k := 4) rfl (by rw [ex13]; rfl) (by decide) rfl (fun ls hl => ?_)
      refine lv_goto (tgt := 202) hx hb dX12_pay_311 (by decide) ?_
      exact hk202 v0 v1 v10 v11 x13 S _ _ _ hf hM (lv_sub hl [1, 2, 3, 4, 0] rfl)
    · have hf := jf c12 hf
      refine lv_aload_n hx hb dX12_pay_223 rfl (lv_at hl 0 rfl) ?_
      refine gt_162 E hM hq8 lk_6_76 dX12_pay_224 ?_
      obtain ⟨r14, hr15, hf⟩ := jb hf
      rw [hr15]
      show W p l e _ s m args below meth c H locs 0 0 _ (F0 m _ ls (.ref (g.2.2 + r14) :: _))
      refine lv_bipush (v := (6 : Int32)) hx hb dX12_pay_227 (by decide) ?_
      refine lv_iload_n hx hb dX12_pay_229 rfl (lv_at hl 1 rfl) ?_
      refine lv_imul hx hb dX12_pay_230 ?_
      refine lv_iload hx hb dX12_pay_231 (lv_at hl 5 rfl) ?_
      refine lv_iadd hx hb dX12_pay_233 ?_
      obtain ⟨ha16, hf⟩ := jif hf
      refine jiald E hM ha16 dX12_pay_234 ?_
      refine lv_iload hx hb dX12_pay_235 (lv_at hl 4 rfl) ?_
      refine lv_icmp_ne (tgt := 302) hx hb dX12_pay_237 (by decide) (fun c17 => ?_) (fun c17 => ?_)
      · have hf := jf c17 hf
        exact B_X12_pay_302 E hk202 ih hf hM (lv_sub hl [0, 1, 2, 3, 4, 5] rfl)
      · have hf := jt c17 hf
        refine lv_lload hx hb dX12_pay_240 (lv_at hl 3 rfl) ?_
        refine lv_aload_n hx hb dX12_pay_242 rfl (lv_at hl 0 rfl) ?_
        refine gt_161 E hM hq8 lk_6_75 dX12_pay_243 ?_
        obtain ⟨r18, hr19, hf⟩ := jb hf
        rw [hr19]
        show W p l e _ s m args below meth c H locs 0 0 _ (F0 m _ ls (.ref (g.2.2 + r18) :: _))
        refine lv_bipush (v := (6 : Int32)) hx hb dX12_pay_246 (by decide) ?_
        refine lv_iload_n hx hb dX12_pay_248 rfl (lv_at hl 1 rfl) ?_
        refine lv_imul hx hb dX12_pay_249 ?_
        refine lv_iload hx hb dX12_pay_250 (lv_at hl 5 rfl) ?_
        refine lv_iadd hx hb dX12_pay_252 ?_
        obtain ⟨ha20, hf⟩ := jif hf
        refine jiald E hM ha20 dX12_pay_253 ?_
        refine lv_i2l hx hb dX12_pay_254 rfl ?_
        refine jl_ge (tgt := 264) hx hb dX12_pay_255 dX12_pay_256 (by decide) (fun c21 => ?_) (fun c21 => ?_)
        · have hf := jt c21 hf
          refine lv_aload_n hx hb dX12_pay_264 rfl (lv_at hl 0 rfl) ?_
          refine gt_161 E hM hq8 lk_6_75 dX12_pay_265 ?_
          obtain ⟨r22, hr23, hf⟩ := jb hf
          rw [hr23]
          show W p l e _ s m args below meth c H locs 0 0 _ (F0 m _ ls (.ref (g.2.2 + r22) :: _))
          refine lv_bipush (v := (6 : Int32)) hx hb dX12_pay_268 (by decide) ?_
          refine lv_iload_n hx hb dX12_pay_270 rfl (lv_at hl 1 rfl) ?_
          refine lv_imul hx hb dX12_pay_271 ?_
          refine lv_iload hx hb dX12_pay_272 (lv_at hl 5 rfl) ?_
          refine lv_iadd hx hb dX12_pay_274 ?_
          obtain ⟨ha24, hf⟩ := jif hf
          refine jiald E hM ha24 dX12_pay_275 ?_
          refine lv_i2l hx hb dX12_pay_276 rfl ?_
          exact B_X12_pay_277 E hk202 ih hf hM (lv_sub hl [0, 1, 2, 3, 4, 5] rfl)
        · have hf := jf c21 hf
          refine lv_lload hx hb dX12_pay_259 (lv_at hl 3 rfl) ?_
          refine lv_goto (tgt := 277) hx hb dX12_pay_261 (by decide) ?_
          exact B_X12_pay_277 E hk202 ih hf hM (lv_sub hl [0, 1, 2, 3, 4, 5] rfl)
set_option maxRecDepth 100000 in
set_option maxHeartbeats 4000000 in
theorem B_X12_pay_202 {p : Program} {l : Launch} {e : Env} {s : State} {m : MethodId} {args : Array Value} {below : List Frame} {meth : Method} {c : Code} {g : jG} {SS : jM} (E : jEnv p s m args meth c cX12_pay "PensionHouseModel" none 17 g)  : ∀ (n : Nat) (v0 : Nat) (v1 : Int32) (v10 : Int32) (v11 : Int64) (v13 : Int32) (S : jM) (H : Heap) (locs : List Loc) (ls : Array Slot), f_X12_pay_202 n v0 v1 v10 v11 v13 S = some SS → jAt g S s H locs → lv_has ls 17 [(0, .ref (g.2.2 + v0)), (1, .int v1), (10, .int v10), (11, .long v11), (13, .int v13)] → W p l e (jRm 1021 0 0) s m args below meth c H locs 0 0 (MQ below (jQv g SS) args s 0 0 (jA0 g)) (F0 m 202 ls []) := by
  obtain ⟨hx, hb, hml, -, hts, hown, hK, -, hstr⟩ := id E
  intro n
  induction n with
  | zero => intro v0 v1 v10 v11 v13 S H locs ls hf hM hl; rw [f_X12_pay_202] at hf; cases hf
  | succ n ih =>
    intro v0 v1 v10 v11 v13 S H locs ls hf hM hl
    rw [f_X12_pay_202] at hf
    refine lv_iload hx hb dX12_pay_202 (lv_at hl 4 rfl) ?_
    refine lv_bipush (v := (10 : Int32)) hx hb dX12_pay_204 (by decide) ?_
    refine lv_icmp_ge (tgt := 314) hx hb dX12_pay_206 (by decide) (fun c25 => ?_) (fun c25 => ?_)
    · have hf := jt c25 hf
      refine lv_aload_n hx hb dX12_pay_314 rfl (lv_at hl 0 rfl) ?_
      obtain ⟨hq26, hf⟩ := jif hf
      refine gt_171 E hM hq26 lk_6_85 dX12_pay_315 ?_
      obtain ⟨r27, hr28, hf⟩ := jb hf
      rw [hr28]
      show W p l e _ s m args below meth c H locs 0 0 _ (F0 m _ ls (.ref (g.2.2 + r27) :: _))
      refine lv_iconst (v := (4 : Int32)) hx hb dX12_pay_318 (by decide) ?_
      refine lv_iload hx hb dX12_pay_319 (lv_at hl 2 rfl) ?_
      refine lv_imul hx hb dX12_pay_321 ?_
      refine lv_iconst (v := (3 : Int32)) hx hb dX12_pay_322 (by decide) ?_
      refine lv_iadd hx hb dX12_pay_323 ?_
      refine lv_lload hx hb dX12_pay_324 (lv_at hl 3 rfl) ?_
      obtain ⟨ha29, hf⟩ := jif hf
      refine jlast E hM ha29 dX12_pay_326 (fun H locs S30 eS30 hM => ?_)
      have hf := jlet_y eS30 hf
      exact jvret (jrv hf) E hM dX12_pay_327
    · have hf := jf c25 hf
      refine lv_iconst (v := (0 : Int32)) hx hb dX12_pay_209 (by decide) ?_
      refine lv_istore (lv' := [(14, .int (0 : Int32)), (0, .ref (g.2.2 + v0)), (1, .int v1), (10, .int v10), (11, .long v11), (13, .int v13)]) hx hb dX12_pay_210 hl (by decide) rfl (fun ls hl => ?_)
      exact B_X12_pay_212 E ih 1100000 v0 v1 v10 v11 v13 (0 : Int32) S _ _ _ hf hM (lv_sub hl [1, 2, 3, 4, 5, 0] rfl)
set_option maxRecDepth 100000 in
set_option maxHeartbeats 4000000 in
theorem B_X12_pay_105 {p : Program} {l : Launch} {e : Env} {s : State} {m : MethodId} {args : Array Value} {below : List Frame} {meth : Method} {c : Code} {g : jG} {SS : jM} {v0 : Nat} {v1 : Int32} {v2 : Int64} {v4 : Int64} {v8 : Int64} {S : jM} (E : jEnv p s m args meth c cX12_pay "PensionHouseModel" none 17 g)  {H : Heap} {locs : List Loc} {ls : Array Slot} (hf : f_X12_pay_105 v0 v1 v2 v4 v8 S = some SS) (hM : jAt g S s H locs) (hl : lv_has ls 17 [(0, .ref (g.2.2 + v0)), (1, .int v1), (2, .long v2), (4, .long v4), (8, .long v8)]) : W p l e (jRm 1021 0 0) s m args below meth c H locs 0 0 (MQ below (jQv g SS) args s 0 0 (jA0 g)) (F0 m 105 ls []) := by
  obtain ⟨hx, hb, hml, -, hts, hown, hK, -, hstr⟩ := id E
  unfold f_X12_pay_105 at hf
  refine lv_aload_n hx hb dX12_pay_105 rfl (lv_at hl 0 rfl) ?_
  obtain ⟨hq31, hf⟩ := jif hf
  refine gt_175 E hM hq31 lk_6_89 dX12_pay_106 ?_
  refine lv_topi (fun x32 ex32 => ?_)
  have hf := jlet_y ex32 hf
  refine lv_istore (lv' := [(10, .int x32), (0, .ref (g.2.2 + v0)), (1, .int v1), (2, .long v2), (4, .long v4), (8, .long v8)]) hx hb dX12_pay_109 hl (by decide) rfl (fun ls hl => ?_)
  refine lv_aload_n hx hb dX12_pay_111 rfl (lv_at hl 1 rfl) ?_
  refine lv_dup hx hb dX12_pay_112 rfl ?_
  refine gt_175 E hM hq31 lk_6_89 dX12_pay_113 ?_
  refine lv_iconst (v := (1 : Int32)) hx hb dX12_pay_116 (by decide) ?_
  refine lv_iadd hx hb dX12_pay_117 ?_
  refine pt_175 E hM hq31 lk_6_89 dX12_pay_118 (fun H locs S33 eS33 hM => ?_)
  have hf := jlet_y eS33 hf
  refine lv_aload_n hx hb dX12_pay_121 rfl (lv_at hl 1 rfl) ?_
  refine gt_169 E hM hq31 lk_6_83 dX12_pay_122 ?_
  obtain ⟨r34, hr35, hf⟩ := jb hf
  rw [hr35]
  show W p l e _ s m args below meth c H locs 0 0 _ (F0 m _ ls (.ref (g.2.2 + r34) :: _))
  refine lv_iload hx hb dX12_pay_125 (lv_at hl 0 rfl) ?_
  refine lv_iload_n hx hb dX12_pay_127 rfl (lv_at hl 2 rfl) ?_
  obtain ⟨ha36, hf⟩ := jif hf
  refine jiast E hM ha36 dX12_pay_128 (fun H locs S37 eS37 hM => ?_)
  have hf := jlet_y eS37 hf
  refine lv_aload_n hx hb dX12_pay_129 rfl (lv_at hl 1 rfl) ?_
  refine gt_170 E hM hq31 lk_6_84 dX12_pay_130 ?_
  obtain ⟨r38, hr39, hf⟩ := jb hf
  rw [hr39]
  show W p l e _ s m args below meth c H locs 0 0 _ (F0 m _ ls (.ref (g.2.2 + r38) :: _))
  refine lv_iload hx hb dX12_pay_133 (lv_at hl 0 rfl) ?_
  refine lv_aload_n hx hb dX12_pay_135 rfl (lv_at hl 1 rfl) ?_
  refine gt_165 E hM hq31 lk_6_79 dX12_pay_136 ?_
  obtain ⟨ha40, hf⟩ := jif hf
  refine jiast E hM ha40 dX12_pay_139 (fun H locs S41 eS41 hM => ?_)
  have hf := jlet_y eS41 hf
  refine lv_aload_n hx hb dX12_pay_140 rfl (lv_at hl 1 rfl) ?_
  refine gt_172 E hM hq31 lk_6_86 dX12_pay_141 ?_
  obtain ⟨r42, hr43, hf⟩ := jb hf
  rw [hr43]
  show W p l e _ s m args below meth c H locs 0 0 _ (F0 m _ ls (.ref (g.2.2 + r42) :: _))
  refine lv_iload hx hb dX12_pay_144 (lv_at hl 0 rfl) ?_
  refine lv_iconst (v := (0 : Int32)) hx hb dX12_pay_146 (by decide) ?_
  obtain ⟨ha44, hf⟩ := jif hf
  refine jzast E hM ha44 dX12_pay_147 (fun H locs S45 eS45 hM => ?_)
  have hf := jlet_y eS45 hf
  refine lv_aload_n hx hb dX12_pay_148 rfl (lv_at hl 1 rfl) ?_
  refine gt_173 E hM hq31 lk_6_87 dX12_pay_149 ?_
  obtain ⟨r46, hr47, hf⟩ := jb hf
  rw [hr47]
  show W p l e _ s m args below meth c H locs 0 0 _ (F0 m _ ls (.ref (g.2.2 + r46) :: _))
  refine lv_iload hx hb dX12_pay_152 (lv_at hl 0 rfl) ?_
  refine lv_aload_n hx hb dX12_pay_154 rfl (lv_at hl 1 rfl) ?_
  refine gt_176 E hM hq31 lk_6_90 dX12_pay_155 ?_
  obtain ⟨ha48, hf⟩ := jif hf
  refine jzast E hM ha48 dX12_pay_158 (fun H locs S49 eS49 hM => ?_)
  have hf := jlet_y eS49 hf
  refine lv_aload_n hx hb dX12_pay_159 rfl (lv_at hl 1 rfl) ?_
  refine gt_171 E hM hq31 lk_6_85 dX12_pay_160 ?_
  obtain ⟨r50, hr51, hf⟩ := jb hf
  rw [hr51]
  show W p l e _ s m args below meth c H locs 0 0 _ (F0 m _ ls (.ref (g.2.2 + r50) :: _))
  refine lv_iconst (v := (4 : Int32)) hx hb dX12_pay_163 (by decide) ?_
  refine lv_iload hx hb dX12_pay_164 (lv_at hl 0 rfl) ?_
  refine lv_imul hx hb dX12_pay_166 ?_
  refine lv_lload hx hb dX12_pay_167 (lv_at hl 4 rfl) ?_
  obtain ⟨ha52, hf⟩ := jif hf
  refine jlast E hM ha52 dX12_pay_169 (fun H locs S53 eS53 hM => ?_)
  have hf := jlet_y eS53 hf
  refine lv_aload_n hx hb dX12_pay_170 rfl (lv_at hl 1 rfl) ?_
  refine gt_171 E hM hq31 lk_6_85 dX12_pay_171 ?_
  obtain ⟨r54, hr55, hf⟩ := jb hf
  rw [hr55]
  show W p l e _ s m args below meth c H locs 0 0 _ (F0 m _ ls (.ref (g.2.2 + r54) :: _))
  refine lv_iconst (v := (4 : Int32)) hx hb dX12_pay_174 (by decide) ?_
  refine lv_iload hx hb dX12_pay_175 (lv_at hl 0 rfl) ?_
  refine lv_imul hx hb dX12_pay_177 ?_
  refine lv_iconst (v := (1 : Int32)) hx hb dX12_pay_178 (by decide) ?_
  refine lv_iadd hx hb dX12_pay_179 ?_
  refine lv_lload_n hx hb dX12_pay_180 rfl (lv_at hl 3 rfl) ?_
  obtain ⟨ha56, hf⟩ := jif hf
  refine jlast E hM ha56 dX12_pay_181 (fun H locs S57 eS57 hM => ?_)
  have hf := jlet_y eS57 hf
  refine lv_aload_n hx hb dX12_pay_182 rfl (lv_at hl 1 rfl) ?_
  refine gt_171 E hM hq31 lk_6_85 dX12_pay_183 ?_
  obtain ⟨r58, hr59, hf⟩ := jb hf
  rw [hr59]
  show W p l e _ s m args below meth c H locs 0 0 _ (F0 m _ ls (.ref (g.2.2 + r58) :: _))
  refine lv_iconst (v := (4 : Int32)) hx hb dX12_pay_186 (by decide) ?_
  refine lv_iload hx hb dX12_pay_187 (lv_at hl 0 rfl) ?_
  refine lv_imul hx hb dX12_pay_189 ?_
  refine lv_iconst (v := (2 : Int32)) hx hb dX12_pay_190 (by decide) ?_
  refine lv_iadd hx hb dX12_pay_191 ?_
  refine lv_lload hx hb dX12_pay_192 (lv_at hl 5 rfl) ?_
  obtain ⟨ha60, hf⟩ := jif hf
  refine jlast E hM ha60 dX12_pay_194 (fun H locs S61 eS61 hM => ?_)
  have hf := jlet_y eS61 hf
  refine lv_lload hx hb dX12_pay_195 (lv_at hl 5 rfl) ?_
  refine lv_lstore (lv' := [(11, .long v8), (10, .int x32), (0, .ref (g.2.2 + v0)), (1, .int v1), (2, .long v2), (4, .long v4), (8, .long v8)]) hx hb dX12_pay_197 hl (by decide) rfl (fun ls hl => ?_)
  refine lv_iconst (v := (0 : Int32)) hx hb dX12_pay_199 (by decide) ?_
  refine lv_istore (lv' := [(13, .int (0 : Int32)), (11, .long v8), (10, .int x32), (0, .ref (g.2.2 + v0)), (1, .int v1), (2, .long v2), (4, .long v4), (8, .long v8)]) hx hb dX12_pay_200 hl (by decide) rfl (fun ls hl => ?_)
  exact B_X12_pay_202 E  1100000 v0 v1 x32 v8 (0 : Int32) S61 _ _ _ hf hM (lv_sub hl [3, 4, 2, 1, 0] rfl)
set_option maxRecDepth 100000 in
set_option maxHeartbeats 4000000 in
theorem B_X12_pay_102 {p : Program} {l : Launch} {e : Env} {s : State} {m : MethodId} {args : Array Value} {below : List Frame} {meth : Method} {c : Code} {g : jG} {SS : jM} {v0 : Nat} {v1 : Int32} {v2 : Int64} {v4 : Int64} {t0 : Int64} {t1 : Int64} {S : jM} (E : jEnv p s m args meth c cX12_pay "PensionHouseModel" none 17 g)  {H : Heap} {locs : List Loc} {ls : Array Slot} (hf : f_X12_pay_102 v0 v1 v2 v4 t0 t1 S = some SS) (hM : jAt g S s H locs) (hl : lv_has ls 17 [(0, .ref (g.2.2 + v0)), (1, .int v1), (2, .long v2), (4, .long v4)]) : W p l e (jRm 1021 0 0) s m args below meth c H locs 0 0 (MQ below (jQv g SS) args s 0 0 (jA0 g)) (F0 m 102 ls [.long t1, .long t0]) := by
  obtain ⟨hx, hb, hml, -, hts, hown, hK, -, hstr⟩ := id E
  unfold f_X12_pay_102 at hf
  refine lv_lsub hx hb dX12_pay_102 ?_
  refine lv_topl (fun x62 ex62 => ?_)
  have hf := jlet_y ex62 hf
  refine lv_lstore (lv' := [(8, .long x62), (0, .ref (g.2.2 + v0)), (1, .int v1), (2, .long v2), (4, .long v4)]) hx hb dX12_pay_103 hl (by decide) rfl (fun ls hl => ?_)
  exact B_X12_pay_105 E  hf hM (lv_sub hl [1, 2, 3, 4, 0] rfl)
set_option maxRecDepth 100000 in
set_option maxHeartbeats 4000000 in
theorem B_X12_pay_15 {p : Program} {l : Launch} {e : Env} {s : State} {m : MethodId} {args : Array Value} {below : List Frame} {meth : Method} {c : Code} {g : jG} {SS : jM} (E : jEnv p s m args meth c cX12_pay "PensionHouseModel" none 17 g)  : ∀ (n : Nat) (v0 : Nat) (v1 : Int32) (v2 : Int64) (v4 : Int32) (S : jM) (H : Heap) (locs : List Loc) (ls : Array Slot), f_X12_pay_15 n v0 v1 v2 v4 S = some SS → jAt g S s H locs → lv_has ls 17 [(0, .ref (g.2.2 + v0)), (1, .int v1), (2, .long v2), (4, .int v4)] → W p l e (jRm 1021 0 0) s m args below meth c H locs 0 0 (MQ below (jQv g SS) args s 0 0 (jA0 g)) (F0 m 15 ls []) := by
  obtain ⟨hx, hb, hml, -, hts, hown, hK, -, hstr⟩ := id E
  intro n
  induction n with
  | zero => intro v0 v1 v2 v4 S H locs ls hf hM hl; rw [f_X12_pay_15] at hf; cases hf
  | succ n ih =>
    intro v0 v1 v2 v4 S H locs ls hf hM hl
    rw [f_X12_pay_15] at hf
    refine lv_iload hx hb dX12_pay_15 (lv_at hl 3 rfl) ?_
    refine lv_aload_n hx hb dX12_pay_17 rfl (lv_at hl 0 rfl) ?_
    obtain ⟨hq63, hf⟩ := jif hf
    refine gt_165 E hM hq63 lk_6_79 dX12_pay_18 ?_
    refine lv_icmp_ge (tgt := 44) hx hb dX12_pay_21 (by decide) (fun c64 => ?_) (fun c64 => ?_)
    · have hf := jt c64 hf
      refine lv_aload_n hx hb dX12_pay_44 rfl (lv_at hl 0 rfl) ?_
      refine lv_iload_n hx hb dX12_pay_45 rfl (lv_at hl 1 rfl) ?_
      refine lv_aload_n hx hb dX12_pay_46 rfl (lv_at hl 0 rfl) ?_
      refine gt_165 E hM hq63 lk_6_79 dX12_pay_47 ?_
      refine lv_aload_n hx hb dX12_pay_50 rfl (lv_at hl 0 rfl) ?_
      refine gt_139 E hM hq63 lk_6_53 dX12_pay_51 ?_
      obtain ⟨x65, S66, hc67, hf⟩ := jbd_e hf
      refine jbackL hM (jrunV E hM ci_X12_dueOf (C_X12_dueOf hc67) lk_9_7 hq63 (by decide) rfl hl.1 rfl rfl (Nat.le_of_ble_eq_true rfl) ⟨Nat.le_of_ble_eq_true rfl, Nat.le_of_ble_eq_true rfl⟩ ⟨Nat.le_refl _, Nat.le_refl _⟩ dX12_pay_54) (fun H locs hM => ?_)
      refine lv_lstore (lv' := [(4, .long x65), (0, .ref (g.2.2 + v0)), (1, .int v1), (2, .long v2)]) hx hb dX12_pay_57 hl (by decide) rfl (fun ls hl => ?_)
      refine lv_lload hx hb dX12_pay_59 (lv_at hl 0 rfl) ?_
      refine lv_aload_n hx hb dX12_pay_61 rfl (lv_at hl 1 rfl) ?_
      refine gt_164 E hM hq63 lk_6_78 dX12_pay_62 ?_
      refine lv_i2l hx hb dX12_pay_65 rfl ?_
      refine lv_lmul hx hb dX12_pay_66 ?_
      refine lv_ldc2 (v := (100 : Int64)) hx hb hown (hts _ lk_9_21) dX12_pay_67 ?_
      refine lv_ldiv hx hb dX12_pay_70 (by decide) ?_
      refine lv_topl (fun x68 ex68 => ?_)
      have hf := jlet_y ex68 hf
      refine lv_lstore (lv' := [(6, .long x68), (4, .long x65), (0, .ref (g.2.2 + v0)), (1, .int v1), (2, .long v2)]) hx hb dX12_pay_71 hl (by decide) rfl (fun ls hl => ?_)
      refine lv_lload hx hb dX12_pay_73 (lv_at hl 1 rfl) ?_
      refine lv_lload_n hx hb dX12_pay_75 rfl (lv_at hl 4 rfl) ?_
      refine lv_ladd hx hb dX12_pay_76 ?_
      refine lv_topl (fun x69 ex69 => ?_)
      have hf := jlet_y ex69 hf
      refine lv_lstore (lv' := [(8, .long x69), (6, .long x68), (4, .long x65), (0, .ref (g.2.2 + v0)), (1, .int v1), (2, .long v2)]) hx hb dX12_pay_77 hl (by decide) rfl (fun ls hl => ?_)
      refine lv_lload_n hx hb dX12_pay_79 rfl (lv_at hl 5 rfl) ?_
      refine lv_lconst (v := (0 : Int64)) hx hb dX12_pay_80 (by decide) ?_
      refine jl_ge (tgt := 105) hx hb dX12_pay_81 dX12_pay_82 (by decide) (fun c70 => ?_) (fun c70 => ?_)
      · have hf := jt c70 hf
        exact B_X12_pay_105 E  hf hM (lv_sub hl [3, 4, 5, 2, 0] rfl)
      · have hf := jf c70 hf
        refine lv_lload hx hb dX12_pay_85 (lv_at hl 2 rfl) ?_
        refine lv_lload_n hx hb dX12_pay_87 rfl (lv_at hl 5 rfl) ?_
        refine lv_lneg hx hb dX12_pay_88 ?_
        refine lv_lload hx hb dX12_pay_89 (lv_at hl 1 rfl) ?_
        refine jl_ge (tgt := 100) hx hb dX12_pay_91 dX12_pay_92 (by decide) (fun c71 => ?_) (fun c71 => ?_)
        · have hf := jt c71 hf
          refine lv_lload hx hb dX12_pay_100 (lv_at hl 1 rfl) ?_
          exact B_X12_pay_102 E  hf hM (lv_sub hl [3, 4, 5, 2] rfl)
        · have hf := jf c71 hf
          refine lv_lload_n hx hb dX12_pay_95 rfl (lv_at hl 5 rfl) ?_
          refine lv_lneg hx hb dX12_pay_96 ?_
          refine lv_goto (tgt := 102) hx hb dX12_pay_97 (by decide) ?_
          exact B_X12_pay_102 E  hf hM (lv_sub hl [3, 4, 5, 2] rfl)
    · have hf := jf c64 hf
      refine lv_lload_n hx hb dX12_pay_24 rfl (lv_at hl 2 rfl) ?_
      refine lv_aload_n hx hb dX12_pay_25 rfl (lv_at hl 0 rfl) ?_
      refine lv_iload_n hx hb dX12_pay_26 rfl (lv_at hl 1 rfl) ?_
      refine lv_iload hx hb dX12_pay_27 (lv_at hl 3 rfl) ?_
      refine lv_aload_n hx hb dX12_pay_29 rfl (lv_at hl 0 rfl) ?_
      refine gt_139 E hM hq63 lk_6_53 dX12_pay_30 ?_
      obtain ⟨x72, S73, hc74, hf⟩ := jbd_e hf
      refine jbackL hM (jrunV E hM ci_X12_dueOf (C_X12_dueOf hc74) lk_9_7 hq63 (by decide) rfl hl.1 rfl rfl (Nat.le_of_ble_eq_true rfl) ⟨Nat.le_of_ble_eq_true rfl, Nat.le_of_ble_eq_true rfl⟩ ⟨Nat.le_refl _, Nat.le_refl _⟩ dX12_pay_33) (fun H locs hM => ?_)
      refine lv_ladd hx hb dX12_pay_36 ?_
      refine lv_topl (fun x75 ex75 => ?_)
      have hf := jlet_y ex75 hf
      refine lv_lstore_n (lv' := [(2, .long x75), (0, .ref (g.2.2 + v0)), (1, .int v1), (4, .int v4)]) hx hb dX12_pay_37 rfl hl (by decide) rfl (fun ls hl => ?_)
      obtain ⟨x76, ex76⟩ : ∃ z, z = v4 + (1 : Int32) := ⟨_, rfl⟩
      have hf := jlet_y ex76 hf
      refine lv_iinc (v := x76) (lv' := [(4, .int x76), (2, .long x75), (0, .ref (g.2.2 + v0)), (1, .int v1)]) hx hb dX12_pay_38 hl (k := 3) rfl (by rw [ex76]; rfl) (by decide) rfl (fun ls hl => ?_)
      refine lv_goto (tgt := 15) hx hb dX12_pay_41 (by decide) ?_
      exact ih v0 v1 x75 x76 S73 _ _ _ hf hM (lv_sub hl [2, 3, 1, 0] rfl)
set_option maxRecDepth 100000 in
set_option maxHeartbeats 4000000 in
theorem B_X12_pay_0 {p : Program} {l : Launch} {e : Env} {s : State} {m : MethodId} {args : Array Value} {below : List Frame} {meth : Method} {c : Code} {g : jG} {SS : jM} {v0 : Nat} {v1 : Int32} {S : jM} (E : jEnv p s m args meth c cX12_pay "PensionHouseModel" none 17 g)  {H : Heap} {locs : List Loc} {ls : Array Slot} (hf : f_X12_pay v0 v1 S = some SS) (hM : jAt g S s H locs) (hl : lv_has ls 17 [(0, .ref (g.2.2 + v0)), (1, .int v1)]) : W p l e (jRm 1021 0 0) s m args below meth c H locs 0 0 (MQ below (jQv g SS) args s 0 0 (jA0 g)) (F0 m 0 ls []) := by
  obtain ⟨hx, hb, hml, -, hts, hown, hK, -, hstr⟩ := id E
  unfold f_X12_pay at hf
  refine lv_aload_n hx hb dX12_pay_0 rfl (lv_at hl 0 rfl) ?_
  refine lv_iload_n hx hb dX12_pay_1 rfl (lv_at hl 1 rfl) ?_
  obtain ⟨hq79, hf⟩ := jif hf
  obtain ⟨x77, hc78, hf⟩ := jb hf
  refine jbackL hM (jrunV E hM ci_X12_paid (C_X12_paid hc78) lk_9_35 hq79 (by decide) rfl hl.1 rfl rfl (Nat.le_of_ble_eq_true rfl) ⟨Nat.le_of_ble_eq_true rfl, Nat.le_of_ble_eq_true rfl⟩ ⟨Nat.le_refl _, Nat.le_refl _⟩ dX12_pay_2) (fun H locs hM => ?_)
  refine lv_lneg hx hb dX12_pay_5 ?_
  refine lv_topl (fun x80 ex80 => ?_)
  have hf := jlet_y ex80 hf
  refine lv_lstore_n (lv' := [(2, .long x80), (0, .ref (g.2.2 + v0)), (1, .int v1)]) hx hb dX12_pay_6 rfl hl (by decide) rfl (fun ls hl => ?_)
  refine lv_aload_n hx hb dX12_pay_7 rfl (lv_at hl 1 rfl) ?_
  refine gt_159 E hM hq79 lk_6_73 dX12_pay_8 ?_
  obtain ⟨r81, hr82, hf⟩ := jb hf
  rw [hr82]
  show W p l e _ s m args below meth c H locs 0 0 _ (F0 m _ ls (.ref (g.2.2 + r81) :: _))
  refine lv_iload_n hx hb dX12_pay_11 rfl (lv_at hl 2 rfl) ?_
  obtain ⟨ha83, hf⟩ := jif hf
  refine jiald E hM ha83 dX12_pay_12 ?_
  refine lv_topi (fun x84 ex84 => ?_)
  have hf := jlet_y ex84 hf
  refine lv_istore (lv' := [(4, .int x84), (2, .long x80), (0, .ref (g.2.2 + v0)), (1, .int v1)]) hx hb dX12_pay_13 hl (by decide) rfl (fun ls hl => ?_)
  exact B_X12_pay_15 E  1100000 v0 v1 x80 x84 S _ _ _ hf hM (lv_sub hl [2, 3, 1, 0] rfl)
set_option maxRecDepth 100000 in
theorem C_X12_pay {l : Launch} {g : jG} {a0 : Nat} {a1 : Int32} {S : jM} {SS : jM} (hf : f_X12_pay a0 a1 S = some SS) : jMet l g yX12_pay cX12_pay 17 none 1021 0 0 [.ref (g.2.2 + a0), .int a1] S (jQv g SS) := by
  refine jof (by decide +kernel) (Nat.le_of_ble_eq_true rfl) ?_
  intro p e s m below meth c E hM ls hl
  have hl : lv_has ls 17 [(0, .ref (g.2.2 + a0)),(1, .int a1)] := hl
  exact B_X12_pay_0 E hf hM hl
-- PensionHouseModel.advance(I)I  mode M
noncomputable def f_X12_advance_31 : Nat → Nat → Int32 → Int32 → jM → Option (Int32 × jM)
  | 0, _, _, _, _ => none
  | n + 1, v0, v1, v2, S => if v1 ≤ v2 then some (v2, S) else if jK v0 = 10 then if (jI S 167 v0) ≤ (jI S 168 v0) then some (v2, S) else (jR S 166 v0).bind (fun r4 => if jA r4 13 (jI S 168 v0) = true then (f_X12_pay v0 (jAI S r4 (jI S 168 v0).toNatClampNeg) S).bind (fun S7 => jlet (jsI S7 168 v0 ((jI S7 168 v0) + (1 : Int32))) (fun S9 => jlet (v2 + (1 : Int32)) (fun x10 => (f_X12_advance_31 n) v0 v1 x10 S9))) else none) else none
noncomputable def f_X12_advance (v0 : Nat) (v1 : Int32) (S : jM) : Option (Int32 × jM) := if (f_X12_in (v1.toInt64) (1 : Int64) (6 : Int64)) = 0 then some ((-3 : Int32), S) else if jK v0 = 10 then if (jI S 168 v0) = (jI S 167 v0) then some ((-4 : Int32), S) else f_X12_advance_31 1100000 v0 v1 (0 : Int32) S else none
set_option maxRecDepth 100000 in
set_option maxHeartbeats 4000000 in
theorem B_X12_advance_31 {p : Program} {l : Launch} {e : Env} {s : State} {m : MethodId} {args : Array Value} {below : List Frame} {meth : Method} {c : Code} {g : jG} {rr : Int32} {SS : jM} (E : jEnv p s m args meth c cX12_advance "PensionHouseModel" (some .int) 3 g)  : ∀ (n : Nat) (v0 : Nat) (v1 : Int32) (v2 : Int32) (S : jM) (H : Heap) (locs : List Loc) (ls : Array Slot), f_X12_advance_31 n v0 v1 v2 S = some (rr, SS) → jAt g S s H locs → lv_has ls 3 [(0, .ref (g.2.2 + v0)), (1, .int v1), (2, .int v2)] → W p l e (jRm 1022 0 0) s m args below meth c H locs 0 0 (MQ below (jQi g rr SS) args s 0 0 (jA0 g)) (F0 m 31 ls []) := by
  obtain ⟨hx, hb, hml, -, hts, hown, hK, -, hstr⟩ := id E
  intro n
  induction n with
  | zero => intro v0 v1 v2 S H locs ls hf hM hl; rw [f_X12_advance_31] at hf; cases hf
  | succ n ih =>
    intro v0 v1 v2 S H locs ls hf hM hl
    rw [f_X12_advance_31] at hf
    refine lv_iload_n hx hb dX12_advance_31 rfl (lv_at hl 2 rfl) ?_
    refine lv_iload_n hx hb dX12_advance_32 rfl (lv_at hl 1 rfl) ?_
    refine lv_icmp_ge (tgt := 76) hx hb dX12_advance_33 (by decide) (fun c1 => ?_) (fun c1 => ?_)
    · have hf := jt c1 hf
      refine lv_iload_n hx hb dX12_advance_76 rfl (lv_at hl 2 rfl) ?_
      exact jireti (jr2 hf) E hM dX12_advance_77
    · have hf := jf c1 hf
      refine lv_aload_n hx hb dX12_advance_36 rfl (lv_at hl 0 rfl) ?_
      obtain ⟨hq2, hf⟩ := jif hf
      refine gt_168 E hM hq2 lk_6_82 dX12_advance_37 ?_
      refine lv_aload_n hx hb dX12_advance_40 rfl (lv_at hl 0 rfl) ?_
      refine gt_167 E hM hq2 lk_6_81 dX12_advance_41 ?_
      refine lv_icmp_ge (tgt := 76) hx hb dX12_advance_44 (by decide) (fun c3 => ?_) (fun c3 => ?_)
      · have hf := jt c3 hf
        refine lv_iload_n hx hb dX12_advance_76 rfl (lv_at hl 2 rfl) ?_
        exact jireti (jr2 hf) E hM dX12_advance_77
      · have hf := jf c3 hf
        refine lv_aload_n hx hb dX12_advance_47 rfl (lv_at hl 0 rfl) ?_
        refine lv_aload_n hx hb dX12_advance_48 rfl (lv_at hl 0 rfl) ?_
        refine gt_166 E hM hq2 lk_6_80 dX12_advance_49 ?_
        obtain ⟨r4, hr5, hf⟩ := jb hf
        rw [hr5]
        show W p l e _ s m args below meth c H locs 0 0 _ (F0 m _ ls (.ref (g.2.2 + r4) :: _))
        refine lv_aload_n hx hb dX12_advance_52 rfl (lv_at hl 0 rfl) ?_
        refine gt_168 E hM hq2 lk_6_82 dX12_advance_53 ?_
        obtain ⟨ha6, hf⟩ := jif hf
        refine jiald E hM ha6 dX12_advance_56 ?_
        obtain ⟨S7, hc8, hf⟩ := jb hf
        refine jbackV hM (jrunV E hM ci_X12_pay (C_X12_pay hc8) lk_9_31 hq2 (by decide) rfl hl.1 rfl rfl (Nat.le_of_ble_eq_true rfl) ⟨Nat.le_of_ble_eq_true rfl, Nat.le_of_ble_eq_true rfl⟩ ⟨Nat.le_refl _, Nat.le_refl _⟩ dX12_advance_57) (fun H locs hM => ?_)
        refine lv_aload_n hx hb dX12_advance_60 rfl (lv_at hl 0 rfl) ?_
        refine lv_dup hx hb dX12_advance_61 rfl ?_
        refine gt_168 E hM hq2 lk_6_82 dX12_advance_62 ?_
        refine lv_iconst (v := (1 : Int32)) hx hb dX12_advance_65 (by decide) ?_
        refine lv_iadd hx hb dX12_advance_66 ?_
        refine pt_168 E hM hq2 lk_6_82 dX12_advance_67 (fun H locs S9 eS9 hM => ?_)
        have hf := jlet_y eS9 hf
        obtain ⟨x10, ex10⟩ : ∃ z, z = v2 + (1 : Int32) := ⟨_, rfl⟩
        have hf := jlet_y ex10 hf
        refine lv_iinc (v := x10) (lv' := [(2, .int x10), (0, .ref (g.2.2 + v0)), (1, .int v1)]) hx hb dX12_advance_70 hl (k := 2) rfl (by rw [ex10]; rfl) (by decide) rfl (fun ls hl => ?_)
        refine lv_goto (tgt := 31) hx hb dX12_advance_73 (by decide) ?_
        exact ih v0 v1 x10 S9 _ _ _ hf hM (lv_sub hl [1, 2, 0] rfl)
set_option maxRecDepth 100000 in
set_option maxHeartbeats 4000000 in
theorem B_X12_advance_0 {p : Program} {l : Launch} {e : Env} {s : State} {m : MethodId} {args : Array Value} {below : List Frame} {meth : Method} {c : Code} {g : jG} {rr : Int32} {SS : jM} {v0 : Nat} {v1 : Int32} {S : jM} (E : jEnv p s m args meth c cX12_advance "PensionHouseModel" (some .int) 3 g)  {H : Heap} {locs : List Loc} {ls : Array Slot} (hf : f_X12_advance v0 v1 S = some (rr, SS)) (hM : jAt g S s H locs) (hl : lv_has ls 3 [(0, .ref (g.2.2 + v0)), (1, .int v1)]) : W p l e (jRm 1022 0 0) s m args below meth c H locs 0 0 (MQ below (jQi g rr SS) args s 0 0 (jA0 g)) (F0 m 0 ls []) := by
  obtain ⟨hx, hb, hml, -, hts, hown, hK, -, hstr⟩ := id E
  unfold f_X12_advance at hf
  refine lv_iload_n hx hb dX12_advance_0 rfl (lv_at hl 1 rfl) ?_
  refine lv_i2l hx hb dX12_advance_1 rfl ?_
  refine lv_lconst (v := (1 : Int64)) hx hb dX12_advance_2 (by decide) ?_
  refine lv_ldc2 (v := (6 : Int64)) hx hb hown (hts _ lk_9_30) dX12_advance_3 ?_
  refine jbackI hM (jrunS E hM ci_X12_in (C_X12_in rfl) lk_7_36 hl.1 rfl rfl (Nat.le_of_ble_eq_true rfl) ⟨Nat.le_of_ble_eq_true rfl, Nat.le_of_ble_eq_true rfl⟩ ⟨Nat.le_refl _, Nat.le_refl _⟩ dX12_advance_6) (fun H locs hM => ?_)
  refine lv_if_ne (tgt := 15) hx hb dX12_advance_9 (by decide) (fun c11 => ?_) (fun c11 => ?_)
  · have hf := jf c11 hf
    refine lv_aload_n hx hb dX12_advance_15 rfl (lv_at hl 0 rfl) ?_
    obtain ⟨hq12, hf⟩ := jif hf
    refine gt_168 E hM hq12 lk_6_82 dX12_advance_16 ?_
    refine lv_aload_n hx hb dX12_advance_19 rfl (lv_at hl 0 rfl) ?_
    refine gt_167 E hM hq12 lk_6_81 dX12_advance_20 ?_
    refine lv_icmp_ne (tgt := 29) hx hb dX12_advance_23 (by decide) (fun c13 => ?_) (fun c13 => ?_)
    · have hf := jf c13 hf
      refine lv_iconst (v := (0 : Int32)) hx hb dX12_advance_29 (by decide) ?_
      refine lv_istore_n (lv' := [(2, .int (0 : Int32)), (0, .ref (g.2.2 + v0)), (1, .int v1)]) hx hb dX12_advance_30 rfl hl (by decide) rfl (fun ls hl => ?_)
      exact B_X12_advance_31 E  1100000 v0 v1 (0 : Int32) S _ _ _ hf hM (lv_sub hl [1, 2, 0] rfl)
    · have hf := jt c13 hf
      refine lv_bipush (v := (-4 : Int32)) hx hb dX12_advance_26 (by decide) ?_
      exact jireti (jr2 hf) E hM dX12_advance_28
  · have hf := jt c11 hf
    refine lv_bipush (v := (-3 : Int32)) hx hb dX12_advance_12 (by decide) ?_
    exact jireti (jr2 hf) E hM dX12_advance_14
set_option maxRecDepth 100000 in
theorem C_X12_advance {l : Launch} {g : jG} {a0 : Nat} {a1 : Int32} {S : jM} {rr : Int32} {SS : jM} (hf : f_X12_advance a0 a1 S = some (rr, SS)) : jMet l g yX12_advance cX12_advance 3 (some .int) 1022 0 0 [.ref (g.2.2 + a0), .int a1] S (jQi g rr SS) := by
  refine jof (by decide +kernel) (Nat.le_of_ble_eq_true rfl) ?_
  intro p e s m below meth c E hM ls hl
  have hl : lv_has ls 3 [(0, .ref (g.2.2 + a0)),(1, .int a1)] := hl
  exact B_X12_advance_0 E hf hM hl
-- PensionHouseModel.annul(I)I  mode M
noncomputable def f_X12_annul (v0 : Nat) (v1 : Int32) (S : jM) : Option (Int32 × jM) := if jK v0 = 10 then if (f_X12_in (v1.toInt64) (0 : Int64) (((jI S 146 v0) - (1 : Int32)).toInt64)) = 0 then some ((-2 : Int32), S) else (jR S 145 v0).bind (fun r3 => if jA r3 13 v1 = true then if (jAI S r3 (v1).toNatClampNeg) < 0 then (jR S 145 v0).bind (fun r7 => if jA r7 13 v1 = true then jlet (jrI S r7 (upd (jAI S r7) (v1).toNatClampNeg (jI S 139 v0))) (fun S10 => some ((1 : Int32), S10)) else none) else some ((-4 : Int32), S) else none) else none
set_option maxRecDepth 100000 in
set_option maxHeartbeats 4000000 in
theorem B_X12_annul_0 {p : Program} {l : Launch} {e : Env} {s : State} {m : MethodId} {args : Array Value} {below : List Frame} {meth : Method} {c : Code} {g : jG} {rr : Int32} {SS : jM} {v0 : Nat} {v1 : Int32} {S : jM} (E : jEnv p s m args meth c cX12_annul "PensionHouseModel" (some .int) 2 g)  {H : Heap} {locs : List Loc} {ls : Array Slot} (hf : f_X12_annul v0 v1 S = some (rr, SS)) (hM : jAt g S s H locs) (hl : lv_has ls 2 [(0, .ref (g.2.2 + v0)), (1, .int v1)]) : W p l e (jRm 2 0 0) s m args below meth c H locs 0 0 (MQ below (jQi g rr SS) args s 0 0 (jA0 g)) (F0 m 0 ls []) := by
  obtain ⟨hx, hb, hml, -, hts, hown, hK, -, hstr⟩ := id E
  unfold f_X12_annul at hf
  refine lv_iload_n hx hb dX12_annul_0 rfl (lv_at hl 1 rfl) ?_
  refine lv_i2l hx hb dX12_annul_1 rfl ?_
  refine lv_lconst (v := (0 : Int64)) hx hb dX12_annul_2 (by decide) ?_
  refine lv_aload_n hx hb dX12_annul_3 rfl (lv_at hl 0 rfl) ?_
  obtain ⟨hq1, hf⟩ := jif hf
  refine gt_146 E hM hq1 lk_6_60 dX12_annul_4 ?_
  refine lv_iconst (v := (1 : Int32)) hx hb dX12_annul_7 (by decide) ?_
  refine lv_isub hx hb dX12_annul_8 ?_
  refine lv_i2l hx hb dX12_annul_9 rfl ?_
  refine jbackI hM (jrunS E hM ci_X12_in (C_X12_in rfl) lk_7_36 hl.1 rfl rfl (Nat.le_of_ble_eq_true rfl) ⟨Nat.le_of_ble_eq_true rfl, Nat.le_of_ble_eq_true rfl⟩ ⟨Nat.le_refl _, Nat.le_refl _⟩ dX12_annul_10) (fun H locs hM => ?_)
  refine lv_if_ne (tgt := 19) hx hb dX12_annul_13 (by decide) (fun c2 => ?_) (fun c2 => ?_)
  · have hf := jf c2 hf
    refine lv_aload_n hx hb dX12_annul_19 rfl (lv_at hl 0 rfl) ?_
    refine gt_145 E hM hq1 lk_6_59 dX12_annul_20 ?_
    obtain ⟨r3, hr4, hf⟩ := jb hf
    rw [hr4]
    show W p l e _ s m args below meth c H locs 0 0 _ (F0 m _ ls (.ref (g.2.2 + r3) :: _))
    refine lv_iload_n hx hb dX12_annul_23 rfl (lv_at hl 1 rfl) ?_
    obtain ⟨ha5, hf⟩ := jif hf
    refine jiald E hM ha5 dX12_annul_24 ?_
    refine lv_if_lt (tgt := 31) hx hb dX12_annul_25 (by decide) (fun c6 => ?_) (fun c6 => ?_)
    · have hf := jt c6 hf
      refine lv_aload_n hx hb dX12_annul_31 rfl (lv_at hl 0 rfl) ?_
      refine gt_145 E hM hq1 lk_6_59 dX12_annul_32 ?_
      obtain ⟨r7, hr8, hf⟩ := jb hf
      rw [hr8]
      show W p l e _ s m args below meth c H locs 0 0 _ (F0 m _ ls (.ref (g.2.2 + r7) :: _))
      refine lv_iload_n hx hb dX12_annul_35 rfl (lv_at hl 1 rfl) ?_
      refine lv_aload_n hx hb dX12_annul_36 rfl (lv_at hl 0 rfl) ?_
      refine gt_139 E hM hq1 lk_6_53 dX12_annul_37 ?_
      obtain ⟨ha9, hf⟩ := jif hf
      refine jiast E hM ha9 dX12_annul_40 (fun H locs S10 eS10 hM => ?_)
      have hf := jlet_y eS10 hf
      refine lv_iconst (v := (1 : Int32)) hx hb dX12_annul_41 (by decide) ?_
      exact jireti (jr2 hf) E hM dX12_annul_42
    · have hf := jf c6 hf
      refine lv_bipush (v := (-4 : Int32)) hx hb dX12_annul_28 (by decide) ?_
      exact jireti (jr2 hf) E hM dX12_annul_30
  · have hf := jt c2 hf
    refine lv_bipush (v := (-2 : Int32)) hx hb dX12_annul_16 (by decide) ?_
    exact jireti (jr2 hf) E hM dX12_annul_18
set_option maxRecDepth 100000 in
theorem C_X12_annul {l : Launch} {g : jG} {a0 : Nat} {a1 : Int32} {S : jM} {rr : Int32} {SS : jM} (hf : f_X12_annul a0 a1 S = some (rr, SS)) : jMet l g yX12_annul cX12_annul 2 (some .int) 2 0 0 [.ref (g.2.2 + a0), .int a1] S (jQi g rr SS) := by
  refine jof (by decide +kernel) (Nat.le_of_ble_eq_true rfl) ?_
  intro p e s m below meth c E hM ls hl
  have hl : lv_has ls 2 [(0, .ref (g.2.2 + a0)),(1, .int a1)] := hl
  exact B_X12_annul_0 E hf hM hl
-- PensionHouseModel.areAlike(II)Z  mode R
noncomputable def f_X12_areAlike_163 (k58 : Nat → Int32 → Int32 → Int32 → Int32 → jM → Option Int32) (v0 : Nat) (v1 : Int32) (v2 : Int32) (v3 : Int32) (v4 : Int32) (S : jM) : Option Int32 := jlet (v4 + (1 : Int32)) (fun x1 => k58 v0 v1 v2 v3 x1 S)
noncomputable def f_X12_areAlike_89 (k58 : Nat → Int32 → Int32 → Int32 → Int32 → jM → Option Int32) (v0 : Nat) (v1 : Int32) (v2 : Int32) (v3 : Int32) (v4 : Int32) (t0 : Int32) (S : jM) : Option Int32 := if t0 = 0 then if jK v0 = 10 then (jR S 90 v0).bind (fun r4 => if jA r4 14 (((12 : Int32) * v1) + v4) = true then (jR S 90 v0).bind (fun r7 => if jA r7 14 (((12 : Int32) * v2) + v4) = true then if (jAL S r4 (((12 : Int32) * v1) + v4).toNatClampNeg) = (jAL S r7 (((12 : Int32) * v2) + v4).toNatClampNeg) then f_X12_areAlike_163 k58 v0 v1 v2 v3 v4 S else some (0 : Int32) else none) else none) else none else if jK v0 = 10 then (jR S 91 v0).bind (fun r12 => if jA r12 12 (((12 : Int32) * v1) + v4) = true then (f_X12_bitsOf (jAD S r12 (((12 : Int32) * v1) + v4).toNatClampNeg)).bind (fun x15 => (jR S 91 v0).bind (fun r17 => if jA r17 12 (((12 : Int32) * v2) + v4) = true then (f_X12_bitsOf (jAD S r17 (((12 : Int32) * v2) + v4).toNatClampNeg)).bind (fun x20 => if x15 = x20 then f_X12_areAlike_163 k58 v0 v1 v2 v3 v4 S else some (0 : Int32)) else none)) else none) else none
noncomputable def f_X12_areAlike_84 (k58 : Nat → Int32 → Int32 → Int32 → Int32 → jM → Option Int32) (v0 : Nat) (v1 : Int32) (v2 : Int32) (v3 : Int32) (v4 : Int32) (S : jM) : Option Int32 := f_X12_areAlike_89 k58 v0 v1 v2 v3 v4 (1 : Int32) S
noncomputable def f_X12_areAlike_58 : Nat → Nat → Int32 → Int32 → Int32 → Int32 → jM → Option Int32
  | 0, _, _, _, _, _, _ => none
  | n + 1, v0, v1, v2, v3, v4, S => if v3 ≤ v4 then some (1 : Int32) else if jK v0 = 10 then (jR S 88 v0).bind (fun r25 => if jA r25 13 v1 = true then if (jAI S r25 (v1).toNatClampNeg) = (1 : Int32) then f_X12_areAlike_84 (f_X12_areAlike_58 n) v0 v1 v2 v3 v4 S else (jR S 88 v0).bind (fun r29 => if jA r29 13 v1 = true then if (jAI S r29 (v1).toNatClampNeg) = (4 : Int32) then f_X12_areAlike_84 (f_X12_areAlike_58 n) v0 v1 v2 v3 v4 S else f_X12_areAlike_89 (f_X12_areAlike_58 n) v0 v1 v2 v3 v4 (0 : Int32) S else none) else none) else none
noncomputable def f_X12_areAlike_54 (v0 : Nat) (v1 : Int32) (v2 : Int32) (t0 : Int32) (S : jM) : Option Int32 := f_X12_areAlike_58 1100000 v0 v1 v2 t0 (0 : Int32) S
noncomputable def f_X12_areAlike (v0 : Nat) (v1 : Int32) (v2 : Int32) (S : jM) : Option Int32 := if jK v0 = 10 then (jR S 88 v0).bind (fun r34 => if jA r34 13 v1 = true then (jR S 88 v0).bind (fun r37 => if jA r37 13 v2 = true then if (jAI S r34 (v1).toNatClampNeg) = (jAI S r37 (v2).toNatClampNeg) then (jR S 89 v0).bind (fun r41 => if jA r41 13 v1 = true then (jR S 89 v0).bind (fun r44 => if jA r44 13 v2 = true then if (jAI S r41 (v1).toNatClampNeg) = (jAI S r44 (v2).toNatClampNeg) then (jR S 88 v0).bind (fun r48 => if jA r48 13 v1 = true then if (f_X12_isRow (jAI S r48 (v1).toNatClampNeg)) = 0 then f_X12_areAlike_54 v0 v1 v2 (1 : Int32) S else (jR S 89 v0).bind (fun r52 => if jA r52 13 v1 = true then f_X12_areAlike_54 v0 v1 v2 (jAI S r52 (v1).toNatClampNeg) S else none) else none) else some (0 : Int32) else none) else none) else some (0 : Int32) else none) else none) else none
set_option maxRecDepth 100000 in
set_option maxHeartbeats 4000000 in
theorem B_X12_areAlike_163 {p : Program} {l : Launch} {e : Env} {s : State} {m : MethodId} {args : Array Value} {below : List Frame} {meth : Method} {c : Code} {g : jG} {rr : Int32} {S : jM} {v0 : Nat} {v1 : Int32} {v2 : Int32} {v3 : Int32} {v4 : Int32} {k58 : Nat → Int32 → Int32 → Int32 → Int32 → jM → Option Int32} (E : jEnv p s m args meth c cX12_areAlike "PensionHouseModel" (some .boolean) 6 g) (hk58 : ∀ (v0 : Nat) (v1 : Int32) (v2 : Int32) (v3 : Int32) (v4 : Int32) (H : Heap) (locs : List Loc) (ls : Array Slot), k58 v0 v1 v2 v3 v4 S = some rr → jAt g S s H locs → lv_has ls 6 [(0, .ref (g.2.2 + v0)), (1, .int v1), (2, .int v2), (3, .int v3), (4, .int v4)] → W p l e (jRm 2 0 0) s m args below meth c H locs 0 0 (MQ below (jQi g rr S) args s 0 0 (jA0 g)) (F0 m 58 ls [])) {H : Heap} {locs : List Loc} {ls : Array Slot} (hf : f_X12_areAlike_163 k58 v0 v1 v2 v3 v4 S = some rr) (hM : jAt g S s H locs) (hl : lv_has ls 6 [(0, .ref (g.2.2 + v0)), (1, .int v1), (2, .int v2), (3, .int v3), (4, .int v4)]) : W p l e (jRm 2 0 0) s m args below meth c H locs 0 0 (MQ below (jQi g rr S) args s 0 0 (jA0 g)) (F0 m 163 ls []) := by
  obtain ⟨hx, hb, hml, -, hts, hown, hK, -, hstr⟩ := id E
  unfold f_X12_areAlike_163 at hf
  obtain ⟨x1, ex1⟩ : ∃ z, z = v4 + (1 : Int32) := ⟨_, rfl⟩
  have hf := jlet_y ex1 hf
  refine lv_iinc (v := x1) (lv' := [(4, .int x1), (0, .ref (g.2.2 + v0)), (1, .int v1), (2, .int v2), (3, .int v3)]) hx hb dX12_areAlike_163 hl (k := 4) rfl (by rw [ex1]; rfl) (by decide) rfl (fun ls hl => ?_)
  refine lv_goto (tgt := 58) hx hb dX12_areAlike_166 (by decide) ?_
  exact hk58 v0 v1 v2 v3 x1 _ _ _ hf hM (lv_sub hl [1, 2, 3, 4, 0] rfl)
set_option maxRecDepth 100000 in
set_option maxHeartbeats 4000000 in
theorem B_X12_areAlike_89 {p : Program} {l : Launch} {e : Env} {s : State} {m : MethodId} {args : Array Value} {below : List Frame} {meth : Method} {c : Code} {g : jG} {rr : Int32} {S : jM} {v0 : Nat} {v1 : Int32} {v2 : Int32} {v3 : Int32} {v4 : Int32} {t0 : Int32} {k58 : Nat → Int32 → Int32 → Int32 → Int32 → jM → Option Int32} (E : jEnv p s m args meth c cX12_areAlike "PensionHouseModel" (some .boolean) 6 g) (hk58 : ∀ (v0 : Nat) (v1 : Int32) (v2 : Int32) (v3 : Int32) (v4 : Int32) (H : Heap) (locs : List Loc) (ls : Array Slot), k58 v0 v1 v2 v3 v4 S = some rr → jAt g S s H locs → lv_has ls 6 [(0, .ref (g.2.2 + v0)), (1, .int v1), (2, .int v2), (3, .int v3), (4, .int v4)] → W p l e (jRm 2 0 0) s m args below meth c H locs 0 0 (MQ below (jQi g rr S) args s 0 0 (jA0 g)) (F0 m 58 ls [])) {H : Heap} {locs : List Loc} {ls : Array Slot} (hf : f_X12_areAlike_89 k58 v0 v1 v2 v3 v4 t0 S = some rr) (hM : jAt g S s H locs) (hl : lv_has ls 6 [(0, .ref (g.2.2 + v0)), (1, .int v1), (2, .int v2), (3, .int v3), (4, .int v4)]) : W p l e (jRm 2 0 0) s m args below meth c H locs 0 0 (MQ below (jQi g rr S) args s 0 0 (jA0 g)) (F0 m 89 ls [.int t0]) := by
  obtain ⟨hx, hb, hml, -, hts, hown, hK, -, hstr⟩ := id E
  unfold f_X12_areAlike_89 at hf
  refine lv_istore (lv' := [(5, .int t0), (0, .ref (g.2.2 + v0)), (1, .int v1), (2, .int v2), (3, .int v3), (4, .int v4)]) hx hb dX12_areAlike_89 hl (by decide) rfl (fun ls hl => ?_)
  refine lv_iload hx hb dX12_areAlike_91 (lv_at hl 0 rfl) ?_
  refine lv_if_eq (tgt := 133) hx hb dX12_areAlike_93 (by decide) (fun c2 => ?_) (fun c2 => ?_)
  · have hf := jt c2 hf
    refine lv_aload_n hx hb dX12_areAlike_133 rfl (lv_at hl 1 rfl) ?_
    obtain ⟨hq3, hf⟩ := jif hf
    refine gt_90 E hM hq3 lk_6_4 dX12_areAlike_134 ?_
    obtain ⟨r4, hr5, hf⟩ := jb hf
    rw [hr5]
    show W p l e _ s m args below meth c H locs 0 0 _ (F0 m _ ls (.ref (g.2.2 + r4) :: _))
    refine lv_bipush (v := (12 : Int32)) hx hb dX12_areAlike_137 (by decide) ?_
    refine lv_iload_n hx hb dX12_areAlike_139 rfl (lv_at hl 2 rfl) ?_
    refine lv_imul hx hb dX12_areAlike_140 ?_
    refine lv_iload hx hb dX12_areAlike_141 (lv_at hl 5 rfl) ?_
    refine lv_iadd hx hb dX12_areAlike_143 ?_
    obtain ⟨ha6, hf⟩ := jif hf
    refine jlald E hM ha6 dX12_areAlike_144 ?_
    refine lv_aload_n hx hb dX12_areAlike_145 rfl (lv_at hl 1 rfl) ?_
    refine gt_90 E hM hq3 lk_6_4 dX12_areAlike_146 ?_
    obtain ⟨r7, hr8, hf⟩ := jb hf
    rw [hr8]
    show W p l e _ s m args below meth c H locs 0 0 _ (F0 m _ ls (.ref (g.2.2 + r7) :: _))
    refine lv_bipush (v := (12 : Int32)) hx hb dX12_areAlike_149 (by decide) ?_
    refine lv_iload_n hx hb dX12_areAlike_151 rfl (lv_at hl 3 rfl) ?_
    refine lv_imul hx hb dX12_areAlike_152 ?_
    refine lv_iload hx hb dX12_areAlike_153 (lv_at hl 5 rfl) ?_
    refine lv_iadd hx hb dX12_areAlike_155 ?_
    obtain ⟨ha9, hf⟩ := jif hf
    refine jlald E hM ha9 dX12_areAlike_156 ?_
    refine jl_eq (tgt := 163) hx hb dX12_areAlike_157 dX12_areAlike_158 (by decide) (fun c10 => ?_) (fun c10 => ?_)
    · have hf := jt c10 hf
      exact B_X12_areAlike_163 E hk58 hf hM (lv_sub hl [1, 2, 3, 4, 5] rfl)
    · have hf := jf c10 hf
      refine lv_iconst (v := (0 : Int32)) hx hb dX12_areAlike_161 (by decide) ?_
      exact jiretz (jr1 hf) E hM (by decide) dX12_areAlike_162
  · have hf := jf c2 hf
    refine lv_aload_n hx hb dX12_areAlike_96 rfl (lv_at hl 1 rfl) ?_
    obtain ⟨hq11, hf⟩ := jif hf
    refine gt_91 E hM hq11 lk_6_5 dX12_areAlike_97 ?_
    obtain ⟨r12, hr13, hf⟩ := jb hf
    rw [hr13]
    show W p l e _ s m args below meth c H locs 0 0 _ (F0 m _ ls (.ref (g.2.2 + r12) :: _))
    refine lv_bipush (v := (12 : Int32)) hx hb dX12_areAlike_100 (by decide) ?_
    refine lv_iload_n hx hb dX12_areAlike_102 rfl (lv_at hl 2 rfl) ?_
    refine lv_imul hx hb dX12_areAlike_103 ?_
    refine lv_iload hx hb dX12_areAlike_104 (lv_at hl 5 rfl) ?_
    refine lv_iadd hx hb dX12_areAlike_106 ?_
    obtain ⟨ha14, hf⟩ := jif hf
    refine jdald E hM ha14 dX12_areAlike_107 ?_
    obtain ⟨x15, hc16, hf⟩ := jb hf
    refine jbackL hM (jrunS E hM ci_X12_bitsOf (C_X12_bitsOf hc16) lk_7_107 hl.1 rfl rfl (Nat.le_of_ble_eq_true rfl) ⟨Nat.le_of_ble_eq_true rfl, Nat.le_of_ble_eq_true rfl⟩ ⟨Nat.le_refl _, Nat.le_refl _⟩ dX12_areAlike_108) (fun H locs hM => ?_)
    refine lv_aload_n hx hb dX12_areAlike_111 rfl (lv_at hl 1 rfl) ?_
    refine gt_91 E hM hq11 lk_6_5 dX12_areAlike_112 ?_
    obtain ⟨r17, hr18, hf⟩ := jb hf
    rw [hr18]
    show W p l e _ s m args below meth c H locs 0 0 _ (F0 m _ ls (.ref (g.2.2 + r17) :: _))
    refine lv_bipush (v := (12 : Int32)) hx hb dX12_areAlike_115 (by decide) ?_
    refine lv_iload_n hx hb dX12_areAlike_117 rfl (lv_at hl 3 rfl) ?_
    refine lv_imul hx hb dX12_areAlike_118 ?_
    refine lv_iload hx hb dX12_areAlike_119 (lv_at hl 5 rfl) ?_
    refine lv_iadd hx hb dX12_areAlike_121 ?_
    obtain ⟨ha19, hf⟩ := jif hf
    refine jdald E hM ha19 dX12_areAlike_122 ?_
    obtain ⟨x20, hc21, hf⟩ := jb hf
    refine jbackL hM (jrunS E hM ci_X12_bitsOf (C_X12_bitsOf hc21) lk_7_107 hl.1 rfl rfl (Nat.le_of_ble_eq_true rfl) ⟨Nat.le_of_ble_eq_true rfl, Nat.le_of_ble_eq_true rfl⟩ ⟨Nat.le_refl _, Nat.le_refl _⟩ dX12_areAlike_123) (fun H locs hM => ?_)
    refine jl_eq (tgt := 163) hx hb dX12_areAlike_126 dX12_areAlike_127 (by decide) (fun c22 => ?_) (fun c22 => ?_)
    · have hf := jt c22 hf
      exact B_X12_areAlike_163 E hk58 hf hM (lv_sub hl [1, 2, 3, 4, 5] rfl)
    · have hf := jf c22 hf
      refine lv_goto (tgt := 161) hx hb dX12_areAlike_130 (by decide) ?_
      refine lv_iconst (v := (0 : Int32)) hx hb dX12_areAlike_161 (by decide) ?_
      exact jiretz (jr1 hf) E hM (by decide) dX12_areAlike_162
set_option maxRecDepth 100000 in
set_option maxHeartbeats 4000000 in
theorem B_X12_areAlike_84 {p : Program} {l : Launch} {e : Env} {s : State} {m : MethodId} {args : Array Value} {below : List Frame} {meth : Method} {c : Code} {g : jG} {rr : Int32} {S : jM} {v0 : Nat} {v1 : Int32} {v2 : Int32} {v3 : Int32} {v4 : Int32} {k58 : Nat → Int32 → Int32 → Int32 → Int32 → jM → Option Int32} (E : jEnv p s m args meth c cX12_areAlike "PensionHouseModel" (some .boolean) 6 g) (hk58 : ∀ (v0 : Nat) (v1 : Int32) (v2 : Int32) (v3 : Int32) (v4 : Int32) (H : Heap) (locs : List Loc) (ls : Array Slot), k58 v0 v1 v2 v3 v4 S = some rr → jAt g S s H locs → lv_has ls 6 [(0, .ref (g.2.2 + v0)), (1, .int v1), (2, .int v2), (3, .int v3), (4, .int v4)] → W p l e (jRm 2 0 0) s m args below meth c H locs 0 0 (MQ below (jQi g rr S) args s 0 0 (jA0 g)) (F0 m 58 ls [])) {H : Heap} {locs : List Loc} {ls : Array Slot} (hf : f_X12_areAlike_84 k58 v0 v1 v2 v3 v4 S = some rr) (hM : jAt g S s H locs) (hl : lv_has ls 6 [(0, .ref (g.2.2 + v0)), (1, .int v1), (2, .int v2), (3, .int v3), (4, .int v4)]) : W p l e (jRm 2 0 0) s m args below meth c H locs 0 0 (MQ below (jQi g rr S) args s 0 0 (jA0 g)) (F0 m 84 ls []) := by
  obtain ⟨hx, hb, hml, -, hts, hown, hK, -, hstr⟩ := id E
  unfold f_X12_areAlike_84 at hf
  refine lv_iconst (v := (1 : Int32)) hx hb dX12_areAlike_84 (by decide) ?_
  refine lv_goto (tgt := 89) hx hb dX12_areAlike_85 (by decide) ?_
  exact B_X12_areAlike_89 E hk58 hf hM (lv_sub hl [0, 1, 2, 3, 4] rfl)
set_option maxRecDepth 100000 in
set_option maxHeartbeats 4000000 in
theorem B_X12_areAlike_58 {p : Program} {l : Launch} {e : Env} {s : State} {m : MethodId} {args : Array Value} {below : List Frame} {meth : Method} {c : Code} {g : jG} {rr : Int32} {S : jM} (E : jEnv p s m args meth c cX12_areAlike "PensionHouseModel" (some .boolean) 6 g)  : ∀ (n : Nat) (v0 : Nat) (v1 : Int32) (v2 : Int32) (v3 : Int32) (v4 : Int32) (H : Heap) (locs : List Loc) (ls : Array Slot), f_X12_areAlike_58 n v0 v1 v2 v3 v4 S = some rr → jAt g S s H locs → lv_has ls 6 [(0, .ref (g.2.2 + v0)), (1, .int v1), (2, .int v2), (3, .int v3), (4, .int v4)] → W p l e (jRm 2 0 0) s m args below meth c H locs 0 0 (MQ below (jQi g rr S) args s 0 0 (jA0 g)) (F0 m 58 ls []) := by
  obtain ⟨hx, hb, hml, -, hts, hown, hK, -, hstr⟩ := id E
  intro n
  induction n with
  | zero => intro v0 v1 v2 v3 v4 H locs ls hf hM hl; rw [f_X12_areAlike_58] at hf; cases hf
  | succ n ih =>
    intro v0 v1 v2 v3 v4 H locs ls hf hM hl
    rw [f_X12_areAlike_58] at hf
    refine lv_iload hx hb dX12_areAlike_58 (lv_at hl 4 rfl) ?_
    refine lv_iload_n hx hb dX12_areAlike_60 rfl (lv_at hl 3 rfl) ?_
    refine lv_icmp_ge (tgt := 169) hx hb dX12_areAlike_61 (by decide) (fun c23 => ?_) (fun c23 => ?_)
    · have hf := jt c23 hf
      refine lv_iconst (v := (1 : Int32)) hx hb dX12_areAlike_169 (by decide) ?_
      exact jiretz (jr1 hf) E hM (by decide) dX12_areAlike_170
    · have hf := jf c23 hf
      refine lv_aload_n hx hb dX12_areAlike_64 rfl (lv_at hl 0 rfl) ?_
      obtain ⟨hq24, hf⟩ := jif hf
      refine gt_88 E hM hq24 lk_6_2 dX12_areAlike_65 ?_
      obtain ⟨r25, hr26, hf⟩ := jb hf
      rw [hr26]
      show W p l e _ s m args below meth c H locs 0 0 _ (F0 m _ ls (.ref (g.2.2 + r25) :: _))
      refine lv_iload_n hx hb dX12_areAlike_68 rfl (lv_at hl 1 rfl) ?_
      obtain ⟨ha27, hf⟩ := jif hf
      refine jiald E hM ha27 dX12_areAlike_69 ?_
      refine lv_iconst (v := (1 : Int32)) hx hb dX12_areAlike_70 (by decide) ?_
      refine lv_icmp_eq (tgt := 84) hx hb dX12_areAlike_71 (by decide) (fun c28 => ?_) (fun c28 => ?_)
      · have hf := jt c28 hf
        exact B_X12_areAlike_84 E ih hf hM (lv_sub hl [0, 1, 2, 3, 4] rfl)
      · have hf := jf c28 hf
        refine lv_aload_n hx hb dX12_areAlike_74 rfl (lv_at hl 0 rfl) ?_
        refine gt_88 E hM hq24 lk_6_2 dX12_areAlike_75 ?_
        obtain ⟨r29, hr30, hf⟩ := jb hf
        rw [hr30]
        show W p l e _ s m args below meth c H locs 0 0 _ (F0 m _ ls (.ref (g.2.2 + r29) :: _))
        refine lv_iload_n hx hb dX12_areAlike_78 rfl (lv_at hl 1 rfl) ?_
        obtain ⟨ha31, hf⟩ := jif hf
        refine jiald E hM ha31 dX12_areAlike_79 ?_
        refine lv_iconst (v := (4 : Int32)) hx hb dX12_areAlike_80 (by decide) ?_
        refine lv_icmp_ne (tgt := 88) hx hb dX12_areAlike_81 (by decide) (fun c32 => ?_) (fun c32 => ?_)
        · have hf := jf c32 hf
          refine lv_iconst (v := (0 : Int32)) hx hb dX12_areAlike_88 (by decide) ?_
          exact B_X12_areAlike_89 E ih hf hM (lv_sub hl [0, 1, 2, 3, 4] rfl)
        · have hf := jt c32 hf
          exact B_X12_areAlike_84 E ih hf hM (lv_sub hl [0, 1, 2, 3, 4] rfl)
set_option maxRecDepth 100000 in
set_option maxHeartbeats 4000000 in
theorem B_X12_areAlike_54 {p : Program} {l : Launch} {e : Env} {s : State} {m : MethodId} {args : Array Value} {below : List Frame} {meth : Method} {c : Code} {g : jG} {rr : Int32} {S : jM} {v0 : Nat} {v1 : Int32} {v2 : Int32} {t0 : Int32} (E : jEnv p s m args meth c cX12_areAlike "PensionHouseModel" (some .boolean) 6 g)  {H : Heap} {locs : List Loc} {ls : Array Slot} (hf : f_X12_areAlike_54 v0 v1 v2 t0 S = some rr) (hM : jAt g S s H locs) (hl : lv_has ls 6 [(0, .ref (g.2.2 + v0)), (1, .int v1), (2, .int v2)]) : W p l e (jRm 2 0 0) s m args below meth c H locs 0 0 (MQ below (jQi g rr S) args s 0 0 (jA0 g)) (F0 m 54 ls [.int t0]) := by
  obtain ⟨hx, hb, hml, -, hts, hown, hK, -, hstr⟩ := id E
  unfold f_X12_areAlike_54 at hf
  refine lv_istore_n (lv' := [(3, .int t0), (0, .ref (g.2.2 + v0)), (1, .int v1), (2, .int v2)]) hx hb dX12_areAlike_54 rfl hl (by decide) rfl (fun ls hl => ?_)
  refine lv_iconst (v := (0 : Int32)) hx hb dX12_areAlike_55 (by decide) ?_
  refine lv_istore (lv' := [(4, .int (0 : Int32)), (3, .int t0), (0, .ref (g.2.2 + v0)), (1, .int v1), (2, .int v2)]) hx hb dX12_areAlike_56 hl (by decide) rfl (fun ls hl => ?_)
  exact B_X12_areAlike_58 E  1100000 v0 v1 v2 t0 (0 : Int32) _ _ _ hf hM (lv_sub hl [2, 3, 4, 1, 0] rfl)
set_option maxRecDepth 100000 in
set_option maxHeartbeats 4000000 in
theorem B_X12_areAlike_0 {p : Program} {l : Launch} {e : Env} {s : State} {m : MethodId} {args : Array Value} {below : List Frame} {meth : Method} {c : Code} {g : jG} {rr : Int32} {S : jM} {v0 : Nat} {v1 : Int32} {v2 : Int32} (E : jEnv p s m args meth c cX12_areAlike "PensionHouseModel" (some .boolean) 6 g)  {H : Heap} {locs : List Loc} {ls : Array Slot} (hf : f_X12_areAlike v0 v1 v2 S = some rr) (hM : jAt g S s H locs) (hl : lv_has ls 6 [(0, .ref (g.2.2 + v0)), (1, .int v1), (2, .int v2)]) : W p l e (jRm 2 0 0) s m args below meth c H locs 0 0 (MQ below (jQi g rr S) args s 0 0 (jA0 g)) (F0 m 0 ls []) := by
  obtain ⟨hx, hb, hml, -, hts, hown, hK, -, hstr⟩ := id E
  unfold f_X12_areAlike at hf
  refine lv_aload_n hx hb dX12_areAlike_0 rfl (lv_at hl 0 rfl) ?_
  obtain ⟨hq33, hf⟩ := jif hf
  refine gt_88 E hM hq33 lk_6_2 dX12_areAlike_1 ?_
  obtain ⟨r34, hr35, hf⟩ := jb hf
  rw [hr35]
  show W p l e _ s m args below meth c H locs 0 0 _ (F0 m _ ls (.ref (g.2.2 + r34) :: _))
  refine lv_iload_n hx hb dX12_areAlike_4 rfl (lv_at hl 1 rfl) ?_
  obtain ⟨ha36, hf⟩ := jif hf
  refine jiald E hM ha36 dX12_areAlike_5 ?_
  refine lv_aload_n hx hb dX12_areAlike_6 rfl (lv_at hl 0 rfl) ?_
  refine gt_88 E hM hq33 lk_6_2 dX12_areAlike_7 ?_
  obtain ⟨r37, hr38, hf⟩ := jb hf
  rw [hr38]
  show W p l e _ s m args below meth c H locs 0 0 _ (F0 m _ ls (.ref (g.2.2 + r37) :: _))
  refine lv_iload_n hx hb dX12_areAlike_10 rfl (lv_at hl 2 rfl) ?_
  obtain ⟨ha39, hf⟩ := jif hf
  refine jiald E hM ha39 dX12_areAlike_11 ?_
  refine lv_icmp_ne (tgt := 30) hx hb dX12_areAlike_12 (by decide) (fun c40 => ?_) (fun c40 => ?_)
  · have hf := jf c40 hf
    refine lv_iconst (v := (0 : Int32)) hx hb dX12_areAlike_30 (by decide) ?_
    exact jiretz (jr1 hf) E hM (by decide) dX12_areAlike_31
  · have hf := jt c40 hf
    refine lv_aload_n hx hb dX12_areAlike_15 rfl (lv_at hl 0 rfl) ?_
    refine gt_89 E hM hq33 lk_6_3 dX12_areAlike_16 ?_
    obtain ⟨r41, hr42, hf⟩ := jb hf
    rw [hr42]
    show W p l e _ s m args below meth c H locs 0 0 _ (F0 m _ ls (.ref (g.2.2 + r41) :: _))
    refine lv_iload_n hx hb dX12_areAlike_19 rfl (lv_at hl 1 rfl) ?_
    obtain ⟨ha43, hf⟩ := jif hf
    refine jiald E hM ha43 dX12_areAlike_20 ?_
    refine lv_aload_n hx hb dX12_areAlike_21 rfl (lv_at hl 0 rfl) ?_
    refine gt_89 E hM hq33 lk_6_3 dX12_areAlike_22 ?_
    obtain ⟨r44, hr45, hf⟩ := jb hf
    rw [hr45]
    show W p l e _ s m args below meth c H locs 0 0 _ (F0 m _ ls (.ref (g.2.2 + r44) :: _))
    refine lv_iload_n hx hb dX12_areAlike_25 rfl (lv_at hl 2 rfl) ?_
    obtain ⟨ha46, hf⟩ := jif hf
    refine jiald E hM ha46 dX12_areAlike_26 ?_
    refine lv_icmp_eq (tgt := 32) hx hb dX12_areAlike_27 (by decide) (fun c47 => ?_) (fun c47 => ?_)
    · have hf := jt c47 hf
      refine lv_aload_n hx hb dX12_areAlike_32 rfl (lv_at hl 0 rfl) ?_
      refine gt_88 E hM hq33 lk_6_2 dX12_areAlike_33 ?_
      obtain ⟨r48, hr49, hf⟩ := jb hf
      rw [hr49]
      show W p l e _ s m args below meth c H locs 0 0 _ (F0 m _ ls (.ref (g.2.2 + r48) :: _))
      refine lv_iload_n hx hb dX12_areAlike_36 rfl (lv_at hl 1 rfl) ?_
      obtain ⟨ha50, hf⟩ := jif hf
      refine jiald E hM ha50 dX12_areAlike_37 ?_
      refine jbackI hM (jrunS E hM ci_X12_isRow (C_X12_isRow rfl) lk_7_100 hl.1 rfl rfl (Nat.le_of_ble_eq_true rfl) ⟨Nat.le_of_ble_eq_true rfl, Nat.le_of_ble_eq_true rfl⟩ ⟨Nat.le_refl _, Nat.le_refl _⟩ dX12_areAlike_38) (fun H locs hM => ?_)
      refine lv_if_eq (tgt := 53) hx hb dX12_areAlike_41 (by decide) (fun c51 => ?_) (fun c51 => ?_)
      · have hf := jt c51 hf
        refine lv_iconst (v := (1 : Int32)) hx hb dX12_areAlike_53 (by decide) ?_
        exact B_X12_areAlike_54 E  hf hM (lv_sub hl [0, 1, 2] rfl)
      · have hf := jf c51 hf
        refine lv_aload_n hx hb dX12_areAlike_44 rfl (lv_at hl 0 rfl) ?_
        refine gt_89 E hM hq33 lk_6_3 dX12_areAlike_45 ?_
        obtain ⟨r52, hr53, hf⟩ := jb hf
        rw [hr53]
        show W p l e _ s m args below meth c H locs 0 0 _ (F0 m _ ls (.ref (g.2.2 + r52) :: _))
        refine lv_iload_n hx hb dX12_areAlike_48 rfl (lv_at hl 1 rfl) ?_
        obtain ⟨ha54, hf⟩ := jif hf
        refine jiald E hM ha54 dX12_areAlike_49 ?_
        refine lv_goto (tgt := 54) hx hb dX12_areAlike_50 (by decide) ?_
        exact B_X12_areAlike_54 E  hf hM (lv_sub hl [0, 1, 2] rfl)
    · have hf := jf c47 hf
      refine lv_iconst (v := (0 : Int32)) hx hb dX12_areAlike_30 (by decide) ?_
      exact jiretz (jr1 hf) E hM (by decide) dX12_areAlike_31
set_option maxRecDepth 100000 in
theorem C_X12_areAlike {l : Launch} {g : jG} {a0 : Nat} {a1 : Int32} {a2 : Int32} {S : jM} {rr : Int32} (hf : f_X12_areAlike a0 a1 a2 S = some rr) : jMet l g yX12_areAlike cX12_areAlike 6 (some .boolean) 2 0 0 [.ref (g.2.2 + a0), .int a1, .int a2] S (jQi g rr S) := by
  refine jof (by decide +kernel) (Nat.le_of_ble_eq_true rfl) ?_
  intro p e s m below meth c E hM ls hl
  have hl : lv_has ls 6 [(0, .ref (g.2.2 + a0)),(1, .int a1),(2, .int a2)] := hl
  exact B_X12_areAlike_0 E hf hM hl
-- PensionHouseModel.award(III)I  mode M
noncomputable def f_X12_award_79 (k45 : Nat → Int32 → Int32 → Int32 → Int32 → jM → Option (Int32 × jM)) (v0 : Nat) (v1 : Int32) (v2 : Int32) (v3 : Int32) (v4 : Int32) (S : jM) : Option (Int32 × jM) := jlet (v4 + (1 : Int32)) (fun x1 => k45 v0 v1 v2 v3 x1 S)
noncomputable def f_X12_award_45 : Nat → Nat → Int32 → Int32 → Int32 → Int32 → jM → Option (Int32 × jM)
  | 0, _, _, _, _, _, _ => none
  | n + 1, v0, v1, v2, v3, v4, S => if jK v0 = 10 then if (jI S 160 v0) ≤ v4 then if (jI S 160 v0) = (6 : Int32) then some ((-5 : Int32), S) else (jR S 157 v0).bind (fun r5 => if jA r5 13 (jI S 160 v0) = true then jlet (jrI S r5 (upd (jAI S r5) (jI S 160 v0).toNatClampNeg v1)) (fun S8 => (jR S8 158 v0).bind (fun r9 => if jA r9 13 (jI S8 160 v0) = true then jlet (jrI S8 r9 (upd (jAI S8 r9) (jI S8 160 v0).toNatClampNeg v2)) (fun S12 => (jR S12 159 v0).bind (fun r13 => if jA r13 13 (jI S12 160 v0) = true then jlet (jrI S12 r13 (upd (jAI S12 r13) (jI S12 160 v0).toNatClampNeg v3)) (fun S16 => (jR S16 163 v0).bind (fun r17 => if jA r17 13 (jI S16 160 v0) = true then jlet (jrI S16 r17 (upd (jAI S16 r17) (jI S16 160 v0).toNatClampNeg (0 : Int32))) (fun S20 => jlet (jsI S20 160 v0 ((jI S20 160 v0) + (1 : Int32))) (fun S21 => some ((jI S21 160 v0) - (1 : Int32), S21))) else none)) else none)) else none)) else none) else (jR S 157 v0).bind (fun r22 => if jA r22 13 v4 = true then if (jAI S r22 (v4).toNatClampNeg) = v1 then (jR S 158 v0).bind (fun r26 => if jA r26 13 v4 = true then if (jAI S r26 (v4).toNatClampNeg) = v2 then some ((-4 : Int32), S) else f_X12_award_79 (f_X12_award_45 n) v0 v1 v2 v3 v4 S else none) else f_X12_award_79 (f_X12_award_45 n) v0 v1 v2 v3 v4 S else none) else none
noncomputable def f_X12_award (v0 : Nat) (v1 : Int32) (v2 : Int32) (v3 : Int32) (S : jM) : Option (Int32 × jM) := if (f_X12_in (v1.toInt64) (0 : Int64) (9 : Int64)) = 0 then some ((-2 : Int32), S) else if (f_X12_in (v2.toInt64) (0 : Int64) (3 : Int64)) = 0 then some ((-2 : Int32), S) else if (f_X12_in (v3.toInt64) (0 : Int64) (12 : Int64)) = 0 then some ((-3 : Int32), S) else f_X12_award_45 1100000 v0 v1 v2 v3 (0 : Int32) S
set_option maxRecDepth 100000 in
set_option maxHeartbeats 4000000 in
theorem B_X12_award_79 {p : Program} {l : Launch} {e : Env} {s : State} {m : MethodId} {args : Array Value} {below : List Frame} {meth : Method} {c : Code} {g : jG} {rr : Int32} {SS : jM} {v0 : Nat} {v1 : Int32} {v2 : Int32} {v3 : Int32} {v4 : Int32} {S : jM} {k45 : Nat → Int32 → Int32 → Int32 → Int32 → jM → Option (Int32 × jM)} (E : jEnv p s m args meth c cX12_award "PensionHouseModel" (some .int) 5 g) (hk45 : ∀ (v0 : Nat) (v1 : Int32) (v2 : Int32) (v3 : Int32) (v4 : Int32) (S : jM) (H : Heap) (locs : List Loc) (ls : Array Slot), k45 v0 v1 v2 v3 v4 S = some (rr, SS) → jAt g S s H locs → lv_has ls 5 [(0, .ref (g.2.2 + v0)), (1, .int v1), (2, .int v2), (3, .int v3), (4, .int v4)] → W p l e (jRm 2 0 0) s m args below meth c H locs 0 0 (MQ below (jQi g rr SS) args s 0 0 (jA0 g)) (F0 m 45 ls [])) {H : Heap} {locs : List Loc} {ls : Array Slot} (hf : f_X12_award_79 k45 v0 v1 v2 v3 v4 S = some (rr, SS)) (hM : jAt g S s H locs) (hl : lv_has ls 5 [(0, .ref (g.2.2 + v0)), (1, .int v1), (2, .int v2), (3, .int v3), (4, .int v4)]) : W p l e (jRm 2 0 0) s m args below meth c H locs 0 0 (MQ below (jQi g rr SS) args s 0 0 (jA0 g)) (F0 m 79 ls []) := by
  obtain ⟨hx, hb, hml, -, hts, hown, hK, -, hstr⟩ := id E
  unfold f_X12_award_79 at hf
  obtain ⟨x1, ex1⟩ : ∃ z, z = v4 + (1 : Int32) := ⟨_, rfl⟩
  have hf := jlet_y ex1 hf
  refine lv_iinc (v := x1) (lv' := [(4, .int x1), (0, .ref (g.2.2 + v0)), (1, .int v1), (2, .int v2), (3, .int v3)]) hx hb dX12_award_79 hl (k := 4) rfl (by rw [ex1]; rfl) (by decide) rfl (fun ls hl => ?_)
  refine lv_goto (tgt := 45) hx hb dX12_award_82 (by decide) ?_
  exact hk45 v0 v1 v2 v3 x1 S _ _ _ hf hM (lv_sub hl [1, 2, 3, 4, 0] rfl)
set_option maxRecDepth 100000 in
set_option maxHeartbeats 4000000 in
theorem B_X12_award_45 {p : Program} {l : Launch} {e : Env} {s : State} {m : MethodId} {args : Array Value} {below : List Frame} {meth : Method} {c : Code} {g : jG} {rr : Int32} {SS : jM} (E : jEnv p s m args meth c cX12_award "PensionHouseModel" (some .int) 5 g)  : ∀ (n : Nat) (v0 : Nat) (v1 : Int32) (v2 : Int32) (v3 : Int32) (v4 : Int32) (S : jM) (H : Heap) (locs : List Loc) (ls : Array Slot), f_X12_award_45 n v0 v1 v2 v3 v4 S = some (rr, SS) → jAt g S s H locs → lv_has ls 5 [(0, .ref (g.2.2 + v0)), (1, .int v1), (2, .int v2), (3, .int v3), (4, .int v4)] → W p l e (jRm 2 0 0) s m args below meth c H locs 0 0 (MQ below (jQi g rr SS) args s 0 0 (jA0 g)) (F0 m 45 ls []) := by
  obtain ⟨hx, hb, hml, -, hts, hown, hK, -, hstr⟩ := id E
  intro n
  induction n with
  | zero => intro v0 v1 v2 v3 v4 S H locs ls hf hM hl; rw [f_X12_award_45] at hf; cases hf
  | succ n ih =>
    intro v0 v1 v2 v3 v4 S H locs ls hf hM hl
    rw [f_X12_award_45] at hf
    refine lv_iload hx hb dX12_award_45 (lv_at hl 4 rfl) ?_
    refine lv_aload_n hx hb dX12_award_47 rfl (lv_at hl 0 rfl) ?_
    obtain ⟨hq2, hf⟩ := jif hf
    refine gt_160 E hM hq2 lk_6_74 dX12_award_48 ?_
    refine lv_icmp_ge (tgt := 85) hx hb dX12_award_51 (by decide) (fun c3 => ?_) (fun c3 => ?_)
    · have hf := jt c3 hf
      refine lv_aload_n hx hb dX12_award_85 rfl (lv_at hl 0 rfl) ?_
      refine gt_160 E hM hq2 lk_6_74 dX12_award_86 ?_
      refine lv_bipush (v := (6 : Int32)) hx hb dX12_award_89 (by decide) ?_
      refine lv_icmp_ne (tgt := 97) hx hb dX12_award_91 (by decide) (fun c4 => ?_) (fun c4 => ?_)
      · have hf := jf c4 hf
        refine lv_aload_n hx hb dX12_award_97 rfl (lv_at hl 0 rfl) ?_
        refine gt_157 E hM hq2 lk_6_71 dX12_award_98 ?_
        obtain ⟨r5, hr6, hf⟩ := jb hf
        rw [hr6]
        show W p l e _ s m args below meth c H locs 0 0 _ (F0 m _ ls (.ref (g.2.2 + r5) :: _))
        refine lv_aload_n hx hb dX12_award_101 rfl (lv_at hl 0 rfl) ?_
        refine gt_160 E hM hq2 lk_6_74 dX12_award_102 ?_
        refine lv_iload_n hx hb dX12_award_105 rfl (lv_at hl 1 rfl) ?_
        obtain ⟨ha7, hf⟩ := jif hf
        refine jiast E hM ha7 dX12_award_106 (fun H locs S8 eS8 hM => ?_)
        have hf := jlet_y eS8 hf
        refine lv_aload_n hx hb dX12_award_107 rfl (lv_at hl 0 rfl) ?_
        refine gt_158 E hM hq2 lk_6_72 dX12_award_108 ?_
        obtain ⟨r9, hr10, hf⟩ := jb hf
        rw [hr10]
        show W p l e _ s m args below meth c H locs 0 0 _ (F0 m _ ls (.ref (g.2.2 + r9) :: _))
        refine lv_aload_n hx hb dX12_award_111 rfl (lv_at hl 0 rfl) ?_
        refine gt_160 E hM hq2 lk_6_74 dX12_award_112 ?_
        refine lv_iload_n hx hb dX12_award_115 rfl (lv_at hl 2 rfl) ?_
        obtain ⟨ha11, hf⟩ := jif hf
        refine jiast E hM ha11 dX12_award_116 (fun H locs S12 eS12 hM => ?_)
        have hf := jlet_y eS12 hf
        refine lv_aload_n hx hb dX12_award_117 rfl (lv_at hl 0 rfl) ?_
        refine gt_159 E hM hq2 lk_6_73 dX12_award_118 ?_
        obtain ⟨r13, hr14, hf⟩ := jb hf
        rw [hr14]
        show W p l e _ s m args below meth c H locs 0 0 _ (F0 m _ ls (.ref (g.2.2 + r13) :: _))
        refine lv_aload_n hx hb dX12_award_121 rfl (lv_at hl 0 rfl) ?_
        refine gt_160 E hM hq2 lk_6_74 dX12_award_122 ?_
        refine lv_iload_n hx hb dX12_award_125 rfl (lv_at hl 3 rfl) ?_
        obtain ⟨ha15, hf⟩ := jif hf
        refine jiast E hM ha15 dX12_award_126 (fun H locs S16 eS16 hM => ?_)
        have hf := jlet_y eS16 hf
        refine lv_aload_n hx hb dX12_award_127 rfl (lv_at hl 0 rfl) ?_
        refine gt_163 E hM hq2 lk_6_77 dX12_award_128 ?_
        obtain ⟨r17, hr18, hf⟩ := jb hf
        rw [hr18]
        show W p l e _ s m args below meth c H locs 0 0 _ (F0 m _ ls (.ref (g.2.2 + r17) :: _))
        refine lv_aload_n hx hb dX12_award_131 rfl (lv_at hl 0 rfl) ?_
        refine gt_160 E hM hq2 lk_6_74 dX12_award_132 ?_
        refine lv_iconst (v := (0 : Int32)) hx hb dX12_award_135 (by decide) ?_
        obtain ⟨ha19, hf⟩ := jif hf
        refine jiast E hM ha19 dX12_award_136 (fun H locs S20 eS20 hM => ?_)
        have hf := jlet_y eS20 hf
        refine lv_aload_n hx hb dX12_award_137 rfl (lv_at hl 0 rfl) ?_
        refine lv_dup hx hb dX12_award_138 rfl ?_
        refine gt_160 E hM hq2 lk_6_74 dX12_award_139 ?_
        refine lv_iconst (v := (1 : Int32)) hx hb dX12_award_142 (by decide) ?_
        refine lv_iadd hx hb dX12_award_143 ?_
        refine pt_160 E hM hq2 lk_6_74 dX12_award_144 (fun H locs S21 eS21 hM => ?_)
        have hf := jlet_y eS21 hf
        refine lv_aload_n hx hb dX12_award_147 rfl (lv_at hl 0 rfl) ?_
        refine gt_160 E hM hq2 lk_6_74 dX12_award_148 ?_
        refine lv_iconst (v := (1 : Int32)) hx hb dX12_award_151 (by decide) ?_
        refine lv_isub hx hb dX12_award_152 ?_
        exact jireti (jr2 hf) E hM dX12_award_153
      · have hf := jt c4 hf
        refine lv_bipush (v := (-5 : Int32)) hx hb dX12_award_94 (by decide) ?_
        exact jireti (jr2 hf) E hM dX12_award_96
    · have hf := jf c3 hf
      refine lv_aload_n hx hb dX12_award_54 rfl (lv_at hl 0 rfl) ?_
      refine gt_157 E hM hq2 lk_6_71 dX12_award_55 ?_
      obtain ⟨r22, hr23, hf⟩ := jb hf
      rw [hr23]
      show W p l e _ s m args below meth c H locs 0 0 _ (F0 m _ ls (.ref (g.2.2 + r22) :: _))
      refine lv_iload hx hb dX12_award_58 (lv_at hl 4 rfl) ?_
      obtain ⟨ha24, hf⟩ := jif hf
      refine jiald E hM ha24 dX12_award_60 ?_
      refine lv_iload_n hx hb dX12_award_61 rfl (lv_at hl 1 rfl) ?_
      refine lv_icmp_ne (tgt := 79) hx hb dX12_award_62 (by decide) (fun c25 => ?_) (fun c25 => ?_)
      · have hf := jf c25 hf
        exact B_X12_award_79 E ih hf hM (lv_sub hl [0, 1, 2, 3, 4] rfl)
      · have hf := jt c25 hf
        refine lv_aload_n hx hb dX12_award_65 rfl (lv_at hl 0 rfl) ?_
        refine gt_158 E hM hq2 lk_6_72 dX12_award_66 ?_
        obtain ⟨r26, hr27, hf⟩ := jb hf
        rw [hr27]
        show W p l e _ s m args below meth c H locs 0 0 _ (F0 m _ ls (.ref (g.2.2 + r26) :: _))
        refine lv_iload hx hb dX12_award_69 (lv_at hl 4 rfl) ?_
        obtain ⟨ha28, hf⟩ := jif hf
        refine jiald E hM ha28 dX12_award_71 ?_
        refine lv_iload_n hx hb dX12_award_72 rfl (lv_at hl 2 rfl) ?_
        refine lv_icmp_ne (tgt := 79) hx hb dX12_award_73 (by decide) (fun c29 => ?_) (fun c29 => ?_)
        · have hf := jf c29 hf
          exact B_X12_award_79 E ih hf hM (lv_sub hl [0, 1, 2, 3, 4] rfl)
        · have hf := jt c29 hf
          refine lv_bipush (v := (-4 : Int32)) hx hb dX12_award_76 (by decide) ?_
          exact jireti (jr2 hf) E hM dX12_award_78
set_option maxRecDepth 100000 in
set_option maxHeartbeats 4000000 in
theorem B_X12_award_0 {p : Program} {l : Launch} {e : Env} {s : State} {m : MethodId} {args : Array Value} {below : List Frame} {meth : Method} {c : Code} {g : jG} {rr : Int32} {SS : jM} {v0 : Nat} {v1 : Int32} {v2 : Int32} {v3 : Int32} {S : jM} (E : jEnv p s m args meth c cX12_award "PensionHouseModel" (some .int) 5 g)  {H : Heap} {locs : List Loc} {ls : Array Slot} (hf : f_X12_award v0 v1 v2 v3 S = some (rr, SS)) (hM : jAt g S s H locs) (hl : lv_has ls 5 [(0, .ref (g.2.2 + v0)), (1, .int v1), (2, .int v2), (3, .int v3)]) : W p l e (jRm 2 0 0) s m args below meth c H locs 0 0 (MQ below (jQi g rr SS) args s 0 0 (jA0 g)) (F0 m 0 ls []) := by
  obtain ⟨hx, hb, hml, -, hts, hown, hK, -, hstr⟩ := id E
  unfold f_X12_award at hf
  refine lv_iload_n hx hb dX12_award_0 rfl (lv_at hl 1 rfl) ?_
  refine lv_i2l hx hb dX12_award_1 rfl ?_
  refine lv_lconst (v := (0 : Int64)) hx hb dX12_award_2 (by decide) ?_
  refine lv_ldc2 (v := (9 : Int64)) hx hb hown (hts _ lk_7_176) dX12_award_3 ?_
  refine jbackI hM (jrunS E hM ci_X12_in (C_X12_in rfl) lk_7_36 hl.1 rfl rfl (Nat.le_of_ble_eq_true rfl) ⟨Nat.le_of_ble_eq_true rfl, Nat.le_of_ble_eq_true rfl⟩ ⟨Nat.le_refl _, Nat.le_refl _⟩ dX12_award_6) (fun H locs hM => ?_)
  refine lv_if_eq (tgt := 24) hx hb dX12_award_9 (by decide) (fun c30 => ?_) (fun c30 => ?_)
  · have hf := jt c30 hf
    refine lv_bipush (v := (-2 : Int32)) hx hb dX12_award_24 (by decide) ?_
    exact jireti (jr2 hf) E hM dX12_award_26
  · have hf := jf c30 hf
    refine lv_iload_n hx hb dX12_award_12 rfl (lv_at hl 2 rfl) ?_
    refine lv_i2l hx hb dX12_award_13 rfl ?_
    refine lv_lconst (v := (0 : Int64)) hx hb dX12_award_14 (by decide) ?_
    refine lv_ldc2 (v := (3 : Int64)) hx hb hown (hts _ lk_7_200) dX12_award_15 ?_
    refine jbackI hM (jrunS E hM ci_X12_in (C_X12_in rfl) lk_7_36 hl.1 rfl rfl (Nat.le_of_ble_eq_true rfl) ⟨Nat.le_of_ble_eq_true rfl, Nat.le_of_ble_eq_true rfl⟩ ⟨Nat.le_refl _, Nat.le_refl _⟩ dX12_award_18) (fun H locs hM => ?_)
    refine lv_if_ne (tgt := 27) hx hb dX12_award_21 (by decide) (fun c31 => ?_) (fun c31 => ?_)
    · have hf := jf c31 hf
      refine lv_iload_n hx hb dX12_award_27 rfl (lv_at hl 3 rfl) ?_
      refine lv_i2l hx hb dX12_award_28 rfl ?_
      refine lv_lconst (v := (0 : Int64)) hx hb dX12_award_29 (by decide) ?_
      refine lv_ldc2 (v := (12 : Int64)) hx hb hown (hts _ lk_7_58) dX12_award_30 ?_
      refine jbackI hM (jrunS E hM ci_X12_in (C_X12_in rfl) lk_7_36 hl.1 rfl rfl (Nat.le_of_ble_eq_true rfl) ⟨Nat.le_of_ble_eq_true rfl, Nat.le_of_ble_eq_true rfl⟩ ⟨Nat.le_refl _, Nat.le_refl _⟩ dX12_award_33) (fun H locs hM => ?_)
      refine lv_if_ne (tgt := 42) hx hb dX12_award_36 (by decide) (fun c32 => ?_) (fun c32 => ?_)
      · have hf := jf c32 hf
        refine lv_iconst (v := (0 : Int32)) hx hb dX12_award_42 (by decide) ?_
        refine lv_istore (lv' := [(4, .int (0 : Int32)), (0, .ref (g.2.2 + v0)), (1, .int v1), (2, .int v2), (3, .int v3)]) hx hb dX12_award_43 hl (by decide) rfl (fun ls hl => ?_)
        exact B_X12_award_45 E  1100000 v0 v1 v2 v3 (0 : Int32) S _ _ _ hf hM (lv_sub hl [1, 2, 3, 4, 0] rfl)
      · have hf := jt c32 hf
        refine lv_bipush (v := (-3 : Int32)) hx hb dX12_award_39 (by decide) ?_
        exact jireti (jr2 hf) E hM dX12_award_41
    · have hf := jt c31 hf
      refine lv_bipush (v := (-2 : Int32)) hx hb dX12_award_24 (by decide) ?_
      exact jireti (jr2 hf) E hM dX12_award_26
set_option maxRecDepth 100000 in
theorem C_X12_award {l : Launch} {g : jG} {a0 : Nat} {a1 : Int32} {a2 : Int32} {a3 : Int32} {S : jM} {rr : Int32} {SS : jM} (hf : f_X12_award a0 a1 a2 a3 S = some (rr, SS)) : jMet l g yX12_award cX12_award 5 (some .int) 2 0 0 [.ref (g.2.2 + a0), .int a1, .int a2, .int a3] S (jQi g rr SS) := by
  refine jof (by decide +kernel) (Nat.le_of_ble_eq_true rfl) ?_
  intro p e s m below meth c E hM ls hl
  have hl : lv_has ls 5 [(0, .ref (g.2.2 + a0)),(1, .int a1),(2, .int a2),(3, .int a3)] := hl
  exact B_X12_award_0 E hf hM hl
-- PensionHouseModel.balance(II)J  mode M
noncomputable def f_X12_balance_45 : Nat → Nat → Int32 → Int32 → Int64 → Int32 → jM → Option (Int64 × jM)
  | 0, _, _, _, _, _, _ => none
  | n + 1, v0, v1, v2, v3, v5, S => if v2 < v5 then some (v3, S) else if jK v0 = 10 then jbd (f_X12_dueOf v0 v1 v5 (jI S 139 v0) S) (fun x3 S4 => jlet (v3 + x3) (fun x6 => jlet (v5 + (1 : Int32)) (fun x7 => (f_X12_balance_45 n) v0 v1 v2 x6 x7 S4))) else none
noncomputable def f_X12_balance (v0 : Nat) (v1 : Int32) (v2 : Int32) (S : jM) : Option (Int64 × jM) := if jK v0 = 10 then if (f_X12_in (v1.toInt64) (0 : Int64) (((jI S 160 v0) - (1 : Int32)).toInt64)) = 0 then some ((0 : Int64), S) else if (f_X12_in (v2.toInt64) (0 : Int64) (12 : Int64)) = 0 then some ((0 : Int64), S) else (f_X12_paid v0 v1 S).bind (fun x11 => jlet (-x11) (fun x13 => (jR S 159 v0).bind (fun r14 => if jA r14 13 v1 = true then jlet (jAI S r14 (v1).toNatClampNeg) (fun x17 => f_X12_balance_45 1100000 v0 v1 v2 x13 x17 S) else none))) else none
set_option maxRecDepth 100000 in
set_option maxHeartbeats 4000000 in
theorem B_X12_balance_45 {p : Program} {l : Launch} {e : Env} {s : State} {m : MethodId} {args : Array Value} {below : List Frame} {meth : Method} {c : Code} {g : jG} {rr : Int64} {SS : jM} (E : jEnv p s m args meth c cX12_balance "PensionHouseModel" (some .long) 6 g)  : ∀ (n : Nat) (v0 : Nat) (v1 : Int32) (v2 : Int32) (v3 : Int64) (v5 : Int32) (S : jM) (H : Heap) (locs : List Loc) (ls : Array Slot), f_X12_balance_45 n v0 v1 v2 v3 v5 S = some (rr, SS) → jAt g S s H locs → lv_has ls 6 [(0, .ref (g.2.2 + v0)), (1, .int v1), (2, .int v2), (3, .long v3), (5, .int v5)] → W p l e (jRm 1021 0 0) s m args below meth c H locs 0 0 (MQ below (jQl g rr SS) args s 0 0 (jA0 g)) (F0 m 45 ls []) := by
  obtain ⟨hx, hb, hml, -, hts, hown, hK, -, hstr⟩ := id E
  intro n
  induction n with
  | zero => intro v0 v1 v2 v3 v5 S H locs ls hf hM hl; rw [f_X12_balance_45] at hf; cases hf
  | succ n ih =>
    intro v0 v1 v2 v3 v5 S H locs ls hf hM hl
    rw [f_X12_balance_45] at hf
    refine lv_iload hx hb dX12_balance_45 (lv_at hl 4 rfl) ?_
    refine lv_iload_n hx hb dX12_balance_47 rfl (lv_at hl 2 rfl) ?_
    refine lv_icmp_gt (tgt := 71) hx hb dX12_balance_48 (by decide) (fun c1 => ?_) (fun c1 => ?_)
    · have hf := jt c1 hf
      refine lv_lload_n hx hb dX12_balance_71 rfl (lv_at hl 3 rfl) ?_
      exact jlret (jr2 hf) E hM dX12_balance_72
    · have hf := jf c1 hf
      refine lv_lload_n hx hb dX12_balance_51 rfl (lv_at hl 3 rfl) ?_
      refine lv_aload_n hx hb dX12_balance_52 rfl (lv_at hl 0 rfl) ?_
      refine lv_iload_n hx hb dX12_balance_53 rfl (lv_at hl 1 rfl) ?_
      refine lv_iload hx hb dX12_balance_54 (lv_at hl 4 rfl) ?_
      refine lv_aload_n hx hb dX12_balance_56 rfl (lv_at hl 0 rfl) ?_
      obtain ⟨hq2, hf⟩ := jif hf
      refine gt_139 E hM hq2 lk_6_53 dX12_balance_57 ?_
      obtain ⟨x3, S4, hc5, hf⟩ := jbd_e hf
      refine jbackL hM (jrunV E hM ci_X12_dueOf (C_X12_dueOf hc5) lk_9_7 hq2 (by decide) rfl hl.1 rfl rfl (Nat.le_of_ble_eq_true rfl) ⟨Nat.le_of_ble_eq_true rfl, Nat.le_of_ble_eq_true rfl⟩ ⟨Nat.le_refl _, Nat.le_refl _⟩ dX12_balance_60) (fun H locs hM => ?_)
      refine lv_ladd hx hb dX12_balance_63 ?_
      refine lv_topl (fun x6 ex6 => ?_)
      have hf := jlet_y ex6 hf
      refine lv_lstore_n (lv' := [(3, .long x6), (0, .ref (g.2.2 + v0)), (1, .int v1), (2, .int v2), (5, .int v5)]) hx hb dX12_balance_64 rfl hl (by decide) rfl (fun ls hl => ?_)
      obtain ⟨x7, ex7⟩ : ∃ z, z = v5 + (1 : Int32) := ⟨_, rfl⟩
      have hf := jlet_y ex7 hf
      refine lv_iinc (v := x7) (lv' := [(5, .int x7), (3, .long x6), (0, .ref (g.2.2 + v0)), (1, .int v1), (2, .int v2)]) hx hb dX12_balance_65 hl (k := 4) rfl (by rw [ex7]; rfl) (by decide) rfl (fun ls hl => ?_)
      refine lv_goto (tgt := 45) hx hb dX12_balance_68 (by decide) ?_
      exact ih v0 v1 v2 x6 x7 S4 _ _ _ hf hM (lv_sub hl [2, 3, 4, 1, 0] rfl)
set_option maxRecDepth 100000 in
set_option maxHeartbeats 4000000 in
theorem B_X12_balance_0 {p : Program} {l : Launch} {e : Env} {s : State} {m : MethodId} {args : Array Value} {below : List Frame} {meth : Method} {c : Code} {g : jG} {rr : Int64} {SS : jM} {v0 : Nat} {v1 : Int32} {v2 : Int32} {S : jM} (E : jEnv p s m args meth c cX12_balance "PensionHouseModel" (some .long) 6 g)  {H : Heap} {locs : List Loc} {ls : Array Slot} (hf : f_X12_balance v0 v1 v2 S = some (rr, SS)) (hM : jAt g S s H locs) (hl : lv_has ls 6 [(0, .ref (g.2.2 + v0)), (1, .int v1), (2, .int v2)]) : W p l e (jRm 1021 0 0) s m args below meth c H locs 0 0 (MQ below (jQl g rr SS) args s 0 0 (jA0 g)) (F0 m 0 ls []) := by
  obtain ⟨hx, hb, hml, -, hts, hown, hK, -, hstr⟩ := id E
  unfold f_X12_balance at hf
  refine lv_iload_n hx hb dX12_balance_0 rfl (lv_at hl 1 rfl) ?_
  refine lv_i2l hx hb dX12_balance_1 rfl ?_
  refine lv_lconst (v := (0 : Int64)) hx hb dX12_balance_2 (by decide) ?_
  refine lv_aload_n hx hb dX12_balance_3 rfl (lv_at hl 0 rfl) ?_
  obtain ⟨hq8, hf⟩ := jif hf
  refine gt_160 E hM hq8 lk_6_74 dX12_balance_4 ?_
  refine lv_iconst (v := (1 : Int32)) hx hb dX12_balance_7 (by decide) ?_
  refine lv_isub hx hb dX12_balance_8 ?_
  refine lv_i2l hx hb dX12_balance_9 rfl ?_
  refine jbackI hM (jrunS E hM ci_X12_in (C_X12_in rfl) lk_7_36 hl.1 rfl rfl (Nat.le_of_ble_eq_true rfl) ⟨Nat.le_of_ble_eq_true rfl, Nat.le_of_ble_eq_true rfl⟩ ⟨Nat.le_refl _, Nat.le_refl _⟩ dX12_balance_10) (fun H locs hM => ?_)
  refine lv_if_eq (tgt := 28) hx hb dX12_balance_13 (by decide) (fun c9 => ?_) (fun c9 => ?_)
  · have hf := jt c9 hf
    refine lv_lconst (v := (0 : Int64)) hx hb dX12_balance_28 (by decide) ?_
    exact jlret (jr2 hf) E hM dX12_balance_29
  · have hf := jf c9 hf
    refine lv_iload_n hx hb dX12_balance_16 rfl (lv_at hl 2 rfl) ?_
    refine lv_i2l hx hb dX12_balance_17 rfl ?_
    refine lv_lconst (v := (0 : Int64)) hx hb dX12_balance_18 (by decide) ?_
    refine lv_ldc2 (v := (12 : Int64)) hx hb hown (hts _ lk_7_58) dX12_balance_19 ?_
    refine jbackI hM (jrunS E hM ci_X12_in (C_X12_in rfl) lk_7_36 hl.1 rfl rfl (Nat.le_of_ble_eq_true rfl) ⟨Nat.le_of_ble_eq_true rfl, Nat.le_of_ble_eq_true rfl⟩ ⟨Nat.le_refl _, Nat.le_refl _⟩ dX12_balance_22) (fun H locs hM => ?_)
    refine lv_if_ne (tgt := 30) hx hb dX12_balance_25 (by decide) (fun c10 => ?_) (fun c10 => ?_)
    · have hf := jf c10 hf
      refine lv_aload_n hx hb dX12_balance_30 rfl (lv_at hl 0 rfl) ?_
      refine lv_iload_n hx hb dX12_balance_31 rfl (lv_at hl 1 rfl) ?_
      obtain ⟨x11, hc12, hf⟩ := jb hf
      refine jbackL hM (jrunV E hM ci_X12_paid (C_X12_paid hc12) lk_9_35 hq8 (by decide) rfl hl.1 rfl rfl (Nat.le_of_ble_eq_true rfl) ⟨Nat.le_of_ble_eq_true rfl, Nat.le_of_ble_eq_true rfl⟩ ⟨Nat.le_refl _, Nat.le_refl _⟩ dX12_balance_32) (fun H locs hM => ?_)
      refine lv_lneg hx hb dX12_balance_35 ?_
      refine lv_topl (fun x13 ex13 => ?_)
      have hf := jlet_y ex13 hf
      refine lv_lstore_n (lv' := [(3, .long x13), (0, .ref (g.2.2 + v0)), (1, .int v1), (2, .int v2)]) hx hb dX12_balance_36 rfl hl (by decide) rfl (fun ls hl => ?_)
      refine lv_aload_n hx hb dX12_balance_37 rfl (lv_at hl 1 rfl) ?_
      refine gt_159 E hM hq8 lk_6_73 dX12_balance_38 ?_
      obtain ⟨r14, hr15, hf⟩ := jb hf
      rw [hr15]
      show W p l e _ s m args below meth c H locs 0 0 _ (F0 m _ ls (.ref (g.2.2 + r14) :: _))
      refine lv_iload_n hx hb dX12_balance_41 rfl (lv_at hl 2 rfl) ?_
      obtain ⟨ha16, hf⟩ := jif hf
      refine jiald E hM ha16 dX12_balance_42 ?_
      refine lv_topi (fun x17 ex17 => ?_)
      have hf := jlet_y ex17 hf
      refine lv_istore (lv' := [(5, .int x17), (3, .long x13), (0, .ref (g.2.2 + v0)), (1, .int v1), (2, .int v2)]) hx hb dX12_balance_43 hl (by decide) rfl (fun ls hl => ?_)
      exact B_X12_balance_45 E  1100000 v0 v1 v2 x13 x17 S _ _ _ hf hM (lv_sub hl [2, 3, 4, 1, 0] rfl)
    · have hf := jt c10 hf
      refine lv_lconst (v := (0 : Int64)) hx hb dX12_balance_28 (by decide) ?_
      exact jlret (jr2 hf) E hM dX12_balance_29
set_option maxRecDepth 100000 in
theorem C_X12_balance {l : Launch} {g : jG} {a0 : Nat} {a1 : Int32} {a2 : Int32} {S : jM} {rr : Int64} {SS : jM} (hf : f_X12_balance a0 a1 a2 S = some (rr, SS)) : jMet l g yX12_balance cX12_balance 6 (some .long) 1021 0 0 [.ref (g.2.2 + a0), .int a1, .int a2] S (jQl g rr SS) := by
  refine jof (by decide +kernel) (Nat.le_of_ble_eq_true rfl) ?_
  intro p e s m below meth c E hM ls hl
  have hl : lv_has ls 6 [(0, .ref (g.2.2 + a0)),(1, .int a1),(2, .int a2)] := hl
  exact B_X12_balance_0 E hf hM hl
-- PensionHouseModel.byteAt(I)I  mode R
noncomputable def f_X12_byteAt (v0 : Nat) (v1 : Int32) (S : jM) : Option Int32 := if jK v0 = 10 then if (jI S 94 v0) ≤ v1 then some (0 : Int32) else (jR S 93 v0).bind (fun r3 => if jA r3 13 v1 = true then some (jAI S r3 (v1).toNatClampNeg) else none) else none
set_option maxRecDepth 100000 in
set_option maxHeartbeats 4000000 in
theorem B_X12_byteAt_0 {p : Program} {l : Launch} {e : Env} {s : State} {m : MethodId} {args : Array Value} {below : List Frame} {meth : Method} {c : Code} {g : jG} {rr : Int32} {S : jM} {v0 : Nat} {v1 : Int32} (E : jEnv p s m args meth c cX12_byteAt "PensionHouseModel" (some .int) 2 g)  {H : Heap} {locs : List Loc} {ls : Array Slot} (hf : f_X12_byteAt v0 v1 S = some rr) (hM : jAt g S s H locs) (hl : lv_has ls 2 [(0, .ref (g.2.2 + v0)), (1, .int v1)]) : W p l e (jRm 1 0 0) s m args below meth c H locs 0 0 (MQ below (jQi g rr S) args s 0 0 (jA0 g)) (F0 m 0 ls []) := by
  obtain ⟨hx, hb, hml, -, hts, hown, hK, -, hstr⟩ := id E
  unfold f_X12_byteAt at hf
  refine lv_iload_n hx hb dX12_byteAt_0 rfl (lv_at hl 1 rfl) ?_
  refine lv_aload_n hx hb dX12_byteAt_1 rfl (lv_at hl 0 rfl) ?_
  obtain ⟨hq1, hf⟩ := jif hf
  refine gt_94 E hM hq1 lk_6_8 dX12_byteAt_2 ?_
  refine lv_icmp_ge (tgt := 17) hx hb dX12_byteAt_5 (by decide) (fun c2 => ?_) (fun c2 => ?_)
  · have hf := jt c2 hf
    refine lv_iconst (v := (0 : Int32)) hx hb dX12_byteAt_17 (by decide) ?_
    exact jireti (jr1 hf) E hM dX12_byteAt_18
  · have hf := jf c2 hf
    refine lv_aload_n hx hb dX12_byteAt_8 rfl (lv_at hl 0 rfl) ?_
    refine gt_93 E hM hq1 lk_6_7 dX12_byteAt_9 ?_
    obtain ⟨r3, hr4, hf⟩ := jb hf
    rw [hr4]
    show W p l e _ s m args below meth c H locs 0 0 _ (F0 m _ ls (.ref (g.2.2 + r3) :: _))
    refine lv_iload_n hx hb dX12_byteAt_12 rfl (lv_at hl 1 rfl) ?_
    obtain ⟨ha5, hf⟩ := jif hf
    refine jiald E hM ha5 dX12_byteAt_13 ?_
    refine lv_goto (tgt := 18) hx hb dX12_byteAt_14 (by decide) ?_
    exact jireti (jr1 hf) E hM dX12_byteAt_18
set_option maxRecDepth 100000 in
theorem C_X12_byteAt {l : Launch} {g : jG} {a0 : Nat} {a1 : Int32} {S : jM} {rr : Int32} (hf : f_X12_byteAt a0 a1 S = some rr) : jMet l g yX12_byteAt cX12_byteAt 2 (some .int) 1 0 0 [.ref (g.2.2 + a0), .int a1] S (jQi g rr S) := by
  refine jof (by decide +kernel) (Nat.le_of_ble_eq_true rfl) ?_
  intro p e s m below meth c E hM ls hl
  have hl : lv_has ls 2 [(0, .ref (g.2.2 + a0)),(1, .int a1)] := hl
  exact B_X12_byteAt_0 E hf hM hl
-- PensionHouseModel.clock(I)I  mode M
noncomputable def f_X12_clock (v0 : Nat) (v1 : Int32) (S : jM) : Option (Int32 × jM) := if jK v0 = 10 then if (f_X12_in (v1.toInt64) ((jI S 139 v0).toInt64) (389 : Int64)) = 0 then some ((-3 : Int32), S) else jlet (jsI S 139 v0 v1) (fun S3 => some ((1 : Int32), S3)) else none
set_option maxRecDepth 100000 in
set_option maxHeartbeats 4000000 in
theorem B_X12_clock_0 {p : Program} {l : Launch} {e : Env} {s : State} {m : MethodId} {args : Array Value} {below : List Frame} {meth : Method} {c : Code} {g : jG} {rr : Int32} {SS : jM} {v0 : Nat} {v1 : Int32} {S : jM} (E : jEnv p s m args meth c cX12_clock "PensionHouseModel" (some .int) 2 g)  {H : Heap} {locs : List Loc} {ls : Array Slot} (hf : f_X12_clock v0 v1 S = some (rr, SS)) (hM : jAt g S s H locs) (hl : lv_has ls 2 [(0, .ref (g.2.2 + v0)), (1, .int v1)]) : W p l e (jRm 2 0 0) s m args below meth c H locs 0 0 (MQ below (jQi g rr SS) args s 0 0 (jA0 g)) (F0 m 0 ls []) := by
  obtain ⟨hx, hb, hml, -, hts, hown, hK, -, hstr⟩ := id E
  unfold f_X12_clock at hf
  refine lv_iload_n hx hb dX12_clock_0 rfl (lv_at hl 1 rfl) ?_
  refine lv_i2l hx hb dX12_clock_1 rfl ?_
  refine lv_aload_n hx hb dX12_clock_2 rfl (lv_at hl 0 rfl) ?_
  obtain ⟨hq1, hf⟩ := jif hf
  refine gt_139 E hM hq1 lk_6_53 dX12_clock_3 ?_
  refine lv_i2l hx hb dX12_clock_6 rfl ?_
  refine lv_ldc2 (v := (389 : Int64)) hx hb hown (hts _ lk_7_47) dX12_clock_7 ?_
  refine jbackI hM (jrunS E hM ci_X12_in (C_X12_in rfl) lk_7_36 hl.1 rfl rfl (Nat.le_of_ble_eq_true rfl) ⟨Nat.le_of_ble_eq_true rfl, Nat.le_of_ble_eq_true rfl⟩ ⟨Nat.le_refl _, Nat.le_refl _⟩ dX12_clock_10) (fun H locs hM => ?_)
  refine lv_if_ne (tgt := 19) hx hb dX12_clock_13 (by decide) (fun c2 => ?_) (fun c2 => ?_)
  · have hf := jf c2 hf
    refine lv_aload_n hx hb dX12_clock_19 rfl (lv_at hl 0 rfl) ?_
    refine lv_iload_n hx hb dX12_clock_20 rfl (lv_at hl 1 rfl) ?_
    refine pt_139 E hM hq1 lk_6_53 dX12_clock_21 (fun H locs S3 eS3 hM => ?_)
    have hf := jlet_y eS3 hf
    refine lv_iconst (v := (1 : Int32)) hx hb dX12_clock_24 (by decide) ?_
    exact jireti (jr2 hf) E hM dX12_clock_25
  · have hf := jt c2 hf
    refine lv_bipush (v := (-3 : Int32)) hx hb dX12_clock_16 (by decide) ?_
    exact jireti (jr2 hf) E hM dX12_clock_18
set_option maxRecDepth 100000 in
theorem C_X12_clock {l : Launch} {g : jG} {a0 : Nat} {a1 : Int32} {S : jM} {rr : Int32} {SS : jM} (hf : f_X12_clock a0 a1 S = some (rr, SS)) : jMet l g yX12_clock cX12_clock 2 (some .int) 2 0 0 [.ref (g.2.2 + a0), .int a1] S (jQi g rr SS) := by
  refine jof (by decide +kernel) (Nat.le_of_ble_eq_true rfl) ?_
  intro p e s m below meth c E hM ls hl
  have hl : lv_has ls 2 [(0, .ref (g.2.2 + a0)),(1, .int a1)] := hl
  exact B_X12_clock_0 E hf hM hl
-- PensionHouseModel.copy(II)V  mode M
noncomputable def f_X12_copy_26 : Nat → Nat → Int32 → Int32 → Int32 → jM → Option jM
  | 0, _, _, _, _, _ => none
  | n + 1, v0, v1, v2, v3, S => if (12 : Int32) ≤ v3 then some S else if jK v0 = 10 then (jR S 90 v0).bind (fun r3 => (jR S 90 v0).bind (fun r5 => if jA r5 14 (((12 : Int32) * v2) + v3) = true then if jA r3 14 (((12 : Int32) * v1) + v3) = true then jlet (jrL S r3 (vp_updL (jAL S r3) (((12 : Int32) * v1) + v3).toNatClampNeg (jAL S r5 (((12 : Int32) * v2) + v3).toNatClampNeg))) (fun S9 => (jR S9 91 v0).bind (fun r10 => (jR S9 91 v0).bind (fun r12 => if jA r12 12 (((12 : Int32) * v2) + v3) = true then if jA r10 12 (((12 : Int32) * v1) + v3) = true then jlet (jrD S9 r10 (vf_upd (jAD S9 r10) (((12 : Int32) * v1) + v3).toNatClampNeg (jAD S9 r12 (((12 : Int32) * v2) + v3).toNatClampNeg))) (fun S16 => jlet (v3 + (1 : Int32)) (fun x17 => (f_X12_copy_26 n) v0 v1 v2 x17 S16)) else none else none))) else none else none)) else none
noncomputable def f_X12_copy (v0 : Nat) (v1 : Int32) (v2 : Int32) (S : jM) : Option jM := if jK v0 = 10 then (jR S 88 v0).bind (fun r19 => (jR S 88 v0).bind (fun r21 => if jA r21 13 v2 = true then if jA r19 13 v1 = true then jlet (jrI S r19 (upd (jAI S r19) (v1).toNatClampNeg (jAI S r21 (v2).toNatClampNeg))) (fun S25 => (jR S25 89 v0).bind (fun r26 => (jR S25 89 v0).bind (fun r28 => if jA r28 13 v2 = true then if jA r26 13 v1 = true then jlet (jrI S25 r26 (upd (jAI S25 r26) (v1).toNatClampNeg (jAI S25 r28 (v2).toNatClampNeg))) (fun S32 => f_X12_copy_26 1100000 v0 v1 v2 (0 : Int32) S32) else none else none))) else none else none)) else none
set_option maxRecDepth 100000 in
set_option maxHeartbeats 4000000 in
theorem B_X12_copy_26 {p : Program} {l : Launch} {e : Env} {s : State} {m : MethodId} {args : Array Value} {below : List Frame} {meth : Method} {c : Code} {g : jG} {SS : jM} (E : jEnv p s m args meth c cX12_copy "PensionHouseModel" none 4 g)  : ∀ (n : Nat) (v0 : Nat) (v1 : Int32) (v2 : Int32) (v3 : Int32) (S : jM) (H : Heap) (locs : List Loc) (ls : Array Slot), f_X12_copy_26 n v0 v1 v2 v3 S = some SS → jAt g S s H locs → lv_has ls 4 [(0, .ref (g.2.2 + v0)), (1, .int v1), (2, .int v2), (3, .int v3)] → W p l e (jRm 1 0 0) s m args below meth c H locs 0 0 (MQ below (jQv g SS) args s 0 0 (jA0 g)) (F0 m 26 ls []) := by
  obtain ⟨hx, hb, hml, -, hts, hown, hK, -, hstr⟩ := id E
  intro n
  induction n with
  | zero => intro v0 v1 v2 v3 S H locs ls hf hM hl; rw [f_X12_copy_26] at hf; cases hf
  | succ n ih =>
    intro v0 v1 v2 v3 S H locs ls hf hM hl
    rw [f_X12_copy_26] at hf
    refine lv_iload_n hx hb dX12_copy_26 rfl (lv_at hl 3 rfl) ?_
    refine lv_bipush (v := (12 : Int32)) hx hb dX12_copy_27 (by decide) ?_
    refine lv_icmp_ge (tgt := 82) hx hb dX12_copy_29 (by decide) (fun c1 => ?_) (fun c1 => ?_)
    · have hf := jt c1 hf
      exact jvret (jrv hf) E hM dX12_copy_82
    · have hf := jf c1 hf
      refine lv_aload_n hx hb dX12_copy_32 rfl (lv_at hl 0 rfl) ?_
      obtain ⟨hq2, hf⟩ := jif hf
      refine gt_90 E hM hq2 lk_6_4 dX12_copy_33 ?_
      obtain ⟨r3, hr4, hf⟩ := jb hf
      rw [hr4]
      show W p l e _ s m args below meth c H locs 0 0 _ (F0 m _ ls (.ref (g.2.2 + r3) :: _))
      refine lv_bipush (v := (12 : Int32)) hx hb dX12_copy_36 (by decide) ?_
      refine lv_iload_n hx hb dX12_copy_38 rfl (lv_at hl 1 rfl) ?_
      refine lv_imul hx hb dX12_copy_39 ?_
      refine lv_iload_n hx hb dX12_copy_40 rfl (lv_at hl 3 rfl) ?_
      refine lv_iadd hx hb dX12_copy_41 ?_
      refine lv_aload_n hx hb dX12_copy_42 rfl (lv_at hl 0 rfl) ?_
      refine gt_90 E hM hq2 lk_6_4 dX12_copy_43 ?_
      obtain ⟨r5, hr6, hf⟩ := jb hf
      rw [hr6]
      show W p l e _ s m args below meth c H locs 0 0 _ (F0 m _ ls (.ref (g.2.2 + r5) :: _))
      refine lv_bipush (v := (12 : Int32)) hx hb dX12_copy_46 (by decide) ?_
      refine lv_iload_n hx hb dX12_copy_48 rfl (lv_at hl 2 rfl) ?_
      refine lv_imul hx hb dX12_copy_49 ?_
      refine lv_iload_n hx hb dX12_copy_50 rfl (lv_at hl 3 rfl) ?_
      refine lv_iadd hx hb dX12_copy_51 ?_
      obtain ⟨ha7, hf⟩ := jif hf
      refine jlald E hM ha7 dX12_copy_52 ?_
      obtain ⟨ha8, hf⟩ := jif hf
      refine jlast E hM ha8 dX12_copy_53 (fun H locs S9 eS9 hM => ?_)
      have hf := jlet_y eS9 hf
      refine lv_aload_n hx hb dX12_copy_54 rfl (lv_at hl 0 rfl) ?_
      refine gt_91 E hM hq2 lk_6_5 dX12_copy_55 ?_
      obtain ⟨r10, hr11, hf⟩ := jb hf
      rw [hr11]
      show W p l e _ s m args below meth c H locs 0 0 _ (F0 m _ ls (.ref (g.2.2 + r10) :: _))
      refine lv_bipush (v := (12 : Int32)) hx hb dX12_copy_58 (by decide) ?_
      refine lv_iload_n hx hb dX12_copy_60 rfl (lv_at hl 1 rfl) ?_
      refine lv_imul hx hb dX12_copy_61 ?_
      refine lv_iload_n hx hb dX12_copy_62 rfl (lv_at hl 3 rfl) ?_
      refine lv_iadd hx hb dX12_copy_63 ?_
      refine lv_aload_n hx hb dX12_copy_64 rfl (lv_at hl 0 rfl) ?_
      refine gt_91 E hM hq2 lk_6_5 dX12_copy_65 ?_
      obtain ⟨r12, hr13, hf⟩ := jb hf
      rw [hr13]
      show W p l e _ s m args below meth c H locs 0 0 _ (F0 m _ ls (.ref (g.2.2 + r12) :: _))
      refine lv_bipush (v := (12 : Int32)) hx hb dX12_copy_68 (by decide) ?_
      refine lv_iload_n hx hb dX12_copy_70 rfl (lv_at hl 2 rfl) ?_
      refine lv_imul hx hb dX12_copy_71 ?_
      refine lv_iload_n hx hb dX12_copy_72 rfl (lv_at hl 3 rfl) ?_
      refine lv_iadd hx hb dX12_copy_73 ?_
      obtain ⟨ha14, hf⟩ := jif hf
      refine jdald E hM ha14 dX12_copy_74 ?_
      obtain ⟨ha15, hf⟩ := jif hf
      refine jdast E hM ha15 dX12_copy_75 (fun H locs S16 eS16 hM => ?_)
      have hf := jlet_y eS16 hf
      obtain ⟨x17, ex17⟩ : ∃ z, z = v3 + (1 : Int32) := ⟨_, rfl⟩
      have hf := jlet_y ex17 hf
      refine lv_iinc (v := x17) (lv' := [(3, .int x17), (0, .ref (g.2.2 + v0)), (1, .int v1), (2, .int v2)]) hx hb dX12_copy_76 hl (k := 3) rfl (by rw [ex17]; rfl) (by decide) rfl (fun ls hl => ?_)
      refine lv_goto (tgt := 26) hx hb dX12_copy_79 (by decide) ?_
      exact ih v0 v1 v2 x17 S16 _ _ _ hf hM (lv_sub hl [1, 2, 3, 0] rfl)
set_option maxRecDepth 100000 in
set_option maxHeartbeats 4000000 in
theorem B_X12_copy_0 {p : Program} {l : Launch} {e : Env} {s : State} {m : MethodId} {args : Array Value} {below : List Frame} {meth : Method} {c : Code} {g : jG} {SS : jM} {v0 : Nat} {v1 : Int32} {v2 : Int32} {S : jM} (E : jEnv p s m args meth c cX12_copy "PensionHouseModel" none 4 g)  {H : Heap} {locs : List Loc} {ls : Array Slot} (hf : f_X12_copy v0 v1 v2 S = some SS) (hM : jAt g S s H locs) (hl : lv_has ls 4 [(0, .ref (g.2.2 + v0)), (1, .int v1), (2, .int v2)]) : W p l e (jRm 1 0 0) s m args below meth c H locs 0 0 (MQ below (jQv g SS) args s 0 0 (jA0 g)) (F0 m 0 ls []) := by
  obtain ⟨hx, hb, hml, -, hts, hown, hK, -, hstr⟩ := id E
  unfold f_X12_copy at hf
  refine lv_aload_n hx hb dX12_copy_0 rfl (lv_at hl 0 rfl) ?_
  obtain ⟨hq18, hf⟩ := jif hf
  refine gt_88 E hM hq18 lk_6_2 dX12_copy_1 ?_
  obtain ⟨r19, hr20, hf⟩ := jb hf
  rw [hr20]
  show W p l e _ s m args below meth c H locs 0 0 _ (F0 m _ ls (.ref (g.2.2 + r19) :: _))
  refine lv_iload_n hx hb dX12_copy_4 rfl (lv_at hl 1 rfl) ?_
  refine lv_aload_n hx hb dX12_copy_5 rfl (lv_at hl 0 rfl) ?_
  refine gt_88 E hM hq18 lk_6_2 dX12_copy_6 ?_
  obtain ⟨r21, hr22, hf⟩ := jb hf
  rw [hr22]
  show W p l e _ s m args below meth c H locs 0 0 _ (F0 m _ ls (.ref (g.2.2 + r21) :: _))
  refine lv_iload_n hx hb dX12_copy_9 rfl (lv_at hl 2 rfl) ?_
  obtain ⟨ha23, hf⟩ := jif hf
  refine jiald E hM ha23 dX12_copy_10 ?_
  obtain ⟨ha24, hf⟩ := jif hf
  refine jiast E hM ha24 dX12_copy_11 (fun H locs S25 eS25 hM => ?_)
  have hf := jlet_y eS25 hf
  refine lv_aload_n hx hb dX12_copy_12 rfl (lv_at hl 0 rfl) ?_
  refine gt_89 E hM hq18 lk_6_3 dX12_copy_13 ?_
  obtain ⟨r26, hr27, hf⟩ := jb hf
  rw [hr27]
  show W p l e _ s m args below meth c H locs 0 0 _ (F0 m _ ls (.ref (g.2.2 + r26) :: _))
  refine lv_iload_n hx hb dX12_copy_16 rfl (lv_at hl 1 rfl) ?_
  refine lv_aload_n hx hb dX12_copy_17 rfl (lv_at hl 0 rfl) ?_
  refine gt_89 E hM hq18 lk_6_3 dX12_copy_18 ?_
  obtain ⟨r28, hr29, hf⟩ := jb hf
  rw [hr29]
  show W p l e _ s m args below meth c H locs 0 0 _ (F0 m _ ls (.ref (g.2.2 + r28) :: _))
  refine lv_iload_n hx hb dX12_copy_21 rfl (lv_at hl 2 rfl) ?_
  obtain ⟨ha30, hf⟩ := jif hf
  refine jiald E hM ha30 dX12_copy_22 ?_
  obtain ⟨ha31, hf⟩ := jif hf
  refine jiast E hM ha31 dX12_copy_23 (fun H locs S32 eS32 hM => ?_)
  have hf := jlet_y eS32 hf
  refine lv_iconst (v := (0 : Int32)) hx hb dX12_copy_24 (by decide) ?_
  refine lv_istore_n (lv' := [(3, .int (0 : Int32)), (0, .ref (g.2.2 + v0)), (1, .int v1), (2, .int v2)]) hx hb dX12_copy_25 rfl hl (by decide) rfl (fun ls hl => ?_)
  exact B_X12_copy_26 E  1100000 v0 v1 v2 (0 : Int32) S32 _ _ _ hf hM (lv_sub hl [1, 2, 3, 0] rfl)
set_option maxRecDepth 100000 in
theorem C_X12_copy {l : Launch} {g : jG} {a0 : Nat} {a1 : Int32} {a2 : Int32} {S : jM} {SS : jM} (hf : f_X12_copy a0 a1 a2 S = some SS) : jMet l g yX12_copy cX12_copy 4 none 1 0 0 [.ref (g.2.2 + a0), .int a1, .int a2] S (jQv g SS) := by
  refine jof (by decide +kernel) (Nat.le_of_ble_eq_true rfl) ?_
  intro p e s m below meth c E hM ls hl
  have hl : lv_has ls 4 [(0, .ref (g.2.2 + a0)),(1, .int a1),(2, .int a2)] := hl
  exact B_X12_copy_0 E hf hM hl
-- PensionHouseModel.count(I)I  mode R
noncomputable def f_X12_count (v0 : Nat) (v1 : Int32) (S : jM) : Option Int32 := if v1 = (0 : Int32) then if jK v0 = 10 then some (jI S 138 v0) else none else if v1 = (1 : Int32) then if jK v0 = 10 then some (jI S 146 v0) else none else if v1 = (2 : Int32) then if jK v0 = 10 then some (jI S 160 v0) else none else if v1 = (3 : Int32) then if jK v0 = 10 then some (jI S 175 v0) else none else if v1 = (4 : Int32) then if jK v0 = 10 then some ((jI S 167 v0) - (jI S 168 v0)) else none else if v1 = (5 : Int32) then if jK v0 = 10 then some (jI S 94 v0) else none else if v1 = (6 : Int32) then if jK v0 = 10 then some (jI S 139 v0) else none else some (-3 : Int32)
set_option maxRecDepth 100000 in
set_option maxHeartbeats 4000000 in
theorem B_X12_count_0 {p : Program} {l : Launch} {e : Env} {s : State} {m : MethodId} {args : Array Value} {below : List Frame} {meth : Method} {c : Code} {g : jG} {rr : Int32} {S : jM} {v0 : Nat} {v1 : Int32} (E : jEnv p s m args meth c cX12_count "PensionHouseModel" (some .int) 2 g)  {H : Heap} {locs : List Loc} {ls : Array Slot} (hf : f_X12_count v0 v1 S = some rr) (hM : jAt g S s H locs) (hl : lv_has ls 2 [(0, .ref (g.2.2 + v0)), (1, .int v1)]) : W p l e (jRm 1 0 0) s m args below meth c H locs 0 0 (MQ below (jQi g rr S) args s 0 0 (jA0 g)) (F0 m 0 ls []) := by
  obtain ⟨hx, hb, hml, -, hts, hown, hK, -, hstr⟩ := id E
  unfold f_X12_count at hf
  refine lv_iload_n hx hb dX12_count_0 rfl (lv_at hl 1 rfl) ?_
  by_cases c2 : v1 = (0 : Int32)
  · have hf := jt c2 hf
    refine lv_tableIn (off := 43) (tgt := 44) hx hb dX12_count_1 (by rw [c2]; decide) (by rw [c2]; decide) (by rw [c2]; rfl) (by decide) ?_
    refine lv_aload_n hx hb dX12_count_44 rfl (lv_at hl 0 rfl) ?_
    obtain ⟨hq1, hf⟩ := jif hf
    refine gt_138 E hM hq1 lk_6_52 dX12_count_45 ?_
    exact jireti (jr1 hf) E hM dX12_count_48
  have hf := jf c2 hf
  by_cases c4 : v1 = (1 : Int32)
  · have hf := jt c4 hf
    refine lv_tableIn (off := 48) (tgt := 49) hx hb dX12_count_1 (by rw [c4]; decide) (by rw [c4]; decide) (by rw [c4]; rfl) (by decide) ?_
    refine lv_aload_n hx hb dX12_count_49 rfl (lv_at hl 0 rfl) ?_
    obtain ⟨hq3, hf⟩ := jif hf
    refine gt_146 E hM hq3 lk_6_60 dX12_count_50 ?_
    exact jireti (jr1 hf) E hM dX12_count_53
  have hf := jf c4 hf
  by_cases c6 : v1 = (2 : Int32)
  · have hf := jt c6 hf
    refine lv_tableIn (off := 53) (tgt := 54) hx hb dX12_count_1 (by rw [c6]; decide) (by rw [c6]; decide) (by rw [c6]; rfl) (by decide) ?_
    refine lv_aload_n hx hb dX12_count_54 rfl (lv_at hl 0 rfl) ?_
    obtain ⟨hq5, hf⟩ := jif hf
    refine gt_160 E hM hq5 lk_6_74 dX12_count_55 ?_
    exact jireti (jr1 hf) E hM dX12_count_58
  have hf := jf c6 hf
  by_cases c8 : v1 = (3 : Int32)
  · have hf := jt c8 hf
    refine lv_tableIn (off := 58) (tgt := 59) hx hb dX12_count_1 (by rw [c8]; decide) (by rw [c8]; decide) (by rw [c8]; rfl) (by decide) ?_
    refine lv_aload_n hx hb dX12_count_59 rfl (lv_at hl 0 rfl) ?_
    obtain ⟨hq7, hf⟩ := jif hf
    refine gt_175 E hM hq7 lk_6_89 dX12_count_60 ?_
    exact jireti (jr1 hf) E hM dX12_count_63
  have hf := jf c8 hf
  by_cases c10 : v1 = (4 : Int32)
  · have hf := jt c10 hf
    refine lv_tableIn (off := 63) (tgt := 64) hx hb dX12_count_1 (by rw [c10]; decide) (by rw [c10]; decide) (by rw [c10]; rfl) (by decide) ?_
    refine lv_aload_n hx hb dX12_count_64 rfl (lv_at hl 0 rfl) ?_
    obtain ⟨hq9, hf⟩ := jif hf
    refine gt_167 E hM hq9 lk_6_81 dX12_count_65 ?_
    refine lv_aload_n hx hb dX12_count_68 rfl (lv_at hl 0 rfl) ?_
    refine gt_168 E hM hq9 lk_6_82 dX12_count_69 ?_
    refine lv_isub hx hb dX12_count_72 ?_
    exact jireti (jr1 hf) E hM dX12_count_73
  have hf := jf c10 hf
  by_cases c12 : v1 = (5 : Int32)
  · have hf := jt c12 hf
    refine lv_tableIn (off := 73) (tgt := 74) hx hb dX12_count_1 (by rw [c12]; decide) (by rw [c12]; decide) (by rw [c12]; rfl) (by decide) ?_
    refine lv_aload_n hx hb dX12_count_74 rfl (lv_at hl 0 rfl) ?_
    obtain ⟨hq11, hf⟩ := jif hf
    refine gt_94 E hM hq11 lk_6_8 dX12_count_75 ?_
    exact jireti (jr1 hf) E hM dX12_count_78
  have hf := jf c12 hf
  by_cases c14 : v1 = (6 : Int32)
  · have hf := jt c14 hf
    refine lv_tableIn (off := 78) (tgt := 79) hx hb dX12_count_1 (by rw [c14]; decide) (by rw [c14]; decide) (by rw [c14]; rfl) (by decide) ?_
    refine lv_aload_n hx hb dX12_count_79 rfl (lv_at hl 0 rfl) ?_
    obtain ⟨hq13, hf⟩ := jif hf
    refine gt_139 E hM hq13 lk_6_53 dX12_count_80 ?_
    exact jireti (jr1 hf) E hM dX12_count_83
  have hf := jf c14 hf
  refine jtabD (tgt := 84) (nd := [0, 1, 2, 3, 4, 5, 6]) hx hb dX12_count_1 (by decide) (by decide) (by decide) (List.forall_mem_cons.mpr ⟨jne (k := 0) c2 rfl, List.forall_mem_cons.mpr ⟨jne (k := 1) c4 rfl, List.forall_mem_cons.mpr ⟨jne (k := 2) c6 rfl, List.forall_mem_cons.mpr ⟨jne (k := 3) c8 rfl, List.forall_mem_cons.mpr ⟨jne (k := 4) c10 rfl, List.forall_mem_cons.mpr ⟨jne (k := 5) c12 rfl, List.forall_mem_cons.mpr ⟨jne (k := 6) c14 rfl, fun _ h => absurd h List.not_mem_nil⟩⟩⟩⟩⟩⟩⟩) ?_
  refine lv_bipush (v := (-3 : Int32)) hx hb dX12_count_84 (by decide) ?_
  exact jireti (jr1 hf) E hM dX12_count_86
set_option maxRecDepth 100000 in
theorem C_X12_count {l : Launch} {g : jG} {a0 : Nat} {a1 : Int32} {S : jM} {rr : Int32} (hf : f_X12_count a0 a1 S = some rr) : jMet l g yX12_count cX12_count 2 (some .int) 1 0 0 [.ref (g.2.2 + a0), .int a1] S (jQi g rr S) := by
  refine jof (by decide +kernel) (Nat.le_of_ble_eq_true rfl) ?_
  intro p e s m below meth c E hM ls hl
  have hl : lv_has ls 2 [(0, .ref (g.2.2 + a0)),(1, .int a1)] := hl
  exact B_X12_count_0 E hf hM hl
-- PensionHouseModel.cut(I)I  mode M
noncomputable def f_X12_cut (v0 : Nat) (v1 : Int32) (S : jM) : Option (Int32 × jM) := if jK v0 = 10 then if (f_X12_in (v1.toInt64) (0 : Int64) ((jI S 94 v0).toInt64)) = 0 then some ((-3 : Int32), S) else jlet ((jI S 94 v0) - v1) (fun x3 => jlet (jsI S 94 v0 v1) (fun S4 => some (x3, S4))) else none
set_option maxRecDepth 100000 in
set_option maxHeartbeats 4000000 in
theorem B_X12_cut_0 {p : Program} {l : Launch} {e : Env} {s : State} {m : MethodId} {args : Array Value} {below : List Frame} {meth : Method} {c : Code} {g : jG} {rr : Int32} {SS : jM} {v0 : Nat} {v1 : Int32} {S : jM} (E : jEnv p s m args meth c cX12_cut "PensionHouseModel" (some .int) 3 g)  {H : Heap} {locs : List Loc} {ls : Array Slot} (hf : f_X12_cut v0 v1 S = some (rr, SS)) (hM : jAt g S s H locs) (hl : lv_has ls 3 [(0, .ref (g.2.2 + v0)), (1, .int v1)]) : W p l e (jRm 2 0 0) s m args below meth c H locs 0 0 (MQ below (jQi g rr SS) args s 0 0 (jA0 g)) (F0 m 0 ls []) := by
  obtain ⟨hx, hb, hml, -, hts, hown, hK, -, hstr⟩ := id E
  unfold f_X12_cut at hf
  refine lv_iload_n hx hb dX12_cut_0 rfl (lv_at hl 1 rfl) ?_
  refine lv_i2l hx hb dX12_cut_1 rfl ?_
  refine lv_lconst (v := (0 : Int64)) hx hb dX12_cut_2 (by decide) ?_
  refine lv_aload_n hx hb dX12_cut_3 rfl (lv_at hl 0 rfl) ?_
  obtain ⟨hq1, hf⟩ := jif hf
  refine gt_94 E hM hq1 lk_6_8 dX12_cut_4 ?_
  refine lv_i2l hx hb dX12_cut_7 rfl ?_
  refine jbackI hM (jrunS E hM ci_X12_in (C_X12_in rfl) lk_7_36 hl.1 rfl rfl (Nat.le_of_ble_eq_true rfl) ⟨Nat.le_of_ble_eq_true rfl, Nat.le_of_ble_eq_true rfl⟩ ⟨Nat.le_refl _, Nat.le_refl _⟩ dX12_cut_8) (fun H locs hM => ?_)
  refine lv_if_ne (tgt := 17) hx hb dX12_cut_11 (by decide) (fun c2 => ?_) (fun c2 => ?_)
  · have hf := jf c2 hf
    refine lv_aload_n hx hb dX12_cut_17 rfl (lv_at hl 0 rfl) ?_
    refine gt_94 E hM hq1 lk_6_8 dX12_cut_18 ?_
    refine lv_iload_n hx hb dX12_cut_21 rfl (lv_at hl 1 rfl) ?_
    refine lv_isub hx hb dX12_cut_22 ?_
    refine lv_topi (fun x3 ex3 => ?_)
    have hf := jlet_y ex3 hf
    refine lv_istore_n (lv' := [(2, .int x3), (0, .ref (g.2.2 + v0)), (1, .int v1)]) hx hb dX12_cut_23 rfl hl (by decide) rfl (fun ls hl => ?_)
    refine lv_aload_n hx hb dX12_cut_24 rfl (lv_at hl 1 rfl) ?_
    refine lv_iload_n hx hb dX12_cut_25 rfl (lv_at hl 2 rfl) ?_
    refine pt_94 E hM hq1 lk_6_8 dX12_cut_26 (fun H locs S4 eS4 hM => ?_)
    have hf := jlet_y eS4 hf
    refine lv_iload_n hx hb dX12_cut_29 rfl (lv_at hl 0 rfl) ?_
    exact jireti (jr2 hf) E hM dX12_cut_30
  · have hf := jt c2 hf
    refine lv_bipush (v := (-3 : Int32)) hx hb dX12_cut_14 (by decide) ?_
    exact jireti (jr2 hf) E hM dX12_cut_16
set_option maxRecDepth 100000 in
theorem C_X12_cut {l : Launch} {g : jG} {a0 : Nat} {a1 : Int32} {S : jM} {rr : Int32} {SS : jM} (hf : f_X12_cut a0 a1 S = some (rr, SS)) : jMet l g yX12_cut cX12_cut 3 (some .int) 2 0 0 [.ref (g.2.2 + a0), .int a1] S (jQi g rr SS) := by
  refine jof (by decide +kernel) (Nat.le_of_ble_eq_true rfl) ?_
  intro p e s m below meth c E hM ls hl
  have hl : lv_has ls 3 [(0, .ref (g.2.2 + a0)),(1, .int a1)] := hl
  exact B_X12_cut_0 E hf hM hl
-- PensionHouseModel.deduct(III)I  mode M
noncomputable def f_X12_deduct (v0 : Nat) (v1 : Int32) (v2 : Int32) (v3 : Int32) (S : jM) : Option (Int32 × jM) := if jK v0 = 10 then if (f_X12_in (v1.toInt64) (0 : Int64) (((jI S 160 v0) - (1 : Int32)).toInt64)) = 0 then some ((-2 : Int32), S) else if (f_X12_in (v2.toInt64) (1 : Int64) (1000000 : Int64)) = 0 then some ((-3 : Int32), S) else if (f_X12_in (v3.toInt64) (0 : Int64) (9 : Int64)) = 0 then some ((-3 : Int32), S) else (jR S 163 v0).bind (fun r5 => if jA r5 13 v1 = true then if (jAI S r5 (v1).toNatClampNeg) = (6 : Int32) then some ((-5 : Int32), S) else (jR S 161 v0).bind (fun r9 => (jR S 163 v0).bind (fun r11 => if jA r11 13 v1 = true then if jA r9 13 (((6 : Int32) * v1) + (jAI S r11 (v1).toNatClampNeg)) = true then jlet (jrI S r9 (upd (jAI S r9) (((6 : Int32) * v1) + (jAI S r11 (v1).toNatClampNeg)).toNatClampNeg v2)) (fun S15 => (jR S15 162 v0).bind (fun r16 => (jR S15 163 v0).bind (fun r18 => if jA r18 13 v1 = true then if jA r16 13 (((6 : Int32) * v1) + (jAI S15 r18 (v1).toNatClampNeg)) = true then jlet (jrI S15 r16 (upd (jAI S15 r16) (((6 : Int32) * v1) + (jAI S15 r18 (v1).toNatClampNeg)).toNatClampNeg v3)) (fun S22 => (jR S22 163 v0).bind (fun r23 => if jA r23 13 v1 = true then if jA r23 13 v1 = true then jlet (jrI S22 r23 (upd (jAI S22 r23) (v1).toNatClampNeg ((jAI S22 r23 (v1).toNatClampNeg) + (1 : Int32)))) (fun S27 => (jR S27 163 v0).bind (fun r28 => if jA r28 13 v1 = true then some (jAI S27 r28 (v1).toNatClampNeg, S27) else none)) else none else none)) else none else none))) else none else none)) else none) else none
set_option maxRecDepth 100000 in
set_option maxHeartbeats 4000000 in
theorem B_X12_deduct_0 {p : Program} {l : Launch} {e : Env} {s : State} {m : MethodId} {args : Array Value} {below : List Frame} {meth : Method} {c : Code} {g : jG} {rr : Int32} {SS : jM} {v0 : Nat} {v1 : Int32} {v2 : Int32} {v3 : Int32} {S : jM} (E : jEnv p s m args meth c cX12_deduct "PensionHouseModel" (some .int) 4 g)  {H : Heap} {locs : List Loc} {ls : Array Slot} (hf : f_X12_deduct v0 v1 v2 v3 S = some (rr, SS)) (hM : jAt g S s H locs) (hl : lv_has ls 4 [(0, .ref (g.2.2 + v0)), (1, .int v1), (2, .int v2), (3, .int v3)]) : W p l e (jRm 2 0 0) s m args below meth c H locs 0 0 (MQ below (jQi g rr SS) args s 0 0 (jA0 g)) (F0 m 0 ls []) := by
  obtain ⟨hx, hb, hml, -, hts, hown, hK, -, hstr⟩ := id E
  unfold f_X12_deduct at hf
  refine lv_iload_n hx hb dX12_deduct_0 rfl (lv_at hl 1 rfl) ?_
  refine lv_i2l hx hb dX12_deduct_1 rfl ?_
  refine lv_lconst (v := (0 : Int64)) hx hb dX12_deduct_2 (by decide) ?_
  refine lv_aload_n hx hb dX12_deduct_3 rfl (lv_at hl 0 rfl) ?_
  obtain ⟨hq1, hf⟩ := jif hf
  refine gt_160 E hM hq1 lk_6_74 dX12_deduct_4 ?_
  refine lv_iconst (v := (1 : Int32)) hx hb dX12_deduct_7 (by decide) ?_
  refine lv_isub hx hb dX12_deduct_8 ?_
  refine lv_i2l hx hb dX12_deduct_9 rfl ?_
  refine jbackI hM (jrunS E hM ci_X12_in (C_X12_in rfl) lk_7_36 hl.1 rfl rfl (Nat.le_of_ble_eq_true rfl) ⟨Nat.le_of_ble_eq_true rfl, Nat.le_of_ble_eq_true rfl⟩ ⟨Nat.le_refl _, Nat.le_refl _⟩ dX12_deduct_10) (fun H locs hM => ?_)
  refine lv_if_ne (tgt := 19) hx hb dX12_deduct_13 (by decide) (fun c2 => ?_) (fun c2 => ?_)
  · have hf := jf c2 hf
    refine lv_iload_n hx hb dX12_deduct_19 rfl (lv_at hl 2 rfl) ?_
    refine lv_i2l hx hb dX12_deduct_20 rfl ?_
    refine lv_lconst (v := (1 : Int64)) hx hb dX12_deduct_21 (by decide) ?_
    refine lv_ldc2 (v := (1000000 : Int64)) hx hb hown (hts _ lk_9_16) dX12_deduct_22 ?_
    refine jbackI hM (jrunS E hM ci_X12_in (C_X12_in rfl) lk_7_36 hl.1 rfl rfl (Nat.le_of_ble_eq_true rfl) ⟨Nat.le_of_ble_eq_true rfl, Nat.le_of_ble_eq_true rfl⟩ ⟨Nat.le_refl _, Nat.le_refl _⟩ dX12_deduct_25) (fun H locs hM => ?_)
    refine lv_if_eq (tgt := 43) hx hb dX12_deduct_28 (by decide) (fun c3 => ?_) (fun c3 => ?_)
    · have hf := jt c3 hf
      refine lv_bipush (v := (-3 : Int32)) hx hb dX12_deduct_43 (by decide) ?_
      exact jireti (jr2 hf) E hM dX12_deduct_45
    · have hf := jf c3 hf
      refine lv_iload_n hx hb dX12_deduct_31 rfl (lv_at hl 3 rfl) ?_
      refine lv_i2l hx hb dX12_deduct_32 rfl ?_
      refine lv_lconst (v := (0 : Int64)) hx hb dX12_deduct_33 (by decide) ?_
      refine lv_ldc2 (v := (9 : Int64)) hx hb hown (hts _ lk_7_176) dX12_deduct_34 ?_
      refine jbackI hM (jrunS E hM ci_X12_in (C_X12_in rfl) lk_7_36 hl.1 rfl rfl (Nat.le_of_ble_eq_true rfl) ⟨Nat.le_of_ble_eq_true rfl, Nat.le_of_ble_eq_true rfl⟩ ⟨Nat.le_refl _, Nat.le_refl _⟩ dX12_deduct_37) (fun H locs hM => ?_)
      refine lv_if_ne (tgt := 46) hx hb dX12_deduct_40 (by decide) (fun c4 => ?_) (fun c4 => ?_)
      · have hf := jf c4 hf
        refine lv_aload_n hx hb dX12_deduct_46 rfl (lv_at hl 0 rfl) ?_
        refine gt_163 E hM hq1 lk_6_77 dX12_deduct_47 ?_
        obtain ⟨r5, hr6, hf⟩ := jb hf
        rw [hr6]
        show W p l e _ s m args below meth c H locs 0 0 _ (F0 m _ ls (.ref (g.2.2 + r5) :: _))
        refine lv_iload_n hx hb dX12_deduct_50 rfl (lv_at hl 1 rfl) ?_
        obtain ⟨ha7, hf⟩ := jif hf
        refine jiald E hM ha7 dX12_deduct_51 ?_
        refine lv_bipush (v := (6 : Int32)) hx hb dX12_deduct_52 (by decide) ?_
        refine lv_icmp_ne (tgt := 60) hx hb dX12_deduct_54 (by decide) (fun c8 => ?_) (fun c8 => ?_)
        · have hf := jf c8 hf
          refine lv_aload_n hx hb dX12_deduct_60 rfl (lv_at hl 0 rfl) ?_
          refine gt_161 E hM hq1 lk_6_75 dX12_deduct_61 ?_
          obtain ⟨r9, hr10, hf⟩ := jb hf
          rw [hr10]
          show W p l e _ s m args below meth c H locs 0 0 _ (F0 m _ ls (.ref (g.2.2 + r9) :: _))
          refine lv_bipush (v := (6 : Int32)) hx hb dX12_deduct_64 (by decide) ?_
          refine lv_iload_n hx hb dX12_deduct_66 rfl (lv_at hl 1 rfl) ?_
          refine lv_imul hx hb dX12_deduct_67 ?_
          refine lv_aload_n hx hb dX12_deduct_68 rfl (lv_at hl 0 rfl) ?_
          refine gt_163 E hM hq1 lk_6_77 dX12_deduct_69 ?_
          obtain ⟨r11, hr12, hf⟩ := jb hf
          rw [hr12]
          show W p l e _ s m args below meth c H locs 0 0 _ (F0 m _ ls (.ref (g.2.2 + r11) :: _))
          refine lv_iload_n hx hb dX12_deduct_72 rfl (lv_at hl 1 rfl) ?_
          obtain ⟨ha13, hf⟩ := jif hf
          refine jiald E hM ha13 dX12_deduct_73 ?_
          refine lv_iadd hx hb dX12_deduct_74 ?_
          refine lv_iload_n hx hb dX12_deduct_75 rfl (lv_at hl 2 rfl) ?_
          obtain ⟨ha14, hf⟩ := jif hf
          refine jiast E hM ha14 dX12_deduct_76 (fun H locs S15 eS15 hM => ?_)
          have hf := jlet_y eS15 hf
          refine lv_aload_n hx hb dX12_deduct_77 rfl (lv_at hl 0 rfl) ?_
          refine gt_162 E hM hq1 lk_6_76 dX12_deduct_78 ?_
          obtain ⟨r16, hr17, hf⟩ := jb hf
          rw [hr17]
          show W p l e _ s m args below meth c H locs 0 0 _ (F0 m _ ls (.ref (g.2.2 + r16) :: _))
          refine lv_bipush (v := (6 : Int32)) hx hb dX12_deduct_81 (by decide) ?_
          refine lv_iload_n hx hb dX12_deduct_83 rfl (lv_at hl 1 rfl) ?_
          refine lv_imul hx hb dX12_deduct_84 ?_
          refine lv_aload_n hx hb dX12_deduct_85 rfl (lv_at hl 0 rfl) ?_
          refine gt_163 E hM hq1 lk_6_77 dX12_deduct_86 ?_
          obtain ⟨r18, hr19, hf⟩ := jb hf
          rw [hr19]
          show W p l e _ s m args below meth c H locs 0 0 _ (F0 m _ ls (.ref (g.2.2 + r18) :: _))
          refine lv_iload_n hx hb dX12_deduct_89 rfl (lv_at hl 1 rfl) ?_
          obtain ⟨ha20, hf⟩ := jif hf
          refine jiald E hM ha20 dX12_deduct_90 ?_
          refine lv_iadd hx hb dX12_deduct_91 ?_
          refine lv_iload_n hx hb dX12_deduct_92 rfl (lv_at hl 3 rfl) ?_
          obtain ⟨ha21, hf⟩ := jif hf
          refine jiast E hM ha21 dX12_deduct_93 (fun H locs S22 eS22 hM => ?_)
          have hf := jlet_y eS22 hf
          refine lv_aload_n hx hb dX12_deduct_94 rfl (lv_at hl 0 rfl) ?_
          refine gt_163 E hM hq1 lk_6_77 dX12_deduct_95 ?_
          obtain ⟨r23, hr24, hf⟩ := jb hf
          rw [hr24]
          show W p l e _ s m args below meth c H locs 0 0 _ (F0 m _ ls (.ref (g.2.2 + r23) :: _))
          refine lv_iload_n hx hb dX12_deduct_98 rfl (lv_at hl 1 rfl) ?_
          refine lv_dup2_11 hx hb dX12_deduct_99 rfl rfl ?_
          obtain ⟨ha25, hf⟩ := jif hf
          refine jiald E hM ha25 dX12_deduct_100 ?_
          refine lv_iconst (v := (1 : Int32)) hx hb dX12_deduct_101 (by decide) ?_
          refine lv_iadd hx hb dX12_deduct_102 ?_
          obtain ⟨ha26, hf⟩ := jif hf
          refine jiast E hM ha26 dX12_deduct_103 (fun H locs S27 eS27 hM => ?_)
          have hf := jlet_y eS27 hf
          refine lv_aload_n hx hb dX12_deduct_104 rfl (lv_at hl 0 rfl) ?_
          refine gt_163 E hM hq1 lk_6_77 dX12_deduct_105 ?_
          obtain ⟨r28, hr29, hf⟩ := jb hf
          rw [hr29]
          show W p l e _ s m args below meth c H locs 0 0 _ (F0 m _ ls (.ref (g.2.2 + r28) :: _))
          refine lv_iload_n hx hb dX12_deduct_108 rfl (lv_at hl 1 rfl) ?_
          obtain ⟨ha30, hf⟩ := jif hf
          refine jiald E hM ha30 dX12_deduct_109 ?_
          exact jireti (jr2 hf) E hM dX12_deduct_110
        · have hf := jt c8 hf
          refine lv_bipush (v := (-5 : Int32)) hx hb dX12_deduct_57 (by decide) ?_
          exact jireti (jr2 hf) E hM dX12_deduct_59
      · have hf := jt c4 hf
        refine lv_bipush (v := (-3 : Int32)) hx hb dX12_deduct_43 (by decide) ?_
        exact jireti (jr2 hf) E hM dX12_deduct_45
  · have hf := jt c2 hf
    refine lv_bipush (v := (-2 : Int32)) hx hb dX12_deduct_16 (by decide) ?_
    exact jireti (jr2 hf) E hM dX12_deduct_18
set_option maxRecDepth 100000 in
theorem C_X12_deduct {l : Launch} {g : jG} {a0 : Nat} {a1 : Int32} {a2 : Int32} {a3 : Int32} {S : jM} {rr : Int32} {SS : jM} (hf : f_X12_deduct a0 a1 a2 a3 S = some (rr, SS)) : jMet l g yX12_deduct cX12_deduct 4 (some .int) 2 0 0 [.ref (g.2.2 + a0), .int a1, .int a2, .int a3] S (jQi g rr SS) := by
  refine jof (by decide +kernel) (Nat.le_of_ble_eq_true rfl) ?_
  intro p e s m below meth c E hM ls hl
  have hl : lv_has ls 4 [(0, .ref (g.2.2 + a0)),(1, .int a1),(2, .int a2),(3, .int a3)] := hl
  exact B_X12_deduct_0 E hf hM hl
-- PensionHouseModel.desk(II)I  mode M
noncomputable def f_X12_desk_27 (v0 : Nat) (v1 : Int32) (v2 : Int32) (t0 : Int64) (t1 : Int64) (t2 : Int64) (S : jM) : Option (Int32 × jM) := if (f_X12_in t0 t1 t2) = 0 then some ((-3 : Int32), S) else if jK v0 = 10 then (f_X12_shape v0 (0 : Int32) v1 v2 S).bind (fun S2 => some (v2, S2)) else none
noncomputable def f_X12_desk (v0 : Nat) (v1 : Int32) (v2 : Int32) (S : jM) : Option (Int32 × jM) := if (f_X12_in (v1.toInt64) (0 : Int64) (7 : Int64)) = 0 then some ((-3 : Int32), S) else if (2 : Int32) ≤ v1 then f_X12_desk_27 v0 v1 v2 (v2.toInt64) (0 : Int64) (12 : Int64) S else f_X12_desk_27 v0 v1 v2 (v2.toInt64) (0 : Int64) (0 : Int64) S
set_option maxRecDepth 100000 in
set_option maxHeartbeats 4000000 in
theorem B_X12_desk_27 {p : Program} {l : Launch} {e : Env} {s : State} {m : MethodId} {args : Array Value} {below : List Frame} {meth : Method} {c : Code} {g : jG} {rr : Int32} {SS : jM} {v0 : Nat} {v1 : Int32} {v2 : Int32} {t0 : Int64} {t1 : Int64} {t2 : Int64} {S : jM} (E : jEnv p s m args meth c cX12_desk "PensionHouseModel" (some .int) 3 g)  {H : Heap} {locs : List Loc} {ls : Array Slot} (hf : f_X12_desk_27 v0 v1 v2 t0 t1 t2 S = some (rr, SS)) (hM : jAt g S s H locs) (hl : lv_has ls 3 [(0, .ref (g.2.2 + v0)), (1, .int v1), (2, .int v2)]) : W p l e (jRm 3 0 0) s m args below meth c H locs 0 0 (MQ below (jQi g rr SS) args s 0 0 (jA0 g)) (F0 m 27 ls [.long t2, .long t1, .long t0]) := by
  obtain ⟨hx, hb, hml, -, hts, hown, hK, -, hstr⟩ := id E
  unfold f_X12_desk_27 at hf
  refine jbackI hM (jrunS E hM ci_X12_in (C_X12_in rfl) lk_7_36 hl.1 rfl rfl (Nat.le_of_ble_eq_true rfl) ⟨Nat.le_of_ble_eq_true rfl, Nat.le_of_ble_eq_true rfl⟩ ⟨Nat.le_refl _, Nat.le_refl _⟩ dX12_desk_27) (fun H locs hM => ?_)
  refine lv_if_ne (tgt := 36) hx hb dX12_desk_30 (by decide) (fun c1 => ?_) (fun c1 => ?_)
  · have hf := jf c1 hf
    refine lv_aload_n hx hb dX12_desk_36 rfl (lv_at hl 0 rfl) ?_
    refine lv_iconst (v := (0 : Int32)) hx hb dX12_desk_37 (by decide) ?_
    refine lv_iload_n hx hb dX12_desk_38 rfl (lv_at hl 1 rfl) ?_
    refine lv_iload_n hx hb dX12_desk_39 rfl (lv_at hl 2 rfl) ?_
    obtain ⟨hq4, hf⟩ := jif hf
    obtain ⟨S2, hc3, hf⟩ := jb hf
    refine jbackV hM (jrunV E hM ci_X12_shape (C_X12_shape hc3) lk_7_59 hq4 (by decide) rfl hl.1 rfl rfl (Nat.le_of_ble_eq_true rfl) ⟨Nat.le_of_ble_eq_true rfl, Nat.le_of_ble_eq_true rfl⟩ ⟨Nat.le_refl _, Nat.le_refl _⟩ dX12_desk_40) (fun H locs hM => ?_)
    refine lv_iload_n hx hb dX12_desk_43 rfl (lv_at hl 2 rfl) ?_
    exact jireti (jr2 hf) E hM dX12_desk_44
  · have hf := jt c1 hf
    refine lv_bipush (v := (-3 : Int32)) hx hb dX12_desk_33 (by decide) ?_
    exact jireti (jr2 hf) E hM dX12_desk_35
set_option maxRecDepth 100000 in
set_option maxHeartbeats 4000000 in
theorem B_X12_desk_0 {p : Program} {l : Launch} {e : Env} {s : State} {m : MethodId} {args : Array Value} {below : List Frame} {meth : Method} {c : Code} {g : jG} {rr : Int32} {SS : jM} {v0 : Nat} {v1 : Int32} {v2 : Int32} {S : jM} (E : jEnv p s m args meth c cX12_desk "PensionHouseModel" (some .int) 3 g)  {H : Heap} {locs : List Loc} {ls : Array Slot} (hf : f_X12_desk v0 v1 v2 S = some (rr, SS)) (hM : jAt g S s H locs) (hl : lv_has ls 3 [(0, .ref (g.2.2 + v0)), (1, .int v1), (2, .int v2)]) : W p l e (jRm 3 0 0) s m args below meth c H locs 0 0 (MQ below (jQi g rr SS) args s 0 0 (jA0 g)) (F0 m 0 ls []) := by
  obtain ⟨hx, hb, hml, -, hts, hown, hK, -, hstr⟩ := id E
  unfold f_X12_desk at hf
  refine lv_iload_n hx hb dX12_desk_0 rfl (lv_at hl 1 rfl) ?_
  refine lv_i2l hx hb dX12_desk_1 rfl ?_
  refine lv_lconst (v := (0 : Int64)) hx hb dX12_desk_2 (by decide) ?_
  refine lv_ldc2 (v := (7 : Int64)) hx hb hown (hts _ lk_7_57) dX12_desk_3 ?_
  refine jbackI hM (jrunS E hM ci_X12_in (C_X12_in rfl) lk_7_36 hl.1 rfl rfl (Nat.le_of_ble_eq_true rfl) ⟨Nat.le_of_ble_eq_true rfl, Nat.le_of_ble_eq_true rfl⟩ ⟨Nat.le_refl _, Nat.le_refl _⟩ dX12_desk_6) (fun H locs hM => ?_)
  refine lv_if_eq (tgt := 33) hx hb dX12_desk_9 (by decide) (fun c5 => ?_) (fun c5 => ?_)
  · have hf := jt c5 hf
    refine lv_bipush (v := (-3 : Int32)) hx hb dX12_desk_33 (by decide) ?_
    exact jireti (jr2 hf) E hM dX12_desk_35
  · have hf := jf c5 hf
    refine lv_iload_n hx hb dX12_desk_12 rfl (lv_at hl 2 rfl) ?_
    refine lv_i2l hx hb dX12_desk_13 rfl ?_
    refine lv_lconst (v := (0 : Int64)) hx hb dX12_desk_14 (by decide) ?_
    refine lv_iload_n hx hb dX12_desk_15 rfl (lv_at hl 1 rfl) ?_
    refine lv_iconst (v := (2 : Int32)) hx hb dX12_desk_16 (by decide) ?_
    refine lv_icmp_ge (tgt := 24) hx hb dX12_desk_17 (by decide) (fun c6 => ?_) (fun c6 => ?_)
    · have hf := jt c6 hf
      refine lv_ldc2 (v := (12 : Int64)) hx hb hown (hts _ lk_7_58) dX12_desk_24 ?_
      exact B_X12_desk_27 E  hf hM (lv_sub hl [0, 1, 2] rfl)
    · have hf := jf c6 hf
      refine lv_lconst (v := (0 : Int64)) hx hb dX12_desk_20 (by decide) ?_
      refine lv_goto (tgt := 27) hx hb dX12_desk_21 (by decide) ?_
      exact B_X12_desk_27 E  hf hM (lv_sub hl [0, 1, 2] rfl)
set_option maxRecDepth 100000 in
theorem C_X12_desk {l : Launch} {g : jG} {a0 : Nat} {a1 : Int32} {a2 : Int32} {S : jM} {rr : Int32} {SS : jM} (hf : f_X12_desk a0 a1 a2 S = some (rr, SS)) : jMet l g yX12_desk cX12_desk 3 (some .int) 3 0 0 [.ref (g.2.2 + a0), .int a1, .int a2] S (jQi g rr SS) := by
  refine jof (by decide +kernel) (Nat.le_of_ble_eq_true rfl) ?_
  intro p e s m below meth c E hM ls hl
  have hl : lv_has ls 3 [(0, .ref (g.2.2 + a0)),(1, .int a1),(2, .int a2)] := hl
  exact B_X12_desk_0 E hf hM hl
-- PensionHouseModel.due(III)I  mode M
noncomputable def f_X12_due (v0 : Nat) (v1 : Int32) (v2 : Int32) (v3 : Int32) (S : jM) : Option (Int32 × jM) := if jK v0 = 10 then if (f_X12_in (v1.toInt64) (0 : Int64) (((jI S 160 v0) - (1 : Int32)).toInt64)) = 0 then some ((-2 : Int32), S) else if (f_X12_in (v2.toInt64) (0 : Int64) (12 : Int64)) = 0 then some ((-3 : Int32), S) else if (f_X12_in (v3.toInt64) (0 : Int64) ((jI S 139 v0).toInt64)) = 0 then some ((-3 : Int32), S) else jbd (f_X12_dueOf v0 v1 v2 v3 S) (fun x5 S6 => if (jI S6 176 v0) = 0 then some (x5.toInt32, S6) else some ((-1 : Int32), S6)) else none
set_option maxRecDepth 100000 in
set_option maxHeartbeats 4000000 in
theorem B_X12_due_0 {p : Program} {l : Launch} {e : Env} {s : State} {m : MethodId} {args : Array Value} {below : List Frame} {meth : Method} {c : Code} {g : jG} {rr : Int32} {SS : jM} {v0 : Nat} {v1 : Int32} {v2 : Int32} {v3 : Int32} {S : jM} (E : jEnv p s m args meth c cX12_due "PensionHouseModel" (some .int) 6 g)  {H : Heap} {locs : List Loc} {ls : Array Slot} (hf : f_X12_due v0 v1 v2 v3 S = some (rr, SS)) (hM : jAt g S s H locs) (hl : lv_has ls 6 [(0, .ref (g.2.2 + v0)), (1, .int v1), (2, .int v2), (3, .int v3)]) : W p l e (jRm 1021 0 0) s m args below meth c H locs 0 0 (MQ below (jQi g rr SS) args s 0 0 (jA0 g)) (F0 m 0 ls []) := by
  obtain ⟨hx, hb, hml, -, hts, hown, hK, -, hstr⟩ := id E
  unfold f_X12_due at hf
  refine lv_iload_n hx hb dX12_due_0 rfl (lv_at hl 1 rfl) ?_
  refine lv_i2l hx hb dX12_due_1 rfl ?_
  refine lv_lconst (v := (0 : Int64)) hx hb dX12_due_2 (by decide) ?_
  refine lv_aload_n hx hb dX12_due_3 rfl (lv_at hl 0 rfl) ?_
  obtain ⟨hq1, hf⟩ := jif hf
  refine gt_160 E hM hq1 lk_6_74 dX12_due_4 ?_
  refine lv_iconst (v := (1 : Int32)) hx hb dX12_due_7 (by decide) ?_
  refine lv_isub hx hb dX12_due_8 ?_
  refine lv_i2l hx hb dX12_due_9 rfl ?_
  refine jbackI hM (jrunS E hM ci_X12_in (C_X12_in rfl) lk_7_36 hl.1 rfl rfl (Nat.le_of_ble_eq_true rfl) ⟨Nat.le_of_ble_eq_true rfl, Nat.le_of_ble_eq_true rfl⟩ ⟨Nat.le_refl _, Nat.le_refl _⟩ dX12_due_10) (fun H locs hM => ?_)
  refine lv_if_ne (tgt := 19) hx hb dX12_due_13 (by decide) (fun c2 => ?_) (fun c2 => ?_)
  · have hf := jf c2 hf
    refine lv_iload_n hx hb dX12_due_19 rfl (lv_at hl 2 rfl) ?_
    refine lv_i2l hx hb dX12_due_20 rfl ?_
    refine lv_lconst (v := (0 : Int64)) hx hb dX12_due_21 (by decide) ?_
    refine lv_ldc2 (v := (12 : Int64)) hx hb hown (hts _ lk_7_58) dX12_due_22 ?_
    refine jbackI hM (jrunS E hM ci_X12_in (C_X12_in rfl) lk_7_36 hl.1 rfl rfl (Nat.le_of_ble_eq_true rfl) ⟨Nat.le_of_ble_eq_true rfl, Nat.le_of_ble_eq_true rfl⟩ ⟨Nat.le_refl _, Nat.le_refl _⟩ dX12_due_25) (fun H locs hM => ?_)
    refine lv_if_eq (tgt := 45) hx hb dX12_due_28 (by decide) (fun c3 => ?_) (fun c3 => ?_)
    · have hf := jt c3 hf
      refine lv_bipush (v := (-3 : Int32)) hx hb dX12_due_45 (by decide) ?_
      exact jireti (jr2 hf) E hM dX12_due_47
    · have hf := jf c3 hf
      refine lv_iload_n hx hb dX12_due_31 rfl (lv_at hl 3 rfl) ?_
      refine lv_i2l hx hb dX12_due_32 rfl ?_
      refine lv_lconst (v := (0 : Int64)) hx hb dX12_due_33 (by decide) ?_
      refine lv_aload_n hx hb dX12_due_34 rfl (lv_at hl 0 rfl) ?_
      refine gt_139 E hM hq1 lk_6_53 dX12_due_35 ?_
      refine lv_i2l hx hb dX12_due_38 rfl ?_
      refine jbackI hM (jrunS E hM ci_X12_in (C_X12_in rfl) lk_7_36 hl.1 rfl rfl (Nat.le_of_ble_eq_true rfl) ⟨Nat.le_of_ble_eq_true rfl, Nat.le_of_ble_eq_true rfl⟩ ⟨Nat.le_refl _, Nat.le_refl _⟩ dX12_due_39) (fun H locs hM => ?_)
      refine lv_if_ne (tgt := 48) hx hb dX12_due_42 (by decide) (fun c4 => ?_) (fun c4 => ?_)
      · have hf := jf c4 hf
        refine lv_aload_n hx hb dX12_due_48 rfl (lv_at hl 0 rfl) ?_
        refine lv_iload_n hx hb dX12_due_49 rfl (lv_at hl 1 rfl) ?_
        refine lv_iload_n hx hb dX12_due_50 rfl (lv_at hl 2 rfl) ?_
        refine lv_iload_n hx hb dX12_due_51 rfl (lv_at hl 3 rfl) ?_
        obtain ⟨x5, S6, hc7, hf⟩ := jbd_e hf
        refine jbackL hM (jrunV E hM ci_X12_dueOf (C_X12_dueOf hc7) lk_9_7 hq1 (by decide) rfl hl.1 rfl rfl (Nat.le_of_ble_eq_true rfl) ⟨Nat.le_of_ble_eq_true rfl, Nat.le_of_ble_eq_true rfl⟩ ⟨Nat.le_refl _, Nat.le_refl _⟩ dX12_due_52) (fun H locs hM => ?_)
        refine lv_lstore (lv' := [(4, .long x5), (0, .ref (g.2.2 + v0)), (1, .int v1), (2, .int v2), (3, .int v3)]) hx hb dX12_due_55 hl (by decide) rfl (fun ls hl => ?_)
        refine lv_aload_n hx hb dX12_due_57 rfl (lv_at hl 1 rfl) ?_
        refine gt_176 E hM hq1 lk_6_90 dX12_due_58 ?_
        refine lv_if_eq (tgt := 68) hx hb dX12_due_61 (by decide) (fun c8 => ?_) (fun c8 => ?_)
        · have hf := jt c8 hf
          refine lv_lload hx hb dX12_due_68 (lv_at hl 0 rfl) ?_
          refine lv_l2i hx hb dX12_due_70 rfl ?_
          exact jireti (jr2 hf) E hM dX12_due_71
        · have hf := jf c8 hf
          refine lv_iconst (v := (-1 : Int32)) hx hb dX12_due_64 (by decide) ?_
          refine lv_goto (tgt := 71) hx hb dX12_due_65 (by decide) ?_
          exact jireti (jr2 hf) E hM dX12_due_71
      · have hf := jt c4 hf
        refine lv_bipush (v := (-3 : Int32)) hx hb dX12_due_45 (by decide) ?_
        exact jireti (jr2 hf) E hM dX12_due_47
  · have hf := jt c2 hf
    refine lv_bipush (v := (-2 : Int32)) hx hb dX12_due_16 (by decide) ?_
    exact jireti (jr2 hf) E hM dX12_due_18
set_option maxRecDepth 100000 in
theorem C_X12_due {l : Launch} {g : jG} {a0 : Nat} {a1 : Int32} {a2 : Int32} {a3 : Int32} {S : jM} {rr : Int32} {SS : jM} (hf : f_X12_due a0 a1 a2 a3 S = some (rr, SS)) : jMet l g yX12_due cX12_due 6 (some .int) 1021 0 0 [.ref (g.2.2 + a0), .int a1, .int a2, .int a3] S (jQi g rr SS) := by
  refine jof (by decide +kernel) (Nat.le_of_ble_eq_true rfl) ?_
  intro p e s m below meth c E hM ls hl
  have hl : lv_has ls 6 [(0, .ref (g.2.2 + a0)),(1, .int a1),(2, .int a2),(3, .int a3)] := hl
  exact B_X12_due_0 E hf hM hl
-- PensionHouseModel.isLetter(I)Z  mode T
noncomputable def f_X12_isLetter (v0 : Int32) : Int32 := if v0 < (97 : Int32) then (0 : Int32) else if (122 : Int32) < v0 then (0 : Int32) else (1 : Int32)
set_option maxRecDepth 100000 in
set_option maxHeartbeats 4000000 in
theorem B_X12_isLetter_0 {p : Program} {l : Launch} {e : Env} {s : State} {m : MethodId} {args : Array Value} {below : List Frame} {meth : Method} {c : Code} {g : jG} {rr : Int32} {S : jM} {v0 : Int32} (E : jEnv p s m args meth c cX12_isLetter "PensionHouseModel" (some .boolean) 1 g)  {H : Heap} {locs : List Loc} {ls : Array Slot} (hf : f_X12_isLetter v0 = rr) (hM : jAt g S s H locs) (hl : lv_has ls 1 [(0, .int v0)]) : W p l e (jRm 1 0 0) s m args below meth c H locs 0 0 (MQ below (jQi g rr S) args s 0 0 (jA0 g)) (F0 m 0 ls []) := by
  obtain ⟨hx, hb, hml, -, hts, hown, hK, -, hstr⟩ := id E
  unfold f_X12_isLetter at hf
  refine lv_iload_n hx hb dX12_isLetter_0 rfl (lv_at hl 0 rfl) ?_
  refine lv_bipush (v := (97 : Int32)) hx hb dX12_isLetter_1 (by decide) ?_
  refine lv_icmp_lt (tgt := 16) hx hb dX12_isLetter_3 (by decide) (fun c1 => ?_) (fun c1 => ?_)
  · have hf := jt c1 hf
    refine lv_iconst (v := (0 : Int32)) hx hb dX12_isLetter_16 (by decide) ?_
    exact jiretz (jr0 hf) E hM (by decide) dX12_isLetter_17
  · have hf := jf c1 hf
    refine lv_iload_n hx hb dX12_isLetter_6 rfl (lv_at hl 0 rfl) ?_
    refine lv_bipush (v := (122 : Int32)) hx hb dX12_isLetter_7 (by decide) ?_
    refine lv_icmp_gt (tgt := 16) hx hb dX12_isLetter_9 (by decide) (fun c2 => ?_) (fun c2 => ?_)
    · have hf := jt c2 hf
      refine lv_iconst (v := (0 : Int32)) hx hb dX12_isLetter_16 (by decide) ?_
      exact jiretz (jr0 hf) E hM (by decide) dX12_isLetter_17
    · have hf := jf c2 hf
      refine lv_iconst (v := (1 : Int32)) hx hb dX12_isLetter_12 (by decide) ?_
      refine lv_goto (tgt := 17) hx hb dX12_isLetter_13 (by decide) ?_
      exact jiretz (jr0 hf) E hM (by decide) dX12_isLetter_17
set_option maxRecDepth 100000 in
theorem C_X12_isLetter {l : Launch} {g : jG} {a0 : Int32} {S : jM} {rr : Int32} (hf : f_X12_isLetter a0 = rr) : jMet l g yX12_isLetter cX12_isLetter 1 (some .boolean) 1 0 0 [.int a0] S (jQi g rr S) := by
  refine jof (by decide +kernel) (Nat.le_of_ble_eq_true rfl) ?_
  intro p e s m below meth c E hM ls hl
  have hl : lv_has ls 1 [(0, .int a0)] := hl
  exact B_X12_isLetter_0 E hf hM hl
-- PensionHouseModel.isFigure(I)Z  mode T
noncomputable def f_X12_isFigure (v0 : Int32) : Int32 := if v0 < (48 : Int32) then (0 : Int32) else if (57 : Int32) < v0 then (0 : Int32) else (1 : Int32)
set_option maxRecDepth 100000 in
set_option maxHeartbeats 4000000 in
theorem B_X12_isFigure_0 {p : Program} {l : Launch} {e : Env} {s : State} {m : MethodId} {args : Array Value} {below : List Frame} {meth : Method} {c : Code} {g : jG} {rr : Int32} {S : jM} {v0 : Int32} (E : jEnv p s m args meth c cX12_isFigure "PensionHouseModel" (some .boolean) 1 g)  {H : Heap} {locs : List Loc} {ls : Array Slot} (hf : f_X12_isFigure v0 = rr) (hM : jAt g S s H locs) (hl : lv_has ls 1 [(0, .int v0)]) : W p l e (jRm 1 0 0) s m args below meth c H locs 0 0 (MQ below (jQi g rr S) args s 0 0 (jA0 g)) (F0 m 0 ls []) := by
  obtain ⟨hx, hb, hml, -, hts, hown, hK, -, hstr⟩ := id E
  unfold f_X12_isFigure at hf
  refine lv_iload_n hx hb dX12_isFigure_0 rfl (lv_at hl 0 rfl) ?_
  refine lv_bipush (v := (48 : Int32)) hx hb dX12_isFigure_1 (by decide) ?_
  refine lv_icmp_lt (tgt := 16) hx hb dX12_isFigure_3 (by decide) (fun c1 => ?_) (fun c1 => ?_)
  · have hf := jt c1 hf
    refine lv_iconst (v := (0 : Int32)) hx hb dX12_isFigure_16 (by decide) ?_
    exact jiretz (jr0 hf) E hM (by decide) dX12_isFigure_17
  · have hf := jf c1 hf
    refine lv_iload_n hx hb dX12_isFigure_6 rfl (lv_at hl 0 rfl) ?_
    refine lv_bipush (v := (57 : Int32)) hx hb dX12_isFigure_7 (by decide) ?_
    refine lv_icmp_gt (tgt := 16) hx hb dX12_isFigure_9 (by decide) (fun c2 => ?_) (fun c2 => ?_)
    · have hf := jt c2 hf
      refine lv_iconst (v := (0 : Int32)) hx hb dX12_isFigure_16 (by decide) ?_
      exact jiretz (jr0 hf) E hM (by decide) dX12_isFigure_17
    · have hf := jf c2 hf
      refine lv_iconst (v := (1 : Int32)) hx hb dX12_isFigure_12 (by decide) ?_
      refine lv_goto (tgt := 17) hx hb dX12_isFigure_13 (by decide) ?_
      exact jiretz (jr0 hf) E hM (by decide) dX12_isFigure_17
set_option maxRecDepth 100000 in
theorem C_X12_isFigure {l : Launch} {g : jG} {a0 : Int32} {S : jM} {rr : Int32} (hf : f_X12_isFigure a0 = rr) : jMet l g yX12_isFigure cX12_isFigure 1 (some .boolean) 1 0 0 [.int a0] S (jQi g rr S) := by
  refine jof (by decide +kernel) (Nat.le_of_ble_eq_true rfl) ?_
  intro p e s m below meth c E hM ls hl
  have hl : lv_has ls 1 [(0, .int a0)] := hl
  exact B_X12_isFigure_0 E hf hM hl
-- PensionHouseModel.word(J)I  mode T
noncomputable def f_X12_word (v0 : Int64) : Int32 := if v0 = (1650815860 : Int64) then (1 : Int32) else if v0 = (1651470958 : Int64) then (2 : Int32) else if v0 = (1667590508 : Int64) then (3 : Int32) else if v0 = (6578553 : Int64) then (4 : Int32) else if v0 = (1701606245 : Int64) then (5 : Int32) else if v0 = (439905906546 : Int64) then (6 : Int32) else if v0 = (1718775661 : Int64) then (7 : Int32) else if v0 = (26982 : Int64) then (8 : Int32) else if v0 = (1785686382 : Int64) then (9 : Int32) else if v0 = (1818325876 : Int64) then (10 : Int32) else if v0 = (7103854 : Int64) then (11 : Int32) else if v0 = (7168376 : Int64) then (12 : Int32) else if v0 = (7170414 : Int64) then (13 : Int32) else if v0 = (1852137842 : Int64) then (14 : Int32) else if v0 = (28518 : Int64) then (15 : Int32) else if v0 = (1919246700 : Int64) then (16 : Int32) else if v0 = (1919905652 : Int64) then (17 : Int32) else if v0 = (1920298085 : Int64) then (18 : Int32) else if v0 = (7566701 : Int64) then (19 : Int32) else if v0 = (1952998766 : Int64) then (20 : Int32) else if v0 = (29807 : Int64) then (21 : Int32) else if v0 = (7631481 : Int64) then (22 : Int32) else if v0 = (512853240933 : Int64) then (23 : Int32) else if v0 = (2003399784 : Int64) then (24 : Int32) else if v0 = (525688008563 : Int64) then (25 : Int32) else (40 : Int32)
set_option maxRecDepth 100000 in
set_option maxHeartbeats 4000000 in
theorem B_X12_word_0 {p : Program} {l : Launch} {e : Env} {s : State} {m : MethodId} {args : Array Value} {below : List Frame} {meth : Method} {c : Code} {g : jG} {rr : Int32} {S : jM} {v0 : Int64} (E : jEnv p s m args meth c cX12_word "PensionHouseModel" (some .int) 2 g)  {H : Heap} {locs : List Loc} {ls : Array Slot} (hf : f_X12_word v0 = rr) (hM : jAt g S s H locs) (hl : lv_has ls 2 [(0, .long v0)]) : W p l e (jRm 1 0 0) s m args below meth c H locs 0 0 (MQ below (jQi g rr S) args s 0 0 (jA0 g)) (F0 m 0 ls []) := by
  obtain ⟨hx, hb, hml, -, hts, hown, hK, -, hstr⟩ := id E
  unfold f_X12_word at hf
  refine lv_lload_n hx hb dX12_word_0 rfl (lv_at hl 0 rfl) ?_
  refine lv_ldc2 (v := (1650815860 : Int64)) hx hb hown (hts _ lk_7_145) dX12_word_1 ?_
  refine jl_ne (tgt := 10) hx hb dX12_word_4 dX12_word_5 (by decide) (fun c1 => ?_) (fun c1 => ?_)
  · have hf := jf c1 hf
    refine lv_lload_n hx hb dX12_word_10 rfl (lv_at hl 0 rfl) ?_
    refine lv_ldc2 (v := (1651470958 : Int64)) hx hb hown (hts _ lk_7_146) dX12_word_11 ?_
    refine jl_ne (tgt := 20) hx hb dX12_word_14 dX12_word_15 (by decide) (fun c2 => ?_) (fun c2 => ?_)
    · have hf := jf c2 hf
      refine lv_lload_n hx hb dX12_word_20 rfl (lv_at hl 0 rfl) ?_
      refine lv_ldc2 (v := (1667590508 : Int64)) hx hb hown (hts _ lk_7_147) dX12_word_21 ?_
      refine jl_ne (tgt := 30) hx hb dX12_word_24 dX12_word_25 (by decide) (fun c3 => ?_) (fun c3 => ?_)
      · have hf := jf c3 hf
        refine lv_lload_n hx hb dX12_word_30 rfl (lv_at hl 0 rfl) ?_
        refine lv_ldc2 (v := (6578553 : Int64)) hx hb hown (hts _ lk_7_148) dX12_word_31 ?_
        refine jl_ne (tgt := 40) hx hb dX12_word_34 dX12_word_35 (by decide) (fun c4 => ?_) (fun c4 => ?_)
        · have hf := jf c4 hf
          refine lv_lload_n hx hb dX12_word_40 rfl (lv_at hl 0 rfl) ?_
          refine lv_ldc2 (v := (1701606245 : Int64)) hx hb hown (hts _ lk_7_149) dX12_word_41 ?_
          refine jl_ne (tgt := 50) hx hb dX12_word_44 dX12_word_45 (by decide) (fun c5 => ?_) (fun c5 => ?_)
          · have hf := jf c5 hf
            refine lv_lload_n hx hb dX12_word_50 rfl (lv_at hl 0 rfl) ?_
            refine lv_ldc2 (v := (439905906546 : Int64)) hx hb hown (hts _ lk_7_150) dX12_word_51 ?_
            refine jl_ne (tgt := 61) hx hb dX12_word_54 dX12_word_55 (by decide) (fun c6 => ?_) (fun c6 => ?_)
            · have hf := jf c6 hf
              refine lv_lload_n hx hb dX12_word_61 rfl (lv_at hl 0 rfl) ?_
              refine lv_ldc2 (v := (1718775661 : Int64)) hx hb hown (hts _ lk_7_151) dX12_word_62 ?_
              refine jl_ne (tgt := 72) hx hb dX12_word_65 dX12_word_66 (by decide) (fun c7 => ?_) (fun c7 => ?_)
              · have hf := jf c7 hf
                refine lv_lload_n hx hb dX12_word_72 rfl (lv_at hl 0 rfl) ?_
                refine lv_ldc2 (v := (26982 : Int64)) hx hb hown (hts _ lk_7_152) dX12_word_73 ?_
                refine jl_ne (tgt := 83) hx hb dX12_word_76 dX12_word_77 (by decide) (fun c8 => ?_) (fun c8 => ?_)
                · have hf := jf c8 hf
                  refine lv_lload_n hx hb dX12_word_83 rfl (lv_at hl 0 rfl) ?_
                  refine lv_ldc2 (v := (1785686382 : Int64)) hx hb hown (hts _ lk_7_153) dX12_word_84 ?_
                  refine jl_ne (tgt := 94) hx hb dX12_word_87 dX12_word_88 (by decide) (fun c9 => ?_) (fun c9 => ?_)
                  · have hf := jf c9 hf
                    refine lv_lload_n hx hb dX12_word_94 rfl (lv_at hl 0 rfl) ?_
                    refine lv_ldc2 (v := (1818325876 : Int64)) hx hb hown (hts _ lk_7_154) dX12_word_95 ?_
                    refine jl_ne (tgt := 105) hx hb dX12_word_98 dX12_word_99 (by decide) (fun c10 => ?_) (fun c10 => ?_)
                    · have hf := jf c10 hf
                      refine lv_lload_n hx hb dX12_word_105 rfl (lv_at hl 0 rfl) ?_
                      refine lv_ldc2 (v := (7103854 : Int64)) hx hb hown (hts _ lk_7_155) dX12_word_106 ?_
                      refine jl_ne (tgt := 116) hx hb dX12_word_109 dX12_word_110 (by decide) (fun c11 => ?_) (fun c11 => ?_)
                      · have hf := jf c11 hf
                        refine lv_lload_n hx hb dX12_word_116 rfl (lv_at hl 0 rfl) ?_
                        refine lv_ldc2 (v := (7168376 : Int64)) hx hb hown (hts _ lk_7_156) dX12_word_117 ?_
                        refine jl_ne (tgt := 127) hx hb dX12_word_120 dX12_word_121 (by decide) (fun c12 => ?_) (fun c12 => ?_)
                        · have hf := jf c12 hf
                          refine lv_lload_n hx hb dX12_word_127 rfl (lv_at hl 0 rfl) ?_
                          refine lv_ldc2 (v := (7170414 : Int64)) hx hb hown (hts _ lk_7_157) dX12_word_128 ?_
                          refine jl_ne (tgt := 138) hx hb dX12_word_131 dX12_word_132 (by decide) (fun c13 => ?_) (fun c13 => ?_)
                          · have hf := jf c13 hf
                            refine lv_lload_n hx hb dX12_word_138 rfl (lv_at hl 0 rfl) ?_
                            refine lv_ldc2 (v := (1852137842 : Int64)) hx hb hown (hts _ lk_7_158) dX12_word_139 ?_
                            refine jl_ne (tgt := 149) hx hb dX12_word_142 dX12_word_143 (by decide) (fun c14 => ?_) (fun c14 => ?_)
                            · have hf := jf c14 hf
                              refine lv_lload_n hx hb dX12_word_149 rfl (lv_at hl 0 rfl) ?_
                              refine lv_ldc2 (v := (28518 : Int64)) hx hb hown (hts _ lk_7_159) dX12_word_150 ?_
                              refine jl_ne (tgt := 160) hx hb dX12_word_153 dX12_word_154 (by decide) (fun c15 => ?_) (fun c15 => ?_)
                              · have hf := jf c15 hf
                                refine lv_lload_n hx hb dX12_word_160 rfl (lv_at hl 0 rfl) ?_
                                refine lv_ldc2 (v := (1919246700 : Int64)) hx hb hown (hts _ lk_7_160) dX12_word_161 ?_
                                refine jl_ne (tgt := 171) hx hb dX12_word_164 dX12_word_165 (by decide) (fun c16 => ?_) (fun c16 => ?_)
                                · have hf := jf c16 hf
                                  refine lv_lload_n hx hb dX12_word_171 rfl (lv_at hl 0 rfl) ?_
                                  refine lv_ldc2 (v := (1919905652 : Int64)) hx hb hown (hts _ lk_7_161) dX12_word_172 ?_
                                  refine jl_ne (tgt := 182) hx hb dX12_word_175 dX12_word_176 (by decide) (fun c17 => ?_) (fun c17 => ?_)
                                  · have hf := jf c17 hf
                                    refine lv_lload_n hx hb dX12_word_182 rfl (lv_at hl 0 rfl) ?_
                                    refine lv_ldc2 (v := (1920298085 : Int64)) hx hb hown (hts _ lk_7_162) dX12_word_183 ?_
                                    refine jl_ne (tgt := 193) hx hb dX12_word_186 dX12_word_187 (by decide) (fun c18 => ?_) (fun c18 => ?_)
                                    · have hf := jf c18 hf
                                      refine lv_lload_n hx hb dX12_word_193 rfl (lv_at hl 0 rfl) ?_
                                      refine lv_ldc2 (v := (7566701 : Int64)) hx hb hown (hts _ lk_7_163) dX12_word_194 ?_
                                      refine jl_ne (tgt := 204) hx hb dX12_word_197 dX12_word_198 (by decide) (fun c19 => ?_) (fun c19 => ?_)
                                      · have hf := jf c19 hf
                                        refine lv_lload_n hx hb dX12_word_204 rfl (lv_at hl 0 rfl) ?_
                                        refine lv_ldc2 (v := (1952998766 : Int64)) hx hb hown (hts _ lk_7_164) dX12_word_205 ?_
                                        refine jl_ne (tgt := 215) hx hb dX12_word_208 dX12_word_209 (by decide) (fun c20 => ?_) (fun c20 => ?_)
                                        · have hf := jf c20 hf
                                          refine lv_lload_n hx hb dX12_word_215 rfl (lv_at hl 0 rfl) ?_
                                          refine lv_ldc2 (v := (29807 : Int64)) hx hb hown (hts _ lk_7_165) dX12_word_216 ?_
                                          refine jl_ne (tgt := 226) hx hb dX12_word_219 dX12_word_220 (by decide) (fun c21 => ?_) (fun c21 => ?_)
                                          · have hf := jf c21 hf
                                            refine lv_lload_n hx hb dX12_word_226 rfl (lv_at hl 0 rfl) ?_
                                            refine lv_ldc2 (v := (7631481 : Int64)) hx hb hown (hts _ lk_7_166) dX12_word_227 ?_
                                            refine jl_ne (tgt := 237) hx hb dX12_word_230 dX12_word_231 (by decide) (fun c22 => ?_) (fun c22 => ?_)
                                            · have hf := jf c22 hf
                                              refine lv_lload_n hx hb dX12_word_237 rfl (lv_at hl 0 rfl) ?_
                                              refine lv_ldc2 (v := (512853240933 : Int64)) hx hb hown (hts _ lk_7_167) dX12_word_238 ?_
                                              refine jl_ne (tgt := 248) hx hb dX12_word_241 dX12_word_242 (by decide) (fun c23 => ?_) (fun c23 => ?_)
                                              · have hf := jf c23 hf
                                                refine lv_lload_n hx hb dX12_word_248 rfl (lv_at hl 0 rfl) ?_
                                                refine lv_ldc2 (v := (2003399784 : Int64)) hx hb hown (hts _ lk_7_168) dX12_word_249 ?_
                                                refine jl_ne (tgt := 259) hx hb dX12_word_252 dX12_word_253 (by decide) (fun c24 => ?_) (fun c24 => ?_)
                                                · have hf := jf c24 hf
                                                  refine lv_lload_n hx hb dX12_word_259 rfl (lv_at hl 0 rfl) ?_
                                                  refine lv_ldc2 (v := (525688008563 : Int64)) hx hb hown (hts _ lk_7_169) dX12_word_260 ?_
                                                  refine jl_ne (tgt := 270) hx hb dX12_word_263 dX12_word_264 (by decide) (fun c25 => ?_) (fun c25 => ?_)
                                                  · have hf := jf c25 hf
                                                    refine lv_bipush (v := (40 : Int32)) hx hb dX12_word_270 (by decide) ?_
                                                    exact jireti (jr0 hf) E hM dX12_word_272
                                                  · have hf := jt c25 hf
                                                    refine lv_bipush (v := (25 : Int32)) hx hb dX12_word_267 (by decide) ?_
                                                    exact jireti (jr0 hf) E hM dX12_word_269
                                                · have hf := jt c24 hf
                                                  refine lv_bipush (v := (24 : Int32)) hx hb dX12_word_256 (by decide) ?_
                                                  exact jireti (jr0 hf) E hM dX12_word_258
                                              · have hf := jt c23 hf
                                                refine lv_bipush (v := (23 : Int32)) hx hb dX12_word_245 (by decide) ?_
                                                exact jireti (jr0 hf) E hM dX12_word_247
                                            · have hf := jt c22 hf
                                              refine lv_bipush (v := (22 : Int32)) hx hb dX12_word_234 (by decide) ?_
                                              exact jireti (jr0 hf) E hM dX12_word_236
                                          · have hf := jt c21 hf
                                            refine lv_bipush (v := (21 : Int32)) hx hb dX12_word_223 (by decide) ?_
                                            exact jireti (jr0 hf) E hM dX12_word_225
                                        · have hf := jt c20 hf
                                          refine lv_bipush (v := (20 : Int32)) hx hb dX12_word_212 (by decide) ?_
                                          exact jireti (jr0 hf) E hM dX12_word_214
                                      · have hf := jt c19 hf
                                        refine lv_bipush (v := (19 : Int32)) hx hb dX12_word_201 (by decide) ?_
                                        exact jireti (jr0 hf) E hM dX12_word_203
                                    · have hf := jt c18 hf
                                      refine lv_bipush (v := (18 : Int32)) hx hb dX12_word_190 (by decide) ?_
                                      exact jireti (jr0 hf) E hM dX12_word_192
                                  · have hf := jt c17 hf
                                    refine lv_bipush (v := (17 : Int32)) hx hb dX12_word_179 (by decide) ?_
                                    exact jireti (jr0 hf) E hM dX12_word_181
                                · have hf := jt c16 hf
                                  refine lv_bipush (v := (16 : Int32)) hx hb dX12_word_168 (by decide) ?_
                                  exact jireti (jr0 hf) E hM dX12_word_170
                              · have hf := jt c15 hf
                                refine lv_bipush (v := (15 : Int32)) hx hb dX12_word_157 (by decide) ?_
                                exact jireti (jr0 hf) E hM dX12_word_159
                            · have hf := jt c14 hf
                              refine lv_bipush (v := (14 : Int32)) hx hb dX12_word_146 (by decide) ?_
                              exact jireti (jr0 hf) E hM dX12_word_148
                          · have hf := jt c13 hf
                            refine lv_bipush (v := (13 : Int32)) hx hb dX12_word_135 (by decide) ?_
                            exact jireti (jr0 hf) E hM dX12_word_137
                        · have hf := jt c12 hf
                          refine lv_bipush (v := (12 : Int32)) hx hb dX12_word_124 (by decide) ?_
                          exact jireti (jr0 hf) E hM dX12_word_126
                      · have hf := jt c11 hf
                        refine lv_bipush (v := (11 : Int32)) hx hb dX12_word_113 (by decide) ?_
                        exact jireti (jr0 hf) E hM dX12_word_115
                    · have hf := jt c10 hf
                      refine lv_bipush (v := (10 : Int32)) hx hb dX12_word_102 (by decide) ?_
                      exact jireti (jr0 hf) E hM dX12_word_104
                  · have hf := jt c9 hf
                    refine lv_bipush (v := (9 : Int32)) hx hb dX12_word_91 (by decide) ?_
                    exact jireti (jr0 hf) E hM dX12_word_93
                · have hf := jt c8 hf
                  refine lv_bipush (v := (8 : Int32)) hx hb dX12_word_80 (by decide) ?_
                  exact jireti (jr0 hf) E hM dX12_word_82
              · have hf := jt c7 hf
                refine lv_bipush (v := (7 : Int32)) hx hb dX12_word_69 (by decide) ?_
                exact jireti (jr0 hf) E hM dX12_word_71
            · have hf := jt c6 hf
              refine lv_bipush (v := (6 : Int32)) hx hb dX12_word_58 (by decide) ?_
              exact jireti (jr0 hf) E hM dX12_word_60
          · have hf := jt c5 hf
            refine lv_iconst (v := (5 : Int32)) hx hb dX12_word_48 (by decide) ?_
            exact jireti (jr0 hf) E hM dX12_word_49
        · have hf := jt c4 hf
          refine lv_iconst (v := (4 : Int32)) hx hb dX12_word_38 (by decide) ?_
          exact jireti (jr0 hf) E hM dX12_word_39
      · have hf := jt c3 hf
        refine lv_iconst (v := (3 : Int32)) hx hb dX12_word_28 (by decide) ?_
        exact jireti (jr0 hf) E hM dX12_word_29
    · have hf := jt c2 hf
      refine lv_iconst (v := (2 : Int32)) hx hb dX12_word_18 (by decide) ?_
      exact jireti (jr0 hf) E hM dX12_word_19
  · have hf := jt c1 hf
    refine lv_iconst (v := (1 : Int32)) hx hb dX12_word_8 (by decide) ?_
    exact jireti (jr0 hf) E hM dX12_word_9
set_option maxRecDepth 100000 in
theorem C_X12_word {l : Launch} {g : jG} {a0 : Int64} {S : jM} {rr : Int32} (hf : f_X12_word a0 = rr) : jMet l g yX12_word cX12_word 2 (some .int) 1 0 0 [.long a0] S (jQi g rr S) := by
  refine jof (by decide +kernel) (Nat.le_of_ble_eq_true rfl) ?_
  intro p e s m below meth c E hM ls hl
  have hl : lv_has ls 2 [(0, .long a0)] := hl
  exact B_X12_word_0 E hf hM hl
-- PensionHouseModel.number(I)I  mode M
noncomputable def f_X12_number_209 (v0 : Nat) (v2 : Int32) (v3 : Int64) (S : jM) : Option (Int32 × jM) := if jK v0 = 10 then (jR S 97 v0).bind (fun r2 => if jA r2 14 (jI S 99 v0) = true then jlet (jrL S r2 (vp_updL (jAL S r2) (jI S 99 v0).toNatClampNeg v3)) (fun S5 => some (v2, S5)) else none) else none
noncomputable def f_X12_number_208 (v0 : Nat) (v2 : Int32) (v3 : Int64) (t0 : Nat) (t1 : Int32) (t2 : Int32) (S : jM) : Option (Int32 × jM) := if jA t0 13 t1 = true then jlet (jrI S t0 (upd (jAI S t0) (t1).toNatClampNeg t2)) (fun S7 => f_X12_number_209 v0 v2 v3 S7) else none
noncomputable def f_X12_number_201 (v0 : Nat) (v2 : Int32) (v3 : Int64) (t0 : Nat) (t1 : Int32) (S : jM) : Option (Int32 × jM) := f_X12_number_208 v0 v2 v3 t0 t1 (44 : Int32) S
noncomputable def f_X12_number_155 (k108 : Nat → Int32 → Int64 → Int32 → Int32 → jM → Option (Int32 × jM)) (v0 : Nat) (v2 : Int32) (v5 : Int32) (v6 : Int32) (t0 : Int64) (S : jM) : Option (Int32 × jM) := jlet (v2 + (1 : Int32)) (fun x8 => k108 v0 x8 t0 v5 v6 S)
noncomputable def f_X12_number_154 (k108 : Nat → Int32 → Int64 → Int32 → Int32 → jM → Option (Int32 × jM)) (v0 : Nat) (v2 : Int32) (v3 : Int64) (v5 : Int32) (v6 : Int32) (S : jM) : Option (Int32 × jM) := f_X12_number_155 k108 v0 v2 v5 v6 v3 S
noncomputable def f_X12_number_108 : Nat → Nat → Int32 → Int64 → Int32 → Int32 → jM → Option (Int32 × jM)
  | 0, _, _, _, _, _, _ => none
  | n + 1, v0, v2, v3, v5, v6, S => if jK v0 = 10 then (f_X12_byteAt v0 v2 S).bind (fun x9 => if (f_X12_isFigure x9) = 0 then (jR S 98 v0).bind (fun r13 => if jA r13 13 (jI S 99 v0) = true then jlet (jrI S r13 (upd (jAI S r13) (jI S 99 v0).toNatClampNeg ((v2 - v6) - (1 : Int32)))) (fun S16 => (jR S16 95 v0).bind (fun r17 => if (9 : Int32) < v5 then f_X12_number_201 v0 v2 v3 r17 (jI S16 99 v0) S16 else if (v2 - v6) ≤ (7 : Int32) then f_X12_number_208 v0 v2 v3 r17 (jI S16 99 v0) (42 : Int32) S16 else f_X12_number_201 v0 v2 v3 r17 (jI S16 99 v0) S16)) else none) else if (6 : Int32) < (v2 - v6) then f_X12_number_154 (f_X12_number_108 n) v0 v2 v3 v5 v6 S else if (10 : Int32) ≤ v5 then f_X12_number_154 (f_X12_number_108 n) v0 v2 v3 v5 v6 S else (f_X12_byteAt v0 v2 S).bind (fun x23 => f_X12_number_155 (f_X12_number_108 n) v0 v2 v5 v6 ((((10 : Int64) * v3) + (x23.toInt64)) - (48 : Int64)) S)) else none
noncomputable def f_X12_number_73 (v0 : Nat) (v1 : Int32) (v2 : Int32) (v3 : Int64) (t0 : Nat) (t1 : Int32) (t2 : Int32) (S : jM) : Option (Int32 × jM) := if jA t0 13 t1 = true then jlet (jrI S t0 (upd (jAI S t0) (t1).toNatClampNeg t2)) (fun S26 => if jK v0 = 10 then (f_X12_byteAt v0 v2 S26).bind (fun x27 => if x27 = (46 : Int32) then (f_X12_byteAt v0 (v2 + (1 : Int32)) S26).bind (fun x31 => if (f_X12_isFigure x31) = 0 then f_X12_number_209 v0 v2 v3 S26 else jlet (v2 - v1) (fun x34 => jlet (v2 + (1 : Int32)) (fun x35 => f_X12_number_108 1100000 v0 x35 v3 x34 v2 S26))) else f_X12_number_209 v0 v2 v3 S26) else none) else none
noncomputable def f_X12_number_43 (k4 : Nat → Int32 → Int32 → Int64 → jM → Option (Int32 × jM)) (v0 : Nat) (v1 : Int32) (v2 : Int32) (t0 : Int64) (S : jM) : Option (Int32 × jM) := jlet (v2 + (1 : Int32)) (fun x36 => k4 v0 v1 x36 t0 S)
noncomputable def f_X12_number_4 : Nat → Nat → Int32 → Int32 → Int64 → jM → Option (Int32 × jM)
  | 0, _, _, _, _, _ => none
  | n + 1, v0, v1, v2, v3, S => if jK v0 = 10 then (f_X12_byteAt v0 v2 S).bind (fun x37 => if (f_X12_isFigure x37) = 0 then (jR S 95 v0).bind (fun r41 => if (v2 - v1) ≤ (15 : Int32) then f_X12_number_73 v0 v1 v2 v3 r41 (jI S 99 v0) (41 : Int32) S else f_X12_number_73 v0 v1 v2 v3 r41 (jI S 99 v0) (44 : Int32) S) else if (15 : Int32) ≤ (v2 - v1) then f_X12_number_43 (f_X12_number_4 n) v0 v1 v2 v3 S else (f_X12_byteAt v0 v2 S).bind (fun x45 => f_X12_number_43 (f_X12_number_4 n) v0 v1 v2 ((((10 : Int64) * v3) + (x45.toInt64)) - (48 : Int64)) S)) else none
noncomputable def f_X12_number (v0 : Nat) (v1 : Int32) (S : jM) : Option (Int32 × jM) := f_X12_number_4 1100000 v0 v1 v1 (0 : Int64) S
set_option maxRecDepth 100000 in
set_option maxHeartbeats 4000000 in
theorem B_X12_number_209 {p : Program} {l : Launch} {e : Env} {s : State} {m : MethodId} {args : Array Value} {below : List Frame} {meth : Method} {c : Code} {g : jG} {rr : Int32} {SS : jM} {v0 : Nat} {v2 : Int32} {v3 : Int64} {S : jM} (E : jEnv p s m args meth c cX12_number "PensionHouseModel" (some .int) 7 g)  {H : Heap} {locs : List Loc} {ls : Array Slot} (hf : f_X12_number_209 v0 v2 v3 S = some (rr, SS)) (hM : jAt g S s H locs) (hl : lv_has ls 7 [(0, .ref (g.2.2 + v0)), (2, .int v2), (3, .long v3)]) : W p l e (jRm 2 0 0) s m args below meth c H locs 0 0 (MQ below (jQi g rr SS) args s 0 0 (jA0 g)) (F0 m 209 ls []) := by
  obtain ⟨hx, hb, hml, -, hts, hown, hK, -, hstr⟩ := id E
  unfold f_X12_number_209 at hf
  refine lv_aload_n hx hb dX12_number_209 rfl (lv_at hl 0 rfl) ?_
  obtain ⟨hq1, hf⟩ := jif hf
  refine gt_97 E hM hq1 lk_6_11 dX12_number_210 ?_
  obtain ⟨r2, hr3, hf⟩ := jb hf
  rw [hr3]
  show W p l e _ s m args below meth c H locs 0 0 _ (F0 m _ ls (.ref (g.2.2 + r2) :: _))
  refine lv_aload_n hx hb dX12_number_213 rfl (lv_at hl 0 rfl) ?_
  refine gt_99 E hM hq1 lk_6_13 dX12_number_214 ?_
  refine lv_lload_n hx hb dX12_number_217 rfl (lv_at hl 2 rfl) ?_
  obtain ⟨ha4, hf⟩ := jif hf
  refine jlast E hM ha4 dX12_number_218 (fun H locs S5 eS5 hM => ?_)
  have hf := jlet_y eS5 hf
  refine lv_iload_n hx hb dX12_number_219 rfl (lv_at hl 1 rfl) ?_
  exact jireti (jr2 hf) E hM dX12_number_220
set_option maxRecDepth 100000 in
set_option maxHeartbeats 4000000 in
theorem B_X12_number_208 {p : Program} {l : Launch} {e : Env} {s : State} {m : MethodId} {args : Array Value} {below : List Frame} {meth : Method} {c : Code} {g : jG} {rr : Int32} {SS : jM} {v0 : Nat} {v2 : Int32} {v3 : Int64} {t0 : Nat} {t1 : Int32} {t2 : Int32} {S : jM} (E : jEnv p s m args meth c cX12_number "PensionHouseModel" (some .int) 7 g)  {H : Heap} {locs : List Loc} {ls : Array Slot} (hf : f_X12_number_208 v0 v2 v3 t0 t1 t2 S = some (rr, SS)) (hM : jAt g S s H locs) (hl : lv_has ls 7 [(0, .ref (g.2.2 + v0)), (2, .int v2), (3, .long v3)]) : W p l e (jRm 2 0 0) s m args below meth c H locs 0 0 (MQ below (jQi g rr SS) args s 0 0 (jA0 g)) (F0 m 208 ls [.int t2, .int t1, .ref (g.2.2 + t0)]) := by
  obtain ⟨hx, hb, hml, -, hts, hown, hK, -, hstr⟩ := id E
  unfold f_X12_number_208 at hf
  obtain ⟨ha6, hf⟩ := jif hf
  refine jiast E hM ha6 dX12_number_208 (fun H locs S7 eS7 hM => ?_)
  have hf := jlet_y eS7 hf
  exact B_X12_number_209 E  hf hM (lv_sub hl [0, 1, 2] rfl)
set_option maxRecDepth 100000 in
set_option maxHeartbeats 4000000 in
theorem B_X12_number_201 {p : Program} {l : Launch} {e : Env} {s : State} {m : MethodId} {args : Array Value} {below : List Frame} {meth : Method} {c : Code} {g : jG} {rr : Int32} {SS : jM} {v0 : Nat} {v2 : Int32} {v3 : Int64} {t0 : Nat} {t1 : Int32} {S : jM} (E : jEnv p s m args meth c cX12_number "PensionHouseModel" (some .int) 7 g)  {H : Heap} {locs : List Loc} {ls : Array Slot} (hf : f_X12_number_201 v0 v2 v3 t0 t1 S = some (rr, SS)) (hM : jAt g S s H locs) (hl : lv_has ls 7 [(0, .ref (g.2.2 + v0)), (2, .int v2), (3, .long v3)]) : W p l e (jRm 2 0 0) s m args below meth c H locs 0 0 (MQ below (jQi g rr SS) args s 0 0 (jA0 g)) (F0 m 201 ls [.int t1, .ref (g.2.2 + t0)]) := by
  obtain ⟨hx, hb, hml, -, hts, hown, hK, -, hstr⟩ := id E
  unfold f_X12_number_201 at hf
  refine lv_bipush (v := (44 : Int32)) hx hb dX12_number_201 (by decide) ?_
  refine lv_goto (tgt := 208) hx hb dX12_number_203 (by decide) ?_
  exact B_X12_number_208 E  hf hM (lv_sub hl [0, 1, 2] rfl)
set_option maxRecDepth 100000 in
set_option maxHeartbeats 4000000 in
theorem B_X12_number_155 {p : Program} {l : Launch} {e : Env} {s : State} {m : MethodId} {args : Array Value} {below : List Frame} {meth : Method} {c : Code} {g : jG} {rr : Int32} {SS : jM} {v0 : Nat} {v2 : Int32} {v5 : Int32} {v6 : Int32} {t0 : Int64} {S : jM} {k108 : Nat → Int32 → Int64 → Int32 → Int32 → jM → Option (Int32 × jM)} (E : jEnv p s m args meth c cX12_number "PensionHouseModel" (some .int) 7 g) (hk108 : ∀ (v0 : Nat) (v2 : Int32) (v3 : Int64) (v5 : Int32) (v6 : Int32) (S : jM) (H : Heap) (locs : List Loc) (ls : Array Slot), k108 v0 v2 v3 v5 v6 S = some (rr, SS) → jAt g S s H locs → lv_has ls 7 [(0, .ref (g.2.2 + v0)), (2, .int v2), (3, .long v3), (5, .int v5), (6, .int v6)] → W p l e (jRm 2 0 0) s m args below meth c H locs 0 0 (MQ below (jQi g rr SS) args s 0 0 (jA0 g)) (F0 m 108 ls [])) {H : Heap} {locs : List Loc} {ls : Array Slot} (hf : f_X12_number_155 k108 v0 v2 v5 v6 t0 S = some (rr, SS)) (hM : jAt g S s H locs) (hl : lv_has ls 7 [(0, .ref (g.2.2 + v0)), (2, .int v2), (5, .int v5), (6, .int v6)]) : W p l e (jRm 2 0 0) s m args below meth c H locs 0 0 (MQ below (jQi g rr SS) args s 0 0 (jA0 g)) (F0 m 155 ls [.long t0]) := by
  obtain ⟨hx, hb, hml, -, hts, hown, hK, -, hstr⟩ := id E
  unfold f_X12_number_155 at hf
  refine lv_lstore_n (lv' := [(3, .long t0), (0, .ref (g.2.2 + v0)), (2, .int v2), (5, .int v5), (6, .int v6)]) hx hb dX12_number_155 rfl hl (by decide) rfl (fun ls hl => ?_)
  obtain ⟨x8, ex8⟩ : ∃ z, z = v2 + (1 : Int32) := ⟨_, rfl⟩
  have hf := jlet_y ex8 hf
  refine lv_iinc (v := x8) (lv' := [(2, .int x8), (3, .long t0), (0, .ref (g.2.2 + v0)), (5, .int v5), (6, .int v6)]) hx hb dX12_number_156 hl (k := 2) rfl (by rw [ex8]; rfl) (by decide) rfl (fun ls hl => ?_)
  refine lv_goto (tgt := 108) hx hb dX12_number_159 (by decide) ?_
  exact hk108 v0 x8 t0 v5 v6 S _ _ _ hf hM (lv_sub hl [2, 0, 1, 3, 4] rfl)
set_option maxRecDepth 100000 in
set_option maxHeartbeats 4000000 in
theorem B_X12_number_154 {p : Program} {l : Launch} {e : Env} {s : State} {m : MethodId} {args : Array Value} {below : List Frame} {meth : Method} {c : Code} {g : jG} {rr : Int32} {SS : jM} {v0 : Nat} {v2 : Int32} {v3 : Int64} {v5 : Int32} {v6 : Int32} {S : jM} {k108 : Nat → Int32 → Int64 → Int32 → Int32 → jM → Option (Int32 × jM)} (E : jEnv p s m args meth c cX12_number "PensionHouseModel" (some .int) 7 g) (hk108 : ∀ (v0 : Nat) (v2 : Int32) (v3 : Int64) (v5 : Int32) (v6 : Int32) (S : jM) (H : Heap) (locs : List Loc) (ls : Array Slot), k108 v0 v2 v3 v5 v6 S = some (rr, SS) → jAt g S s H locs → lv_has ls 7 [(0, .ref (g.2.2 + v0)), (2, .int v2), (3, .long v3), (5, .int v5), (6, .int v6)] → W p l e (jRm 2 0 0) s m args below meth c H locs 0 0 (MQ below (jQi g rr SS) args s 0 0 (jA0 g)) (F0 m 108 ls [])) {H : Heap} {locs : List Loc} {ls : Array Slot} (hf : f_X12_number_154 k108 v0 v2 v3 v5 v6 S = some (rr, SS)) (hM : jAt g S s H locs) (hl : lv_has ls 7 [(0, .ref (g.2.2 + v0)), (2, .int v2), (3, .long v3), (5, .int v5), (6, .int v6)]) : W p l e (jRm 2 0 0) s m args below meth c H locs 0 0 (MQ below (jQi g rr SS) args s 0 0 (jA0 g)) (F0 m 154 ls []) := by
  obtain ⟨hx, hb, hml, -, hts, hown, hK, -, hstr⟩ := id E
  unfold f_X12_number_154 at hf
  refine lv_lload_n hx hb dX12_number_154 rfl (lv_at hl 2 rfl) ?_
  exact B_X12_number_155 E hk108 hf hM (lv_sub hl [0, 1, 3, 4] rfl)
set_option maxRecDepth 100000 in
set_option maxHeartbeats 4000000 in
theorem B_X12_number_108 {p : Program} {l : Launch} {e : Env} {s : State} {m : MethodId} {args : Array Value} {below : List Frame} {meth : Method} {c : Code} {g : jG} {rr : Int32} {SS : jM} (E : jEnv p s m args meth c cX12_number "PensionHouseModel" (some .int) 7 g)  : ∀ (n : Nat) (v0 : Nat) (v2 : Int32) (v3 : Int64) (v5 : Int32) (v6 : Int32) (S : jM) (H : Heap) (locs : List Loc) (ls : Array Slot), f_X12_number_108 n v0 v2 v3 v5 v6 S = some (rr, SS) → jAt g S s H locs → lv_has ls 7 [(0, .ref (g.2.2 + v0)), (2, .int v2), (3, .long v3), (5, .int v5), (6, .int v6)] → W p l e (jRm 2 0 0) s m args below meth c H locs 0 0 (MQ below (jQi g rr SS) args s 0 0 (jA0 g)) (F0 m 108 ls []) := by
  obtain ⟨hx, hb, hml, -, hts, hown, hK, -, hstr⟩ := id E
  intro n
  induction n with
  | zero => intro v0 v2 v3 v5 v6 S H locs ls hf hM hl; rw [f_X12_number_108] at hf; cases hf
  | succ n ih =>
    intro v0 v2 v3 v5 v6 S H locs ls hf hM hl
    rw [f_X12_number_108] at hf
    refine lv_aload_n hx hb dX12_number_108 rfl (lv_at hl 0 rfl) ?_
    refine lv_iload_n hx hb dX12_number_109 rfl (lv_at hl 1 rfl) ?_
    obtain ⟨hq11, hf⟩ := jif hf
    obtain ⟨x9, hc10, hf⟩ := jb hf
    refine jbackI hM (jrunV E hM ci_X12_byteAt (C_X12_byteAt hc10) lk_7_135 hq11 (by decide) rfl hl.1 rfl rfl (Nat.le_of_ble_eq_true rfl) ⟨Nat.le_of_ble_eq_true rfl, Nat.le_of_ble_eq_true rfl⟩ ⟨Nat.le_refl _, Nat.le_refl _⟩ dX12_number_110) (fun H locs hM => ?_)
    refine jbackI hM (jrunS E hM ci_X12_isFigure (C_X12_isFigure rfl) lk_7_139 hl.1 rfl rfl (Nat.le_of_ble_eq_true rfl) ⟨Nat.le_of_ble_eq_true rfl, Nat.le_of_ble_eq_true rfl⟩ ⟨Nat.le_refl _, Nat.le_refl _⟩ dX12_number_113) (fun H locs hM => ?_)
    refine lv_if_eq (tgt := 162) hx hb dX12_number_116 (by decide) (fun c12 => ?_) (fun c12 => ?_)
    · have hf := jt c12 hf
      refine lv_aload_n hx hb dX12_number_162 rfl (lv_at hl 0 rfl) ?_
      refine gt_98 E hM hq11 lk_6_12 dX12_number_163 ?_
      obtain ⟨r13, hr14, hf⟩ := jb hf
      rw [hr14]
      show W p l e _ s m args below meth c H locs 0 0 _ (F0 m _ ls (.ref (g.2.2 + r13) :: _))
      refine lv_aload_n hx hb dX12_number_166 rfl (lv_at hl 0 rfl) ?_
      refine gt_99 E hM hq11 lk_6_13 dX12_number_167 ?_
      refine lv_iload_n hx hb dX12_number_170 rfl (lv_at hl 1 rfl) ?_
      refine lv_iload hx hb dX12_number_171 (lv_at hl 4 rfl) ?_
      refine lv_isub hx hb dX12_number_173 ?_
      refine lv_iconst (v := (1 : Int32)) hx hb dX12_number_174 (by decide) ?_
      refine lv_isub hx hb dX12_number_175 ?_
      obtain ⟨ha15, hf⟩ := jif hf
      refine jiast E hM ha15 dX12_number_176 (fun H locs S16 eS16 hM => ?_)
      have hf := jlet_y eS16 hf
      refine lv_aload_n hx hb dX12_number_177 rfl (lv_at hl 0 rfl) ?_
      refine gt_95 E hM hq11 lk_6_9 dX12_number_178 ?_
      obtain ⟨r17, hr18, hf⟩ := jb hf
      rw [hr18]
      show W p l e _ s m args below meth c H locs 0 0 _ (F0 m _ ls (.ref (g.2.2 + r17) :: _))
      refine lv_aload_n hx hb dX12_number_181 rfl (lv_at hl 0 rfl) ?_
      refine gt_99 E hM hq11 lk_6_13 dX12_number_182 ?_
      refine lv_iload hx hb dX12_number_185 (lv_at hl 3 rfl) ?_
      refine lv_bipush (v := (9 : Int32)) hx hb dX12_number_187 (by decide) ?_
      refine lv_icmp_gt (tgt := 201) hx hb dX12_number_189 (by decide) (fun c19 => ?_) (fun c19 => ?_)
      · have hf := jt c19 hf
        exact B_X12_number_201 E  hf hM (lv_sub hl [0, 1, 2] rfl)
      · have hf := jf c19 hf
        refine lv_iload_n hx hb dX12_number_192 rfl (lv_at hl 1 rfl) ?_
        refine lv_iload hx hb dX12_number_193 (lv_at hl 4 rfl) ?_
        refine lv_isub hx hb dX12_number_195 ?_
        refine lv_bipush (v := (7 : Int32)) hx hb dX12_number_196 (by decide) ?_
        refine lv_icmp_le (tgt := 206) hx hb dX12_number_198 (by decide) (fun c20 => ?_) (fun c20 => ?_)
        · have hf := jt c20 hf
          refine lv_bipush (v := (42 : Int32)) hx hb dX12_number_206 (by decide) ?_
          exact B_X12_number_208 E  hf hM (lv_sub hl [0, 1, 2] rfl)
        · have hf := jf c20 hf
          exact B_X12_number_201 E  hf hM (lv_sub hl [0, 1, 2] rfl)
    · have hf := jf c12 hf
      refine lv_iload_n hx hb dX12_number_119 rfl (lv_at hl 1 rfl) ?_
      refine lv_iload hx hb dX12_number_120 (lv_at hl 4 rfl) ?_
      refine lv_isub hx hb dX12_number_122 ?_
      refine lv_bipush (v := (6 : Int32)) hx hb dX12_number_123 (by decide) ?_
      refine lv_icmp_gt (tgt := 154) hx hb dX12_number_125 (by decide) (fun c21 => ?_) (fun c21 => ?_)
      · have hf := jt c21 hf
        exact B_X12_number_154 E ih hf hM (lv_sub hl [0, 1, 2, 3, 4] rfl)
      · have hf := jf c21 hf
        refine lv_iload hx hb dX12_number_128 (lv_at hl 3 rfl) ?_
        refine lv_bipush (v := (10 : Int32)) hx hb dX12_number_130 (by decide) ?_
        refine lv_icmp_ge (tgt := 154) hx hb dX12_number_132 (by decide) (fun c22 => ?_) (fun c22 => ?_)
        · have hf := jt c22 hf
          exact B_X12_number_154 E ih hf hM (lv_sub hl [0, 1, 2, 3, 4] rfl)
        · have hf := jf c22 hf
          refine lv_ldc2 (v := (10 : Int64)) hx hb hown (hts _ lk_7_174) dX12_number_135 ?_
          refine lv_lload_n hx hb dX12_number_138 rfl (lv_at hl 2 rfl) ?_
          refine lv_lmul hx hb dX12_number_139 ?_
          refine lv_aload_n hx hb dX12_number_140 rfl (lv_at hl 0 rfl) ?_
          refine lv_iload_n hx hb dX12_number_141 rfl (lv_at hl 1 rfl) ?_
          obtain ⟨x23, hc24, hf⟩ := jb hf
          refine jbackI hM (jrunV E hM ci_X12_byteAt (C_X12_byteAt hc24) lk_7_135 hq11 (by decide) rfl hl.1 rfl rfl (Nat.le_of_ble_eq_true rfl) ⟨Nat.le_of_ble_eq_true rfl, Nat.le_of_ble_eq_true rfl⟩ ⟨Nat.le_refl _, Nat.le_refl _⟩ dX12_number_142) (fun H locs hM => ?_)
          refine lv_i2l hx hb dX12_number_145 rfl ?_
          refine lv_ladd hx hb dX12_number_146 ?_
          refine lv_ldc2 (v := (48 : Int64)) hx hb hown (hts _ lk_7_175) dX12_number_147 ?_
          refine lv_lsub hx hb dX12_number_150 ?_
          refine lv_goto (tgt := 155) hx hb dX12_number_151 (by decide) ?_
          exact B_X12_number_155 E ih hf hM (lv_sub hl [0, 1, 3, 4] rfl)
set_option maxRecDepth 100000 in
set_option maxHeartbeats 4000000 in
theorem B_X12_number_73 {p : Program} {l : Launch} {e : Env} {s : State} {m : MethodId} {args : Array Value} {below : List Frame} {meth : Method} {c : Code} {g : jG} {rr : Int32} {SS : jM} {v0 : Nat} {v1 : Int32} {v2 : Int32} {v3 : Int64} {t0 : Nat} {t1 : Int32} {t2 : Int32} {S : jM} (E : jEnv p s m args meth c cX12_number "PensionHouseModel" (some .int) 7 g)  {H : Heap} {locs : List Loc} {ls : Array Slot} (hf : f_X12_number_73 v0 v1 v2 v3 t0 t1 t2 S = some (rr, SS)) (hM : jAt g S s H locs) (hl : lv_has ls 7 [(0, .ref (g.2.2 + v0)), (1, .int v1), (2, .int v2), (3, .long v3)]) : W p l e (jRm 2 0 0) s m args below meth c H locs 0 0 (MQ below (jQi g rr SS) args s 0 0 (jA0 g)) (F0 m 73 ls [.int t2, .int t1, .ref (g.2.2 + t0)]) := by
  obtain ⟨hx, hb, hml, -, hts, hown, hK, -, hstr⟩ := id E
  unfold f_X12_number_73 at hf
  obtain ⟨ha25, hf⟩ := jif hf
  refine jiast E hM ha25 dX12_number_73 (fun H locs S26 eS26 hM => ?_)
  have hf := jlet_y eS26 hf
  refine lv_aload_n hx hb dX12_number_74 rfl (lv_at hl 0 rfl) ?_
  refine lv_iload_n hx hb dX12_number_75 rfl (lv_at hl 2 rfl) ?_
  obtain ⟨hq29, hf⟩ := jif hf
  obtain ⟨x27, hc28, hf⟩ := jb hf
  refine jbackI hM (jrunV E hM ci_X12_byteAt (C_X12_byteAt hc28) lk_7_135 hq29 (by decide) rfl hl.1 rfl rfl (Nat.le_of_ble_eq_true rfl) ⟨Nat.le_of_ble_eq_true rfl, Nat.le_of_ble_eq_true rfl⟩ ⟨Nat.le_refl _, Nat.le_refl _⟩ dX12_number_76) (fun H locs hM => ?_)
  refine lv_bipush (v := (46 : Int32)) hx hb dX12_number_79 (by decide) ?_
  refine lv_icmp_ne (tgt := 209) hx hb dX12_number_81 (by decide) (fun c30 => ?_) (fun c30 => ?_)
  · have hf := jf c30 hf
    exact B_X12_number_209 E  hf hM (lv_sub hl [0, 2, 3] rfl)
  · have hf := jt c30 hf
    refine lv_aload_n hx hb dX12_number_84 rfl (lv_at hl 0 rfl) ?_
    refine lv_iload_n hx hb dX12_number_85 rfl (lv_at hl 2 rfl) ?_
    refine lv_iconst (v := (1 : Int32)) hx hb dX12_number_86 (by decide) ?_
    refine lv_iadd hx hb dX12_number_87 ?_
    obtain ⟨x31, hc32, hf⟩ := jb hf
    refine jbackI hM (jrunV E hM ci_X12_byteAt (C_X12_byteAt hc32) lk_7_135 hq29 (by decide) rfl hl.1 rfl rfl (Nat.le_of_ble_eq_true rfl) ⟨Nat.le_of_ble_eq_true rfl, Nat.le_of_ble_eq_true rfl⟩ ⟨Nat.le_refl _, Nat.le_refl _⟩ dX12_number_88) (fun H locs hM => ?_)
    refine jbackI hM (jrunS E hM ci_X12_isFigure (C_X12_isFigure rfl) lk_7_139 hl.1 rfl rfl (Nat.le_of_ble_eq_true rfl) ⟨Nat.le_of_ble_eq_true rfl, Nat.le_of_ble_eq_true rfl⟩ ⟨Nat.le_refl _, Nat.le_refl _⟩ dX12_number_91) (fun H locs hM => ?_)
    refine lv_if_eq (tgt := 209) hx hb dX12_number_94 (by decide) (fun c33 => ?_) (fun c33 => ?_)
    · have hf := jt c33 hf
      exact B_X12_number_209 E  hf hM (lv_sub hl [0, 2, 3] rfl)
    · have hf := jf c33 hf
      refine lv_iload_n hx hb dX12_number_97 rfl (lv_at hl 2 rfl) ?_
      refine lv_iload_n hx hb dX12_number_98 rfl (lv_at hl 1 rfl) ?_
      refine lv_isub hx hb dX12_number_99 ?_
      refine lv_topi (fun x34 ex34 => ?_)
      have hf := jlet_y ex34 hf
      refine lv_istore (lv' := [(5, .int x34), (0, .ref (g.2.2 + v0)), (1, .int v1), (2, .int v2), (3, .long v3)]) hx hb dX12_number_100 hl (by decide) rfl (fun ls hl => ?_)
      refine lv_iload_n hx hb dX12_number_102 rfl (lv_at hl 3 rfl) ?_
      refine lv_istore (lv' := [(6, .int v2), (5, .int x34), (0, .ref (g.2.2 + v0)), (1, .int v1), (2, .int v2), (3, .long v3)]) hx hb dX12_number_103 hl (by decide) rfl (fun ls hl => ?_)
      obtain ⟨x35, ex35⟩ : ∃ z, z = v2 + (1 : Int32) := ⟨_, rfl⟩
      have hf := jlet_y ex35 hf
      refine lv_iinc (v := x35) (lv' := [(2, .int x35), (6, .int v2), (5, .int x34), (0, .ref (g.2.2 + v0)), (1, .int v1), (3, .long v3)]) hx hb dX12_number_105 hl (k := 4) rfl (by rw [ex35]; rfl) (by decide) rfl (fun ls hl => ?_)
      exact B_X12_number_108 E  1100000 v0 x35 v3 x34 v2 S26 _ _ _ hf hM (lv_sub hl [3, 0, 5, 2, 1] rfl)
set_option maxRecDepth 100000 in
set_option maxHeartbeats 4000000 in
theorem B_X12_number_43 {p : Program} {l : Launch} {e : Env} {s : State} {m : MethodId} {args : Array Value} {below : List Frame} {meth : Method} {c : Code} {g : jG} {rr : Int32} {SS : jM} {v0 : Nat} {v1 : Int32} {v2 : Int32} {t0 : Int64} {S : jM} {k4 : Nat → Int32 → Int32 → Int64 → jM → Option (Int32 × jM)} (E : jEnv p s m args meth c cX12_number "PensionHouseModel" (some .int) 7 g) (hk4 : ∀ (v0 : Nat) (v1 : Int32) (v2 : Int32) (v3 : Int64) (S : jM) (H : Heap) (locs : List Loc) (ls : Array Slot), k4 v0 v1 v2 v3 S = some (rr, SS) → jAt g S s H locs → lv_has ls 7 [(0, .ref (g.2.2 + v0)), (1, .int v1), (2, .int v2), (3, .long v3)] → W p l e (jRm 2 0 0) s m args below meth c H locs 0 0 (MQ below (jQi g rr SS) args s 0 0 (jA0 g)) (F0 m 4 ls [])) {H : Heap} {locs : List Loc} {ls : Array Slot} (hf : f_X12_number_43 k4 v0 v1 v2 t0 S = some (rr, SS)) (hM : jAt g S s H locs) (hl : lv_has ls 7 [(0, .ref (g.2.2 + v0)), (1, .int v1), (2, .int v2)]) : W p l e (jRm 2 0 0) s m args below meth c H locs 0 0 (MQ below (jQi g rr SS) args s 0 0 (jA0 g)) (F0 m 43 ls [.long t0]) := by
  obtain ⟨hx, hb, hml, -, hts, hown, hK, -, hstr⟩ := id E
  unfold f_X12_number_43 at hf
  refine lv_lstore_n (lv' := [(3, .long t0), (0, .ref (g.2.2 + v0)), (1, .int v1), (2, .int v2)]) hx hb dX12_number_43 rfl hl (by decide) rfl (fun ls hl => ?_)
  obtain ⟨x36, ex36⟩ : ∃ z, z = v2 + (1 : Int32) := ⟨_, rfl⟩
  have hf := jlet_y ex36 hf
  refine lv_iinc (v := x36) (lv' := [(2, .int x36), (3, .long t0), (0, .ref (g.2.2 + v0)), (1, .int v1)]) hx hb dX12_number_44 hl (k := 3) rfl (by rw [ex36]; rfl) (by decide) rfl (fun ls hl => ?_)
  refine lv_goto (tgt := 4) hx hb dX12_number_47 (by decide) ?_
  exact hk4 v0 v1 x36 t0 S _ _ _ hf hM (lv_sub hl [2, 3, 0, 1] rfl)
set_option maxRecDepth 100000 in
set_option maxHeartbeats 4000000 in
theorem B_X12_number_4 {p : Program} {l : Launch} {e : Env} {s : State} {m : MethodId} {args : Array Value} {below : List Frame} {meth : Method} {c : Code} {g : jG} {rr : Int32} {SS : jM} (E : jEnv p s m args meth c cX12_number "PensionHouseModel" (some .int) 7 g)  : ∀ (n : Nat) (v0 : Nat) (v1 : Int32) (v2 : Int32) (v3 : Int64) (S : jM) (H : Heap) (locs : List Loc) (ls : Array Slot), f_X12_number_4 n v0 v1 v2 v3 S = some (rr, SS) → jAt g S s H locs → lv_has ls 7 [(0, .ref (g.2.2 + v0)), (1, .int v1), (2, .int v2), (3, .long v3)] → W p l e (jRm 2 0 0) s m args below meth c H locs 0 0 (MQ below (jQi g rr SS) args s 0 0 (jA0 g)) (F0 m 4 ls []) := by
  obtain ⟨hx, hb, hml, -, hts, hown, hK, -, hstr⟩ := id E
  intro n
  induction n with
  | zero => intro v0 v1 v2 v3 S H locs ls hf hM hl; rw [f_X12_number_4] at hf; cases hf
  | succ n ih =>
    intro v0 v1 v2 v3 S H locs ls hf hM hl
    rw [f_X12_number_4] at hf
    refine lv_aload_n hx hb dX12_number_4 rfl (lv_at hl 0 rfl) ?_
    refine lv_iload_n hx hb dX12_number_5 rfl (lv_at hl 2 rfl) ?_
    obtain ⟨hq39, hf⟩ := jif hf
    obtain ⟨x37, hc38, hf⟩ := jb hf
    refine jbackI hM (jrunV E hM ci_X12_byteAt (C_X12_byteAt hc38) lk_7_135 hq39 (by decide) rfl hl.1 rfl rfl (Nat.le_of_ble_eq_true rfl) ⟨Nat.le_of_ble_eq_true rfl, Nat.le_of_ble_eq_true rfl⟩ ⟨Nat.le_refl _, Nat.le_refl _⟩ dX12_number_6) (fun H locs hM => ?_)
    refine jbackI hM (jrunS E hM ci_X12_isFigure (C_X12_isFigure rfl) lk_7_139 hl.1 rfl rfl (Nat.le_of_ble_eq_true rfl) ⟨Nat.le_of_ble_eq_true rfl, Nat.le_of_ble_eq_true rfl⟩ ⟨Nat.le_refl _, Nat.le_refl _⟩ dX12_number_9) (fun H locs hM => ?_)
    refine lv_if_eq (tgt := 50) hx hb dX12_number_12 (by decide) (fun c40 => ?_) (fun c40 => ?_)
    · have hf := jt c40 hf
      refine lv_aload_n hx hb dX12_number_50 rfl (lv_at hl 0 rfl) ?_
      refine gt_95 E hM hq39 lk_6_9 dX12_number_51 ?_
      obtain ⟨r41, hr42, hf⟩ := jb hf
      rw [hr42]
      show W p l e _ s m args below meth c H locs 0 0 _ (F0 m _ ls (.ref (g.2.2 + r41) :: _))
      refine lv_aload_n hx hb dX12_number_54 rfl (lv_at hl 0 rfl) ?_
      refine gt_99 E hM hq39 lk_6_13 dX12_number_55 ?_
      refine lv_iload_n hx hb dX12_number_58 rfl (lv_at hl 2 rfl) ?_
      refine lv_iload_n hx hb dX12_number_59 rfl (lv_at hl 1 rfl) ?_
      refine lv_isub hx hb dX12_number_60 ?_
      refine lv_bipush (v := (15 : Int32)) hx hb dX12_number_61 (by decide) ?_
      refine lv_icmp_le (tgt := 71) hx hb dX12_number_63 (by decide) (fun c43 => ?_) (fun c43 => ?_)
      · have hf := jt c43 hf
        refine lv_bipush (v := (41 : Int32)) hx hb dX12_number_71 (by decide) ?_
        exact B_X12_number_73 E  hf hM (lv_sub hl [0, 1, 2, 3] rfl)
      · have hf := jf c43 hf
        refine lv_bipush (v := (44 : Int32)) hx hb dX12_number_66 (by decide) ?_
        refine lv_goto (tgt := 73) hx hb dX12_number_68 (by decide) ?_
        exact B_X12_number_73 E  hf hM (lv_sub hl [0, 1, 2, 3] rfl)
    · have hf := jf c40 hf
      refine lv_iload_n hx hb dX12_number_15 rfl (lv_at hl 2 rfl) ?_
      refine lv_iload_n hx hb dX12_number_16 rfl (lv_at hl 1 rfl) ?_
      refine lv_isub hx hb dX12_number_17 ?_
      refine lv_bipush (v := (15 : Int32)) hx hb dX12_number_18 (by decide) ?_
      refine lv_icmp_ge (tgt := 42) hx hb dX12_number_20 (by decide) (fun c44 => ?_) (fun c44 => ?_)
      · have hf := jt c44 hf
        refine lv_lload_n hx hb dX12_number_42 rfl (lv_at hl 3 rfl) ?_
        exact B_X12_number_43 E ih hf hM (lv_sub hl [0, 1, 2] rfl)
      · have hf := jf c44 hf
        refine lv_ldc2 (v := (10 : Int64)) hx hb hown (hts _ lk_7_174) dX12_number_23 ?_
        refine lv_lload_n hx hb dX12_number_26 rfl (lv_at hl 3 rfl) ?_
        refine lv_lmul hx hb dX12_number_27 ?_
        refine lv_aload_n hx hb dX12_number_28 rfl (lv_at hl 0 rfl) ?_
        refine lv_iload_n hx hb dX12_number_29 rfl (lv_at hl 2 rfl) ?_
        obtain ⟨x45, hc46, hf⟩ := jb hf
        refine jbackI hM (jrunV E hM ci_X12_byteAt (C_X12_byteAt hc46) lk_7_135 hq39 (by decide) rfl hl.1 rfl rfl (Nat.le_of_ble_eq_true rfl) ⟨Nat.le_of_ble_eq_true rfl, Nat.le_of_ble_eq_true rfl⟩ ⟨Nat.le_refl _, Nat.le_refl _⟩ dX12_number_30) (fun H locs hM => ?_)
        refine lv_i2l hx hb dX12_number_33 rfl ?_
        refine lv_ladd hx hb dX12_number_34 ?_
        refine lv_ldc2 (v := (48 : Int64)) hx hb hown (hts _ lk_7_175) dX12_number_35 ?_
        refine lv_lsub hx hb dX12_number_38 ?_
        refine lv_goto (tgt := 43) hx hb dX12_number_39 (by decide) ?_
        exact B_X12_number_43 E ih hf hM (lv_sub hl [0, 1, 2] rfl)
set_option maxRecDepth 100000 in
set_option maxHeartbeats 4000000 in
theorem B_X12_number_0 {p : Program} {l : Launch} {e : Env} {s : State} {m : MethodId} {args : Array Value} {below : List Frame} {meth : Method} {c : Code} {g : jG} {rr : Int32} {SS : jM} {v0 : Nat} {v1 : Int32} {S : jM} (E : jEnv p s m args meth c cX12_number "PensionHouseModel" (some .int) 7 g)  {H : Heap} {locs : List Loc} {ls : Array Slot} (hf : f_X12_number v0 v1 S = some (rr, SS)) (hM : jAt g S s H locs) (hl : lv_has ls 7 [(0, .ref (g.2.2 + v0)), (1, .int v1)]) : W p l e (jRm 2 0 0) s m args below meth c H locs 0 0 (MQ below (jQi g rr SS) args s 0 0 (jA0 g)) (F0 m 0 ls []) := by
  obtain ⟨hx, hb, hml, -, hts, hown, hK, -, hstr⟩ := id E
  unfold f_X12_number at hf
  refine lv_iload_n hx hb dX12_number_0 rfl (lv_at hl 1 rfl) ?_
  refine lv_istore_n (lv' := [(2, .int v1), (0, .ref (g.2.2 + v0)), (1, .int v1)]) hx hb dX12_number_1 rfl hl (by decide) rfl (fun ls hl => ?_)
  refine lv_lconst (v := (0 : Int64)) hx hb dX12_number_2 (by decide) ?_
  refine lv_lstore_n (lv' := [(3, .long (0 : Int64)), (2, .int v1), (0, .ref (g.2.2 + v0)), (1, .int v1)]) hx hb dX12_number_3 rfl hl (by decide) rfl (fun ls hl => ?_)
  exact B_X12_number_4 E  1100000 v0 v1 v1 (0 : Int64) S _ _ _ hf hM (lv_sub hl [2, 3, 1, 0] rfl)
set_option maxRecDepth 100000 in
theorem C_X12_number {l : Launch} {g : jG} {a0 : Nat} {a1 : Int32} {S : jM} {rr : Int32} {SS : jM} (hf : f_X12_number a0 a1 S = some (rr, SS)) : jMet l g yX12_number cX12_number 7 (some .int) 2 0 0 [.ref (g.2.2 + a0), .int a1] S (jQi g rr SS) := by
  refine jof (by decide +kernel) (Nat.le_of_ble_eq_true rfl) ?_
  intro p e s m below meth c E hM ls hl
  have hl : lv_has ls 7 [(0, .ref (g.2.2 + a0)),(1, .int a1)] := hl
  exact B_X12_number_0 E hf hM hl
-- PensionHouseModel.token(I)I  mode M
noncomputable def f_X12_token_291 (v1 : Int32) (t0 : Nat) (t1 : Int32) (t2 : Int32) (S : jM) : Option (Int32 × jM) := if jA t0 13 t1 = true then jlet (jrI S t0 (upd (jAI S t0) (t1).toNatClampNeg t2)) (fun S2 => some (v1 + (1 : Int32), S2)) else none
noncomputable def f_X12_token_267 (v0 : Nat) (v1 : Int32) (v2 : Int32) (t0 : Int32) (S : jM) : Option (Int32 × jM) := if jK v0 = 10 then (jR S 95 v0).bind (fun r4 => if t0 = 0 then f_X12_token_291 v1 r4 (jI S 99 v0) (44 : Int32) S else f_X12_token_291 v1 r4 (jI S 99 v0) ((100 : Int32) + v2) S) else none
noncomputable def f_X12_token_262 (v0 : Nat) (v1 : Int32) (v2 : Int32) (S : jM) : Option (Int32 × jM) := f_X12_token_267 v0 v1 v2 (1 : Int32) S
noncomputable def f_X12_token_184 (v0 : Nat) (v1 : Int32) (v2 : Int32) (S : jM) : Option (Int32 × jM) := if v2 = (59 : Int32) then f_X12_token_262 v0 v1 v2 S else if v2 = (61 : Int32) then f_X12_token_262 v0 v1 v2 S else if v2 = (60 : Int32) then f_X12_token_262 v0 v1 v2 S else if v2 = (43 : Int32) then f_X12_token_262 v0 v1 v2 S else if v2 = (45 : Int32) then f_X12_token_262 v0 v1 v2 S else if v2 = (42 : Int32) then f_X12_token_262 v0 v1 v2 S else if v2 = (47 : Int32) then f_X12_token_262 v0 v1 v2 S else if v2 = (37 : Int32) then f_X12_token_262 v0 v1 v2 S else if v2 = (40 : Int32) then f_X12_token_262 v0 v1 v2 S else if v2 = (41 : Int32) then f_X12_token_262 v0 v1 v2 S else if v2 = (91 : Int32) then f_X12_token_262 v0 v1 v2 S else if v2 = (93 : Int32) then f_X12_token_262 v0 v1 v2 S else if v2 = (44 : Int32) then f_X12_token_262 v0 v1 v2 S else f_X12_token_267 v0 v1 v2 (0 : Int32) S
noncomputable def f_X12_token_151 (v1 : Int32) (t0 : Nat) (t1 : Int32) (t2 : Int32) (S : jM) : Option (Int32 × jM) := if jA t0 13 t1 = true then jlet (jrI S t0 (upd (jAI S t0) (t1).toNatClampNeg t2)) (fun S21 => some (v1 + (2 : Int32), S21)) else none
noncomputable def f_X12_token_87 (v0 : Nat) (v3 : Int32) (v4 : Int64) (t0 : Nat) (t1 : Int32) (t2 : Int32) (S : jM) : Option (Int32 × jM) := if jA t0 13 t1 = true then jlet (jrI S t0 (upd (jAI S t0) (t1).toNatClampNeg t2)) (fun S23 => if jK v0 = 10 then (jR S23 97 v0).bind (fun r25 => if jA r25 14 (jI S23 99 v0) = true then jlet (jrL S23 r25 (vp_updL (jAL S23 r25) (jI S23 99 v0).toNatClampNeg v4)) (fun S28 => some (v3, S28)) else none) else none) else none
noncomputable def f_X12_token_41 (k19 : Nat → Int32 → Int32 → Int64 → jM → Option (Int32 × jM)) (v0 : Nat) (v1 : Int32) (v3 : Int32) (v4 : Int64) (S : jM) : Option (Int32 × jM) := if jK v0 = 10 then (f_X12_byteAt v0 v3 S).bind (fun x29 => jlet ((v4 <<< ((8 : Int32).toInt64 &&& 63)) ||| (x29.toInt64)) (fun x32 => jlet (v3 + (1 : Int32)) (fun x33 => k19 v0 v1 x33 x32 S))) else none
noncomputable def f_X12_token_19 : Nat → Nat → Int32 → Int32 → Int64 → jM → Option (Int32 × jM)
  | 0, _, _, _, _, _ => none
  | n + 1, v0, v1, v3, v4, S => if jK v0 = 10 then (f_X12_byteAt v0 v3 S).bind (fun x34 => if (f_X12_isLetter x34) = 0 then (f_X12_byteAt v0 v3 S).bind (fun x38 => if (f_X12_isFigure x38) = 0 then (jR S 95 v0).bind (fun r41 => if (v3 - v1) ≤ (8 : Int32) then f_X12_token_87 v0 v3 v4 r41 (jI S 99 v0) (f_X12_word v4) S else f_X12_token_87 v0 v3 v4 r41 (jI S 99 v0) (44 : Int32) S) else f_X12_token_41 (f_X12_token_19 n) v0 v1 v3 v4 S) else f_X12_token_41 (f_X12_token_19 n) v0 v1 v3 v4 S) else none
noncomputable def f_X12_token (v0 : Nat) (v1 : Int32) (S : jM) : Option (Int32 × jM) := if jK v0 = 10 then (jR S 93 v0).bind (fun r45 => if jA r45 13 v1 = true then jlet (jAI S r45 (v1).toNatClampNeg) (fun x48 => if (f_X12_isLetter x48) = 0 then if (f_X12_isFigure x48) = 0 then (f_X12_byteAt v0 (v1 + (1 : Int32)) S).bind (fun x51 => if x48 = (33 : Int32) then (jR S 95 v0).bind (fun r60 => if x51 = (61 : Int32) then f_X12_token_151 v1 r60 (jI S 99 v0) (45 : Int32) S else f_X12_token_151 v1 r60 (jI S 99 v0) (44 : Int32) S) else if x48 = (60 : Int32) then if x51 = (61 : Int32) then (jR S 95 v0).bind (fun r56 => if jA r56 13 (jI S 99 v0) = true then jlet (jrI S r56 (upd (jAI S r56) (jI S 99 v0).toNatClampNeg (46 : Int32))) (fun S59 => some (v1 + (2 : Int32), S59)) else none) else f_X12_token_184 v0 v1 x48 S else f_X12_token_184 v0 v1 x48 S) else jbd (f_X12_number v0 v1 S) (fun x63 S64 => some (x63, S64)) else f_X12_token_19 1100000 v0 v1 v1 (0 : Int64) S) else none) else none
set_option maxRecDepth 100000 in
set_option maxHeartbeats 4000000 in
theorem B_X12_token_291 {p : Program} {l : Launch} {e : Env} {s : State} {m : MethodId} {args : Array Value} {below : List Frame} {meth : Method} {c : Code} {g : jG} {rr : Int32} {SS : jM} {v1 : Int32} {t0 : Nat} {t1 : Int32} {t2 : Int32} {S : jM} (E : jEnv p s m args meth c cX12_token "PensionHouseModel" (some .int) 6 g)  {H : Heap} {locs : List Loc} {ls : Array Slot} (hf : f_X12_token_291 v1 t0 t1 t2 S = some (rr, SS)) (hM : jAt g S s H locs) (hl : lv_has ls 6 [(1, .int v1)]) : W p l e (jRm 3 0 0) s m args below meth c H locs 0 0 (MQ below (jQi g rr SS) args s 0 0 (jA0 g)) (F0 m 291 ls [.int t2, .int t1, .ref (g.2.2 + t0)]) := by
  obtain ⟨hx, hb, hml, -, hts, hown, hK, -, hstr⟩ := id E
  unfold f_X12_token_291 at hf
  obtain ⟨ha1, hf⟩ := jif hf
  refine jiast E hM ha1 dX12_token_291 (fun H locs S2 eS2 hM => ?_)
  have hf := jlet_y eS2 hf
  refine lv_iload_n hx hb dX12_token_292 rfl (lv_at hl 0 rfl) ?_
  refine lv_iconst (v := (1 : Int32)) hx hb dX12_token_293 (by decide) ?_
  refine lv_iadd hx hb dX12_token_294 ?_
  exact jireti (jr2 hf) E hM dX12_token_295
set_option maxRecDepth 100000 in
set_option maxHeartbeats 4000000 in
theorem B_X12_token_267 {p : Program} {l : Launch} {e : Env} {s : State} {m : MethodId} {args : Array Value} {below : List Frame} {meth : Method} {c : Code} {g : jG} {rr : Int32} {SS : jM} {v0 : Nat} {v1 : Int32} {v2 : Int32} {t0 : Int32} {S : jM} (E : jEnv p s m args meth c cX12_token "PensionHouseModel" (some .int) 6 g)  {H : Heap} {locs : List Loc} {ls : Array Slot} (hf : f_X12_token_267 v0 v1 v2 t0 S = some (rr, SS)) (hM : jAt g S s H locs) (hl : lv_has ls 6 [(0, .ref (g.2.2 + v0)), (1, .int v1), (2, .int v2)]) : W p l e (jRm 3 0 0) s m args below meth c H locs 0 0 (MQ below (jQi g rr SS) args s 0 0 (jA0 g)) (F0 m 267 ls [.int t0]) := by
  obtain ⟨hx, hb, hml, -, hts, hown, hK, -, hstr⟩ := id E
  unfold f_X12_token_267 at hf
  refine lv_istore (lv' := [(5, .int t0), (0, .ref (g.2.2 + v0)), (1, .int v1), (2, .int v2)]) hx hb dX12_token_267 hl (by decide) rfl (fun ls hl => ?_)
  refine lv_aload_n hx hb dX12_token_269 rfl (lv_at hl 1 rfl) ?_
  obtain ⟨hq3, hf⟩ := jif hf
  refine gt_95 E hM hq3 lk_6_9 dX12_token_270 ?_
  obtain ⟨r4, hr5, hf⟩ := jb hf
  rw [hr5]
  show W p l e _ s m args below meth c H locs 0 0 _ (F0 m _ ls (.ref (g.2.2 + r4) :: _))
  refine lv_aload_n hx hb dX12_token_273 rfl (lv_at hl 1 rfl) ?_
  refine gt_99 E hM hq3 lk_6_13 dX12_token_274 ?_
  refine lv_iload hx hb dX12_token_277 (lv_at hl 0 rfl) ?_
  refine lv_if_eq (tgt := 289) hx hb dX12_token_279 (by decide) (fun c6 => ?_) (fun c6 => ?_)
  · have hf := jt c6 hf
    refine lv_bipush (v := (44 : Int32)) hx hb dX12_token_289 (by decide) ?_
    exact B_X12_token_291 E  hf hM (lv_sub hl [2] rfl)
  · have hf := jf c6 hf
    refine lv_bipush (v := (100 : Int32)) hx hb dX12_token_282 (by decide) ?_
    refine lv_iload_n hx hb dX12_token_284 rfl (lv_at hl 3 rfl) ?_
    refine lv_iadd hx hb dX12_token_285 ?_
    refine lv_goto (tgt := 291) hx hb dX12_token_286 (by decide) ?_
    exact B_X12_token_291 E  hf hM (lv_sub hl [2] rfl)
set_option maxRecDepth 100000 in
set_option maxHeartbeats 4000000 in
theorem B_X12_token_262 {p : Program} {l : Launch} {e : Env} {s : State} {m : MethodId} {args : Array Value} {below : List Frame} {meth : Method} {c : Code} {g : jG} {rr : Int32} {SS : jM} {v0 : Nat} {v1 : Int32} {v2 : Int32} {S : jM} (E : jEnv p s m args meth c cX12_token "PensionHouseModel" (some .int) 6 g)  {H : Heap} {locs : List Loc} {ls : Array Slot} (hf : f_X12_token_262 v0 v1 v2 S = some (rr, SS)) (hM : jAt g S s H locs) (hl : lv_has ls 6 [(0, .ref (g.2.2 + v0)), (1, .int v1), (2, .int v2)]) : W p l e (jRm 3 0 0) s m args below meth c H locs 0 0 (MQ below (jQi g rr SS) args s 0 0 (jA0 g)) (F0 m 262 ls []) := by
  obtain ⟨hx, hb, hml, -, hts, hown, hK, -, hstr⟩ := id E
  unfold f_X12_token_262 at hf
  refine lv_iconst (v := (1 : Int32)) hx hb dX12_token_262 (by decide) ?_
  refine lv_goto (tgt := 267) hx hb dX12_token_263 (by decide) ?_
  exact B_X12_token_267 E  hf hM (lv_sub hl [0, 1, 2] rfl)
set_option maxRecDepth 100000 in
set_option maxHeartbeats 4000000 in
theorem B_X12_token_184 {p : Program} {l : Launch} {e : Env} {s : State} {m : MethodId} {args : Array Value} {below : List Frame} {meth : Method} {c : Code} {g : jG} {rr : Int32} {SS : jM} {v0 : Nat} {v1 : Int32} {v2 : Int32} {S : jM} (E : jEnv p s m args meth c cX12_token "PensionHouseModel" (some .int) 6 g)  {H : Heap} {locs : List Loc} {ls : Array Slot} (hf : f_X12_token_184 v0 v1 v2 S = some (rr, SS)) (hM : jAt g S s H locs) (hl : lv_has ls 6 [(0, .ref (g.2.2 + v0)), (1, .int v1), (2, .int v2)]) : W p l e (jRm 3 0 0) s m args below meth c H locs 0 0 (MQ below (jQi g rr SS) args s 0 0 (jA0 g)) (F0 m 184 ls []) := by
  obtain ⟨hx, hb, hml, -, hts, hown, hK, -, hstr⟩ := id E
  unfold f_X12_token_184 at hf
  refine lv_iload_n hx hb dX12_token_184 rfl (lv_at hl 2 rfl) ?_
  refine lv_bipush (v := (59 : Int32)) hx hb dX12_token_185 (by decide) ?_
  refine lv_icmp_eq (tgt := 262) hx hb dX12_token_187 (by decide) (fun c7 => ?_) (fun c7 => ?_)
  · have hf := jt c7 hf
    exact B_X12_token_262 E  hf hM (lv_sub hl [0, 1, 2] rfl)
  · have hf := jf c7 hf
    refine lv_iload_n hx hb dX12_token_190 rfl (lv_at hl 2 rfl) ?_
    refine lv_bipush (v := (61 : Int32)) hx hb dX12_token_191 (by decide) ?_
    refine lv_icmp_eq (tgt := 262) hx hb dX12_token_193 (by decide) (fun c8 => ?_) (fun c8 => ?_)
    · have hf := jt c8 hf
      exact B_X12_token_262 E  hf hM (lv_sub hl [0, 1, 2] rfl)
    · have hf := jf c8 hf
      refine lv_iload_n hx hb dX12_token_196 rfl (lv_at hl 2 rfl) ?_
      refine lv_bipush (v := (60 : Int32)) hx hb dX12_token_197 (by decide) ?_
      refine lv_icmp_eq (tgt := 262) hx hb dX12_token_199 (by decide) (fun c9 => ?_) (fun c9 => ?_)
      · have hf := jt c9 hf
        exact B_X12_token_262 E  hf hM (lv_sub hl [0, 1, 2] rfl)
      · have hf := jf c9 hf
        refine lv_iload_n hx hb dX12_token_202 rfl (lv_at hl 2 rfl) ?_
        refine lv_bipush (v := (43 : Int32)) hx hb dX12_token_203 (by decide) ?_
        refine lv_icmp_eq (tgt := 262) hx hb dX12_token_205 (by decide) (fun c10 => ?_) (fun c10 => ?_)
        · have hf := jt c10 hf
          exact B_X12_token_262 E  hf hM (lv_sub hl [0, 1, 2] rfl)
        · have hf := jf c10 hf
          refine lv_iload_n hx hb dX12_token_208 rfl (lv_at hl 2 rfl) ?_
          refine lv_bipush (v := (45 : Int32)) hx hb dX12_token_209 (by decide) ?_
          refine lv_icmp_eq (tgt := 262) hx hb dX12_token_211 (by decide) (fun c11 => ?_) (fun c11 => ?_)
          · have hf := jt c11 hf
            exact B_X12_token_262 E  hf hM (lv_sub hl [0, 1, 2] rfl)
          · have hf := jf c11 hf
            refine lv_iload_n hx hb dX12_token_214 rfl (lv_at hl 2 rfl) ?_
            refine lv_bipush (v := (42 : Int32)) hx hb dX12_token_215 (by decide) ?_
            refine lv_icmp_eq (tgt := 262) hx hb dX12_token_217 (by decide) (fun c12 => ?_) (fun c12 => ?_)
            · have hf := jt c12 hf
              exact B_X12_token_262 E  hf hM (lv_sub hl [0, 1, 2] rfl)
            · have hf := jf c12 hf
              refine lv_iload_n hx hb dX12_token_220 rfl (lv_at hl 2 rfl) ?_
              refine lv_bipush (v := (47 : Int32)) hx hb dX12_token_221 (by decide) ?_
              refine lv_icmp_eq (tgt := 262) hx hb dX12_token_223 (by decide) (fun c13 => ?_) (fun c13 => ?_)
              · have hf := jt c13 hf
                exact B_X12_token_262 E  hf hM (lv_sub hl [0, 1, 2] rfl)
              · have hf := jf c13 hf
                refine lv_iload_n hx hb dX12_token_226 rfl (lv_at hl 2 rfl) ?_
                refine lv_bipush (v := (37 : Int32)) hx hb dX12_token_227 (by decide) ?_
                refine lv_icmp_eq (tgt := 262) hx hb dX12_token_229 (by decide) (fun c14 => ?_) (fun c14 => ?_)
                · have hf := jt c14 hf
                  exact B_X12_token_262 E  hf hM (lv_sub hl [0, 1, 2] rfl)
                · have hf := jf c14 hf
                  refine lv_iload_n hx hb dX12_token_232 rfl (lv_at hl 2 rfl) ?_
                  refine lv_bipush (v := (40 : Int32)) hx hb dX12_token_233 (by decide) ?_
                  refine lv_icmp_eq (tgt := 262) hx hb dX12_token_235 (by decide) (fun c15 => ?_) (fun c15 => ?_)
                  · have hf := jt c15 hf
                    exact B_X12_token_262 E  hf hM (lv_sub hl [0, 1, 2] rfl)
                  · have hf := jf c15 hf
                    refine lv_iload_n hx hb dX12_token_238 rfl (lv_at hl 2 rfl) ?_
                    refine lv_bipush (v := (41 : Int32)) hx hb dX12_token_239 (by decide) ?_
                    refine lv_icmp_eq (tgt := 262) hx hb dX12_token_241 (by decide) (fun c16 => ?_) (fun c16 => ?_)
                    · have hf := jt c16 hf
                      exact B_X12_token_262 E  hf hM (lv_sub hl [0, 1, 2] rfl)
                    · have hf := jf c16 hf
                      refine lv_iload_n hx hb dX12_token_244 rfl (lv_at hl 2 rfl) ?_
                      refine lv_bipush (v := (91 : Int32)) hx hb dX12_token_245 (by decide) ?_
                      refine lv_icmp_eq (tgt := 262) hx hb dX12_token_247 (by decide) (fun c17 => ?_) (fun c17 => ?_)
                      · have hf := jt c17 hf
                        exact B_X12_token_262 E  hf hM (lv_sub hl [0, 1, 2] rfl)
                      · have hf := jf c17 hf
                        refine lv_iload_n hx hb dX12_token_250 rfl (lv_at hl 2 rfl) ?_
                        refine lv_bipush (v := (93 : Int32)) hx hb dX12_token_251 (by decide) ?_
                        refine lv_icmp_eq (tgt := 262) hx hb dX12_token_253 (by decide) (fun c18 => ?_) (fun c18 => ?_)
                        · have hf := jt c18 hf
                          exact B_X12_token_262 E  hf hM (lv_sub hl [0, 1, 2] rfl)
                        · have hf := jf c18 hf
                          refine lv_iload_n hx hb dX12_token_256 rfl (lv_at hl 2 rfl) ?_
                          refine lv_bipush (v := (44 : Int32)) hx hb dX12_token_257 (by decide) ?_
                          refine lv_icmp_ne (tgt := 266) hx hb dX12_token_259 (by decide) (fun c19 => ?_) (fun c19 => ?_)
                          · have hf := jf c19 hf
                            refine lv_iconst (v := (0 : Int32)) hx hb dX12_token_266 (by decide) ?_
                            exact B_X12_token_267 E  hf hM (lv_sub hl [0, 1, 2] rfl)
                          · have hf := jt c19 hf
                            exact B_X12_token_262 E  hf hM (lv_sub hl [0, 1, 2] rfl)
set_option maxRecDepth 100000 in
set_option maxHeartbeats 4000000 in
theorem B_X12_token_151 {p : Program} {l : Launch} {e : Env} {s : State} {m : MethodId} {args : Array Value} {below : List Frame} {meth : Method} {c : Code} {g : jG} {rr : Int32} {SS : jM} {v1 : Int32} {t0 : Nat} {t1 : Int32} {t2 : Int32} {S : jM} (E : jEnv p s m args meth c cX12_token "PensionHouseModel" (some .int) 6 g)  {H : Heap} {locs : List Loc} {ls : Array Slot} (hf : f_X12_token_151 v1 t0 t1 t2 S = some (rr, SS)) (hM : jAt g S s H locs) (hl : lv_has ls 6 [(1, .int v1)]) : W p l e (jRm 3 0 0) s m args below meth c H locs 0 0 (MQ below (jQi g rr SS) args s 0 0 (jA0 g)) (F0 m 151 ls [.int t2, .int t1, .ref (g.2.2 + t0)]) := by
  obtain ⟨hx, hb, hml, -, hts, hown, hK, -, hstr⟩ := id E
  unfold f_X12_token_151 at hf
  obtain ⟨ha20, hf⟩ := jif hf
  refine jiast E hM ha20 dX12_token_151 (fun H locs S21 eS21 hM => ?_)
  have hf := jlet_y eS21 hf
  refine lv_iload_n hx hb dX12_token_152 rfl (lv_at hl 0 rfl) ?_
  refine lv_iconst (v := (2 : Int32)) hx hb dX12_token_153 (by decide) ?_
  refine lv_iadd hx hb dX12_token_154 ?_
  exact jireti (jr2 hf) E hM dX12_token_155
set_option maxRecDepth 100000 in
set_option maxHeartbeats 4000000 in
theorem B_X12_token_87 {p : Program} {l : Launch} {e : Env} {s : State} {m : MethodId} {args : Array Value} {below : List Frame} {meth : Method} {c : Code} {g : jG} {rr : Int32} {SS : jM} {v0 : Nat} {v3 : Int32} {v4 : Int64} {t0 : Nat} {t1 : Int32} {t2 : Int32} {S : jM} (E : jEnv p s m args meth c cX12_token "PensionHouseModel" (some .int) 6 g)  {H : Heap} {locs : List Loc} {ls : Array Slot} (hf : f_X12_token_87 v0 v3 v4 t0 t1 t2 S = some (rr, SS)) (hM : jAt g S s H locs) (hl : lv_has ls 6 [(0, .ref (g.2.2 + v0)), (3, .int v3), (4, .long v4)]) : W p l e (jRm 3 0 0) s m args below meth c H locs 0 0 (MQ below (jQi g rr SS) args s 0 0 (jA0 g)) (F0 m 87 ls [.int t2, .int t1, .ref (g.2.2 + t0)]) := by
  obtain ⟨hx, hb, hml, -, hts, hown, hK, -, hstr⟩ := id E
  unfold f_X12_token_87 at hf
  obtain ⟨ha22, hf⟩ := jif hf
  refine jiast E hM ha22 dX12_token_87 (fun H locs S23 eS23 hM => ?_)
  have hf := jlet_y eS23 hf
  refine lv_aload_n hx hb dX12_token_88 rfl (lv_at hl 0 rfl) ?_
  obtain ⟨hq24, hf⟩ := jif hf
  refine gt_97 E hM hq24 lk_6_11 dX12_token_89 ?_
  obtain ⟨r25, hr26, hf⟩ := jb hf
  rw [hr26]
  show W p l e _ s m args below meth c H locs 0 0 _ (F0 m _ ls (.ref (g.2.2 + r25) :: _))
  refine lv_aload_n hx hb dX12_token_92 rfl (lv_at hl 0 rfl) ?_
  refine gt_99 E hM hq24 lk_6_13 dX12_token_93 ?_
  refine lv_lload hx hb dX12_token_96 (lv_at hl 2 rfl) ?_
  obtain ⟨ha27, hf⟩ := jif hf
  refine jlast E hM ha27 dX12_token_98 (fun H locs S28 eS28 hM => ?_)
  have hf := jlet_y eS28 hf
  refine lv_iload_n hx hb dX12_token_99 rfl (lv_at hl 1 rfl) ?_
  exact jireti (jr2 hf) E hM dX12_token_100
set_option maxRecDepth 100000 in
set_option maxHeartbeats 4000000 in
theorem B_X12_token_41 {p : Program} {l : Launch} {e : Env} {s : State} {m : MethodId} {args : Array Value} {below : List Frame} {meth : Method} {c : Code} {g : jG} {rr : Int32} {SS : jM} {v0 : Nat} {v1 : Int32} {v3 : Int32} {v4 : Int64} {S : jM} {k19 : Nat → Int32 → Int32 → Int64 → jM → Option (Int32 × jM)} (E : jEnv p s m args meth c cX12_token "PensionHouseModel" (some .int) 6 g) (hk19 : ∀ (v0 : Nat) (v1 : Int32) (v3 : Int32) (v4 : Int64) (S : jM) (H : Heap) (locs : List Loc) (ls : Array Slot), k19 v0 v1 v3 v4 S = some (rr, SS) → jAt g S s H locs → lv_has ls 6 [(0, .ref (g.2.2 + v0)), (1, .int v1), (3, .int v3), (4, .long v4)] → W p l e (jRm 3 0 0) s m args below meth c H locs 0 0 (MQ below (jQi g rr SS) args s 0 0 (jA0 g)) (F0 m 19 ls [])) {H : Heap} {locs : List Loc} {ls : Array Slot} (hf : f_X12_token_41 k19 v0 v1 v3 v4 S = some (rr, SS)) (hM : jAt g S s H locs) (hl : lv_has ls 6 [(0, .ref (g.2.2 + v0)), (1, .int v1), (3, .int v3), (4, .long v4)]) : W p l e (jRm 3 0 0) s m args below meth c H locs 0 0 (MQ below (jQi g rr SS) args s 0 0 (jA0 g)) (F0 m 41 ls []) := by
  obtain ⟨hx, hb, hml, -, hts, hown, hK, -, hstr⟩ := id E
  unfold f_X12_token_41 at hf
  refine lv_lload hx hb dX12_token_41 (lv_at hl 3 rfl) ?_
  refine lv_bipush (v := (8 : Int32)) hx hb dX12_token_43 (by decide) ?_
  refine lv_lshl hx hb dX12_token_45 rfl ?_
  refine lv_aload_n hx hb dX12_token_46 rfl (lv_at hl 0 rfl) ?_
  refine lv_iload_n hx hb dX12_token_47 rfl (lv_at hl 2 rfl) ?_
  obtain ⟨hq31, hf⟩ := jif hf
  obtain ⟨x29, hc30, hf⟩ := jb hf
  refine jbackI hM (jrunV E hM ci_X12_byteAt (C_X12_byteAt hc30) lk_7_135 hq31 (by decide) rfl hl.1 rfl rfl (Nat.le_of_ble_eq_true rfl) ⟨Nat.le_of_ble_eq_true rfl, Nat.le_of_ble_eq_true rfl⟩ ⟨Nat.le_refl _, Nat.le_refl _⟩ dX12_token_48) (fun H locs hM => ?_)
  refine lv_i2l hx hb dX12_token_51 rfl ?_
  refine lv_lor hx hb dX12_token_52 ?_
  refine lv_topl (fun x32 ex32 => ?_)
  have hf := jlet_y ex32 hf
  refine lv_lstore (lv' := [(4, .long x32), (0, .ref (g.2.2 + v0)), (1, .int v1), (3, .int v3)]) hx hb dX12_token_53 hl (by decide) rfl (fun ls hl => ?_)
  obtain ⟨x33, ex33⟩ : ∃ z, z = v3 + (1 : Int32) := ⟨_, rfl⟩
  have hf := jlet_y ex33 hf
  refine lv_iinc (v := x33) (lv' := [(3, .int x33), (4, .long x32), (0, .ref (g.2.2 + v0)), (1, .int v1)]) hx hb dX12_token_55 hl (k := 3) rfl (by rw [ex33]; rfl) (by decide) rfl (fun ls hl => ?_)
  refine lv_goto (tgt := 19) hx hb dX12_token_58 (by decide) ?_
  exact hk19 v0 v1 x33 x32 S _ _ _ hf hM (lv_sub hl [2, 3, 0, 1] rfl)
set_option maxRecDepth 100000 in
set_option maxHeartbeats 4000000 in
theorem B_X12_token_19 {p : Program} {l : Launch} {e : Env} {s : State} {m : MethodId} {args : Array Value} {below : List Frame} {meth : Method} {c : Code} {g : jG} {rr : Int32} {SS : jM} (E : jEnv p s m args meth c cX12_token "PensionHouseModel" (some .int) 6 g)  : ∀ (n : Nat) (v0 : Nat) (v1 : Int32) (v3 : Int32) (v4 : Int64) (S : jM) (H : Heap) (locs : List Loc) (ls : Array Slot), f_X12_token_19 n v0 v1 v3 v4 S = some (rr, SS) → jAt g S s H locs → lv_has ls 6 [(0, .ref (g.2.2 + v0)), (1, .int v1), (3, .int v3), (4, .long v4)] → W p l e (jRm 3 0 0) s m args below meth c H locs 0 0 (MQ below (jQi g rr SS) args s 0 0 (jA0 g)) (F0 m 19 ls []) := by
  obtain ⟨hx, hb, hml, -, hts, hown, hK, -, hstr⟩ := id E
  intro n
  induction n with
  | zero => intro v0 v1 v3 v4 S H locs ls hf hM hl; rw [f_X12_token_19] at hf; cases hf
  | succ n ih =>
    intro v0 v1 v3 v4 S H locs ls hf hM hl
    rw [f_X12_token_19] at hf
    refine lv_aload_n hx hb dX12_token_19 rfl (lv_at hl 0 rfl) ?_
    refine lv_iload_n hx hb dX12_token_20 rfl (lv_at hl 2 rfl) ?_
    obtain ⟨hq36, hf⟩ := jif hf
    obtain ⟨x34, hc35, hf⟩ := jb hf
    refine jbackI hM (jrunV E hM ci_X12_byteAt (C_X12_byteAt hc35) lk_7_135 hq36 (by decide) rfl hl.1 rfl rfl (Nat.le_of_ble_eq_true rfl) ⟨Nat.le_of_ble_eq_true rfl, Nat.le_of_ble_eq_true rfl⟩ ⟨Nat.le_refl _, Nat.le_refl _⟩ dX12_token_21) (fun H locs hM => ?_)
    refine jbackI hM (jrunS E hM ci_X12_isLetter (C_X12_isLetter rfl) lk_7_132 hl.1 rfl rfl (Nat.le_of_ble_eq_true rfl) ⟨Nat.le_of_ble_eq_true rfl, Nat.le_of_ble_eq_true rfl⟩ ⟨Nat.le_refl _, Nat.le_refl _⟩ dX12_token_24) (fun H locs hM => ?_)
    refine lv_if_ne (tgt := 41) hx hb dX12_token_27 (by decide) (fun c37 => ?_) (fun c37 => ?_)
    · have hf := jf c37 hf
      exact B_X12_token_41 E ih hf hM (lv_sub hl [0, 1, 2, 3] rfl)
    · have hf := jt c37 hf
      refine lv_aload_n hx hb dX12_token_30 rfl (lv_at hl 0 rfl) ?_
      refine lv_iload_n hx hb dX12_token_31 rfl (lv_at hl 2 rfl) ?_
      obtain ⟨x38, hc39, hf⟩ := jb hf
      refine jbackI hM (jrunV E hM ci_X12_byteAt (C_X12_byteAt hc39) lk_7_135 hq36 (by decide) rfl hl.1 rfl rfl (Nat.le_of_ble_eq_true rfl) ⟨Nat.le_of_ble_eq_true rfl, Nat.le_of_ble_eq_true rfl⟩ ⟨Nat.le_refl _, Nat.le_refl _⟩ dX12_token_32) (fun H locs hM => ?_)
      refine jbackI hM (jrunS E hM ci_X12_isFigure (C_X12_isFigure rfl) lk_7_139 hl.1 rfl rfl (Nat.le_of_ble_eq_true rfl) ⟨Nat.le_of_ble_eq_true rfl, Nat.le_of_ble_eq_true rfl⟩ ⟨Nat.le_refl _, Nat.le_refl _⟩ dX12_token_35) (fun H locs hM => ?_)
      refine lv_if_eq (tgt := 61) hx hb dX12_token_38 (by decide) (fun c40 => ?_) (fun c40 => ?_)
      · have hf := jt c40 hf
        refine lv_aload_n hx hb dX12_token_61 rfl (lv_at hl 0 rfl) ?_
        refine gt_95 E hM hq36 lk_6_9 dX12_token_62 ?_
        obtain ⟨r41, hr42, hf⟩ := jb hf
        rw [hr42]
        show W p l e _ s m args below meth c H locs 0 0 _ (F0 m _ ls (.ref (g.2.2 + r41) :: _))
        refine lv_aload_n hx hb dX12_token_65 rfl (lv_at hl 0 rfl) ?_
        refine gt_99 E hM hq36 lk_6_13 dX12_token_66 ?_
        refine lv_iload_n hx hb dX12_token_69 rfl (lv_at hl 2 rfl) ?_
        refine lv_iload_n hx hb dX12_token_70 rfl (lv_at hl 1 rfl) ?_
        refine lv_isub hx hb dX12_token_71 ?_
        refine lv_bipush (v := (8 : Int32)) hx hb dX12_token_72 (by decide) ?_
        refine lv_icmp_le (tgt := 82) hx hb dX12_token_74 (by decide) (fun c43 => ?_) (fun c43 => ?_)
        · have hf := jt c43 hf
          refine lv_lload hx hb dX12_token_82 (lv_at hl 3 rfl) ?_
          refine jbackI hM (jrunS E hM ci_X12_word (C_X12_word rfl) lk_7_142 hl.1 rfl rfl (Nat.le_of_ble_eq_true rfl) ⟨Nat.le_of_ble_eq_true rfl, Nat.le_of_ble_eq_true rfl⟩ ⟨Nat.le_refl _, Nat.le_refl _⟩ dX12_token_84) (fun H locs hM => ?_)
          exact B_X12_token_87 E  hf hM (lv_sub hl [0, 2, 3] rfl)
        · have hf := jf c43 hf
          refine lv_bipush (v := (44 : Int32)) hx hb dX12_token_77 (by decide) ?_
          refine lv_goto (tgt := 87) hx hb dX12_token_79 (by decide) ?_
          exact B_X12_token_87 E  hf hM (lv_sub hl [0, 2, 3] rfl)
      · have hf := jf c40 hf
        exact B_X12_token_41 E ih hf hM (lv_sub hl [0, 1, 2, 3] rfl)
set_option maxRecDepth 100000 in
set_option maxHeartbeats 4000000 in
theorem B_X12_token_0 {p : Program} {l : Launch} {e : Env} {s : State} {m : MethodId} {args : Array Value} {below : List Frame} {meth : Method} {c : Code} {g : jG} {rr : Int32} {SS : jM} {v0 : Nat} {v1 : Int32} {S : jM} (E : jEnv p s m args meth c cX12_token "PensionHouseModel" (some .int) 6 g)  {H : Heap} {locs : List Loc} {ls : Array Slot} (hf : f_X12_token v0 v1 S = some (rr, SS)) (hM : jAt g S s H locs) (hl : lv_has ls 6 [(0, .ref (g.2.2 + v0)), (1, .int v1)]) : W p l e (jRm 3 0 0) s m args below meth c H locs 0 0 (MQ below (jQi g rr SS) args s 0 0 (jA0 g)) (F0 m 0 ls []) := by
  obtain ⟨hx, hb, hml, -, hts, hown, hK, -, hstr⟩ := id E
  unfold f_X12_token at hf
  refine lv_aload_n hx hb dX12_token_0 rfl (lv_at hl 0 rfl) ?_
  obtain ⟨hq44, hf⟩ := jif hf
  refine gt_93 E hM hq44 lk_6_7 dX12_token_1 ?_
  obtain ⟨r45, hr46, hf⟩ := jb hf
  rw [hr46]
  show W p l e _ s m args below meth c H locs 0 0 _ (F0 m _ ls (.ref (g.2.2 + r45) :: _))
  refine lv_iload_n hx hb dX12_token_4 rfl (lv_at hl 1 rfl) ?_
  obtain ⟨ha47, hf⟩ := jif hf
  refine jiald E hM ha47 dX12_token_5 ?_
  refine lv_topi (fun x48 ex48 => ?_)
  have hf := jlet_y ex48 hf
  refine lv_istore_n (lv' := [(2, .int x48), (0, .ref (g.2.2 + v0)), (1, .int v1)]) hx hb dX12_token_6 rfl hl (by decide) rfl (fun ls hl => ?_)
  refine lv_iload_n hx hb dX12_token_7 rfl (lv_at hl 2 rfl) ?_
  refine lv_istore_n (lv' := [(3, .int v1), (2, .int x48), (0, .ref (g.2.2 + v0)), (1, .int v1)]) hx hb dX12_token_8 rfl hl (by decide) rfl (fun ls hl => ?_)
  refine lv_iload_n hx hb dX12_token_9 rfl (lv_at hl 1 rfl) ?_
  refine jbackI hM (jrunS E hM ci_X12_isLetter (C_X12_isLetter rfl) lk_7_132 hl.1 rfl rfl (Nat.le_of_ble_eq_true rfl) ⟨Nat.le_of_ble_eq_true rfl, Nat.le_of_ble_eq_true rfl⟩ ⟨Nat.le_refl _, Nat.le_refl _⟩ dX12_token_10) (fun H locs hM => ?_)
  refine lv_if_eq (tgt := 101) hx hb dX12_token_13 (by decide) (fun c49 => ?_) (fun c49 => ?_)
  · have hf := jt c49 hf
    refine lv_iload_n hx hb dX12_token_101 rfl (lv_at hl 1 rfl) ?_
    refine jbackI hM (jrunS E hM ci_X12_isFigure (C_X12_isFigure rfl) lk_7_139 hl.1 rfl rfl (Nat.le_of_ble_eq_true rfl) ⟨Nat.le_of_ble_eq_true rfl, Nat.le_of_ble_eq_true rfl⟩ ⟨Nat.le_refl _, Nat.le_refl _⟩ dX12_token_102) (fun H locs hM => ?_)
    refine lv_if_eq (tgt := 114) hx hb dX12_token_105 (by decide) (fun c50 => ?_) (fun c50 => ?_)
    · have hf := jt c50 hf
      refine lv_aload_n hx hb dX12_token_114 rfl (lv_at hl 2 rfl) ?_
      refine lv_iload_n hx hb dX12_token_115 rfl (lv_at hl 3 rfl) ?_
      refine lv_iconst (v := (1 : Int32)) hx hb dX12_token_116 (by decide) ?_
      refine lv_iadd hx hb dX12_token_117 ?_
      obtain ⟨x51, hc52, hf⟩ := jb hf
      refine jbackI hM (jrunV E hM ci_X12_byteAt (C_X12_byteAt hc52) lk_7_135 hq44 (by decide) rfl hl.1 rfl rfl (Nat.le_of_ble_eq_true rfl) ⟨Nat.le_of_ble_eq_true rfl, Nat.le_of_ble_eq_true rfl⟩ ⟨Nat.le_refl _, Nat.le_refl _⟩ dX12_token_118) (fun H locs hM => ?_)
      refine lv_istore (lv' := [(4, .int x51), (3, .int v1), (2, .int x48), (0, .ref (g.2.2 + v0)), (1, .int v1)]) hx hb dX12_token_121 hl (by decide) rfl (fun ls hl => ?_)
      refine lv_iload_n hx hb dX12_token_123 rfl (lv_at hl 2 rfl) ?_
      refine lv_bipush (v := (33 : Int32)) hx hb dX12_token_124 (by decide) ?_
      refine lv_icmp_ne (tgt := 156) hx hb dX12_token_126 (by decide) (fun c53 => ?_) (fun c53 => ?_)
      · have hf := jf c53 hf
        refine lv_iload_n hx hb dX12_token_156 rfl (lv_at hl 2 rfl) ?_
        refine lv_bipush (v := (60 : Int32)) hx hb dX12_token_157 (by decide) ?_
        refine lv_icmp_ne (tgt := 184) hx hb dX12_token_159 (by decide) (fun c54 => ?_) (fun c54 => ?_)
        · have hf := jf c54 hf
          exact B_X12_token_184 E  hf hM (lv_sub hl [3, 4, 2] rfl)
        · have hf := jt c54 hf
          refine lv_iload hx hb dX12_token_162 (lv_at hl 0 rfl) ?_
          refine lv_bipush (v := (61 : Int32)) hx hb dX12_token_164 (by decide) ?_
          refine lv_icmp_ne (tgt := 184) hx hb dX12_token_166 (by decide) (fun c55 => ?_) (fun c55 => ?_)
          · have hf := jf c55 hf
            exact B_X12_token_184 E  hf hM (lv_sub hl [3, 4, 2] rfl)
          · have hf := jt c55 hf
            refine lv_aload_n hx hb dX12_token_169 rfl (lv_at hl 3 rfl) ?_
            refine gt_95 E hM hq44 lk_6_9 dX12_token_170 ?_
            obtain ⟨r56, hr57, hf⟩ := jb hf
            rw [hr57]
            show W p l e _ s m args below meth c H locs 0 0 _ (F0 m _ ls (.ref (g.2.2 + r56) :: _))
            refine lv_aload_n hx hb dX12_token_173 rfl (lv_at hl 3 rfl) ?_
            refine gt_99 E hM hq44 lk_6_13 dX12_token_174 ?_
            refine lv_bipush (v := (46 : Int32)) hx hb dX12_token_177 (by decide) ?_
            obtain ⟨ha58, hf⟩ := jif hf
            refine jiast E hM ha58 dX12_token_179 (fun H locs S59 eS59 hM => ?_)
            have hf := jlet_y eS59 hf
            refine lv_iload_n hx hb dX12_token_180 rfl (lv_at hl 4 rfl) ?_
            refine lv_iconst (v := (2 : Int32)) hx hb dX12_token_181 (by decide) ?_
            refine lv_iadd hx hb dX12_token_182 ?_
            exact jireti (jr2 hf) E hM dX12_token_183
      · have hf := jt c53 hf
        refine lv_aload_n hx hb dX12_token_129 rfl (lv_at hl 3 rfl) ?_
        refine gt_95 E hM hq44 lk_6_9 dX12_token_130 ?_
        obtain ⟨r60, hr61, hf⟩ := jb hf
        rw [hr61]
        show W p l e _ s m args below meth c H locs 0 0 _ (F0 m _ ls (.ref (g.2.2 + r60) :: _))
        refine lv_aload_n hx hb dX12_token_133 rfl (lv_at hl 3 rfl) ?_
        refine gt_99 E hM hq44 lk_6_13 dX12_token_134 ?_
        refine lv_iload hx hb dX12_token_137 (lv_at hl 0 rfl) ?_
        refine lv_bipush (v := (61 : Int32)) hx hb dX12_token_139 (by decide) ?_
        refine lv_icmp_ne (tgt := 149) hx hb dX12_token_141 (by decide) (fun c62 => ?_) (fun c62 => ?_)
        · have hf := jf c62 hf
          refine lv_bipush (v := (44 : Int32)) hx hb dX12_token_149 (by decide) ?_
          exact B_X12_token_151 E  hf hM (lv_sub hl [4] rfl)
        · have hf := jt c62 hf
          refine lv_bipush (v := (45 : Int32)) hx hb dX12_token_144 (by decide) ?_
          refine lv_goto (tgt := 151) hx hb dX12_token_146 (by decide) ?_
          exact B_X12_token_151 E  hf hM (lv_sub hl [4] rfl)
    · have hf := jf c50 hf
      refine lv_aload_n hx hb dX12_token_108 rfl (lv_at hl 2 rfl) ?_
      refine lv_iload_n hx hb dX12_token_109 rfl (lv_at hl 3 rfl) ?_
      obtain ⟨x63, S64, hc65, hf⟩ := jbd_e hf
      refine jbackI hM (jrunV E hM ci_X12_number (C_X12_number hc65) lk_7_170 hq44 (by decide) rfl hl.1 rfl rfl (Nat.le_of_ble_eq_true rfl) ⟨Nat.le_of_ble_eq_true rfl, Nat.le_of_ble_eq_true rfl⟩ ⟨Nat.le_refl _, Nat.le_refl _⟩ dX12_token_110) (fun H locs hM => ?_)
      exact jireti (jr2 hf) E hM dX12_token_113
  · have hf := jf c49 hf
    refine lv_lconst (v := (0 : Int64)) hx hb dX12_token_16 (by decide) ?_
    refine lv_lstore (lv' := [(4, .long (0 : Int64)), (3, .int v1), (2, .int x48), (0, .ref (g.2.2 + v0)), (1, .int v1)]) hx hb dX12_token_17 hl (by decide) rfl (fun ls hl => ?_)
    exact B_X12_token_19 E  1100000 v0 v1 v1 (0 : Int64) S _ _ _ hf hM (lv_sub hl [3, 4, 1, 0] rfl)
set_option maxRecDepth 100000 in
theorem C_X12_token {l : Launch} {g : jG} {a0 : Nat} {a1 : Int32} {S : jM} {rr : Int32} {SS : jM} (hf : f_X12_token a0 a1 S = some (rr, SS)) : jMet l g yX12_token cX12_token 6 (some .int) 3 0 0 [.ref (g.2.2 + a0), .int a1] S (jQi g rr SS) := by
  refine jof (by decide +kernel) (Nat.le_of_ble_eq_true rfl) ?_
  intro p e s m below meth c E hM ls hl
  have hl : lv_has ls 6 [(0, .ref (g.2.2 + a0)),(1, .int a1)] := hl
  exact B_X12_token_0 E hf hM hl
-- PensionHouseModel.tokenize()V  mode M
noncomputable def f_X12_tokenize_153 (v0 : Nat) (S : jM) : Option jM := if jK v0 = 10 then jlet (jsI S 94 v0 (0 : Int32)) (fun S2 => some S2) else none
noncomputable def f_X12_tokenize_130 (k24 : Nat → Int32 → Int32 → jM → Option jM) (v0 : Nat) (v1 : Int32) (S : jM) : Option jM := if jK v0 = 10 then (jR S 95 v0).bind (fun r4 => if jA r4 13 (jI S 99 v0) = true then jlet (jAI S r4 (jI S 99 v0).toNatClampNeg) (fun x7 => jlet (jsI S 99 v0 ((jI S 99 v0) + (1 : Int32))) (fun S8 => k24 v0 v1 x7 S8)) else none) else none
noncomputable def f_X12_tokenize_72 (k24 : Nat → Int32 → Int32 → jM → Option jM) (v0 : Nat) (v1 : Int32) (S : jM) : Option jM := if jK v0 = 10 then (jR S 96 v0).bind (fun r10 => if jA r10 13 (jI S 99 v0) = true then jlet (jrI S r10 (upd (jAI S r10) (jI S 99 v0).toNatClampNeg v1)) (fun S13 => (jR S13 97 v0).bind (fun r14 => if jA r14 14 (jI S13 99 v0) = true then jlet (jrL S13 r14 (vp_updL (jAL S13 r14) (jI S13 99 v0).toNatClampNeg (0 : Int64))) (fun S17 => (jR S17 98 v0).bind (fun r18 => if jA r18 13 (jI S17 99 v0) = true then jlet (jrI S17 r18 (upd (jAI S17 r18) (jI S17 99 v0).toNatClampNeg (0 : Int32))) (fun S21 => if v1 = (jI S21 94 v0) then (jR S21 95 v0).bind (fun r26 => if jA r26 13 (jI S21 99 v0) = true then jlet (jrI S21 r26 (upd (jAI S21 r26) (jI S21 99 v0).toNatClampNeg (43 : Int32))) (fun S29 => f_X12_tokenize_130 k24 v0 v1 S29) else none) else jbd (f_X12_token v0 v1 S21) (fun x23 S24 => f_X12_tokenize_130 k24 v0 x23 S24)) else none)) else none)) else none) else none
noncomputable def f_X12_tokenize_66 (k24 : Nat → Int32 → Int32 → jM → Option jM) (k36 : Nat → Int32 → jM → Option jM) (v0 : Nat) (v1 : Int32) (S : jM) : Option jM := jlet (v1 + (1 : Int32)) (fun x30 => k36 v0 x30 S)
noncomputable def f_X12_tokenize_36 (k24 : Nat → Int32 → Int32 → jM → Option jM) : Nat → Nat → Int32 → jM → Option jM
  | 0, _, _, _ => none
  | n + 1, v0, v1, S => if jK v0 = 10 then if (jI S 94 v0) ≤ v1 then f_X12_tokenize_72 k24 v0 v1 S else (jR S 93 v0).bind (fun r33 => if jA r33 13 v1 = true then if (jAI S r33 (v1).toNatClampNeg) = (32 : Int32) then f_X12_tokenize_66 k24 (f_X12_tokenize_36 k24 n) v0 v1 S else (jR S 93 v0).bind (fun r37 => if jA r37 13 v1 = true then if (jAI S r37 (v1).toNatClampNeg) = (10 : Int32) then f_X12_tokenize_66 k24 (f_X12_tokenize_36 k24 n) v0 v1 S else f_X12_tokenize_72 k24 v0 v1 S else none) else none) else none
noncomputable def f_X12_tokenize_24 : Nat → Nat → Int32 → Int32 → jM → Option jM
  | 0, _, _, _, _ => none
  | n + 1, v0, v1, v2, S => if v2 = (43 : Int32) then f_X12_tokenize_153 v0 S else if v2 = (44 : Int32) then f_X12_tokenize_153 v0 S else f_X12_tokenize_36 (f_X12_tokenize_24 n) 1100000 v0 v1 S
noncomputable def f_X12_tokenize (v0 : Nat) (S : jM) : Option jM := if jK v0 = 10 then jlet (jsI S 99 v0 (0 : Int32)) (fun S44 => jlet (jsI S44 100 v0 (0 : Int32)) (fun S45 => jlet (jsI S45 101 v0 (0 : Int32)) (fun S46 => jlet (jsI S46 102 v0 (0 : Int32)) (fun S47 => f_X12_tokenize_24 1100000 v0 (0 : Int32) (0 : Int32) S47)))) else none
set_option maxRecDepth 100000 in
set_option maxHeartbeats 4000000 in
theorem B_X12_tokenize_153 {p : Program} {l : Launch} {e : Env} {s : State} {m : MethodId} {args : Array Value} {below : List Frame} {meth : Method} {c : Code} {g : jG} {SS : jM} {v0 : Nat} {S : jM} (E : jEnv p s m args meth c cX12_tokenize "PensionHouseModel" none 3 g)  {H : Heap} {locs : List Loc} {ls : Array Slot} (hf : f_X12_tokenize_153 v0 S = some SS) (hM : jAt g S s H locs) (hl : lv_has ls 3 [(0, .ref (g.2.2 + v0))]) : W p l e (jRm 4 0 0) s m args below meth c H locs 0 0 (MQ below (jQv g SS) args s 0 0 (jA0 g)) (F0 m 153 ls []) := by
  obtain ⟨hx, hb, hml, -, hts, hown, hK, -, hstr⟩ := id E
  unfold f_X12_tokenize_153 at hf
  refine lv_aload_n hx hb dX12_tokenize_153 rfl (lv_at hl 0 rfl) ?_
  refine lv_iconst (v := (0 : Int32)) hx hb dX12_tokenize_154 (by decide) ?_
  obtain ⟨hq1, hf⟩ := jif hf
  refine pt_94 E hM hq1 lk_6_8 dX12_tokenize_155 (fun H locs S2 eS2 hM => ?_)
  have hf := jlet_y eS2 hf
  exact jvret (jrv hf) E hM dX12_tokenize_158
set_option maxRecDepth 100000 in
set_option maxHeartbeats 4000000 in
theorem B_X12_tokenize_130 {p : Program} {l : Launch} {e : Env} {s : State} {m : MethodId} {args : Array Value} {below : List Frame} {meth : Method} {c : Code} {g : jG} {SS : jM} {v0 : Nat} {v1 : Int32} {S : jM} {k24 : Nat → Int32 → Int32 → jM → Option jM} (E : jEnv p s m args meth c cX12_tokenize "PensionHouseModel" none 3 g) (hk24 : ∀ (v0 : Nat) (v1 : Int32) (v2 : Int32) (S : jM) (H : Heap) (locs : List Loc) (ls : Array Slot), k24 v0 v1 v2 S = some SS → jAt g S s H locs → lv_has ls 3 [(0, .ref (g.2.2 + v0)), (1, .int v1), (2, .int v2)] → W p l e (jRm 4 0 0) s m args below meth c H locs 0 0 (MQ below (jQv g SS) args s 0 0 (jA0 g)) (F0 m 24 ls [])) {H : Heap} {locs : List Loc} {ls : Array Slot} (hf : f_X12_tokenize_130 k24 v0 v1 S = some SS) (hM : jAt g S s H locs) (hl : lv_has ls 3 [(0, .ref (g.2.2 + v0)), (1, .int v1)]) : W p l e (jRm 4 0 0) s m args below meth c H locs 0 0 (MQ below (jQv g SS) args s 0 0 (jA0 g)) (F0 m 130 ls []) := by
  obtain ⟨hx, hb, hml, -, hts, hown, hK, -, hstr⟩ := id E
  unfold f_X12_tokenize_130 at hf
  refine lv_aload_n hx hb dX12_tokenize_130 rfl (lv_at hl 0 rfl) ?_
  obtain ⟨hq3, hf⟩ := jif hf
  refine gt_95 E hM hq3 lk_6_9 dX12_tokenize_131 ?_
  obtain ⟨r4, hr5, hf⟩ := jb hf
  rw [hr5]
  show W p l e _ s m args below meth c H locs 0 0 _ (F0 m _ ls (.ref (g.2.2 + r4) :: _))
  refine lv_aload_n hx hb dX12_tokenize_134 rfl (lv_at hl 0 rfl) ?_
  refine gt_99 E hM hq3 lk_6_13 dX12_tokenize_135 ?_
  obtain ⟨ha6, hf⟩ := jif hf
  refine jiald E hM ha6 dX12_tokenize_138 ?_
  refine lv_topi (fun x7 ex7 => ?_)
  have hf := jlet_y ex7 hf
  refine lv_istore_n (lv' := [(2, .int x7), (0, .ref (g.2.2 + v0)), (1, .int v1)]) hx hb dX12_tokenize_139 rfl hl (by decide) rfl (fun ls hl => ?_)
  refine lv_aload_n hx hb dX12_tokenize_140 rfl (lv_at hl 1 rfl) ?_
  refine lv_dup hx hb dX12_tokenize_141 rfl ?_
  refine gt_99 E hM hq3 lk_6_13 dX12_tokenize_142 ?_
  refine lv_iconst (v := (1 : Int32)) hx hb dX12_tokenize_145 (by decide) ?_
  refine lv_iadd hx hb dX12_tokenize_146 ?_
  refine pt_99 E hM hq3 lk_6_13 dX12_tokenize_147 (fun H locs S8 eS8 hM => ?_)
  have hf := jlet_y eS8 hf
  refine lv_goto (tgt := 24) hx hb dX12_tokenize_150 (by decide) ?_
  exact hk24 v0 v1 x7 S8 _ _ _ hf hM (lv_sub hl [1, 2, 0] rfl)
set_option maxRecDepth 100000 in
set_option maxHeartbeats 4000000 in
theorem B_X12_tokenize_72 {p : Program} {l : Launch} {e : Env} {s : State} {m : MethodId} {args : Array Value} {below : List Frame} {meth : Method} {c : Code} {g : jG} {SS : jM} {v0 : Nat} {v1 : Int32} {S : jM} {k24 : Nat → Int32 → Int32 → jM → Option jM} (E : jEnv p s m args meth c cX12_tokenize "PensionHouseModel" none 3 g) (hk24 : ∀ (v0 : Nat) (v1 : Int32) (v2 : Int32) (S : jM) (H : Heap) (locs : List Loc) (ls : Array Slot), k24 v0 v1 v2 S = some SS → jAt g S s H locs → lv_has ls 3 [(0, .ref (g.2.2 + v0)), (1, .int v1), (2, .int v2)] → W p l e (jRm 4 0 0) s m args below meth c H locs 0 0 (MQ below (jQv g SS) args s 0 0 (jA0 g)) (F0 m 24 ls [])) {H : Heap} {locs : List Loc} {ls : Array Slot} (hf : f_X12_tokenize_72 k24 v0 v1 S = some SS) (hM : jAt g S s H locs) (hl : lv_has ls 3 [(0, .ref (g.2.2 + v0)), (1, .int v1)]) : W p l e (jRm 4 0 0) s m args below meth c H locs 0 0 (MQ below (jQv g SS) args s 0 0 (jA0 g)) (F0 m 72 ls []) := by
  obtain ⟨hx, hb, hml, -, hts, hown, hK, -, hstr⟩ := id E
  unfold f_X12_tokenize_72 at hf
  refine lv_aload_n hx hb dX12_tokenize_72 rfl (lv_at hl 0 rfl) ?_
  obtain ⟨hq9, hf⟩ := jif hf
  refine gt_96 E hM hq9 lk_6_10 dX12_tokenize_73 ?_
  obtain ⟨r10, hr11, hf⟩ := jb hf
  rw [hr11]
  show W p l e _ s m args below meth c H locs 0 0 _ (F0 m _ ls (.ref (g.2.2 + r10) :: _))
  refine lv_aload_n hx hb dX12_tokenize_76 rfl (lv_at hl 0 rfl) ?_
  refine gt_99 E hM hq9 lk_6_13 dX12_tokenize_77 ?_
  refine lv_iload_n hx hb dX12_tokenize_80 rfl (lv_at hl 1 rfl) ?_
  obtain ⟨ha12, hf⟩ := jif hf
  refine jiast E hM ha12 dX12_tokenize_81 (fun H locs S13 eS13 hM => ?_)
  have hf := jlet_y eS13 hf
  refine lv_aload_n hx hb dX12_tokenize_82 rfl (lv_at hl 0 rfl) ?_
  refine gt_97 E hM hq9 lk_6_11 dX12_tokenize_83 ?_
  obtain ⟨r14, hr15, hf⟩ := jb hf
  rw [hr15]
  show W p l e _ s m args below meth c H locs 0 0 _ (F0 m _ ls (.ref (g.2.2 + r14) :: _))
  refine lv_aload_n hx hb dX12_tokenize_86 rfl (lv_at hl 0 rfl) ?_
  refine gt_99 E hM hq9 lk_6_13 dX12_tokenize_87 ?_
  refine lv_lconst (v := (0 : Int64)) hx hb dX12_tokenize_90 (by decide) ?_
  obtain ⟨ha16, hf⟩ := jif hf
  refine jlast E hM ha16 dX12_tokenize_91 (fun H locs S17 eS17 hM => ?_)
  have hf := jlet_y eS17 hf
  refine lv_aload_n hx hb dX12_tokenize_92 rfl (lv_at hl 0 rfl) ?_
  refine gt_98 E hM hq9 lk_6_12 dX12_tokenize_93 ?_
  obtain ⟨r18, hr19, hf⟩ := jb hf
  rw [hr19]
  show W p l e _ s m args below meth c H locs 0 0 _ (F0 m _ ls (.ref (g.2.2 + r18) :: _))
  refine lv_aload_n hx hb dX12_tokenize_96 rfl (lv_at hl 0 rfl) ?_
  refine gt_99 E hM hq9 lk_6_13 dX12_tokenize_97 ?_
  refine lv_iconst (v := (0 : Int32)) hx hb dX12_tokenize_100 (by decide) ?_
  obtain ⟨ha20, hf⟩ := jif hf
  refine jiast E hM ha20 dX12_tokenize_101 (fun H locs S21 eS21 hM => ?_)
  have hf := jlet_y eS21 hf
  refine lv_iload_n hx hb dX12_tokenize_102 rfl (lv_at hl 1 rfl) ?_
  refine lv_aload_n hx hb dX12_tokenize_103 rfl (lv_at hl 0 rfl) ?_
  refine gt_94 E hM hq9 lk_6_8 dX12_tokenize_104 ?_
  refine lv_icmp_ne (tgt := 124) hx hb dX12_tokenize_107 (by decide) (fun c22 => ?_) (fun c22 => ?_)
  · have hf := jf c22 hf
    refine lv_aload_n hx hb dX12_tokenize_124 rfl (lv_at hl 0 rfl) ?_
    refine lv_iload_n hx hb dX12_tokenize_125 rfl (lv_at hl 1 rfl) ?_
    obtain ⟨x23, S24, hc25, hf⟩ := jbd_e hf
    refine jbackI hM (jrunV E hM ci_X12_token (C_X12_token hc25) lk_7_128 hq9 (by decide) rfl hl.1 rfl rfl (Nat.le_of_ble_eq_true rfl) ⟨Nat.le_of_ble_eq_true rfl, Nat.le_of_ble_eq_true rfl⟩ ⟨Nat.le_refl _, Nat.le_refl _⟩ dX12_tokenize_126) (fun H locs hM => ?_)
    refine lv_istore_n (lv' := [(1, .int x23), (0, .ref (g.2.2 + v0))]) hx hb dX12_tokenize_129 rfl hl (by decide) rfl (fun ls hl => ?_)
    exact B_X12_tokenize_130 E hk24 hf hM (lv_sub hl [1, 0] rfl)
  · have hf := jt c22 hf
    refine lv_aload_n hx hb dX12_tokenize_110 rfl (lv_at hl 0 rfl) ?_
    refine gt_95 E hM hq9 lk_6_9 dX12_tokenize_111 ?_
    obtain ⟨r26, hr27, hf⟩ := jb hf
    rw [hr27]
    show W p l e _ s m args below meth c H locs 0 0 _ (F0 m _ ls (.ref (g.2.2 + r26) :: _))
    refine lv_aload_n hx hb dX12_tokenize_114 rfl (lv_at hl 0 rfl) ?_
    refine gt_99 E hM hq9 lk_6_13 dX12_tokenize_115 ?_
    refine lv_bipush (v := (43 : Int32)) hx hb dX12_tokenize_118 (by decide) ?_
    obtain ⟨ha28, hf⟩ := jif hf
    refine jiast E hM ha28 dX12_tokenize_120 (fun H locs S29 eS29 hM => ?_)
    have hf := jlet_y eS29 hf
    refine lv_goto (tgt := 130) hx hb dX12_tokenize_121 (by decide) ?_
    exact B_X12_tokenize_130 E hk24 hf hM (lv_sub hl [0, 1] rfl)
set_option maxRecDepth 100000 in
set_option maxHeartbeats 4000000 in
theorem B_X12_tokenize_66 {p : Program} {l : Launch} {e : Env} {s : State} {m : MethodId} {args : Array Value} {below : List Frame} {meth : Method} {c : Code} {g : jG} {SS : jM} {v0 : Nat} {v1 : Int32} {S : jM} {k24 : Nat → Int32 → Int32 → jM → Option jM} {k36 : Nat → Int32 → jM → Option jM} (E : jEnv p s m args meth c cX12_tokenize "PensionHouseModel" none 3 g) (hk24 : ∀ (v0 : Nat) (v1 : Int32) (v2 : Int32) (S : jM) (H : Heap) (locs : List Loc) (ls : Array Slot), k24 v0 v1 v2 S = some SS → jAt g S s H locs → lv_has ls 3 [(0, .ref (g.2.2 + v0)), (1, .int v1), (2, .int v2)] → W p l e (jRm 4 0 0) s m args below meth c H locs 0 0 (MQ below (jQv g SS) args s 0 0 (jA0 g)) (F0 m 24 ls [])) (hk36 : ∀ (v0 : Nat) (v1 : Int32) (S : jM) (H : Heap) (locs : List Loc) (ls : Array Slot), k36 v0 v1 S = some SS → jAt g S s H locs → lv_has ls 3 [(0, .ref (g.2.2 + v0)), (1, .int v1)] → W p l e (jRm 4 0 0) s m args below meth c H locs 0 0 (MQ below (jQv g SS) args s 0 0 (jA0 g)) (F0 m 36 ls [])) {H : Heap} {locs : List Loc} {ls : Array Slot} (hf : f_X12_tokenize_66 k24 k36 v0 v1 S = some SS) (hM : jAt g S s H locs) (hl : lv_has ls 3 [(0, .ref (g.2.2 + v0)), (1, .int v1)]) : W p l e (jRm 4 0 0) s m args below meth c H locs 0 0 (MQ below (jQv g SS) args s 0 0 (jA0 g)) (F0 m 66 ls []) := by
  obtain ⟨hx, hb, hml, -, hts, hown, hK, -, hstr⟩ := id E
  unfold f_X12_tokenize_66 at hf
  obtain ⟨x30, ex30⟩ : ∃ z, z = v1 + (1 : Int32) := ⟨_, rfl⟩
  have hf := jlet_y ex30 hf
  refine lv_iinc (v := x30) (lv' := [(1, .int x30), (0, .ref (g.2.2 + v0))]) hx hb dX12_tokenize_66 hl (k := 1) rfl (by rw [ex30]; rfl) (by decide) rfl (fun ls hl => ?_)
  refine lv_goto (tgt := 36) hx hb dX12_tokenize_69 (by decide) ?_
  exact hk36 v0 x30 S _ _ _ hf hM (lv_sub hl [1, 0] rfl)
set_option maxRecDepth 100000 in
set_option maxHeartbeats 4000000 in
theorem B_X12_tokenize_36 {p : Program} {l : Launch} {e : Env} {s : State} {m : MethodId} {args : Array Value} {below : List Frame} {meth : Method} {c : Code} {g : jG} {SS : jM} {k24 : Nat → Int32 → Int32 → jM → Option jM} (E : jEnv p s m args meth c cX12_tokenize "PensionHouseModel" none 3 g) (hk24 : ∀ (v0 : Nat) (v1 : Int32) (v2 : Int32) (S : jM) (H : Heap) (locs : List Loc) (ls : Array Slot), k24 v0 v1 v2 S = some SS → jAt g S s H locs → lv_has ls 3 [(0, .ref (g.2.2 + v0)), (1, .int v1), (2, .int v2)] → W p l e (jRm 4 0 0) s m args below meth c H locs 0 0 (MQ below (jQv g SS) args s 0 0 (jA0 g)) (F0 m 24 ls [])) : ∀ (n : Nat) (v0 : Nat) (v1 : Int32) (S : jM) (H : Heap) (locs : List Loc) (ls : Array Slot), f_X12_tokenize_36 k24 n v0 v1 S = some SS → jAt g S s H locs → lv_has ls 3 [(0, .ref (g.2.2 + v0)), (1, .int v1)] → W p l e (jRm 4 0 0) s m args below meth c H locs 0 0 (MQ below (jQv g SS) args s 0 0 (jA0 g)) (F0 m 36 ls []) := by
  obtain ⟨hx, hb, hml, -, hts, hown, hK, -, hstr⟩ := id E
  intro n
  induction n with
  | zero => intro v0 v1 S H locs ls hf hM hl; rw [f_X12_tokenize_36] at hf; cases hf
  | succ n ih =>
    intro v0 v1 S H locs ls hf hM hl
    rw [f_X12_tokenize_36] at hf
    refine lv_iload_n hx hb dX12_tokenize_36 rfl (lv_at hl 1 rfl) ?_
    refine lv_aload_n hx hb dX12_tokenize_37 rfl (lv_at hl 0 rfl) ?_
    obtain ⟨hq31, hf⟩ := jif hf
    refine gt_94 E hM hq31 lk_6_8 dX12_tokenize_38 ?_
    refine lv_icmp_ge (tgt := 72) hx hb dX12_tokenize_41 (by decide) (fun c32 => ?_) (fun c32 => ?_)
    · have hf := jt c32 hf
      exact B_X12_tokenize_72 E hk24 hf hM (lv_sub hl [0, 1] rfl)
    · have hf := jf c32 hf
      refine lv_aload_n hx hb dX12_tokenize_44 rfl (lv_at hl 0 rfl) ?_
      refine gt_93 E hM hq31 lk_6_7 dX12_tokenize_45 ?_
      obtain ⟨r33, hr34, hf⟩ := jb hf
      rw [hr34]
      show W p l e _ s m args below meth c H locs 0 0 _ (F0 m _ ls (.ref (g.2.2 + r33) :: _))
      refine lv_iload_n hx hb dX12_tokenize_48 rfl (lv_at hl 1 rfl) ?_
      obtain ⟨ha35, hf⟩ := jif hf
      refine jiald E hM ha35 dX12_tokenize_49 ?_
      refine lv_bipush (v := (32 : Int32)) hx hb dX12_tokenize_50 (by decide) ?_
      refine lv_icmp_eq (tgt := 66) hx hb dX12_tokenize_52 (by decide) (fun c36 => ?_) (fun c36 => ?_)
      · have hf := jt c36 hf
        exact B_X12_tokenize_66 E hk24 ih hf hM (lv_sub hl [0, 1] rfl)
      · have hf := jf c36 hf
        refine lv_aload_n hx hb dX12_tokenize_55 rfl (lv_at hl 0 rfl) ?_
        refine gt_93 E hM hq31 lk_6_7 dX12_tokenize_56 ?_
        obtain ⟨r37, hr38, hf⟩ := jb hf
        rw [hr38]
        show W p l e _ s m args below meth c H locs 0 0 _ (F0 m _ ls (.ref (g.2.2 + r37) :: _))
        refine lv_iload_n hx hb dX12_tokenize_59 rfl (lv_at hl 1 rfl) ?_
        obtain ⟨ha39, hf⟩ := jif hf
        refine jiald E hM ha39 dX12_tokenize_60 ?_
        refine lv_bipush (v := (10 : Int32)) hx hb dX12_tokenize_61 (by decide) ?_
        refine lv_icmp_ne (tgt := 72) hx hb dX12_tokenize_63 (by decide) (fun c40 => ?_) (fun c40 => ?_)
        · have hf := jf c40 hf
          exact B_X12_tokenize_72 E hk24 hf hM (lv_sub hl [0, 1] rfl)
        · have hf := jt c40 hf
          exact B_X12_tokenize_66 E hk24 ih hf hM (lv_sub hl [0, 1] rfl)
set_option maxRecDepth 100000 in
set_option maxHeartbeats 4000000 in
theorem B_X12_tokenize_24 {p : Program} {l : Launch} {e : Env} {s : State} {m : MethodId} {args : Array Value} {below : List Frame} {meth : Method} {c : Code} {g : jG} {SS : jM} (E : jEnv p s m args meth c cX12_tokenize "PensionHouseModel" none 3 g)  : ∀ (n : Nat) (v0 : Nat) (v1 : Int32) (v2 : Int32) (S : jM) (H : Heap) (locs : List Loc) (ls : Array Slot), f_X12_tokenize_24 n v0 v1 v2 S = some SS → jAt g S s H locs → lv_has ls 3 [(0, .ref (g.2.2 + v0)), (1, .int v1), (2, .int v2)] → W p l e (jRm 4 0 0) s m args below meth c H locs 0 0 (MQ below (jQv g SS) args s 0 0 (jA0 g)) (F0 m 24 ls []) := by
  obtain ⟨hx, hb, hml, -, hts, hown, hK, -, hstr⟩ := id E
  intro n
  induction n with
  | zero => intro v0 v1 v2 S H locs ls hf hM hl; rw [f_X12_tokenize_24] at hf; cases hf
  | succ n ih =>
    intro v0 v1 v2 S H locs ls hf hM hl
    rw [f_X12_tokenize_24] at hf
    refine lv_iload_n hx hb dX12_tokenize_24 rfl (lv_at hl 2 rfl) ?_
    refine lv_bipush (v := (43 : Int32)) hx hb dX12_tokenize_25 (by decide) ?_
    refine lv_icmp_eq (tgt := 153) hx hb dX12_tokenize_27 (by decide) (fun c41 => ?_) (fun c41 => ?_)
    · have hf := jt c41 hf
      exact B_X12_tokenize_153 E  hf hM (lv_sub hl [0] rfl)
    · have hf := jf c41 hf
      refine lv_iload_n hx hb dX12_tokenize_30 rfl (lv_at hl 2 rfl) ?_
      refine lv_bipush (v := (44 : Int32)) hx hb dX12_tokenize_31 (by decide) ?_
      refine lv_icmp_eq (tgt := 153) hx hb dX12_tokenize_33 (by decide) (fun c42 => ?_) (fun c42 => ?_)
      · have hf := jt c42 hf
        exact B_X12_tokenize_153 E  hf hM (lv_sub hl [0] rfl)
      · have hf := jf c42 hf
        exact B_X12_tokenize_36 E ih 1100000 v0 v1 S _ _ _ hf hM (lv_sub hl [0, 1] rfl)
set_option maxRecDepth 100000 in
set_option maxHeartbeats 4000000 in
theorem B_X12_tokenize_0 {p : Program} {l : Launch} {e : Env} {s : State} {m : MethodId} {args : Array Value} {below : List Frame} {meth : Method} {c : Code} {g : jG} {SS : jM} {v0 : Nat} {S : jM} (E : jEnv p s m args meth c cX12_tokenize "PensionHouseModel" none 3 g)  {H : Heap} {locs : List Loc} {ls : Array Slot} (hf : f_X12_tokenize v0 S = some SS) (hM : jAt g S s H locs) (hl : lv_has ls 3 [(0, .ref (g.2.2 + v0))]) : W p l e (jRm 4 0 0) s m args below meth c H locs 0 0 (MQ below (jQv g SS) args s 0 0 (jA0 g)) (F0 m 0 ls []) := by
  obtain ⟨hx, hb, hml, -, hts, hown, hK, -, hstr⟩ := id E
  unfold f_X12_tokenize at hf
  refine lv_iconst (v := (0 : Int32)) hx hb dX12_tokenize_0 (by decide) ?_
  refine lv_istore_n (lv' := [(1, .int (0 : Int32)), (0, .ref (g.2.2 + v0))]) hx hb dX12_tokenize_1 rfl hl (by decide) rfl (fun ls hl => ?_)
  refine lv_iconst (v := (0 : Int32)) hx hb dX12_tokenize_2 (by decide) ?_
  refine lv_istore_n (lv' := [(2, .int (0 : Int32)), (1, .int (0 : Int32)), (0, .ref (g.2.2 + v0))]) hx hb dX12_tokenize_3 rfl hl (by decide) rfl (fun ls hl => ?_)
  refine lv_aload_n hx hb dX12_tokenize_4 rfl (lv_at hl 2 rfl) ?_
  refine lv_iconst (v := (0 : Int32)) hx hb dX12_tokenize_5 (by decide) ?_
  obtain ⟨hq43, hf⟩ := jif hf
  refine pt_99 E hM hq43 lk_6_13 dX12_tokenize_6 (fun H locs S44 eS44 hM => ?_)
  have hf := jlet_y eS44 hf
  refine lv_aload_n hx hb dX12_tokenize_9 rfl (lv_at hl 2 rfl) ?_
  refine lv_iconst (v := (0 : Int32)) hx hb dX12_tokenize_10 (by decide) ?_
  refine pt_100 E hM hq43 lk_6_14 dX12_tokenize_11 (fun H locs S45 eS45 hM => ?_)
  have hf := jlet_y eS45 hf
  refine lv_aload_n hx hb dX12_tokenize_14 rfl (lv_at hl 2 rfl) ?_
  refine lv_iconst (v := (0 : Int32)) hx hb dX12_tokenize_15 (by decide) ?_
  refine pt_101 E hM hq43 lk_6_15 dX12_tokenize_16 (fun H locs S46 eS46 hM => ?_)
  have hf := jlet_y eS46 hf
  refine lv_aload_n hx hb dX12_tokenize_19 rfl (lv_at hl 2 rfl) ?_
  refine lv_iconst (v := (0 : Int32)) hx hb dX12_tokenize_20 (by decide) ?_
  refine pt_102 E hM hq43 lk_6_16 dX12_tokenize_21 (fun H locs S47 eS47 hM => ?_)
  have hf := jlet_y eS47 hf
  exact B_X12_tokenize_24 E  1100000 v0 (0 : Int32) (0 : Int32) S47 _ _ _ hf hM (lv_sub hl [2, 1, 0] rfl)
set_option maxRecDepth 100000 in
theorem C_X12_tokenize {l : Launch} {g : jG} {a0 : Nat} {S : jM} {SS : jM} (hf : f_X12_tokenize a0 S = some SS) : jMet l g yX12_tokenize cX12_tokenize 3 none 4 0 0 [.ref (g.2.2 + a0)] S (jQv g SS) := by
  refine jof (by decide +kernel) (Nat.le_of_ble_eq_true rfl) ?_
  intro p e s m below meth c E hM ls hl
  have hl : lv_has ls 3 [(0, .ref (g.2.2 + a0))] := hl
  exact B_X12_tokenize_0 E hf hM hl
-- PensionHouseModel.isDay(I)Z  mode P
noncomputable def f_X12_isDay (v0 : Int32) : Option Int32 := if jZ (f_X12_in (v0.toInt64) (0 : Int64) (389 : Int64)) = true then some (f_X12_in (v0.toInt64) (0 : Int64) (389 : Int64)) else none
set_option maxRecDepth 100000 in
set_option maxHeartbeats 4000000 in
theorem B_X12_isDay_0 {p : Program} {l : Launch} {e : Env} {s : State} {m : MethodId} {args : Array Value} {below : List Frame} {meth : Method} {c : Code} {g : jG} {rr : Int32} {S : jM} {v0 : Int32} (E : jEnv p s m args meth c cX12_isDay "PensionHouseModel" (some .boolean) 1 g)  {H : Heap} {locs : List Loc} {ls : Array Slot} (hf : f_X12_isDay v0 = some rr) (hM : jAt g S s H locs) (hl : lv_has ls 1 [(0, .int v0)]) : W p l e (jRm 2 0 0) s m args below meth c H locs 0 0 (MQ below (jQi g rr S) args s 0 0 (jA0 g)) (F0 m 0 ls []) := by
  obtain ⟨hx, hb, hml, -, hts, hown, hK, -, hstr⟩ := id E
  unfold f_X12_isDay at hf
  refine lv_iload_n hx hb dX12_isDay_0 rfl (lv_at hl 0 rfl) ?_
  refine lv_i2l hx hb dX12_isDay_1 rfl ?_
  refine lv_lconst (v := (0 : Int64)) hx hb dX12_isDay_2 (by decide) ?_
  refine lv_ldc2 (v := (389 : Int64)) hx hb hown (hts _ lk_7_47) dX12_isDay_3 ?_
  refine jbackI hM (jrunS E hM ci_X12_in (C_X12_in rfl) lk_7_36 hl.1 rfl rfl (Nat.le_of_ble_eq_true rfl) ⟨Nat.le_of_ble_eq_true rfl, Nat.le_of_ble_eq_true rfl⟩ ⟨Nat.le_refl _, Nat.le_refl _⟩ dX12_isDay_6) (fun H locs hM => ?_)
  obtain ⟨hz1, hf⟩ := jif hf
  exact jiretz (jr1 hf) E hM hz1 dX12_isDay_9
set_option maxRecDepth 100000 in
theorem C_X12_isDay {l : Launch} {g : jG} {a0 : Int32} {S : jM} {rr : Int32} (hf : f_X12_isDay a0 = some rr) : jMet l g yX12_isDay cX12_isDay 1 (some .boolean) 2 0 0 [.int a0] S (jQi g rr S) := by
  refine jof (by decide +kernel) (Nat.le_of_ble_eq_true rfl) ?_
  intro p e s m below meth c E hM ls hl
  have hl : lv_has ls 1 [(0, .int a0)] := hl
  exact B_X12_isDay_0 E hf hM hl
-- PensionHouseModel.slotOf(II)I  mode R
noncomputable def f_X12_slotOf_2 : Nat → Nat → Int32 → Int32 → Int32 → jM → Option Int32
  | 0, _, _, _, _, _ => none
  | n + 1, v0, v1, v2, v3, S => if jK v0 = 10 then (jR S 148 v0).bind (fun r2 => if jA r2 13 v1 = true then if (jAI S r2 (v1).toNatClampNeg) ≤ v3 then (jR S 148 v0).bind (fun r6 => if jA r6 13 v1 = true then if (jAI S r6 (v1).toNatClampNeg) = (8 : Int32) then some (-1 : Int32) else (jR S 148 v0).bind (fun r10 => if jA r10 13 v1 = true then some (((8 : Int32) * v1) + (jAI S r10 (v1).toNatClampNeg)) else none) else none) else (jR S 147 v0).bind (fun r13 => if jA r13 13 (((8 : Int32) * v1) + v3) = true then if (jAI S r13 (((8 : Int32) * v1) + v3).toNatClampNeg) = v2 then some (((8 : Int32) * v1) + v3) else jlet (v3 + (1 : Int32)) (fun x17 => (f_X12_slotOf_2 n) v0 v1 v2 x17 S) else none) else none) else none
noncomputable def f_X12_slotOf (v0 : Nat) (v1 : Int32) (v2 : Int32) (S : jM) : Option Int32 := f_X12_slotOf_2 1100000 v0 v1 v2 (0 : Int32) S
set_option maxRecDepth 100000 in
set_option maxHeartbeats 4000000 in
theorem B_X12_slotOf_2 {p : Program} {l : Launch} {e : Env} {s : State} {m : MethodId} {args : Array Value} {below : List Frame} {meth : Method} {c : Code} {g : jG} {rr : Int32} {S : jM} (E : jEnv p s m args meth c cX12_slotOf "PensionHouseModel" (some .int) 4 g)  : ∀ (n : Nat) (v0 : Nat) (v1 : Int32) (v2 : Int32) (v3 : Int32) (H : Heap) (locs : List Loc) (ls : Array Slot), f_X12_slotOf_2 n v0 v1 v2 v3 S = some rr → jAt g S s H locs → lv_has ls 4 [(0, .ref (g.2.2 + v0)), (1, .int v1), (2, .int v2), (3, .int v3)] → W p l e (jRm 1 0 0) s m args below meth c H locs 0 0 (MQ below (jQi g rr S) args s 0 0 (jA0 g)) (F0 m 2 ls []) := by
  obtain ⟨hx, hb, hml, -, hts, hown, hK, -, hstr⟩ := id E
  intro n
  induction n with
  | zero => intro v0 v1 v2 v3 H locs ls hf hM hl; rw [f_X12_slotOf_2] at hf; cases hf
  | succ n ih =>
    intro v0 v1 v2 v3 H locs ls hf hM hl
    rw [f_X12_slotOf_2] at hf
    refine lv_iload_n hx hb dX12_slotOf_2 rfl (lv_at hl 3 rfl) ?_
    refine lv_aload_n hx hb dX12_slotOf_3 rfl (lv_at hl 0 rfl) ?_
    obtain ⟨hq1, hf⟩ := jif hf
    refine gt_148 E hM hq1 lk_6_62 dX12_slotOf_4 ?_
    obtain ⟨r2, hr3, hf⟩ := jb hf
    rw [hr3]
    show W p l e _ s m args below meth c H locs 0 0 _ (F0 m _ ls (.ref (g.2.2 + r2) :: _))
    refine lv_iload_n hx hb dX12_slotOf_7 rfl (lv_at hl 1 rfl) ?_
    obtain ⟨ha4, hf⟩ := jif hf
    refine jiald E hM ha4 dX12_slotOf_8 ?_
    refine lv_icmp_ge (tgt := 40) hx hb dX12_slotOf_9 (by decide) (fun c5 => ?_) (fun c5 => ?_)
    · have hf := jt c5 hf
      refine lv_aload_n hx hb dX12_slotOf_40 rfl (lv_at hl 0 rfl) ?_
      refine gt_148 E hM hq1 lk_6_62 dX12_slotOf_41 ?_
      obtain ⟨r6, hr7, hf⟩ := jb hf
      rw [hr7]
      show W p l e _ s m args below meth c H locs 0 0 _ (F0 m _ ls (.ref (g.2.2 + r6) :: _))
      refine lv_iload_n hx hb dX12_slotOf_44 rfl (lv_at hl 1 rfl) ?_
      obtain ⟨ha8, hf⟩ := jif hf
      refine jiald E hM ha8 dX12_slotOf_45 ?_
      refine lv_bipush (v := (8 : Int32)) hx hb dX12_slotOf_46 (by decide) ?_
      refine lv_icmp_ne (tgt := 55) hx hb dX12_slotOf_48 (by decide) (fun c9 => ?_) (fun c9 => ?_)
      · have hf := jf c9 hf
        refine lv_bipush (v := (8 : Int32)) hx hb dX12_slotOf_55 (by decide) ?_
        refine lv_iload_n hx hb dX12_slotOf_57 rfl (lv_at hl 1 rfl) ?_
        refine lv_imul hx hb dX12_slotOf_58 ?_
        refine lv_aload_n hx hb dX12_slotOf_59 rfl (lv_at hl 0 rfl) ?_
        refine gt_148 E hM hq1 lk_6_62 dX12_slotOf_60 ?_
        obtain ⟨r10, hr11, hf⟩ := jb hf
        rw [hr11]
        show W p l e _ s m args below meth c H locs 0 0 _ (F0 m _ ls (.ref (g.2.2 + r10) :: _))
        refine lv_iload_n hx hb dX12_slotOf_63 rfl (lv_at hl 1 rfl) ?_
        obtain ⟨ha12, hf⟩ := jif hf
        refine jiald E hM ha12 dX12_slotOf_64 ?_
        refine lv_iadd hx hb dX12_slotOf_65 ?_
        exact jireti (jr1 hf) E hM dX12_slotOf_66
      · have hf := jt c9 hf
        refine lv_iconst (v := (-1 : Int32)) hx hb dX12_slotOf_51 (by decide) ?_
        refine lv_goto (tgt := 66) hx hb dX12_slotOf_52 (by decide) ?_
        exact jireti (jr1 hf) E hM dX12_slotOf_66
    · have hf := jf c5 hf
      refine lv_aload_n hx hb dX12_slotOf_12 rfl (lv_at hl 0 rfl) ?_
      refine gt_147 E hM hq1 lk_6_61 dX12_slotOf_13 ?_
      obtain ⟨r13, hr14, hf⟩ := jb hf
      rw [hr14]
      show W p l e _ s m args below meth c H locs 0 0 _ (F0 m _ ls (.ref (g.2.2 + r13) :: _))
      refine lv_bipush (v := (8 : Int32)) hx hb dX12_slotOf_16 (by decide) ?_
      refine lv_iload_n hx hb dX12_slotOf_18 rfl (lv_at hl 1 rfl) ?_
      refine lv_imul hx hb dX12_slotOf_19 ?_
      refine lv_iload_n hx hb dX12_slotOf_20 rfl (lv_at hl 3 rfl) ?_
      refine lv_iadd hx hb dX12_slotOf_21 ?_
      obtain ⟨ha15, hf⟩ := jif hf
      refine jiald E hM ha15 dX12_slotOf_22 ?_
      refine lv_iload_n hx hb dX12_slotOf_23 rfl (lv_at hl 2 rfl) ?_
      refine lv_icmp_ne (tgt := 34) hx hb dX12_slotOf_24 (by decide) (fun c16 => ?_) (fun c16 => ?_)
      · have hf := jf c16 hf
        obtain ⟨x17, ex17⟩ : ∃ z, z = v3 + (1 : Int32) := ⟨_, rfl⟩
        have hf := jlet_y ex17 hf
        refine lv_iinc (v := x17) (lv' := [(3, .int x17), (0, .ref (g.2.2 + v0)), (1, .int v1), (2, .int v2)]) hx hb dX12_slotOf_34 hl (k := 3) rfl (by rw [ex17]; rfl) (by decide) rfl (fun ls hl => ?_)
        refine lv_goto (tgt := 2) hx hb dX12_slotOf_37 (by decide) ?_
        exact ih v0 v1 v2 x17 _ _ _ hf hM (lv_sub hl [1, 2, 3, 0] rfl)
      · have hf := jt c16 hf
        refine lv_bipush (v := (8 : Int32)) hx hb dX12_slotOf_27 (by decide) ?_
        refine lv_iload_n hx hb dX12_slotOf_29 rfl (lv_at hl 1 rfl) ?_
        refine lv_imul hx hb dX12_slotOf_30 ?_
        refine lv_iload_n hx hb dX12_slotOf_31 rfl (lv_at hl 3 rfl) ?_
        refine lv_iadd hx hb dX12_slotOf_32 ?_
        exact jireti (jr1 hf) E hM dX12_slotOf_33
set_option maxRecDepth 100000 in
set_option maxHeartbeats 4000000 in
theorem B_X12_slotOf_0 {p : Program} {l : Launch} {e : Env} {s : State} {m : MethodId} {args : Array Value} {below : List Frame} {meth : Method} {c : Code} {g : jG} {rr : Int32} {S : jM} {v0 : Nat} {v1 : Int32} {v2 : Int32} (E : jEnv p s m args meth c cX12_slotOf "PensionHouseModel" (some .int) 4 g)  {H : Heap} {locs : List Loc} {ls : Array Slot} (hf : f_X12_slotOf v0 v1 v2 S = some rr) (hM : jAt g S s H locs) (hl : lv_has ls 4 [(0, .ref (g.2.2 + v0)), (1, .int v1), (2, .int v2)]) : W p l e (jRm 1 0 0) s m args below meth c H locs 0 0 (MQ below (jQi g rr S) args s 0 0 (jA0 g)) (F0 m 0 ls []) := by
  obtain ⟨hx, hb, hml, -, hts, hown, hK, -, hstr⟩ := id E
  unfold f_X12_slotOf at hf
  refine lv_iconst (v := (0 : Int32)) hx hb dX12_slotOf_0 (by decide) ?_
  refine lv_istore_n (lv' := [(3, .int (0 : Int32)), (0, .ref (g.2.2 + v0)), (1, .int v1), (2, .int v2)]) hx hb dX12_slotOf_1 rfl hl (by decide) rfl (fun ls hl => ?_)
  exact B_X12_slotOf_2 E  1100000 v0 v1 v2 (0 : Int32) _ _ _ hf hM (lv_sub hl [1, 2, 3, 0] rfl)
set_option maxRecDepth 100000 in
theorem C_X12_slotOf {l : Launch} {g : jG} {a0 : Nat} {a1 : Int32} {a2 : Int32} {S : jM} {rr : Int32} (hf : f_X12_slotOf a0 a1 a2 S = some rr) : jMet l g yX12_slotOf cX12_slotOf 4 (some .int) 1 0 0 [.ref (g.2.2 + a0), .int a1, .int a2] S (jQi g rr S) := by
  refine jof (by decide +kernel) (Nat.le_of_ble_eq_true rfl) ?_
  intro p e s m below meth c E hM ls hl
  have hl : lv_has ls 4 [(0, .ref (g.2.2 + a0)),(1, .int a1),(2, .int a2)] := hl
  exact B_X12_slotOf_0 E hf hM hl
-- PensionHouseModel.readText(I)V  mode M
noncomputable def f_X12_readText_221 (k29 : Nat → Int32 → jM → Option jM) (v0 : Nat) (v1 : Int32) (S : jM) : Option jM := k29 v0 v1 S
noncomputable def f_X12_readText_132 (k29 : Nat → Int32 → jM → Option jM) (v0 : Nat) (v1 : Int32) (S : jM) : Option jM := if jK v0 = 10 then (jR S 97 v0).bind (fun r2 => if jA r2 14 (jI S 100 v0) = true then jlet (jAL S r2 (jI S 100 v0).toNatClampNeg) (fun x5 => (f_X12_want v0 (40 : Int32) S).bind (fun S6 => (f_X12_want v0 (161 : Int32) S6).bind (fun S8 => jbd (f_X12_expression (g_E 300) v0 (0 : Int32) S8) (fun x10 S11 => (f_X12_want v0 (159 : Int32) S11).bind (fun S13 => if (jI S13 101 v0) = 0 then (jR S13 111 v0).bind (fun r16 => (jR S13 110 v0).bind (fun r18 => if jA r18 13 v1 = true then if jA r16 14 (((24 : Int32) * v1) + (jAI S13 r18 (v1).toNatClampNeg)) = true then jlet (jrL S13 r16 (vp_updL (jAL S13 r16) (((24 : Int32) * v1) + (jAI S13 r18 (v1).toNatClampNeg)).toNatClampNeg x5)) (fun S22 => (jR S22 112 v0).bind (fun r23 => (jR S22 110 v0).bind (fun r25 => if jA r25 13 v1 = true then if jA r23 13 (((24 : Int32) * v1) + (jAI S22 r25 (v1).toNatClampNeg)) = true then jlet (jrI S22 r23 (upd (jAI S22 r23) (((24 : Int32) * v1) + (jAI S22 r25 (v1).toNatClampNeg)).toNatClampNeg x10)) (fun S29 => (jR S29 110 v0).bind (fun r30 => if jA r30 13 v1 = true then if jA r30 13 v1 = true then jlet (jrI S29 r30 (upd (jAI S29 r30) (v1).toNatClampNeg ((jAI S29 r30 (v1).toNatClampNeg) + (1 : Int32)))) (fun S34 => f_X12_readText_221 k29 v0 v1 S34) else none else none)) else none else none))) else none else none)) else f_X12_readText_221 k29 v0 v1 S13))))) else none) else none
noncomputable def f_X12_readText_86 (k29 : Nat → Int32 → jM → Option jM) (v0 : Nat) (v1 : Int32) (S : jM) : Option jM := if jK v0 = 10 then (f_X12_want v0 (18 : Int32) S).bind (fun S35 => (f_X12_is v0 (40 : Int32) S35).bind (fun x38 => if x38 = 0 then f_X12_readText_132 k29 v0 v1 S35 else (jR S35 97 v0).bind (fun r41 => if jA r41 14 (jI S35 100 v0) = true then (f_X12_findRule v0 v1 (jAL S35 r41 (jI S35 100 v0).toNatClampNeg) S35).bind (fun x44 => if x44 < 0 then f_X12_readText_132 k29 v0 v1 S35 else (jR S35 96 v0).bind (fun r47 => if jA r47 13 (jI S35 100 v0) = true then (f_X12_fail v0 (3 : Int32) (jAI S35 r47 (jI S35 100 v0).toNatClampNeg) S35).bind (fun S50 => f_X12_readText_132 k29 v0 v1 S50) else none)) else none))) else none
noncomputable def f_X12_readText_29 : Nat → Nat → Int32 → jM → Option jM
  | 0, _, _, _ => none
  | n + 1, v0, v1, S => if jK v0 = 10 then if (jI S 101 v0) = 0 then (f_X12_now v0 S).bind (fun x54 => if x54 = (43 : Int32) then some S else (f_X12_now v0 S).bind (fun x57 => if x57 = (18 : Int32) then (jR S 110 v0).bind (fun r60 => if jA r60 13 v1 = true then if (jAI S r60 (v1).toNatClampNeg) = (24 : Int32) then (jR S 96 v0).bind (fun r64 => if jA r64 13 (jI S 100 v0) = true then (f_X12_fail v0 (4 : Int32) (jAI S r64 (jI S 100 v0).toNatClampNeg) S).bind (fun S67 => f_X12_readText_86 (f_X12_readText_29 n) v0 v1 S67) else none) else f_X12_readText_86 (f_X12_readText_29 n) v0 v1 S else none) else (f_X12_wrong v0 S).bind (fun S69 => f_X12_readText_86 (f_X12_readText_29 n) v0 v1 S69))) else some S else none
noncomputable def f_X12_readText (v0 : Nat) (v1 : Int32) (S : jM) : Option jM := if jK v0 = 10 then jlet (jsI S 113 v0 v1) (fun S72 => (jR S72 109 v0).bind (fun r73 => if jA r73 13 v1 = true then jlet (jrI S72 r73 (upd (jAI S72 r73) (v1).toNatClampNeg (0 : Int32))) (fun S76 => (jR S76 110 v0).bind (fun r77 => if jA r77 13 v1 = true then jlet (jrI S76 r77 (upd (jAI S76 r77) (v1).toNatClampNeg (0 : Int32))) (fun S80 => jlet (jsI S80 114 v0 (0 : Int32)) (fun S81 => jlet (jsI S81 117 v0 (0 : Int32)) (fun S82 => f_X12_readText_29 1100000 v0 v1 S82))) else none)) else none)) else none
set_option maxRecDepth 100000 in
set_option maxHeartbeats 4000000 in
theorem B_X12_readText_221 {p : Program} {l : Launch} {e : Env} {s : State} {m : MethodId} {args : Array Value} {below : List Frame} {meth : Method} {c : Code} {g : jG} {SS : jM} {v0 : Nat} {v1 : Int32} {S : jM} {k29 : Nat → Int32 → jM → Option jM} (E : jEnv p s m args meth c cX12_readText "PensionHouseModel" none 5 g) (hk29 : ∀ (v0 : Nat) (v1 : Int32) (S : jM) (H : Heap) (locs : List Loc) (ls : Array Slot), k29 v0 v1 S = some SS → jAt g S s H locs → lv_has ls 5 [(0, .ref (g.2.2 + v0)), (1, .int v1)] → W p l e (jRm 318 0 0) s m args below meth c H locs 0 0 (MQ below (jQv g SS) args s 0 0 (jA0 g)) (F0 m 29 ls [])) {H : Heap} {locs : List Loc} {ls : Array Slot} (hf : f_X12_readText_221 k29 v0 v1 S = some SS) (hM : jAt g S s H locs) (hl : lv_has ls 5 [(0, .ref (g.2.2 + v0)), (1, .int v1)]) : W p l e (jRm 318 0 0) s m args below meth c H locs 0 0 (MQ below (jQv g SS) args s 0 0 (jA0 g)) (F0 m 221 ls []) := by
  obtain ⟨hx, hb, hml, -, hts, hown, hK, -, hstr⟩ := id E
  unfold f_X12_readText_221 at hf
  refine lv_goto (tgt := 29) hx hb dX12_readText_221 (by decide) ?_
  exact hk29 v0 v1 S _ _ _ hf hM (lv_sub hl [0, 1] rfl)
set_option maxRecDepth 100000 in
set_option maxHeartbeats 4000000 in
theorem B_X12_readText_132 {p : Program} {l : Launch} {e : Env} {s : State} {m : MethodId} {args : Array Value} {below : List Frame} {meth : Method} {c : Code} {g : jG} {SS : jM} {v0 : Nat} {v1 : Int32} {S : jM} {k29 : Nat → Int32 → jM → Option jM} (E : jEnv p s m args meth c cX12_readText "PensionHouseModel" none 5 g) (hk29 : ∀ (v0 : Nat) (v1 : Int32) (S : jM) (H : Heap) (locs : List Loc) (ls : Array Slot), k29 v0 v1 S = some SS → jAt g S s H locs → lv_has ls 5 [(0, .ref (g.2.2 + v0)), (1, .int v1)] → W p l e (jRm 318 0 0) s m args below meth c H locs 0 0 (MQ below (jQv g SS) args s 0 0 (jA0 g)) (F0 m 29 ls [])) {H : Heap} {locs : List Loc} {ls : Array Slot} (hf : f_X12_readText_132 k29 v0 v1 S = some SS) (hM : jAt g S s H locs) (hl : lv_has ls 5 [(0, .ref (g.2.2 + v0)), (1, .int v1)]) : W p l e (jRm 318 0 0) s m args below meth c H locs 0 0 (MQ below (jQv g SS) args s 0 0 (jA0 g)) (F0 m 132 ls []) := by
  obtain ⟨hx, hb, hml, -, hts, hown, hK, -, hstr⟩ := id E
  unfold f_X12_readText_132 at hf
  refine lv_aload_n hx hb dX12_readText_132 rfl (lv_at hl 0 rfl) ?_
  obtain ⟨hq1, hf⟩ := jif hf
  refine gt_97 E hM hq1 lk_6_11 dX12_readText_133 ?_
  obtain ⟨r2, hr3, hf⟩ := jb hf
  rw [hr3]
  show W p l e _ s m args below meth c H locs 0 0 _ (F0 m _ ls (.ref (g.2.2 + r2) :: _))
  refine lv_aload_n hx hb dX12_readText_136 rfl (lv_at hl 0 rfl) ?_
  refine gt_100 E hM hq1 lk_6_14 dX12_readText_137 ?_
  obtain ⟨ha4, hf⟩ := jif hf
  refine jlald E hM ha4 dX12_readText_140 ?_
  refine lv_topl (fun x5 ex5 => ?_)
  have hf := jlet_y ex5 hf
  refine lv_lstore_n (lv' := [(2, .long x5), (0, .ref (g.2.2 + v0)), (1, .int v1)]) hx hb dX12_readText_141 rfl hl (by decide) rfl (fun ls hl => ?_)
  refine lv_aload_n hx hb dX12_readText_142 rfl (lv_at hl 1 rfl) ?_
  refine lv_bipush (v := (40 : Int32)) hx hb dX12_readText_143 (by decide) ?_
  obtain ⟨S6, hc7, hf⟩ := jb hf
  refine jbackV hM (jrunV E hM ci_X12_want (C_X12_want hc7) lk_7_221 hq1 (by decide) rfl hl.1 rfl rfl (Nat.le_of_ble_eq_true rfl) ⟨Nat.le_of_ble_eq_true rfl, Nat.le_of_ble_eq_true rfl⟩ ⟨Nat.le_refl _, Nat.le_refl _⟩ dX12_readText_145) (fun H locs hM => ?_)
  refine lv_aload_n hx hb dX12_readText_148 rfl (lv_at hl 1 rfl) ?_
  refine lv_sipush (v := (161 : Int32)) hx hb dX12_readText_149 (by decide) ?_
  obtain ⟨S8, hc9, hf⟩ := jb hf
  refine jbackV hM (jrunV E hM ci_X12_want (C_X12_want hc9) lk_7_221 hq1 (by decide) rfl hl.1 rfl rfl (Nat.le_of_ble_eq_true rfl) ⟨Nat.le_of_ble_eq_true rfl, Nat.le_of_ble_eq_true rfl⟩ ⟨Nat.le_refl _, Nat.le_refl _⟩ dX12_readText_152) (fun H locs hM => ?_)
  refine lv_aload_n hx hb dX12_readText_155 rfl (lv_at hl 1 rfl) ?_
  refine lv_iconst (v := (0 : Int32)) hx hb dX12_readText_156 (by decide) ?_
  obtain ⟨x10, S11, hc12, hf⟩ := jbd_e hf
  refine jbackI hM (jrunV E hM ci_X12_expression (C_X12_expression hc12) lk_7_233 hq1 (by decide) rfl hl.1 rfl rfl (Nat.le_of_ble_eq_true rfl) ⟨Nat.le_of_ble_eq_true rfl, Nat.le_of_ble_eq_true rfl⟩ ⟨Nat.le_refl _, Nat.le_refl _⟩ dX12_readText_157) (fun H locs hM => ?_)
  refine lv_istore (lv' := [(4, .int x10), (2, .long x5), (0, .ref (g.2.2 + v0)), (1, .int v1)]) hx hb dX12_readText_160 hl (by decide) rfl (fun ls hl => ?_)
  refine lv_aload_n hx hb dX12_readText_162 rfl (lv_at hl 2 rfl) ?_
  refine lv_sipush (v := (159 : Int32)) hx hb dX12_readText_163 (by decide) ?_
  obtain ⟨S13, hc14, hf⟩ := jb hf
  refine jbackV hM (jrunV E hM ci_X12_want (C_X12_want hc14) lk_7_221 hq1 (by decide) rfl hl.1 rfl rfl (Nat.le_of_ble_eq_true rfl) ⟨Nat.le_of_ble_eq_true rfl, Nat.le_of_ble_eq_true rfl⟩ ⟨Nat.le_refl _, Nat.le_refl _⟩ dX12_readText_166) (fun H locs hM => ?_)
  refine lv_aload_n hx hb dX12_readText_169 rfl (lv_at hl 2 rfl) ?_
  refine gt_101 E hM hq1 lk_6_15 dX12_readText_170 ?_
  refine lv_if_ne (tgt := 221) hx hb dX12_readText_173 (by decide) (fun c15 => ?_) (fun c15 => ?_)
  · have hf := jf c15 hf
    exact B_X12_readText_221 E hk29 hf hM (lv_sub hl [2, 3] rfl)
  · have hf := jt c15 hf
    refine lv_aload_n hx hb dX12_readText_176 rfl (lv_at hl 2 rfl) ?_
    refine gt_111 E hM hq1 lk_6_25 dX12_readText_177 ?_
    obtain ⟨r16, hr17, hf⟩ := jb hf
    rw [hr17]
    show W p l e _ s m args below meth c H locs 0 0 _ (F0 m _ ls (.ref (g.2.2 + r16) :: _))
    refine lv_bipush (v := (24 : Int32)) hx hb dX12_readText_180 (by decide) ?_
    refine lv_iload_n hx hb dX12_readText_182 rfl (lv_at hl 3 rfl) ?_
    refine lv_imul hx hb dX12_readText_183 ?_
    refine lv_aload_n hx hb dX12_readText_184 rfl (lv_at hl 2 rfl) ?_
    refine gt_110 E hM hq1 lk_6_24 dX12_readText_185 ?_
    obtain ⟨r18, hr19, hf⟩ := jb hf
    rw [hr19]
    show W p l e _ s m args below meth c H locs 0 0 _ (F0 m _ ls (.ref (g.2.2 + r18) :: _))
    refine lv_iload_n hx hb dX12_readText_188 rfl (lv_at hl 3 rfl) ?_
    obtain ⟨ha20, hf⟩ := jif hf
    refine jiald E hM ha20 dX12_readText_189 ?_
    refine lv_iadd hx hb dX12_readText_190 ?_
    refine lv_lload_n hx hb dX12_readText_191 rfl (lv_at hl 1 rfl) ?_
    obtain ⟨ha21, hf⟩ := jif hf
    refine jlast E hM ha21 dX12_readText_192 (fun H locs S22 eS22 hM => ?_)
    have hf := jlet_y eS22 hf
    refine lv_aload_n hx hb dX12_readText_193 rfl (lv_at hl 2 rfl) ?_
    refine gt_112 E hM hq1 lk_6_26 dX12_readText_194 ?_
    obtain ⟨r23, hr24, hf⟩ := jb hf
    rw [hr24]
    show W p l e _ s m args below meth c H locs 0 0 _ (F0 m _ ls (.ref (g.2.2 + r23) :: _))
    refine lv_bipush (v := (24 : Int32)) hx hb dX12_readText_197 (by decide) ?_
    refine lv_iload_n hx hb dX12_readText_199 rfl (lv_at hl 3 rfl) ?_
    refine lv_imul hx hb dX12_readText_200 ?_
    refine lv_aload_n hx hb dX12_readText_201 rfl (lv_at hl 2 rfl) ?_
    refine gt_110 E hM hq1 lk_6_24 dX12_readText_202 ?_
    obtain ⟨r25, hr26, hf⟩ := jb hf
    rw [hr26]
    show W p l e _ s m args below meth c H locs 0 0 _ (F0 m _ ls (.ref (g.2.2 + r25) :: _))
    refine lv_iload_n hx hb dX12_readText_205 rfl (lv_at hl 3 rfl) ?_
    obtain ⟨ha27, hf⟩ := jif hf
    refine jiald E hM ha27 dX12_readText_206 ?_
    refine lv_iadd hx hb dX12_readText_207 ?_
    refine lv_iload hx hb dX12_readText_208 (lv_at hl 0 rfl) ?_
    obtain ⟨ha28, hf⟩ := jif hf
    refine jiast E hM ha28 dX12_readText_210 (fun H locs S29 eS29 hM => ?_)
    have hf := jlet_y eS29 hf
    refine lv_aload_n hx hb dX12_readText_211 rfl (lv_at hl 2 rfl) ?_
    refine gt_110 E hM hq1 lk_6_24 dX12_readText_212 ?_
    obtain ⟨r30, hr31, hf⟩ := jb hf
    rw [hr31]
    show W p l e _ s m args below meth c H locs 0 0 _ (F0 m _ ls (.ref (g.2.2 + r30) :: _))
    refine lv_iload_n hx hb dX12_readText_215 rfl (lv_at hl 3 rfl) ?_
    refine lv_dup2_11 hx hb dX12_readText_216 rfl rfl ?_
    obtain ⟨ha32, hf⟩ := jif hf
    refine jiald E hM ha32 dX12_readText_217 ?_
    refine lv_iconst (v := (1 : Int32)) hx hb dX12_readText_218 (by decide) ?_
    refine lv_iadd hx hb dX12_readText_219 ?_
    obtain ⟨ha33, hf⟩ := jif hf
    refine jiast E hM ha33 dX12_readText_220 (fun H locs S34 eS34 hM => ?_)
    have hf := jlet_y eS34 hf
    exact B_X12_readText_221 E hk29 hf hM (lv_sub hl [2, 3] rfl)
set_option maxRecDepth 100000 in
set_option maxHeartbeats 4000000 in
theorem B_X12_readText_86 {p : Program} {l : Launch} {e : Env} {s : State} {m : MethodId} {args : Array Value} {below : List Frame} {meth : Method} {c : Code} {g : jG} {SS : jM} {v0 : Nat} {v1 : Int32} {S : jM} {k29 : Nat → Int32 → jM → Option jM} (E : jEnv p s m args meth c cX12_readText "PensionHouseModel" none 5 g) (hk29 : ∀ (v0 : Nat) (v1 : Int32) (S : jM) (H : Heap) (locs : List Loc) (ls : Array Slot), k29 v0 v1 S = some SS → jAt g S s H locs → lv_has ls 5 [(0, .ref (g.2.2 + v0)), (1, .int v1)] → W p l e (jRm 318 0 0) s m args below meth c H locs 0 0 (MQ below (jQv g SS) args s 0 0 (jA0 g)) (F0 m 29 ls [])) {H : Heap} {locs : List Loc} {ls : Array Slot} (hf : f_X12_readText_86 k29 v0 v1 S = some SS) (hM : jAt g S s H locs) (hl : lv_has ls 5 [(0, .ref (g.2.2 + v0)), (1, .int v1)]) : W p l e (jRm 318 0 0) s m args below meth c H locs 0 0 (MQ below (jQv g SS) args s 0 0 (jA0 g)) (F0 m 86 ls []) := by
  obtain ⟨hx, hb, hml, -, hts, hown, hK, -, hstr⟩ := id E
  unfold f_X12_readText_86 at hf
  refine lv_aload_n hx hb dX12_readText_86 rfl (lv_at hl 0 rfl) ?_
  refine lv_bipush (v := (18 : Int32)) hx hb dX12_readText_87 (by decide) ?_
  obtain ⟨hq37, hf⟩ := jif hf
  obtain ⟨S35, hc36, hf⟩ := jb hf
  refine jbackV hM (jrunV E hM ci_X12_want (C_X12_want hc36) lk_7_221 hq37 (by decide) rfl hl.1 rfl rfl (Nat.le_of_ble_eq_true rfl) ⟨Nat.le_of_ble_eq_true rfl, Nat.le_of_ble_eq_true rfl⟩ ⟨Nat.le_refl _, Nat.le_refl _⟩ dX12_readText_89) (fun H locs hM => ?_)
  refine lv_aload_n hx hb dX12_readText_92 rfl (lv_at hl 0 rfl) ?_
  refine lv_bipush (v := (40 : Int32)) hx hb dX12_readText_93 (by decide) ?_
  obtain ⟨x38, hc39, hf⟩ := jb hf
  refine jbackI hM (jrunV E hM ci_X12_is (C_X12_is hc39) lk_7_225 hq37 (by decide) rfl hl.1 rfl rfl (Nat.le_of_ble_eq_true rfl) ⟨Nat.le_of_ble_eq_true rfl, Nat.le_of_ble_eq_true rfl⟩ ⟨Nat.le_refl _, Nat.le_refl _⟩ dX12_readText_95) (fun H locs hM => ?_)
  refine lv_if_eq (tgt := 132) hx hb dX12_readText_98 (by decide) (fun c40 => ?_) (fun c40 => ?_)
  · have hf := jt c40 hf
    exact B_X12_readText_132 E hk29 hf hM (lv_sub hl [0, 1] rfl)
  · have hf := jf c40 hf
    refine lv_aload_n hx hb dX12_readText_101 rfl (lv_at hl 0 rfl) ?_
    refine lv_iload_n hx hb dX12_readText_102 rfl (lv_at hl 1 rfl) ?_
    refine lv_aload_n hx hb dX12_readText_103 rfl (lv_at hl 0 rfl) ?_
    refine gt_97 E hM hq37 lk_6_11 dX12_readText_104 ?_
    obtain ⟨r41, hr42, hf⟩ := jb hf
    rw [hr42]
    show W p l e _ s m args below meth c H locs 0 0 _ (F0 m _ ls (.ref (g.2.2 + r41) :: _))
    refine lv_aload_n hx hb dX12_readText_107 rfl (lv_at hl 0 rfl) ?_
    refine gt_100 E hM hq37 lk_6_14 dX12_readText_108 ?_
    obtain ⟨ha43, hf⟩ := jif hf
    refine jlald E hM ha43 dX12_readText_111 ?_
    obtain ⟨x44, hc45, hf⟩ := jb hf
    refine jbackI hM (jrunV E hM ci_X12_findRule (C_X12_findRule hc45) lk_7_229 hq37 (by decide) rfl hl.1 rfl rfl (Nat.le_of_ble_eq_true rfl) ⟨Nat.le_of_ble_eq_true rfl, Nat.le_of_ble_eq_true rfl⟩ ⟨Nat.le_refl _, Nat.le_refl _⟩ dX12_readText_112) (fun H locs hM => ?_)
    refine lv_if_lt (tgt := 132) hx hb dX12_readText_115 (by decide) (fun c46 => ?_) (fun c46 => ?_)
    · have hf := jt c46 hf
      exact B_X12_readText_132 E hk29 hf hM (lv_sub hl [0, 1] rfl)
    · have hf := jf c46 hf
      refine lv_aload_n hx hb dX12_readText_118 rfl (lv_at hl 0 rfl) ?_
      refine lv_iconst (v := (3 : Int32)) hx hb dX12_readText_119 (by decide) ?_
      refine lv_aload_n hx hb dX12_readText_120 rfl (lv_at hl 0 rfl) ?_
      refine gt_96 E hM hq37 lk_6_10 dX12_readText_121 ?_
      obtain ⟨r47, hr48, hf⟩ := jb hf
      rw [hr48]
      show W p l e _ s m args below meth c H locs 0 0 _ (F0 m _ ls (.ref (g.2.2 + r47) :: _))
      refine lv_aload_n hx hb dX12_readText_124 rfl (lv_at hl 0 rfl) ?_
      refine gt_100 E hM hq37 lk_6_14 dX12_readText_125 ?_
      obtain ⟨ha49, hf⟩ := jif hf
      refine jiald E hM ha49 dX12_readText_128 ?_
      obtain ⟨S50, hc51, hf⟩ := jb hf
      refine jbackV hM (jrunV E hM ci_X12_fail (C_X12_fail hc51) lk_7_217 hq37 (by decide) rfl hl.1 rfl rfl (Nat.le_of_ble_eq_true rfl) ⟨Nat.le_of_ble_eq_true rfl, Nat.le_of_ble_eq_true rfl⟩ ⟨Nat.le_refl _, Nat.le_refl _⟩ dX12_readText_129) (fun H locs hM => ?_)
      exact B_X12_readText_132 E hk29 hf hM (lv_sub hl [0, 1] rfl)
set_option maxRecDepth 100000 in
set_option maxHeartbeats 4000000 in
theorem B_X12_readText_29 {p : Program} {l : Launch} {e : Env} {s : State} {m : MethodId} {args : Array Value} {below : List Frame} {meth : Method} {c : Code} {g : jG} {SS : jM} (E : jEnv p s m args meth c cX12_readText "PensionHouseModel" none 5 g)  : ∀ (n : Nat) (v0 : Nat) (v1 : Int32) (S : jM) (H : Heap) (locs : List Loc) (ls : Array Slot), f_X12_readText_29 n v0 v1 S = some SS → jAt g S s H locs → lv_has ls 5 [(0, .ref (g.2.2 + v0)), (1, .int v1)] → W p l e (jRm 318 0 0) s m args below meth c H locs 0 0 (MQ below (jQv g SS) args s 0 0 (jA0 g)) (F0 m 29 ls []) := by
  obtain ⟨hx, hb, hml, -, hts, hown, hK, -, hstr⟩ := id E
  intro n
  induction n with
  | zero => intro v0 v1 S H locs ls hf hM hl; rw [f_X12_readText_29] at hf; cases hf
  | succ n ih =>
    intro v0 v1 S H locs ls hf hM hl
    rw [f_X12_readText_29] at hf
    refine lv_aload_n hx hb dX12_readText_29 rfl (lv_at hl 0 rfl) ?_
    obtain ⟨hq52, hf⟩ := jif hf
    refine gt_101 E hM hq52 lk_6_15 dX12_readText_30 ?_
    refine lv_if_ne (tgt := 224) hx hb dX12_readText_33 (by decide) (fun c53 => ?_) (fun c53 => ?_)
    · have hf := jf c53 hf
      exact jvret (jrv hf) E hM dX12_readText_224
    · have hf := jt c53 hf
      refine lv_aload_n hx hb dX12_readText_36 rfl (lv_at hl 0 rfl) ?_
      obtain ⟨x54, hc55, hf⟩ := jb hf
      refine jbackI hM (jrunV E hM ci_X12_now (C_X12_now hc55) lk_7_209 hq52 (by decide) rfl hl.1 rfl rfl (Nat.le_of_ble_eq_true rfl) ⟨Nat.le_of_ble_eq_true rfl, Nat.le_of_ble_eq_true rfl⟩ ⟨Nat.le_refl _, Nat.le_refl _⟩ dX12_readText_37) (fun H locs hM => ?_)
      refine lv_bipush (v := (43 : Int32)) hx hb dX12_readText_40 (by decide) ?_
      refine lv_icmp_eq (tgt := 224) hx hb dX12_readText_42 (by decide) (fun c56 => ?_) (fun c56 => ?_)
      · have hf := jt c56 hf
        exact jvret (jrv hf) E hM dX12_readText_224
      · have hf := jf c56 hf
        refine lv_aload_n hx hb dX12_readText_45 rfl (lv_at hl 0 rfl) ?_
        obtain ⟨x57, hc58, hf⟩ := jb hf
        refine jbackI hM (jrunV E hM ci_X12_now (C_X12_now hc58) lk_7_209 hq52 (by decide) rfl hl.1 rfl rfl (Nat.le_of_ble_eq_true rfl) ⟨Nat.le_of_ble_eq_true rfl, Nat.le_of_ble_eq_true rfl⟩ ⟨Nat.le_refl _, Nat.le_refl _⟩ dX12_readText_46) (fun H locs hM => ?_)
        refine lv_bipush (v := (18 : Int32)) hx hb dX12_readText_49 (by decide) ?_
        refine lv_icmp_eq (tgt := 61) hx hb dX12_readText_51 (by decide) (fun c59 => ?_) (fun c59 => ?_)
        · have hf := jt c59 hf
          refine lv_aload_n hx hb dX12_readText_61 rfl (lv_at hl 0 rfl) ?_
          refine gt_110 E hM hq52 lk_6_24 dX12_readText_62 ?_
          obtain ⟨r60, hr61, hf⟩ := jb hf
          rw [hr61]
          show W p l e _ s m args below meth c H locs 0 0 _ (F0 m _ ls (.ref (g.2.2 + r60) :: _))
          refine lv_iload_n hx hb dX12_readText_65 rfl (lv_at hl 1 rfl) ?_
          obtain ⟨ha62, hf⟩ := jif hf
          refine jiald E hM ha62 dX12_readText_66 ?_
          refine lv_bipush (v := (24 : Int32)) hx hb dX12_readText_67 (by decide) ?_
          refine lv_icmp_ne (tgt := 86) hx hb dX12_readText_69 (by decide) (fun c63 => ?_) (fun c63 => ?_)
          · have hf := jf c63 hf
            exact B_X12_readText_86 E ih hf hM (lv_sub hl [0, 1] rfl)
          · have hf := jt c63 hf
            refine lv_aload_n hx hb dX12_readText_72 rfl (lv_at hl 0 rfl) ?_
            refine lv_iconst (v := (4 : Int32)) hx hb dX12_readText_73 (by decide) ?_
            refine lv_aload_n hx hb dX12_readText_74 rfl (lv_at hl 0 rfl) ?_
            refine gt_96 E hM hq52 lk_6_10 dX12_readText_75 ?_
            obtain ⟨r64, hr65, hf⟩ := jb hf
            rw [hr65]
            show W p l e _ s m args below meth c H locs 0 0 _ (F0 m _ ls (.ref (g.2.2 + r64) :: _))
            refine lv_aload_n hx hb dX12_readText_78 rfl (lv_at hl 0 rfl) ?_
            refine gt_100 E hM hq52 lk_6_14 dX12_readText_79 ?_
            obtain ⟨ha66, hf⟩ := jif hf
            refine jiald E hM ha66 dX12_readText_82 ?_
            obtain ⟨S67, hc68, hf⟩ := jb hf
            refine jbackV hM (jrunV E hM ci_X12_fail (C_X12_fail hc68) lk_7_217 hq52 (by decide) rfl hl.1 rfl rfl (Nat.le_of_ble_eq_true rfl) ⟨Nat.le_of_ble_eq_true rfl, Nat.le_of_ble_eq_true rfl⟩ ⟨Nat.le_refl _, Nat.le_refl _⟩ dX12_readText_83) (fun H locs hM => ?_)
            exact B_X12_readText_86 E ih hf hM (lv_sub hl [0, 1] rfl)
        · have hf := jf c59 hf
          refine lv_aload_n hx hb dX12_readText_54 rfl (lv_at hl 0 rfl) ?_
          obtain ⟨S69, hc70, hf⟩ := jb hf
          refine jbackV hM (jrunV E hM ci_X12_wrong (C_X12_wrong hc70) lk_7_213 hq52 (by decide) rfl hl.1 rfl rfl (Nat.le_of_ble_eq_true rfl) ⟨Nat.le_of_ble_eq_true rfl, Nat.le_of_ble_eq_true rfl⟩ ⟨Nat.le_refl _, Nat.le_refl _⟩ dX12_readText_55) (fun H locs hM => ?_)
          refine lv_goto (tgt := 86) hx hb dX12_readText_58 (by decide) ?_
          exact B_X12_readText_86 E ih hf hM (lv_sub hl [0, 1] rfl)
set_option maxRecDepth 100000 in
set_option maxHeartbeats 4000000 in
theorem B_X12_readText_0 {p : Program} {l : Launch} {e : Env} {s : State} {m : MethodId} {args : Array Value} {below : List Frame} {meth : Method} {c : Code} {g : jG} {SS : jM} {v0 : Nat} {v1 : Int32} {S : jM} (E : jEnv p s m args meth c cX12_readText "PensionHouseModel" none 5 g)  {H : Heap} {locs : List Loc} {ls : Array Slot} (hf : f_X12_readText v0 v1 S = some SS) (hM : jAt g S s H locs) (hl : lv_has ls 5 [(0, .ref (g.2.2 + v0)), (1, .int v1)]) : W p l e (jRm 318 0 0) s m args below meth c H locs 0 0 (MQ below (jQv g SS) args s 0 0 (jA0 g)) (F0 m 0 ls []) := by
  obtain ⟨hx, hb, hml, -, hts, hown, hK, -, hstr⟩ := id E
  unfold f_X12_readText at hf
  refine lv_aload_n hx hb dX12_readText_0 rfl (lv_at hl 0 rfl) ?_
  refine lv_iload_n hx hb dX12_readText_1 rfl (lv_at hl 1 rfl) ?_
  obtain ⟨hq71, hf⟩ := jif hf
  refine pt_113 E hM hq71 lk_6_27 dX12_readText_2 (fun H locs S72 eS72 hM => ?_)
  have hf := jlet_y eS72 hf
  refine lv_aload_n hx hb dX12_readText_5 rfl (lv_at hl 0 rfl) ?_
  refine gt_109 E hM hq71 lk_6_23 dX12_readText_6 ?_
  obtain ⟨r73, hr74, hf⟩ := jb hf
  rw [hr74]
  show W p l e _ s m args below meth c H locs 0 0 _ (F0 m _ ls (.ref (g.2.2 + r73) :: _))
  refine lv_iload_n hx hb dX12_readText_9 rfl (lv_at hl 1 rfl) ?_
  refine lv_iconst (v := (0 : Int32)) hx hb dX12_readText_10 (by decide) ?_
  obtain ⟨ha75, hf⟩ := jif hf
  refine jiast E hM ha75 dX12_readText_11 (fun H locs S76 eS76 hM => ?_)
  have hf := jlet_y eS76 hf
  refine lv_aload_n hx hb dX12_readText_12 rfl (lv_at hl 0 rfl) ?_
  refine gt_110 E hM hq71 lk_6_24 dX12_readText_13 ?_
  obtain ⟨r77, hr78, hf⟩ := jb hf
  rw [hr78]
  show W p l e _ s m args below meth c H locs 0 0 _ (F0 m _ ls (.ref (g.2.2 + r77) :: _))
  refine lv_iload_n hx hb dX12_readText_16 rfl (lv_at hl 1 rfl) ?_
  refine lv_iconst (v := (0 : Int32)) hx hb dX12_readText_17 (by decide) ?_
  obtain ⟨ha79, hf⟩ := jif hf
  refine jiast E hM ha79 dX12_readText_18 (fun H locs S80 eS80 hM => ?_)
  have hf := jlet_y eS80 hf
  refine lv_aload_n hx hb dX12_readText_19 rfl (lv_at hl 0 rfl) ?_
  refine lv_iconst (v := (0 : Int32)) hx hb dX12_readText_20 (by decide) ?_
  refine pt_114 E hM hq71 lk_6_28 dX12_readText_21 (fun H locs S81 eS81 hM => ?_)
  have hf := jlet_y eS81 hf
  refine lv_aload_n hx hb dX12_readText_24 rfl (lv_at hl 0 rfl) ?_
  refine lv_iconst (v := (0 : Int32)) hx hb dX12_readText_25 (by decide) ?_
  refine pt_117 E hM hq71 lk_6_31 dX12_readText_26 (fun H locs S82 eS82 hM => ?_)
  have hf := jlet_y eS82 hf
  exact B_X12_readText_29 E  1100000 v0 v1 S82 _ _ _ hf hM (lv_sub hl [0, 1] rfl)
set_option maxRecDepth 100000 in
theorem C_X12_readText {l : Launch} {g : jG} {a0 : Nat} {a1 : Int32} {S : jM} {SS : jM} (hf : f_X12_readText a0 a1 S = some SS) : jMet l g yX12_readText cX12_readText 5 none 318 0 0 [.ref (g.2.2 + a0), .int a1] S (jQv g SS) := by
  refine jof (by decide +kernel) (Nat.le_of_ble_eq_true rfl) ?_
  intro p e s m below meth c E hM ls hl
  have hl : lv_has ls 5 [(0, .ref (g.2.2 + a0)),(1, .int a1)] := hl
  exact B_X12_readText_0 E hf hM hl
-- PensionHouseModel.toldText()I  mode M
noncomputable def f_X12_toldText (v0 : Nat) (S : jM) : Option (Int32 × jM) := if jK v0 = 10 then jlet (jsI S 149 v0 (jI S 101 v0)) (fun S2 => some ((-10 : Int32) - (jI S2 102 v0), S2)) else none
set_option maxRecDepth 100000 in
set_option maxHeartbeats 4000000 in
theorem B_X12_toldText_0 {p : Program} {l : Launch} {e : Env} {s : State} {m : MethodId} {args : Array Value} {below : List Frame} {meth : Method} {c : Code} {g : jG} {rr : Int32} {SS : jM} {v0 : Nat} {S : jM} (E : jEnv p s m args meth c cX12_toldText "PensionHouseModel" (some .int) 1 g)  {H : Heap} {locs : List Loc} {ls : Array Slot} (hf : f_X12_toldText v0 S = some (rr, SS)) (hM : jAt g S s H locs) (hl : lv_has ls 1 [(0, .ref (g.2.2 + v0))]) : W p l e (jRm 1 0 0) s m args below meth c H locs 0 0 (MQ below (jQi g rr SS) args s 0 0 (jA0 g)) (F0 m 0 ls []) := by
  obtain ⟨hx, hb, hml, -, hts, hown, hK, -, hstr⟩ := id E
  unfold f_X12_toldText at hf
  refine lv_aload_n hx hb dX12_toldText_0 rfl (lv_at hl 0 rfl) ?_
  refine lv_aload_n hx hb dX12_toldText_1 rfl (lv_at hl 0 rfl) ?_
  obtain ⟨hq1, hf⟩ := jif hf
  refine gt_101 E hM hq1 lk_6_15 dX12_toldText_2 ?_
  refine pt_149 E hM hq1 lk_6_63 dX12_toldText_5 (fun H locs S2 eS2 hM => ?_)
  have hf := jlet_y eS2 hf
  refine lv_bipush (v := (-10 : Int32)) hx hb dX12_toldText_8 (by decide) ?_
  refine lv_aload_n hx hb dX12_toldText_10 rfl (lv_at hl 0 rfl) ?_
  refine gt_102 E hM hq1 lk_6_16 dX12_toldText_11 ?_
  refine lv_isub hx hb dX12_toldText_14 ?_
  exact jireti (jr2 hf) E hM dX12_toldText_15
set_option maxRecDepth 100000 in
theorem C_X12_toldText {l : Launch} {g : jG} {a0 : Nat} {S : jM} {rr : Int32} {SS : jM} (hf : f_X12_toldText a0 S = some (rr, SS)) : jMet l g yX12_toldText cX12_toldText 1 (some .int) 1 0 0 [.ref (g.2.2 + a0)] S (jQi g rr SS) := by
  refine jof (by decide +kernel) (Nat.le_of_ble_eq_true rfl) ?_
  intro p e s m below meth c E hM ls hl
  have hl : lv_has ls 1 [(0, .ref (g.2.2 + a0))] := hl
  exact B_X12_toldText_0 E hf hM hl
-- PensionHouseModel.edition(II)I  mode M
noncomputable def f_X12_edition_106 (v0 : Nat) (v2 : Int32) (v3 : Int32) (S : jM) : Option (Int32 × jM) := if jK v0 = 10 then (jR S 147 v0).bind (fun r2 => if jA r2 13 v3 = true then jlet (jrI S r2 (upd (jAI S r2) (v3).toNatClampNeg v2)) (fun S5 => (jR S5 110 v0).bind (fun r6 => if jA r6 13 v3 = true then some (jAI S5 r6 (v3).toNatClampNeg, S5) else none)) else none) else none
noncomputable def f_X12_edition (v0 : Nat) (v1 : Int32) (v2 : Int32) (S : jM) : Option (Int32 × jM) := if jK v0 = 10 then (f_X12_tokenize v0 S).bind (fun S9 => if (f_X12_in (v1.toInt64) (0 : Int64) (3 : Int64)) = 0 then some ((-2 : Int32), S9) else (f_X12_isDay v2).bind (fun x13 => if x13 = 0 then some ((-3 : Int32), S9) else (f_X12_slotOf v0 v1 v2 S9).bind (fun x16 => if 0 ≤ x16 then (f_X12_readText v0 (32 : Int32) S9).bind (fun S19 => if (jI S19 101 v0) ≤ 0 then jlet (jsI S19 149 v0 (0 : Int32)) (fun S22 => jlet (jsI S22 100 v0 (0 : Int32)) (fun S23 => jlet (jsI S23 101 v0 (0 : Int32)) (fun S24 => (f_X12_readText v0 x16 S24).bind (fun S25 => (jR S25 148 v0).bind (fun r27 => if jA r27 13 v1 = true then if x16 = (((8 : Int32) * v1) + (jAI S25 r27 (v1).toNatClampNeg)) then (jR S25 148 v0).bind (fun r31 => if jA r31 13 v1 = true then if jA r31 13 v1 = true then jlet (jrI S25 r31 (upd (jAI S25 r31) (v1).toNatClampNeg ((jAI S25 r31 (v1).toNatClampNeg) + (1 : Int32)))) (fun S35 => f_X12_edition_106 v0 v2 x16 S35) else none else none) else f_X12_edition_106 v0 v2 x16 S25 else none))))) else jbd (f_X12_toldText v0 S19) (fun x36 S37 => some (x36, S37))) else some ((-5 : Int32), S9)))) else none
set_option maxRecDepth 100000 in
set_option maxHeartbeats 4000000 in
theorem B_X12_edition_106 {p : Program} {l : Launch} {e : Env} {s : State} {m : MethodId} {args : Array Value} {below : List Frame} {meth : Method} {c : Code} {g : jG} {rr : Int32} {SS : jM} {v0 : Nat} {v2 : Int32} {v3 : Int32} {S : jM} (E : jEnv p s m args meth c cX12_edition "PensionHouseModel" (some .int) 4 g)  {H : Heap} {locs : List Loc} {ls : Array Slot} (hf : f_X12_edition_106 v0 v2 v3 S = some (rr, SS)) (hM : jAt g S s H locs) (hl : lv_has ls 4 [(0, .ref (g.2.2 + v0)), (2, .int v2), (3, .int v3)]) : W p l e (jRm 319 0 0) s m args below meth c H locs 0 0 (MQ below (jQi g rr SS) args s 0 0 (jA0 g)) (F0 m 106 ls []) := by
  obtain ⟨hx, hb, hml, -, hts, hown, hK, -, hstr⟩ := id E
  unfold f_X12_edition_106 at hf
  refine lv_aload_n hx hb dX12_edition_106 rfl (lv_at hl 0 rfl) ?_
  obtain ⟨hq1, hf⟩ := jif hf
  refine gt_147 E hM hq1 lk_6_61 dX12_edition_107 ?_
  obtain ⟨r2, hr3, hf⟩ := jb hf
  rw [hr3]
  show W p l e _ s m args below meth c H locs 0 0 _ (F0 m _ ls (.ref (g.2.2 + r2) :: _))
  refine lv_iload_n hx hb dX12_edition_110 rfl (lv_at hl 2 rfl) ?_
  refine lv_iload_n hx hb dX12_edition_111 rfl (lv_at hl 1 rfl) ?_
  obtain ⟨ha4, hf⟩ := jif hf
  refine jiast E hM ha4 dX12_edition_112 (fun H locs S5 eS5 hM => ?_)
  have hf := jlet_y eS5 hf
  refine lv_aload_n hx hb dX12_edition_113 rfl (lv_at hl 0 rfl) ?_
  refine gt_110 E hM hq1 lk_6_24 dX12_edition_114 ?_
  obtain ⟨r6, hr7, hf⟩ := jb hf
  rw [hr7]
  show W p l e _ s m args below meth c H locs 0 0 _ (F0 m _ ls (.ref (g.2.2 + r6) :: _))
  refine lv_iload_n hx hb dX12_edition_117 rfl (lv_at hl 2 rfl) ?_
  obtain ⟨ha8, hf⟩ := jif hf
  refine jiald E hM ha8 dX12_edition_118 ?_
  exact jireti (jr2 hf) E hM dX12_edition_119
set_option maxRecDepth 100000 in
set_option maxHeartbeats 4000000 in
theorem B_X12_edition_0 {p : Program} {l : Launch} {e : Env} {s : State} {m : MethodId} {args : Array Value} {below : List Frame} {meth : Method} {c : Code} {g : jG} {rr : Int32} {SS : jM} {v0 : Nat} {v1 : Int32} {v2 : Int32} {S : jM} (E : jEnv p s m args meth c cX12_edition "PensionHouseModel" (some .int) 4 g)  {H : Heap} {locs : List Loc} {ls : Array Slot} (hf : f_X12_edition v0 v1 v2 S = some (rr, SS)) (hM : jAt g S s H locs) (hl : lv_has ls 4 [(0, .ref (g.2.2 + v0)), (1, .int v1), (2, .int v2)]) : W p l e (jRm 319 0 0) s m args below meth c H locs 0 0 (MQ below (jQi g rr SS) args s 0 0 (jA0 g)) (F0 m 0 ls []) := by
  obtain ⟨hx, hb, hml, -, hts, hown, hK, -, hstr⟩ := id E
  unfold f_X12_edition at hf
  refine lv_aload_n hx hb dX12_edition_0 rfl (lv_at hl 0 rfl) ?_
  obtain ⟨hq11, hf⟩ := jif hf
  obtain ⟨S9, hc10, hf⟩ := jb hf
  refine jbackV hM (jrunV E hM ci_X12_tokenize (C_X12_tokenize hc10) lk_7_124 hq11 (by decide) rfl hl.1 rfl rfl (Nat.le_of_ble_eq_true rfl) ⟨Nat.le_of_ble_eq_true rfl, Nat.le_of_ble_eq_true rfl⟩ ⟨Nat.le_refl _, Nat.le_refl _⟩ dX12_edition_1) (fun H locs hM => ?_)
  refine lv_iload_n hx hb dX12_edition_4 rfl (lv_at hl 1 rfl) ?_
  refine lv_i2l hx hb dX12_edition_5 rfl ?_
  refine lv_lconst (v := (0 : Int64)) hx hb dX12_edition_6 (by decide) ?_
  refine lv_ldc2 (v := (3 : Int64)) hx hb hown (hts _ lk_7_200) dX12_edition_7 ?_
  refine jbackI hM (jrunS E hM ci_X12_in (C_X12_in rfl) lk_7_36 hl.1 rfl rfl (Nat.le_of_ble_eq_true rfl) ⟨Nat.le_of_ble_eq_true rfl, Nat.le_of_ble_eq_true rfl⟩ ⟨Nat.le_refl _, Nat.le_refl _⟩ dX12_edition_10) (fun H locs hM => ?_)
  refine lv_if_ne (tgt := 19) hx hb dX12_edition_13 (by decide) (fun c12 => ?_) (fun c12 => ?_)
  · have hf := jf c12 hf
    refine lv_iload_n hx hb dX12_edition_19 rfl (lv_at hl 2 rfl) ?_
    obtain ⟨x13, hc14, hf⟩ := jb hf
    refine jbackI hM (jrunS E hM ci_X12_isDay (C_X12_isDay hc14) lk_7_177 hl.1 rfl rfl (Nat.le_of_ble_eq_true rfl) ⟨Nat.le_of_ble_eq_true rfl, Nat.le_of_ble_eq_true rfl⟩ ⟨Nat.le_refl _, Nat.le_refl _⟩ dX12_edition_20) (fun H locs hM => ?_)
    refine lv_if_ne (tgt := 29) hx hb dX12_edition_23 (by decide) (fun c15 => ?_) (fun c15 => ?_)
    · have hf := jf c15 hf
      refine lv_aload_n hx hb dX12_edition_29 rfl (lv_at hl 0 rfl) ?_
      refine lv_iload_n hx hb dX12_edition_30 rfl (lv_at hl 1 rfl) ?_
      refine lv_iload_n hx hb dX12_edition_31 rfl (lv_at hl 2 rfl) ?_
      obtain ⟨x16, hc17, hf⟩ := jb hf
      refine jbackI hM (jrunV E hM ci_X12_slotOf (C_X12_slotOf hc17) lk_7_201 hq11 (by decide) rfl hl.1 rfl rfl (Nat.le_of_ble_eq_true rfl) ⟨Nat.le_of_ble_eq_true rfl, Nat.le_of_ble_eq_true rfl⟩ ⟨Nat.le_refl _, Nat.le_refl _⟩ dX12_edition_32) (fun H locs hM => ?_)
      refine lv_istore_n (lv' := [(3, .int x16), (0, .ref (g.2.2 + v0)), (1, .int v1), (2, .int v2)]) hx hb dX12_edition_35 rfl hl (by decide) rfl (fun ls hl => ?_)
      refine lv_iload_n hx hb dX12_edition_36 rfl (lv_at hl 0 rfl) ?_
      refine lv_if_ge (tgt := 43) hx hb dX12_edition_37 (by decide) (fun c18 => ?_) (fun c18 => ?_)
      · have hf := jt c18 hf
        refine lv_aload_n hx hb dX12_edition_43 rfl (lv_at hl 1 rfl) ?_
        refine lv_bipush (v := (32 : Int32)) hx hb dX12_edition_44 (by decide) ?_
        obtain ⟨S19, hc20, hf⟩ := jb hf
        refine jbackV hM (jrunV E hM ci_X12_readText (C_X12_readText hc20) lk_7_205 hq11 (by decide) rfl hl.1 rfl rfl (Nat.le_of_ble_eq_true rfl) ⟨Nat.le_of_ble_eq_true rfl, Nat.le_of_ble_eq_true rfl⟩ ⟨Nat.le_refl _, Nat.le_refl _⟩ dX12_edition_46) (fun H locs hM => ?_)
        refine lv_aload_n hx hb dX12_edition_49 rfl (lv_at hl 1 rfl) ?_
        refine gt_101 E hM hq11 lk_6_15 dX12_edition_50 ?_
        refine lv_if_le (tgt := 61) hx hb dX12_edition_53 (by decide) (fun c21 => ?_) (fun c21 => ?_)
        · have hf := jt c21 hf
          refine lv_aload_n hx hb dX12_edition_61 rfl (lv_at hl 1 rfl) ?_
          refine lv_iconst (v := (0 : Int32)) hx hb dX12_edition_62 (by decide) ?_
          refine pt_149 E hM hq11 lk_6_63 dX12_edition_63 (fun H locs S22 eS22 hM => ?_)
          have hf := jlet_y eS22 hf
          refine lv_aload_n hx hb dX12_edition_66 rfl (lv_at hl 1 rfl) ?_
          refine lv_iconst (v := (0 : Int32)) hx hb dX12_edition_67 (by decide) ?_
          refine pt_100 E hM hq11 lk_6_14 dX12_edition_68 (fun H locs S23 eS23 hM => ?_)
          have hf := jlet_y eS23 hf
          refine lv_aload_n hx hb dX12_edition_71 rfl (lv_at hl 1 rfl) ?_
          refine lv_iconst (v := (0 : Int32)) hx hb dX12_edition_72 (by decide) ?_
          refine pt_101 E hM hq11 lk_6_15 dX12_edition_73 (fun H locs S24 eS24 hM => ?_)
          have hf := jlet_y eS24 hf
          refine lv_aload_n hx hb dX12_edition_76 rfl (lv_at hl 1 rfl) ?_
          refine lv_iload_n hx hb dX12_edition_77 rfl (lv_at hl 0 rfl) ?_
          obtain ⟨S25, hc26, hf⟩ := jb hf
          refine jbackV hM (jrunV E hM ci_X12_readText (C_X12_readText hc26) lk_7_205 hq11 (by decide) rfl hl.1 rfl rfl (Nat.le_of_ble_eq_true rfl) ⟨Nat.le_of_ble_eq_true rfl, Nat.le_of_ble_eq_true rfl⟩ ⟨Nat.le_refl _, Nat.le_refl _⟩ dX12_edition_78) (fun H locs hM => ?_)
          refine lv_iload_n hx hb dX12_edition_81 rfl (lv_at hl 0 rfl) ?_
          refine lv_bipush (v := (8 : Int32)) hx hb dX12_edition_82 (by decide) ?_
          refine lv_iload_n hx hb dX12_edition_84 rfl (lv_at hl 2 rfl) ?_
          refine lv_imul hx hb dX12_edition_85 ?_
          refine lv_aload_n hx hb dX12_edition_86 rfl (lv_at hl 1 rfl) ?_
          refine gt_148 E hM hq11 lk_6_62 dX12_edition_87 ?_
          obtain ⟨r27, hr28, hf⟩ := jb hf
          rw [hr28]
          show W p l e _ s m args below meth c H locs 0 0 _ (F0 m _ ls (.ref (g.2.2 + r27) :: _))
          refine lv_iload_n hx hb dX12_edition_90 rfl (lv_at hl 2 rfl) ?_
          obtain ⟨ha29, hf⟩ := jif hf
          refine jiald E hM ha29 dX12_edition_91 ?_
          refine lv_iadd hx hb dX12_edition_92 ?_
          refine lv_icmp_ne (tgt := 106) hx hb dX12_edition_93 (by decide) (fun c30 => ?_) (fun c30 => ?_)
          · have hf := jf c30 hf
            exact B_X12_edition_106 E  hf hM (lv_sub hl [1, 3, 0] rfl)
          · have hf := jt c30 hf
            refine lv_aload_n hx hb dX12_edition_96 rfl (lv_at hl 1 rfl) ?_
            refine gt_148 E hM hq11 lk_6_62 dX12_edition_97 ?_
            obtain ⟨r31, hr32, hf⟩ := jb hf
            rw [hr32]
            show W p l e _ s m args below meth c H locs 0 0 _ (F0 m _ ls (.ref (g.2.2 + r31) :: _))
            refine lv_iload_n hx hb dX12_edition_100 rfl (lv_at hl 2 rfl) ?_
            refine lv_dup2_11 hx hb dX12_edition_101 rfl rfl ?_
            obtain ⟨ha33, hf⟩ := jif hf
            refine jiald E hM ha33 dX12_edition_102 ?_
            refine lv_iconst (v := (1 : Int32)) hx hb dX12_edition_103 (by decide) ?_
            refine lv_iadd hx hb dX12_edition_104 ?_
            obtain ⟨ha34, hf⟩ := jif hf
            refine jiast E hM ha34 dX12_edition_105 (fun H locs S35 eS35 hM => ?_)
            have hf := jlet_y eS35 hf
            exact B_X12_edition_106 E  hf hM (lv_sub hl [1, 3, 0] rfl)
        · have hf := jf c21 hf
          refine lv_aload_n hx hb dX12_edition_56 rfl (lv_at hl 1 rfl) ?_
          obtain ⟨x36, S37, hc38, hf⟩ := jbd_e hf
          refine jbackI hM (jrunV E hM ci_X12_toldText (C_X12_toldText hc38) lk_8_51 hq11 (by decide) rfl hl.1 rfl rfl (Nat.le_of_ble_eq_true rfl) ⟨Nat.le_of_ble_eq_true rfl, Nat.le_of_ble_eq_true rfl⟩ ⟨Nat.le_refl _, Nat.le_refl _⟩ dX12_edition_57) (fun H locs hM => ?_)
          exact jireti (jr2 hf) E hM dX12_edition_60
      · have hf := jf c18 hf
        refine lv_bipush (v := (-5 : Int32)) hx hb dX12_edition_40 (by decide) ?_
        exact jireti (jr2 hf) E hM dX12_edition_42
    · have hf := jt c15 hf
      refine lv_bipush (v := (-3 : Int32)) hx hb dX12_edition_26 (by decide) ?_
      exact jireti (jr2 hf) E hM dX12_edition_28
  · have hf := jt c12 hf
    refine lv_bipush (v := (-2 : Int32)) hx hb dX12_edition_16 (by decide) ?_
    exact jireti (jr2 hf) E hM dX12_edition_18
set_option maxRecDepth 100000 in
theorem C_X12_edition {l : Launch} {g : jG} {a0 : Nat} {a1 : Int32} {a2 : Int32} {S : jM} {rr : Int32} {SS : jM} (hf : f_X12_edition a0 a1 a2 S = some (rr, SS)) : jMet l g yX12_edition cX12_edition 4 (some .int) 319 0 0 [.ref (g.2.2 + a0), .int a1, .int a2] S (jQi g rr SS) := by
  refine jof (by decide +kernel) (Nat.le_of_ble_eq_true rfl) ?_
  intro p e s m below meth c E hM ls hl
  have hl : lv_has ls 4 [(0, .ref (g.2.2 + a0)),(1, .int a1),(2, .int a2)] := hl
  exact B_X12_edition_0 E hf hM hl
-- PensionHouseModel.takeName()J  mode M
noncomputable def f_X12_takeName (v0 : Nat) (S : jM) : Option (Int64 × jM) := if jK v0 = 10 then (f_X12_tokenize v0 S).bind (fun S1 => (jR S1 95 v0).bind (fun r4 => if jA r4 13 (0 : Int32) = true then if (jAI S1 r4 ((0 : Int32)).toNatClampNeg) = (40 : Int32) then (jR S1 95 v0).bind (fun r8 => if jA r8 13 (1 : Int32) = true then if (jAI S1 r8 ((1 : Int32)).toNatClampNeg) = (43 : Int32) then (jR S1 97 v0).bind (fun r12 => if jA r12 14 (0 : Int32) = true then some (jAL S1 r12 ((0 : Int32)).toNatClampNeg, S1) else none) else some ((0 : Int64), S1) else none) else some ((0 : Int64), S1) else none)) else none
set_option maxRecDepth 100000 in
set_option maxHeartbeats 4000000 in
theorem B_X12_takeName_0 {p : Program} {l : Launch} {e : Env} {s : State} {m : MethodId} {args : Array Value} {below : List Frame} {meth : Method} {c : Code} {g : jG} {rr : Int64} {SS : jM} {v0 : Nat} {S : jM} (E : jEnv p s m args meth c cX12_takeName "PensionHouseModel" (some .long) 1 g)  {H : Heap} {locs : List Loc} {ls : Array Slot} (hf : f_X12_takeName v0 S = some (rr, SS)) (hM : jAt g S s H locs) (hl : lv_has ls 1 [(0, .ref (g.2.2 + v0))]) : W p l e (jRm 5 0 0) s m args below meth c H locs 0 0 (MQ below (jQl g rr SS) args s 0 0 (jA0 g)) (F0 m 0 ls []) := by
  obtain ⟨hx, hb, hml, -, hts, hown, hK, -, hstr⟩ := id E
  unfold f_X12_takeName at hf
  refine lv_aload_n hx hb dX12_takeName_0 rfl (lv_at hl 0 rfl) ?_
  obtain ⟨hq3, hf⟩ := jif hf
  obtain ⟨S1, hc2, hf⟩ := jb hf
  refine jbackV hM (jrunV E hM ci_X12_tokenize (C_X12_tokenize hc2) lk_7_124 hq3 (by decide) rfl hl.1 rfl rfl (Nat.le_of_ble_eq_true rfl) ⟨Nat.le_of_ble_eq_true rfl, Nat.le_of_ble_eq_true rfl⟩ ⟨Nat.le_refl _, Nat.le_refl _⟩ dX12_takeName_1) (fun H locs hM => ?_)
  refine lv_aload_n hx hb dX12_takeName_4 rfl (lv_at hl 0 rfl) ?_
  refine gt_95 E hM hq3 lk_6_9 dX12_takeName_5 ?_
  obtain ⟨r4, hr5, hf⟩ := jb hf
  rw [hr5]
  show W p l e _ s m args below meth c H locs 0 0 _ (F0 m _ ls (.ref (g.2.2 + r4) :: _))
  refine lv_iconst (v := (0 : Int32)) hx hb dX12_takeName_8 (by decide) ?_
  obtain ⟨ha6, hf⟩ := jif hf
  refine jiald E hM ha6 dX12_takeName_9 ?_
  refine lv_bipush (v := (40 : Int32)) hx hb dX12_takeName_10 (by decide) ?_
  refine lv_icmp_ne (tgt := 35) hx hb dX12_takeName_12 (by decide) (fun c7 => ?_) (fun c7 => ?_)
  · have hf := jf c7 hf
    refine lv_lconst (v := (0 : Int64)) hx hb dX12_takeName_35 (by decide) ?_
    exact jlret (jr2 hf) E hM dX12_takeName_36
  · have hf := jt c7 hf
    refine lv_aload_n hx hb dX12_takeName_15 rfl (lv_at hl 0 rfl) ?_
    refine gt_95 E hM hq3 lk_6_9 dX12_takeName_16 ?_
    obtain ⟨r8, hr9, hf⟩ := jb hf
    rw [hr9]
    show W p l e _ s m args below meth c H locs 0 0 _ (F0 m _ ls (.ref (g.2.2 + r8) :: _))
    refine lv_iconst (v := (1 : Int32)) hx hb dX12_takeName_19 (by decide) ?_
    obtain ⟨ha10, hf⟩ := jif hf
    refine jiald E hM ha10 dX12_takeName_20 ?_
    refine lv_bipush (v := (43 : Int32)) hx hb dX12_takeName_21 (by decide) ?_
    refine lv_icmp_ne (tgt := 35) hx hb dX12_takeName_23 (by decide) (fun c11 => ?_) (fun c11 => ?_)
    · have hf := jf c11 hf
      refine lv_lconst (v := (0 : Int64)) hx hb dX12_takeName_35 (by decide) ?_
      exact jlret (jr2 hf) E hM dX12_takeName_36
    · have hf := jt c11 hf
      refine lv_aload_n hx hb dX12_takeName_26 rfl (lv_at hl 0 rfl) ?_
      refine gt_97 E hM hq3 lk_6_11 dX12_takeName_27 ?_
      obtain ⟨r12, hr13, hf⟩ := jb hf
      rw [hr13]
      show W p l e _ s m args below meth c H locs 0 0 _ (F0 m _ ls (.ref (g.2.2 + r12) :: _))
      refine lv_iconst (v := (0 : Int32)) hx hb dX12_takeName_30 (by decide) ?_
      obtain ⟨ha14, hf⟩ := jif hf
      refine jlald E hM ha14 dX12_takeName_31 ?_
      refine lv_goto (tgt := 36) hx hb dX12_takeName_32 (by decide) ?_
      exact jlret (jr2 hf) E hM dX12_takeName_36
set_option maxRecDepth 100000 in
theorem C_X12_takeName {l : Launch} {g : jG} {a0 : Nat} {S : jM} {rr : Int64} {SS : jM} (hf : f_X12_takeName a0 S = some (rr, SS)) : jMet l g yX12_takeName cX12_takeName 1 (some .long) 5 0 0 [.ref (g.2.2 + a0)] S (jQl g rr SS) := by
  refine jof (by decide +kernel) (Nat.le_of_ble_eq_true rfl) ?_
  intro p e s m below meth c E hM ls hl
  have hl : lv_has ls 1 [(0, .ref (g.2.2 + a0))] := hl
  exact B_X12_takeName_0 E hf hM hl
-- PensionHouseModel.fact(III)I  mode M
noncomputable def f_X12_fact (v0 : Nat) (v1 : Int32) (v2 : Int32) (v3 : Int32) (S : jM) : Option (Int32 × jM) := if jK v0 = 10 then jbd (f_X12_takeName v0 S) (fun x1 S2 => if (f_X12_in (v1.toInt64) (0 : Int64) (9 : Int64)) = 0 then some ((-2 : Int32), S2) else (f_X12_isDay v2).bind (fun x6 => if x6 = 0 then some ((-3 : Int32), S2) else (f_X12_isDay v3).bind (fun x9 => if x9 = 0 then some ((-3 : Int32), S2) else if v2 ≤ v3 then if x1 = (0 : Int64) then some ((-4 : Int32), S2) else (jR S2 88 v0).bind (fun r14 => if jA r14 13 (0 : Int32) = true then if (jAI S2 r14 ((0 : Int32)).toNatClampNeg) = (8 : Int32) then some ((-4 : Int32), S2) else if (jI S2 146 v0) = (200 : Int32) then some ((-5 : Int32), S2) else (jR S2 140 v0).bind (fun r19 => if jA r19 13 (jI S2 146 v0) = true then jlet (jrI S2 r19 (upd (jAI S2 r19) (jI S2 146 v0).toNatClampNeg v1)) (fun S22 => (jR S22 141 v0).bind (fun r23 => if jA r23 14 (jI S22 146 v0) = true then jlet (jrL S22 r23 (vp_updL (jAL S22 r23) (jI S22 146 v0).toNatClampNeg x1)) (fun S26 => (jR S26 142 v0).bind (fun r27 => if jA r27 13 (jI S26 146 v0) = true then jlet (jrI S26 r27 (upd (jAI S26 r27) (jI S26 146 v0).toNatClampNeg v2)) (fun S30 => (jR S30 143 v0).bind (fun r31 => if jA r31 13 (jI S30 146 v0) = true then jlet (jrI S30 r31 (upd (jAI S30 r31) (jI S30 146 v0).toNatClampNeg v3)) (fun S34 => (jR S34 144 v0).bind (fun r35 => if jA r35 13 (jI S34 146 v0) = true then jlet (jrI S34 r35 (upd (jAI S34 r35) (jI S34 146 v0).toNatClampNeg (jI S34 139 v0))) (fun S38 => (jR S38 145 v0).bind (fun r39 => if jA r39 13 (jI S38 146 v0) = true then jlet (jrI S38 r39 (upd (jAI S38 r39) (jI S38 146 v0).toNatClampNeg (-1 : Int32))) (fun S42 => (f_X12_copy v0 ((1 : Int32) + (jI S42 146 v0)) (0 : Int32) S42).bind (fun S43 => jlet (jsI S43 146 v0 ((jI S43 146 v0) + (1 : Int32))) (fun S45 => some ((jI S45 146 v0) - (1 : Int32), S45)))) else none)) else none)) else none)) else none)) else none)) else none) else none) else some ((-3 : Int32), S2)))) else none
set_option maxRecDepth 100000 in
set_option maxHeartbeats 4000000 in
theorem B_X12_fact_0 {p : Program} {l : Launch} {e : Env} {s : State} {m : MethodId} {args : Array Value} {below : List Frame} {meth : Method} {c : Code} {g : jG} {rr : Int32} {SS : jM} {v0 : Nat} {v1 : Int32} {v2 : Int32} {v3 : Int32} {S : jM} (E : jEnv p s m args meth c cX12_fact "PensionHouseModel" (some .int) 6 g)  {H : Heap} {locs : List Loc} {ls : Array Slot} (hf : f_X12_fact v0 v1 v2 v3 S = some (rr, SS)) (hM : jAt g S s H locs) (hl : lv_has ls 6 [(0, .ref (g.2.2 + v0)), (1, .int v1), (2, .int v2), (3, .int v3)]) : W p l e (jRm 6 0 0) s m args below meth c H locs 0 0 (MQ below (jQi g rr SS) args s 0 0 (jA0 g)) (F0 m 0 ls []) := by
  obtain ⟨hx, hb, hml, -, hts, hown, hK, -, hstr⟩ := id E
  unfold f_X12_fact at hf
  refine lv_aload_n hx hb dX12_fact_0 rfl (lv_at hl 0 rfl) ?_
  obtain ⟨hq4, hf⟩ := jif hf
  obtain ⟨x1, S2, hc3, hf⟩ := jbd_e hf
  refine jbackL hM (jrunV E hM ci_X12_takeName (C_X12_takeName hc3) lk_7_120 hq4 (by decide) rfl hl.1 rfl rfl (Nat.le_of_ble_eq_true rfl) ⟨Nat.le_of_ble_eq_true rfl, Nat.le_of_ble_eq_true rfl⟩ ⟨Nat.le_refl _, Nat.le_refl _⟩ dX12_fact_1) (fun H locs hM => ?_)
  refine lv_lstore (lv' := [(4, .long x1), (0, .ref (g.2.2 + v0)), (1, .int v1), (2, .int v2), (3, .int v3)]) hx hb dX12_fact_4 hl (by decide) rfl (fun ls hl => ?_)
  refine lv_iload_n hx hb dX12_fact_6 rfl (lv_at hl 2 rfl) ?_
  refine lv_i2l hx hb dX12_fact_7 rfl ?_
  refine lv_lconst (v := (0 : Int64)) hx hb dX12_fact_8 (by decide) ?_
  refine lv_ldc2 (v := (9 : Int64)) hx hb hown (hts _ lk_7_176) dX12_fact_9 ?_
  refine jbackI hM (jrunS E hM ci_X12_in (C_X12_in rfl) lk_7_36 hl.1 rfl rfl (Nat.le_of_ble_eq_true rfl) ⟨Nat.le_of_ble_eq_true rfl, Nat.le_of_ble_eq_true rfl⟩ ⟨Nat.le_refl _, Nat.le_refl _⟩ dX12_fact_12) (fun H locs hM => ?_)
  refine lv_if_ne (tgt := 21) hx hb dX12_fact_15 (by decide) (fun c5 => ?_) (fun c5 => ?_)
  · have hf := jf c5 hf
    refine lv_iload_n hx hb dX12_fact_21 rfl (lv_at hl 3 rfl) ?_
    obtain ⟨x6, hc7, hf⟩ := jb hf
    refine jbackI hM (jrunS E hM ci_X12_isDay (C_X12_isDay hc7) lk_7_177 hl.1 rfl rfl (Nat.le_of_ble_eq_true rfl) ⟨Nat.le_of_ble_eq_true rfl, Nat.le_of_ble_eq_true rfl⟩ ⟨Nat.le_refl _, Nat.le_refl _⟩ dX12_fact_22) (fun H locs hM => ?_)
    refine lv_if_eq (tgt := 40) hx hb dX12_fact_25 (by decide) (fun c8 => ?_) (fun c8 => ?_)
    · have hf := jt c8 hf
      refine lv_bipush (v := (-3 : Int32)) hx hb dX12_fact_40 (by decide) ?_
      exact jireti (jr2 hf) E hM dX12_fact_42
    · have hf := jf c8 hf
      refine lv_iload_n hx hb dX12_fact_28 rfl (lv_at hl 4 rfl) ?_
      obtain ⟨x9, hc10, hf⟩ := jb hf
      refine jbackI hM (jrunS E hM ci_X12_isDay (C_X12_isDay hc10) lk_7_177 hl.1 rfl rfl (Nat.le_of_ble_eq_true rfl) ⟨Nat.le_of_ble_eq_true rfl, Nat.le_of_ble_eq_true rfl⟩ ⟨Nat.le_refl _, Nat.le_refl _⟩ dX12_fact_29) (fun H locs hM => ?_)
      refine lv_if_eq (tgt := 40) hx hb dX12_fact_32 (by decide) (fun c11 => ?_) (fun c11 => ?_)
      · have hf := jt c11 hf
        refine lv_bipush (v := (-3 : Int32)) hx hb dX12_fact_40 (by decide) ?_
        exact jireti (jr2 hf) E hM dX12_fact_42
      · have hf := jf c11 hf
        refine lv_iload_n hx hb dX12_fact_35 rfl (lv_at hl 4 rfl) ?_
        refine lv_iload_n hx hb dX12_fact_36 rfl (lv_at hl 3 rfl) ?_
        refine lv_icmp_ge (tgt := 43) hx hb dX12_fact_37 (by decide) (fun c12 => ?_) (fun c12 => ?_)
        · have hf := jt c12 hf
          refine lv_lload hx hb dX12_fact_43 (lv_at hl 0 rfl) ?_
          refine lv_lconst (v := (0 : Int64)) hx hb dX12_fact_45 (by decide) ?_
          refine jl_eq (tgt := 61) hx hb dX12_fact_46 dX12_fact_47 (by decide) (fun c13 => ?_) (fun c13 => ?_)
          · have hf := jt c13 hf
            refine lv_bipush (v := (-4 : Int32)) hx hb dX12_fact_61 (by decide) ?_
            exact jireti (jr2 hf) E hM dX12_fact_63
          · have hf := jf c13 hf
            refine lv_aload_n hx hb dX12_fact_50 rfl (lv_at hl 1 rfl) ?_
            refine gt_88 E hM hq4 lk_6_2 dX12_fact_51 ?_
            obtain ⟨r14, hr15, hf⟩ := jb hf
            rw [hr15]
            show W p l e _ s m args below meth c H locs 0 0 _ (F0 m _ ls (.ref (g.2.2 + r14) :: _))
            refine lv_iconst (v := (0 : Int32)) hx hb dX12_fact_54 (by decide) ?_
            obtain ⟨ha16, hf⟩ := jif hf
            refine jiald E hM ha16 dX12_fact_55 ?_
            refine lv_bipush (v := (8 : Int32)) hx hb dX12_fact_56 (by decide) ?_
            refine lv_icmp_ne (tgt := 64) hx hb dX12_fact_58 (by decide) (fun c17 => ?_) (fun c17 => ?_)
            · have hf := jf c17 hf
              refine lv_aload_n hx hb dX12_fact_64 rfl (lv_at hl 1 rfl) ?_
              refine gt_146 E hM hq4 lk_6_60 dX12_fact_65 ?_
              refine lv_sipush (v := (200 : Int32)) hx hb dX12_fact_68 (by decide) ?_
              refine lv_icmp_ne (tgt := 77) hx hb dX12_fact_71 (by decide) (fun c18 => ?_) (fun c18 => ?_)
              · have hf := jf c18 hf
                refine lv_aload_n hx hb dX12_fact_77 rfl (lv_at hl 1 rfl) ?_
                refine gt_140 E hM hq4 lk_6_54 dX12_fact_78 ?_
                obtain ⟨r19, hr20, hf⟩ := jb hf
                rw [hr20]
                show W p l e _ s m args below meth c H locs 0 0 _ (F0 m _ ls (.ref (g.2.2 + r19) :: _))
                refine lv_aload_n hx hb dX12_fact_81 rfl (lv_at hl 1 rfl) ?_
                refine gt_146 E hM hq4 lk_6_60 dX12_fact_82 ?_
                refine lv_iload_n hx hb dX12_fact_85 rfl (lv_at hl 2 rfl) ?_
                obtain ⟨ha21, hf⟩ := jif hf
                refine jiast E hM ha21 dX12_fact_86 (fun H locs S22 eS22 hM => ?_)
                have hf := jlet_y eS22 hf
                refine lv_aload_n hx hb dX12_fact_87 rfl (lv_at hl 1 rfl) ?_
                refine gt_141 E hM hq4 lk_6_55 dX12_fact_88 ?_
                obtain ⟨r23, hr24, hf⟩ := jb hf
                rw [hr24]
                show W p l e _ s m args below meth c H locs 0 0 _ (F0 m _ ls (.ref (g.2.2 + r23) :: _))
                refine lv_aload_n hx hb dX12_fact_91 rfl (lv_at hl 1 rfl) ?_
                refine gt_146 E hM hq4 lk_6_60 dX12_fact_92 ?_
                refine lv_lload hx hb dX12_fact_95 (lv_at hl 0 rfl) ?_
                obtain ⟨ha25, hf⟩ := jif hf
                refine jlast E hM ha25 dX12_fact_97 (fun H locs S26 eS26 hM => ?_)
                have hf := jlet_y eS26 hf
                refine lv_aload_n hx hb dX12_fact_98 rfl (lv_at hl 1 rfl) ?_
                refine gt_142 E hM hq4 lk_6_56 dX12_fact_99 ?_
                obtain ⟨r27, hr28, hf⟩ := jb hf
                rw [hr28]
                show W p l e _ s m args below meth c H locs 0 0 _ (F0 m _ ls (.ref (g.2.2 + r27) :: _))
                refine lv_aload_n hx hb dX12_fact_102 rfl (lv_at hl 1 rfl) ?_
                refine gt_146 E hM hq4 lk_6_60 dX12_fact_103 ?_
                refine lv_iload_n hx hb dX12_fact_106 rfl (lv_at hl 3 rfl) ?_
                obtain ⟨ha29, hf⟩ := jif hf
                refine jiast E hM ha29 dX12_fact_107 (fun H locs S30 eS30 hM => ?_)
                have hf := jlet_y eS30 hf
                refine lv_aload_n hx hb dX12_fact_108 rfl (lv_at hl 1 rfl) ?_
                refine gt_143 E hM hq4 lk_6_57 dX12_fact_109 ?_
                obtain ⟨r31, hr32, hf⟩ := jb hf
                rw [hr32]
                show W p l e _ s m args below meth c H locs 0 0 _ (F0 m _ ls (.ref (g.2.2 + r31) :: _))
                refine lv_aload_n hx hb dX12_fact_112 rfl (lv_at hl 1 rfl) ?_
                refine gt_146 E hM hq4 lk_6_60 dX12_fact_113 ?_
                refine lv_iload_n hx hb dX12_fact_116 rfl (lv_at hl 4 rfl) ?_
                obtain ⟨ha33, hf⟩ := jif hf
                refine jiast E hM ha33 dX12_fact_117 (fun H locs S34 eS34 hM => ?_)
                have hf := jlet_y eS34 hf
                refine lv_aload_n hx hb dX12_fact_118 rfl (lv_at hl 1 rfl) ?_
                refine gt_144 E hM hq4 lk_6_58 dX12_fact_119 ?_
                obtain ⟨r35, hr36, hf⟩ := jb hf
                rw [hr36]
                show W p l e _ s m args below meth c H locs 0 0 _ (F0 m _ ls (.ref (g.2.2 + r35) :: _))
                refine lv_aload_n hx hb dX12_fact_122 rfl (lv_at hl 1 rfl) ?_
                refine gt_146 E hM hq4 lk_6_60 dX12_fact_123 ?_
                refine lv_aload_n hx hb dX12_fact_126 rfl (lv_at hl 1 rfl) ?_
                refine gt_139 E hM hq4 lk_6_53 dX12_fact_127 ?_
                obtain ⟨ha37, hf⟩ := jif hf
                refine jiast E hM ha37 dX12_fact_130 (fun H locs S38 eS38 hM => ?_)
                have hf := jlet_y eS38 hf
                refine lv_aload_n hx hb dX12_fact_131 rfl (lv_at hl 1 rfl) ?_
                refine gt_145 E hM hq4 lk_6_59 dX12_fact_132 ?_
                obtain ⟨r39, hr40, hf⟩ := jb hf
                rw [hr40]
                show W p l e _ s m args below meth c H locs 0 0 _ (F0 m _ ls (.ref (g.2.2 + r39) :: _))
                refine lv_aload_n hx hb dX12_fact_135 rfl (lv_at hl 1 rfl) ?_
                refine gt_146 E hM hq4 lk_6_60 dX12_fact_136 ?_
                refine lv_iconst (v := (-1 : Int32)) hx hb dX12_fact_139 (by decide) ?_
                obtain ⟨ha41, hf⟩ := jif hf
                refine jiast E hM ha41 dX12_fact_140 (fun H locs S42 eS42 hM => ?_)
                have hf := jlet_y eS42 hf
                refine lv_aload_n hx hb dX12_fact_141 rfl (lv_at hl 1 rfl) ?_
                refine lv_iconst (v := (1 : Int32)) hx hb dX12_fact_142 (by decide) ?_
                refine lv_aload_n hx hb dX12_fact_143 rfl (lv_at hl 1 rfl) ?_
                refine gt_146 E hM hq4 lk_6_60 dX12_fact_144 ?_
                refine lv_iadd hx hb dX12_fact_147 ?_
                refine lv_iconst (v := (0 : Int32)) hx hb dX12_fact_148 (by decide) ?_
                obtain ⟨S43, hc44, hf⟩ := jb hf
                refine jbackV hM (jrunV E hM ci_X12_copy (C_X12_copy hc44) lk_7_180 hq4 (by decide) rfl hl.1 rfl rfl (Nat.le_of_ble_eq_true rfl) ⟨Nat.le_of_ble_eq_true rfl, Nat.le_of_ble_eq_true rfl⟩ ⟨Nat.le_refl _, Nat.le_refl _⟩ dX12_fact_149) (fun H locs hM => ?_)
                refine lv_aload_n hx hb dX12_fact_152 rfl (lv_at hl 1 rfl) ?_
                refine lv_dup hx hb dX12_fact_153 rfl ?_
                refine gt_146 E hM hq4 lk_6_60 dX12_fact_154 ?_
                refine lv_iconst (v := (1 : Int32)) hx hb dX12_fact_157 (by decide) ?_
                refine lv_iadd hx hb dX12_fact_158 ?_
                refine pt_146 E hM hq4 lk_6_60 dX12_fact_159 (fun H locs S45 eS45 hM => ?_)
                have hf := jlet_y eS45 hf
                refine lv_aload_n hx hb dX12_fact_162 rfl (lv_at hl 1 rfl) ?_
                refine gt_146 E hM hq4 lk_6_60 dX12_fact_163 ?_
                refine lv_iconst (v := (1 : Int32)) hx hb dX12_fact_166 (by decide) ?_
                refine lv_isub hx hb dX12_fact_167 ?_
                exact jireti (jr2 hf) E hM dX12_fact_168
              · have hf := jt c18 hf
                refine lv_bipush (v := (-5 : Int32)) hx hb dX12_fact_74 (by decide) ?_
                exact jireti (jr2 hf) E hM dX12_fact_76
            · have hf := jt c17 hf
              refine lv_bipush (v := (-4 : Int32)) hx hb dX12_fact_61 (by decide) ?_
              exact jireti (jr2 hf) E hM dX12_fact_63
        · have hf := jf c12 hf
          refine lv_bipush (v := (-3 : Int32)) hx hb dX12_fact_40 (by decide) ?_
          exact jireti (jr2 hf) E hM dX12_fact_42
  · have hf := jt c5 hf
    refine lv_bipush (v := (-2 : Int32)) hx hb dX12_fact_18 (by decide) ?_
    exact jireti (jr2 hf) E hM dX12_fact_20
set_option maxRecDepth 100000 in
theorem C_X12_fact {l : Launch} {g : jG} {a0 : Nat} {a1 : Int32} {a2 : Int32} {a3 : Int32} {S : jM} {rr : Int32} {SS : jM} (hf : f_X12_fact a0 a1 a2 a3 S = some (rr, SS)) : jMet l g yX12_fact cX12_fact 6 (some .int) 6 0 0 [.ref (g.2.2 + a0), .int a1, .int a2, .int a3] S (jQi g rr SS) := by
  refine jof (by decide +kernel) (Nat.le_of_ble_eq_true rfl) ?_
  intro p e s m below meth c E hM ls hl
  have hl : lv_has ls 6 [(0, .ref (g.2.2 + a0)),(1, .int a1),(2, .int a2),(3, .int a3)] := hl
  exact B_X12_fact_0 E hf hM hl
-- PensionHouseModel.fault()I  mode R
noncomputable def f_X12_fault (v0 : Nat) (S : jM) : Option Int32 := if jK v0 = 10 then some (jI S 149 v0) else none
set_option maxRecDepth 100000 in
set_option maxHeartbeats 4000000 in
theorem B_X12_fault_0 {p : Program} {l : Launch} {e : Env} {s : State} {m : MethodId} {args : Array Value} {below : List Frame} {meth : Method} {c : Code} {g : jG} {rr : Int32} {S : jM} {v0 : Nat} (E : jEnv p s m args meth c cX12_fault "PensionHouseModel" (some .int) 1 g)  {H : Heap} {locs : List Loc} {ls : Array Slot} (hf : f_X12_fault v0 S = some rr) (hM : jAt g S s H locs) (hl : lv_has ls 1 [(0, .ref (g.2.2 + v0))]) : W p l e (jRm 1 0 0) s m args below meth c H locs 0 0 (MQ below (jQi g rr S) args s 0 0 (jA0 g)) (F0 m 0 ls []) := by
  obtain ⟨hx, hb, hml, -, hts, hown, hK, -, hstr⟩ := id E
  unfold f_X12_fault at hf
  refine lv_aload_n hx hb dX12_fault_0 rfl (lv_at hl 0 rfl) ?_
  obtain ⟨hq1, hf⟩ := jif hf
  refine gt_149 E hM hq1 lk_6_63 dX12_fault_1 ?_
  exact jireti (jr1 hf) E hM dX12_fault_4
set_option maxRecDepth 100000 in
theorem C_X12_fault {l : Launch} {g : jG} {a0 : Nat} {S : jM} {rr : Int32} (hf : f_X12_fault a0 S = some rr) : jMet l g yX12_fault cX12_fault 1 (some .int) 1 0 0 [.ref (g.2.2 + a0)] S (jQi g rr S) := by
  refine jof (by decide +kernel) (Nat.le_of_ble_eq_true rfl) ?_
  intro p e s m below meth c E hM ls hl
  have hl : lv_has ls 1 [(0, .ref (g.2.2 + a0))] := hl
  exact B_X12_fault_0 E hf hM hl
-- PensionHouseModel.feed(JI)I  mode M
noncomputable def f_X12_feed_35 : Nat → Nat → Int64 → Int32 → jM → Option (Int32 × jM)
  | 0, _, _, _, _ => none
  | n + 1, v0, v1, v4, S => if v4 < 0 then if jK v0 = 10 then some (jI S 94 v0, S) else none else if jK v0 = 10 then (jR S 93 v0).bind (fun r4 => if jA r4 13 (jI S 94 v0) = true then jlet (jrI S r4 (upd (jAI S r4) (jI S 94 v0).toNatClampNeg (((v1 >>> (((8 : Int32) * v4).toInt64 &&& 63)).toInt32) &&& (255 : Int32)))) (fun S7 => jlet (jsI S7 94 v0 ((jI S7 94 v0) + (1 : Int32))) (fun S8 => jlet (v4 + (-1 : Int32)) (fun x9 => (f_X12_feed_35 n) v0 v1 x9 S8))) else none) else none
noncomputable def f_X12_feed (v0 : Nat) (v1 : Int64) (v3 : Int32) (S : jM) : Option (Int32 × jM) := if (f_X12_in (v3.toInt64) (1 : Int64) (8 : Int64)) = 0 then some ((-3 : Int32), S) else if jK v0 = 10 then if ((jI S 94 v0) + v3) ≤ (1600 : Int32) then jlet (v3 - (1 : Int32)) (fun x13 => f_X12_feed_35 1100000 v0 v1 x13 S) else some ((-5 : Int32), S) else none
set_option maxRecDepth 100000 in
set_option maxHeartbeats 4000000 in
theorem B_X12_feed_35 {p : Program} {l : Launch} {e : Env} {s : State} {m : MethodId} {args : Array Value} {below : List Frame} {meth : Method} {c : Code} {g : jG} {rr : Int32} {SS : jM} (E : jEnv p s m args meth c cX12_feed "PensionHouseModel" (some .int) 5 g)  : ∀ (n : Nat) (v0 : Nat) (v1 : Int64) (v4 : Int32) (S : jM) (H : Heap) (locs : List Loc) (ls : Array Slot), f_X12_feed_35 n v0 v1 v4 S = some (rr, SS) → jAt g S s H locs → lv_has ls 5 [(0, .ref (g.2.2 + v0)), (1, .long v1), (4, .int v4)] → W p l e (jRm 2 0 0) s m args below meth c H locs 0 0 (MQ below (jQi g rr SS) args s 0 0 (jA0 g)) (F0 m 35 ls []) := by
  obtain ⟨hx, hb, hml, -, hts, hown, hK, -, hstr⟩ := id E
  intro n
  induction n with
  | zero => intro v0 v1 v4 S H locs ls hf hM hl; rw [f_X12_feed_35] at hf; cases hf
  | succ n ih =>
    intro v0 v1 v4 S H locs ls hf hM hl
    rw [f_X12_feed_35] at hf
    refine lv_iload hx hb dX12_feed_35 (lv_at hl 2 rfl) ?_
    refine lv_if_lt (tgt := 77) hx hb dX12_feed_37 (by decide) (fun c1 => ?_) (fun c1 => ?_)
    · have hf := jt c1 hf
      refine lv_aload_n hx hb dX12_feed_77 rfl (lv_at hl 0 rfl) ?_
      obtain ⟨hq2, hf⟩ := jif hf
      refine gt_94 E hM hq2 lk_6_8 dX12_feed_78 ?_
      exact jireti (jr2 hf) E hM dX12_feed_81
    · have hf := jf c1 hf
      refine lv_aload_n hx hb dX12_feed_40 rfl (lv_at hl 0 rfl) ?_
      obtain ⟨hq3, hf⟩ := jif hf
      refine gt_93 E hM hq3 lk_6_7 dX12_feed_41 ?_
      obtain ⟨r4, hr5, hf⟩ := jb hf
      rw [hr5]
      show W p l e _ s m args below meth c H locs 0 0 _ (F0 m _ ls (.ref (g.2.2 + r4) :: _))
      refine lv_aload_n hx hb dX12_feed_44 rfl (lv_at hl 0 rfl) ?_
      refine gt_94 E hM hq3 lk_6_8 dX12_feed_45 ?_
      refine lv_lload_n hx hb dX12_feed_48 rfl (lv_at hl 1 rfl) ?_
      refine lv_bipush (v := (8 : Int32)) hx hb dX12_feed_49 (by decide) ?_
      refine lv_iload hx hb dX12_feed_51 (lv_at hl 2 rfl) ?_
      refine lv_imul hx hb dX12_feed_53 ?_
      refine lv_lshr hx hb dX12_feed_54 rfl ?_
      refine lv_l2i hx hb dX12_feed_55 rfl ?_
      refine lv_sipush (v := (255 : Int32)) hx hb dX12_feed_56 (by decide) ?_
      refine lv_iand hx hb dX12_feed_59 ?_
      obtain ⟨ha6, hf⟩ := jif hf
      refine jiast E hM ha6 dX12_feed_60 (fun H locs S7 eS7 hM => ?_)
      have hf := jlet_y eS7 hf
      refine lv_aload_n hx hb dX12_feed_61 rfl (lv_at hl 0 rfl) ?_
      refine lv_dup hx hb dX12_feed_62 rfl ?_
      refine gt_94 E hM hq3 lk_6_8 dX12_feed_63 ?_
      refine lv_iconst (v := (1 : Int32)) hx hb dX12_feed_66 (by decide) ?_
      refine lv_iadd hx hb dX12_feed_67 ?_
      refine pt_94 E hM hq3 lk_6_8 dX12_feed_68 (fun H locs S8 eS8 hM => ?_)
      have hf := jlet_y eS8 hf
      obtain ⟨x9, ex9⟩ : ∃ z, z = v4 + (-1 : Int32) := ⟨_, rfl⟩
      have hf := jlet_y ex9 hf
      refine lv_iinc (v := x9) (lv' := [(4, .int x9), (0, .ref (g.2.2 + v0)), (1, .long v1)]) hx hb dX12_feed_71 hl (k := 2) rfl (by rw [ex9]; rfl) (by decide) rfl (fun ls hl => ?_)
      refine lv_goto (tgt := 35) hx hb dX12_feed_74 (by decide) ?_
      exact ih v0 v1 x9 S8 _ _ _ hf hM (lv_sub hl [1, 2, 0] rfl)
set_option maxRecDepth 100000 in
set_option maxHeartbeats 4000000 in
theorem B_X12_feed_0 {p : Program} {l : Launch} {e : Env} {s : State} {m : MethodId} {args : Array Value} {below : List Frame} {meth : Method} {c : Code} {g : jG} {rr : Int32} {SS : jM} {v0 : Nat} {v1 : Int64} {v3 : Int32} {S : jM} (E : jEnv p s m args meth c cX12_feed "PensionHouseModel" (some .int) 5 g)  {H : Heap} {locs : List Loc} {ls : Array Slot} (hf : f_X12_feed v0 v1 v3 S = some (rr, SS)) (hM : jAt g S s H locs) (hl : lv_has ls 5 [(0, .ref (g.2.2 + v0)), (1, .long v1), (3, .int v3)]) : W p l e (jRm 2 0 0) s m args below meth c H locs 0 0 (MQ below (jQi g rr SS) args s 0 0 (jA0 g)) (F0 m 0 ls []) := by
  obtain ⟨hx, hb, hml, -, hts, hown, hK, -, hstr⟩ := id E
  unfold f_X12_feed at hf
  refine lv_iload_n hx hb dX12_feed_0 rfl (lv_at hl 2 rfl) ?_
  refine lv_i2l hx hb dX12_feed_1 rfl ?_
  refine lv_lconst (v := (1 : Int64)) hx hb dX12_feed_2 (by decide) ?_
  refine lv_ldc2 (v := (8 : Int64)) hx hb hown (hts _ lk_7_35) dX12_feed_3 ?_
  refine jbackI hM (jrunS E hM ci_X12_in (C_X12_in rfl) lk_7_36 hl.1 rfl rfl (Nat.le_of_ble_eq_true rfl) ⟨Nat.le_of_ble_eq_true rfl, Nat.le_of_ble_eq_true rfl⟩ ⟨Nat.le_refl _, Nat.le_refl _⟩ dX12_feed_6) (fun H locs hM => ?_)
  refine lv_if_ne (tgt := 15) hx hb dX12_feed_9 (by decide) (fun c10 => ?_) (fun c10 => ?_)
  · have hf := jf c10 hf
    refine lv_aload_n hx hb dX12_feed_15 rfl (lv_at hl 0 rfl) ?_
    obtain ⟨hq11, hf⟩ := jif hf
    refine gt_94 E hM hq11 lk_6_8 dX12_feed_16 ?_
    refine lv_iload_n hx hb dX12_feed_19 rfl (lv_at hl 2 rfl) ?_
    refine lv_iadd hx hb dX12_feed_20 ?_
    refine lv_sipush (v := (1600 : Int32)) hx hb dX12_feed_21 (by decide) ?_
    refine lv_icmp_le (tgt := 30) hx hb dX12_feed_24 (by decide) (fun c12 => ?_) (fun c12 => ?_)
    · have hf := jt c12 hf
      refine lv_iload_n hx hb dX12_feed_30 rfl (lv_at hl 2 rfl) ?_
      refine lv_iconst (v := (1 : Int32)) hx hb dX12_feed_31 (by decide) ?_
      refine lv_isub hx hb dX12_feed_32 ?_
      refine lv_topi (fun x13 ex13 => ?_)
      have hf := jlet_y ex13 hf
      refine lv_istore (lv' := [(4, .int x13), (0, .ref (g.2.2 + v0)), (1, .long v1), (3, .int v3)]) hx hb dX12_feed_33 hl (by decide) rfl (fun ls hl => ?_)
      exact B_X12_feed_35 E  1100000 v0 v1 x13 S _ _ _ hf hM (lv_sub hl [1, 2, 0] rfl)
    · have hf := jf c12 hf
      refine lv_bipush (v := (-5 : Int32)) hx hb dX12_feed_27 (by decide) ?_
      exact jireti (jr2 hf) E hM dX12_feed_29
  · have hf := jt c10 hf
    refine lv_bipush (v := (-3 : Int32)) hx hb dX12_feed_12 (by decide) ?_
    exact jireti (jr2 hf) E hM dX12_feed_14
set_option maxRecDepth 100000 in
theorem C_X12_feed {l : Launch} {g : jG} {a0 : Nat} {a1 : Int64} {a3 : Int32} {S : jM} {rr : Int32} {SS : jM} (hf : f_X12_feed a0 a1 a3 S = some (rr, SS)) : jMet l g yX12_feed cX12_feed 5 (some .int) 2 0 0 [.ref (g.2.2 + a0), .long a1, .int a3] S (jQi g rr SS) := by
  refine jof (by decide +kernel) (Nat.le_of_ble_eq_true rfl) ?_
  intro p e s m below meth c E hM ls hl
  have hl : lv_has ls 5 [(0, .ref (g.2.2 + a0)),(1, .long a1),(3, .int a3)] := hl
  exact B_X12_feed_0 E hf hM hl
-- PensionHouseModel.figure(IIII)I  mode M
noncomputable def f_X12_figure_227 (k166 : Nat → Int32 → Int32 → jM → Option (Int32 × jM)) (v0 : Nat) (v9 : Int32) (v10 : Int32) (S : jM) : Option (Int32 × jM) := jlet (v10 + (1 : Int32)) (fun x1 => k166 v0 v9 x1 S)
noncomputable def f_X12_figure_166 : Nat → Nat → Int32 → Int32 → jM → Option (Int32 × jM)
  | 0, _, _, _, _ => none
  | n + 1, v0, v9, v10, S => if jK v0 = 10 then if (jI S 133 v0) ≤ v10 then if 0 ≤ v9 then (f_X12_copy v0 (0 : Int32) v9 S).bind (fun S5 => some ((0 : Int32), S5)) else some (jI S 126 v0, S) else (jR S 155 v0).bind (fun r7 => (jR S 132 v0).bind (fun r9 => if jA r9 13 v10 = true then if jA r7 13 v10 = true then jlet (jrI S r7 (upd (jAI S r7) (v10).toNatClampNeg (jAI S r9 (v10).toNatClampNeg))) (fun S13 => (jR S13 132 v0).bind (fun r14 => if jA r14 13 v10 = true then if ((jAI S13 r14 (v10).toNatClampNeg) - (jAI S13 r14 (v10).toNatClampNeg) / (100 : Int32) * (100 : Int32)) = 0 then (jR S13 129 v0).bind (fun r18 => (jR S13 132 v0).bind (fun r20 => if jA r20 13 v10 = true then if jA r18 13 ((jAI S13 r20 (v10).toNatClampNeg) / (100 : Int32)) = true then (f_X12_copy v0 ((201 : Int32) + v10) (jAI S13 r18 ((jAI S13 r20 (v10).toNatClampNeg) / (100 : Int32)).toNatClampNeg) S13).bind (fun S24 => f_X12_figure_227 (f_X12_figure_166 n) v0 v9 v10 S24) else none else none)) else f_X12_figure_227 (f_X12_figure_166 n) v0 v9 v10 S13 else none)) else none else none)) else none
noncomputable def f_X12_figure_128 (v0 : Nat) (v9 : Int32) (t0 : Nat) (t1 : Int32) (S : jM) : Option (Int32 × jM) := if jK t0 = 10 then jlet (jsI S 150 t0 t1) (fun S27 => if jK v0 = 10 then jlet (jsI S27 151 v0 (jI S27 123 v0)) (fun S29 => jlet (jsI S29 152 v0 (jI S29 133 v0)) (fun S30 => jlet (jsI S30 153 v0 (jI S30 124 v0)) (fun S31 => jlet (jsI S31 154 v0 (jI S31 125 v0)) (fun S32 => f_X12_figure_166 1100000 v0 v9 (0 : Int32) S32)))) else none) else none
noncomputable def f_X12_figure_90 (v0 : Nat) (v1 : Int32) (v3 : Int32) (v4 : Int32) (v7 : Int32) (t0 : Int32) (S : jM) : Option (Int32 × jM) := if 0 ≤ t0 then if jK v0 = 10 then jbd (f_X12_beginCase v0 v7 t0 v1 v3 v4 S) (fun x34 S35 => if 0 ≤ x34 then f_X12_figure_128 v0 x34 v0 (-1 : Int32) S35 else f_X12_figure_128 v0 x34 v0 (jI S35 127 v0) S35) else none else some ((-4 : Int32), S)
noncomputable def f_X12_figure_78 (v0 : Nat) (v1 : Int32) (v3 : Int32) (v4 : Int32) (v7 : Int32) (S : jM) : Option (Int32 × jM) := f_X12_figure_90 v0 v1 v3 v4 v7 (-1 : Int32) S
noncomputable def f_X12_figure (v0 : Nat) (v1 : Int32) (v2 : Int32) (v3 : Int32) (v4 : Int32) (S : jM) : Option (Int32 × jM) := if jK v0 = 10 then jbd (f_X12_takeName v0 S) (fun x39 S40 => if (f_X12_in (v1.toInt64) (0 : Int64) (9 : Int64)) = 0 then some ((-2 : Int32), S40) else if (f_X12_in (v2.toInt64) (0 : Int64) (3 : Int64)) = 0 then some ((-2 : Int32), S40) else (f_X12_isDay v3).bind (fun x45 => if x45 = 0 then some ((-3 : Int32), S40) else if (f_X12_in (v4.toInt64) (0 : Int64) ((jI S40 139 v0).toInt64)) = 0 then some ((-3 : Int32), S40) else (f_X12_inForceAt v0 v2 v3 S40).bind (fun x49 => if x49 < 0 then f_X12_figure_78 v0 v1 v3 v4 x49 S40 else if x39 = (0 : Int64) then f_X12_figure_78 v0 v1 v3 v4 x49 S40 else (f_X12_findRule v0 x49 x39 S40).bind (fun x53 => f_X12_figure_90 v0 v1 v3 v4 x49 x53 S40)))) else none
set_option maxRecDepth 100000 in
set_option maxHeartbeats 4000000 in
theorem B_X12_figure_227 {p : Program} {l : Launch} {e : Env} {s : State} {m : MethodId} {args : Array Value} {below : List Frame} {meth : Method} {c : Code} {g : jG} {rr : Int32} {SS : jM} {v0 : Nat} {v9 : Int32} {v10 : Int32} {S : jM} {k166 : Nat → Int32 → Int32 → jM → Option (Int32 × jM)} (E : jEnv p s m args meth c cX12_figure "PensionHouseModel" (some .int) 11 g) (hk166 : ∀ (v0 : Nat) (v9 : Int32) (v10 : Int32) (S : jM) (H : Heap) (locs : List Loc) (ls : Array Slot), k166 v0 v9 v10 S = some (rr, SS) → jAt g S s H locs → lv_has ls 11 [(0, .ref (g.2.2 + v0)), (9, .int v9), (10, .int v10)] → W p l e (jRm 1019 0 0) s m args below meth c H locs 0 0 (MQ below (jQi g rr SS) args s 0 0 (jA0 g)) (F0 m 166 ls [])) {H : Heap} {locs : List Loc} {ls : Array Slot} (hf : f_X12_figure_227 k166 v0 v9 v10 S = some (rr, SS)) (hM : jAt g S s H locs) (hl : lv_has ls 11 [(0, .ref (g.2.2 + v0)), (9, .int v9), (10, .int v10)]) : W p l e (jRm 1019 0 0) s m args below meth c H locs 0 0 (MQ below (jQi g rr SS) args s 0 0 (jA0 g)) (F0 m 227 ls []) := by
  obtain ⟨hx, hb, hml, -, hts, hown, hK, -, hstr⟩ := id E
  unfold f_X12_figure_227 at hf
  obtain ⟨x1, ex1⟩ : ∃ z, z = v10 + (1 : Int32) := ⟨_, rfl⟩
  have hf := jlet_y ex1 hf
  refine lv_iinc (v := x1) (lv' := [(10, .int x1), (0, .ref (g.2.2 + v0)), (9, .int v9)]) hx hb dX12_figure_227 hl (k := 2) rfl (by rw [ex1]; rfl) (by decide) rfl (fun ls hl => ?_)
  refine lv_goto (tgt := 166) hx hb dX12_figure_230 (by decide) ?_
  exact hk166 v0 v9 x1 S _ _ _ hf hM (lv_sub hl [1, 2, 0] rfl)
set_option maxRecDepth 100000 in
set_option maxHeartbeats 4000000 in
theorem B_X12_figure_166 {p : Program} {l : Launch} {e : Env} {s : State} {m : MethodId} {args : Array Value} {below : List Frame} {meth : Method} {c : Code} {g : jG} {rr : Int32} {SS : jM} (E : jEnv p s m args meth c cX12_figure "PensionHouseModel" (some .int) 11 g)  : ∀ (n : Nat) (v0 : Nat) (v9 : Int32) (v10 : Int32) (S : jM) (H : Heap) (locs : List Loc) (ls : Array Slot), f_X12_figure_166 n v0 v9 v10 S = some (rr, SS) → jAt g S s H locs → lv_has ls 11 [(0, .ref (g.2.2 + v0)), (9, .int v9), (10, .int v10)] → W p l e (jRm 1019 0 0) s m args below meth c H locs 0 0 (MQ below (jQi g rr SS) args s 0 0 (jA0 g)) (F0 m 166 ls []) := by
  obtain ⟨hx, hb, hml, -, hts, hown, hK, -, hstr⟩ := id E
  intro n
  induction n with
  | zero => intro v0 v9 v10 S H locs ls hf hM hl; rw [f_X12_figure_166] at hf; cases hf
  | succ n ih =>
    intro v0 v9 v10 S H locs ls hf hM hl
    rw [f_X12_figure_166] at hf
    refine lv_iload hx hb dX12_figure_166 (lv_at hl 2 rfl) ?_
    refine lv_aload_n hx hb dX12_figure_168 rfl (lv_at hl 0 rfl) ?_
    obtain ⟨hq2, hf⟩ := jif hf
    refine gt_133 E hM hq2 lk_6_47 dX12_figure_169 ?_
    refine lv_icmp_ge (tgt := 233) hx hb dX12_figure_172 (by decide) (fun c3 => ?_) (fun c3 => ?_)
    · have hf := jt c3 hf
      refine lv_iload hx hb dX12_figure_233 (lv_at hl 1 rfl) ?_
      refine lv_if_ge (tgt := 243) hx hb dX12_figure_235 (by decide) (fun c4 => ?_) (fun c4 => ?_)
      · have hf := jt c4 hf
        refine lv_aload_n hx hb dX12_figure_243 rfl (lv_at hl 0 rfl) ?_
        refine lv_iconst (v := (0 : Int32)) hx hb dX12_figure_244 (by decide) ?_
        refine lv_iload hx hb dX12_figure_245 (lv_at hl 1 rfl) ?_
        obtain ⟨S5, hc6, hf⟩ := jb hf
        refine jbackV hM (jrunV E hM ci_X12_copy (C_X12_copy hc6) lk_7_180 hq2 (by decide) rfl hl.1 rfl rfl (Nat.le_of_ble_eq_true rfl) ⟨Nat.le_of_ble_eq_true rfl, Nat.le_of_ble_eq_true rfl⟩ ⟨Nat.le_refl _, Nat.le_refl _⟩ dX12_figure_247) (fun H locs hM => ?_)
        refine lv_iconst (v := (0 : Int32)) hx hb dX12_figure_250 (by decide) ?_
        exact jireti (jr2 hf) E hM dX12_figure_251
      · have hf := jf c4 hf
        refine lv_aload_n hx hb dX12_figure_238 rfl (lv_at hl 0 rfl) ?_
        refine gt_126 E hM hq2 lk_6_40 dX12_figure_239 ?_
        exact jireti (jr2 hf) E hM dX12_figure_242
    · have hf := jf c3 hf
      refine lv_aload_n hx hb dX12_figure_175 rfl (lv_at hl 0 rfl) ?_
      refine gt_155 E hM hq2 lk_6_69 dX12_figure_176 ?_
      obtain ⟨r7, hr8, hf⟩ := jb hf
      rw [hr8]
      show W p l e _ s m args below meth c H locs 0 0 _ (F0 m _ ls (.ref (g.2.2 + r7) :: _))
      refine lv_iload hx hb dX12_figure_179 (lv_at hl 2 rfl) ?_
      refine lv_aload_n hx hb dX12_figure_181 rfl (lv_at hl 0 rfl) ?_
      refine gt_132 E hM hq2 lk_6_46 dX12_figure_182 ?_
      obtain ⟨r9, hr10, hf⟩ := jb hf
      rw [hr10]
      show W p l e _ s m args below meth c H locs 0 0 _ (F0 m _ ls (.ref (g.2.2 + r9) :: _))
      refine lv_iload hx hb dX12_figure_185 (lv_at hl 2 rfl) ?_
      obtain ⟨ha11, hf⟩ := jif hf
      refine jiald E hM ha11 dX12_figure_187 ?_
      obtain ⟨ha12, hf⟩ := jif hf
      refine jiast E hM ha12 dX12_figure_188 (fun H locs S13 eS13 hM => ?_)
      have hf := jlet_y eS13 hf
      refine lv_aload_n hx hb dX12_figure_189 rfl (lv_at hl 0 rfl) ?_
      refine gt_132 E hM hq2 lk_6_46 dX12_figure_190 ?_
      obtain ⟨r14, hr15, hf⟩ := jb hf
      rw [hr15]
      show W p l e _ s m args below meth c H locs 0 0 _ (F0 m _ ls (.ref (g.2.2 + r14) :: _))
      refine lv_iload hx hb dX12_figure_193 (lv_at hl 2 rfl) ?_
      obtain ⟨ha16, hf⟩ := jif hf
      refine jiald E hM ha16 dX12_figure_195 ?_
      refine lv_bipush (v := (100 : Int32)) hx hb dX12_figure_196 (by decide) ?_
      refine lv_irem hx hb dX12_figure_198 (by decide) ?_
      refine lv_if_ne (tgt := 227) hx hb dX12_figure_199 (by decide) (fun c17 => ?_) (fun c17 => ?_)
      · have hf := jf c17 hf
        exact B_X12_figure_227 E ih hf hM (lv_sub hl [0, 1, 2] rfl)
      · have hf := jt c17 hf
        refine lv_aload_n hx hb dX12_figure_202 rfl (lv_at hl 0 rfl) ?_
        refine lv_sipush (v := (201 : Int32)) hx hb dX12_figure_203 (by decide) ?_
        refine lv_iload hx hb dX12_figure_206 (lv_at hl 2 rfl) ?_
        refine lv_iadd hx hb dX12_figure_208 ?_
        refine lv_aload_n hx hb dX12_figure_209 rfl (lv_at hl 0 rfl) ?_
        refine gt_129 E hM hq2 lk_6_43 dX12_figure_210 ?_
        obtain ⟨r18, hr19, hf⟩ := jb hf
        rw [hr19]
        show W p l e _ s m args below meth c H locs 0 0 _ (F0 m _ ls (.ref (g.2.2 + r18) :: _))
        refine lv_aload_n hx hb dX12_figure_213 rfl (lv_at hl 0 rfl) ?_
        refine gt_132 E hM hq2 lk_6_46 dX12_figure_214 ?_
        obtain ⟨r20, hr21, hf⟩ := jb hf
        rw [hr21]
        show W p l e _ s m args below meth c H locs 0 0 _ (F0 m _ ls (.ref (g.2.2 + r20) :: _))
        refine lv_iload hx hb dX12_figure_217 (lv_at hl 2 rfl) ?_
        obtain ⟨ha22, hf⟩ := jif hf
        refine jiald E hM ha22 dX12_figure_219 ?_
        refine lv_bipush (v := (100 : Int32)) hx hb dX12_figure_220 (by decide) ?_
        refine lv_idiv hx hb dX12_figure_222 (by decide) ?_
        obtain ⟨ha23, hf⟩ := jif hf
        refine jiald E hM ha23 dX12_figure_223 ?_
        obtain ⟨S24, hc25, hf⟩ := jb hf
        refine jbackV hM (jrunV E hM ci_X12_copy (C_X12_copy hc25) lk_7_180 hq2 (by decide) rfl hl.1 rfl rfl (Nat.le_of_ble_eq_true rfl) ⟨Nat.le_of_ble_eq_true rfl, Nat.le_of_ble_eq_true rfl⟩ ⟨Nat.le_refl _, Nat.le_refl _⟩ dX12_figure_224) (fun H locs hM => ?_)
        exact B_X12_figure_227 E ih hf hM (lv_sub hl [0, 1, 2] rfl)
set_option maxRecDepth 100000 in
set_option maxHeartbeats 4000000 in
theorem B_X12_figure_128 {p : Program} {l : Launch} {e : Env} {s : State} {m : MethodId} {args : Array Value} {below : List Frame} {meth : Method} {c : Code} {g : jG} {rr : Int32} {SS : jM} {v0 : Nat} {v9 : Int32} {t0 : Nat} {t1 : Int32} {S : jM} (E : jEnv p s m args meth c cX12_figure "PensionHouseModel" (some .int) 11 g)  {H : Heap} {locs : List Loc} {ls : Array Slot} (hf : f_X12_figure_128 v0 v9 t0 t1 S = some (rr, SS)) (hM : jAt g S s H locs) (hl : lv_has ls 11 [(0, .ref (g.2.2 + v0)), (9, .int v9)]) : W p l e (jRm 1019 0 0) s m args below meth c H locs 0 0 (MQ below (jQi g rr SS) args s 0 0 (jA0 g)) (F0 m 128 ls [.int t1, .ref (g.2.2 + t0)]) := by
  obtain ⟨hx, hb, hml, -, hts, hown, hK, -, hstr⟩ := id E
  unfold f_X12_figure_128 at hf
  obtain ⟨hq26, hf⟩ := jif hf
  refine pt_150 E hM hq26 lk_6_64 dX12_figure_128 (fun H locs S27 eS27 hM => ?_)
  have hf := jlet_y eS27 hf
  refine lv_aload_n hx hb dX12_figure_131 rfl (lv_at hl 0 rfl) ?_
  refine lv_aload_n hx hb dX12_figure_132 rfl (lv_at hl 0 rfl) ?_
  obtain ⟨hq28, hf⟩ := jif hf
  refine gt_123 E hM hq28 lk_6_37 dX12_figure_133 ?_
  refine pt_151 E hM hq28 lk_6_65 dX12_figure_136 (fun H locs S29 eS29 hM => ?_)
  have hf := jlet_y eS29 hf
  refine lv_aload_n hx hb dX12_figure_139 rfl (lv_at hl 0 rfl) ?_
  refine lv_aload_n hx hb dX12_figure_140 rfl (lv_at hl 0 rfl) ?_
  refine gt_133 E hM hq28 lk_6_47 dX12_figure_141 ?_
  refine pt_152 E hM hq28 lk_6_66 dX12_figure_144 (fun H locs S30 eS30 hM => ?_)
  have hf := jlet_y eS30 hf
  refine lv_aload_n hx hb dX12_figure_147 rfl (lv_at hl 0 rfl) ?_
  refine lv_aload_n hx hb dX12_figure_148 rfl (lv_at hl 0 rfl) ?_
  refine gt_124 E hM hq28 lk_6_38 dX12_figure_149 ?_
  refine pt_153 E hM hq28 lk_6_67 dX12_figure_152 (fun H locs S31 eS31 hM => ?_)
  have hf := jlet_y eS31 hf
  refine lv_aload_n hx hb dX12_figure_155 rfl (lv_at hl 0 rfl) ?_
  refine lv_aload_n hx hb dX12_figure_156 rfl (lv_at hl 0 rfl) ?_
  refine gt_125 E hM hq28 lk_6_39 dX12_figure_157 ?_
  refine pt_154 E hM hq28 lk_6_68 dX12_figure_160 (fun H locs S32 eS32 hM => ?_)
  have hf := jlet_y eS32 hf
  refine lv_iconst (v := (0 : Int32)) hx hb dX12_figure_163 (by decide) ?_
  refine lv_istore (lv' := [(10, .int (0 : Int32)), (0, .ref (g.2.2 + v0)), (9, .int v9)]) hx hb dX12_figure_164 hl (by decide) rfl (fun ls hl => ?_)
  exact B_X12_figure_166 E  1100000 v0 v9 (0 : Int32) S32 _ _ _ hf hM (lv_sub hl [1, 2, 0] rfl)
set_option maxRecDepth 100000 in
set_option maxHeartbeats 4000000 in
theorem B_X12_figure_90 {p : Program} {l : Launch} {e : Env} {s : State} {m : MethodId} {args : Array Value} {below : List Frame} {meth : Method} {c : Code} {g : jG} {rr : Int32} {SS : jM} {v0 : Nat} {v1 : Int32} {v3 : Int32} {v4 : Int32} {v7 : Int32} {t0 : Int32} {S : jM} (E : jEnv p s m args meth c cX12_figure "PensionHouseModel" (some .int) 11 g)  {H : Heap} {locs : List Loc} {ls : Array Slot} (hf : f_X12_figure_90 v0 v1 v3 v4 v7 t0 S = some (rr, SS)) (hM : jAt g S s H locs) (hl : lv_has ls 11 [(0, .ref (g.2.2 + v0)), (1, .int v1), (3, .int v3), (4, .int v4), (7, .int v7)]) : W p l e (jRm 1019 0 0) s m args below meth c H locs 0 0 (MQ below (jQi g rr SS) args s 0 0 (jA0 g)) (F0 m 90 ls [.int t0]) := by
  obtain ⟨hx, hb, hml, -, hts, hown, hK, -, hstr⟩ := id E
  unfold f_X12_figure_90 at hf
  refine lv_istore (lv' := [(8, .int t0), (0, .ref (g.2.2 + v0)), (1, .int v1), (3, .int v3), (4, .int v4), (7, .int v7)]) hx hb dX12_figure_90 hl (by decide) rfl (fun ls hl => ?_)
  refine lv_iload hx hb dX12_figure_92 (lv_at hl 0 rfl) ?_
  refine lv_if_ge (tgt := 100) hx hb dX12_figure_94 (by decide) (fun c33 => ?_) (fun c33 => ?_)
  · have hf := jt c33 hf
    refine lv_aload_n hx hb dX12_figure_100 rfl (lv_at hl 1 rfl) ?_
    refine lv_iload hx hb dX12_figure_101 (lv_at hl 5 rfl) ?_
    refine lv_iload hx hb dX12_figure_103 (lv_at hl 0 rfl) ?_
    refine lv_iload_n hx hb dX12_figure_105 rfl (lv_at hl 2 rfl) ?_
    refine lv_iload_n hx hb dX12_figure_106 rfl (lv_at hl 3 rfl) ?_
    refine lv_iload hx hb dX12_figure_107 (lv_at hl 4 rfl) ?_
    obtain ⟨hq37, hf⟩ := jif hf
    obtain ⟨x34, S35, hc36, hf⟩ := jbd_e hf
    refine jbackI hM (jrunV E hM ci_X12_beginCase (C_X12_beginCase hc36) lk_8_71 hq37 (by decide) rfl hl.1 rfl rfl (Nat.le_of_ble_eq_true rfl) ⟨Nat.le_of_ble_eq_true rfl, Nat.le_of_ble_eq_true rfl⟩ ⟨Nat.le_refl _, Nat.le_refl _⟩ dX12_figure_109) (fun H locs hM => ?_)
    refine lv_istore (lv' := [(9, .int x34), (8, .int t0), (0, .ref (g.2.2 + v0)), (1, .int v1), (3, .int v3), (4, .int v4), (7, .int v7)]) hx hb dX12_figure_112 hl (by decide) rfl (fun ls hl => ?_)
    refine lv_aload_n hx hb dX12_figure_114 rfl (lv_at hl 2 rfl) ?_
    refine lv_iload hx hb dX12_figure_115 (lv_at hl 0 rfl) ?_
    refine lv_if_ge (tgt := 127) hx hb dX12_figure_117 (by decide) (fun c38 => ?_) (fun c38 => ?_)
    · have hf := jt c38 hf
      refine lv_iconst (v := (-1 : Int32)) hx hb dX12_figure_127 (by decide) ?_
      exact B_X12_figure_128 E  hf hM (lv_sub hl [2, 0] rfl)
    · have hf := jf c38 hf
      refine lv_aload_n hx hb dX12_figure_120 rfl (lv_at hl 2 rfl) ?_
      refine gt_127 E hM hq37 lk_6_41 dX12_figure_121 ?_
      refine lv_goto (tgt := 128) hx hb dX12_figure_124 (by decide) ?_
      exact B_X12_figure_128 E  hf hM (lv_sub hl [2, 0] rfl)
  · have hf := jf c33 hf
    refine lv_bipush (v := (-4 : Int32)) hx hb dX12_figure_97 (by decide) ?_
    exact jireti (jr2 hf) E hM dX12_figure_99
set_option maxRecDepth 100000 in
set_option maxHeartbeats 4000000 in
theorem B_X12_figure_78 {p : Program} {l : Launch} {e : Env} {s : State} {m : MethodId} {args : Array Value} {below : List Frame} {meth : Method} {c : Code} {g : jG} {rr : Int32} {SS : jM} {v0 : Nat} {v1 : Int32} {v3 : Int32} {v4 : Int32} {v7 : Int32} {S : jM} (E : jEnv p s m args meth c cX12_figure "PensionHouseModel" (some .int) 11 g)  {H : Heap} {locs : List Loc} {ls : Array Slot} (hf : f_X12_figure_78 v0 v1 v3 v4 v7 S = some (rr, SS)) (hM : jAt g S s H locs) (hl : lv_has ls 11 [(0, .ref (g.2.2 + v0)), (1, .int v1), (3, .int v3), (4, .int v4), (7, .int v7)]) : W p l e (jRm 1019 0 0) s m args below meth c H locs 0 0 (MQ below (jQi g rr SS) args s 0 0 (jA0 g)) (F0 m 78 ls []) := by
  obtain ⟨hx, hb, hml, -, hts, hown, hK, -, hstr⟩ := id E
  unfold f_X12_figure_78 at hf
  refine lv_iconst (v := (-1 : Int32)) hx hb dX12_figure_78 (by decide) ?_
  refine lv_goto (tgt := 90) hx hb dX12_figure_79 (by decide) ?_
  exact B_X12_figure_90 E  hf hM (lv_sub hl [0, 1, 2, 3, 4] rfl)
set_option maxRecDepth 100000 in
set_option maxHeartbeats 4000000 in
theorem B_X12_figure_0 {p : Program} {l : Launch} {e : Env} {s : State} {m : MethodId} {args : Array Value} {below : List Frame} {meth : Method} {c : Code} {g : jG} {rr : Int32} {SS : jM} {v0 : Nat} {v1 : Int32} {v2 : Int32} {v3 : Int32} {v4 : Int32} {S : jM} (E : jEnv p s m args meth c cX12_figure "PensionHouseModel" (some .int) 11 g)  {H : Heap} {locs : List Loc} {ls : Array Slot} (hf : f_X12_figure v0 v1 v2 v3 v4 S = some (rr, SS)) (hM : jAt g S s H locs) (hl : lv_has ls 11 [(0, .ref (g.2.2 + v0)), (1, .int v1), (2, .int v2), (3, .int v3), (4, .int v4)]) : W p l e (jRm 1019 0 0) s m args below meth c H locs 0 0 (MQ below (jQi g rr SS) args s 0 0 (jA0 g)) (F0 m 0 ls []) := by
  obtain ⟨hx, hb, hml, -, hts, hown, hK, -, hstr⟩ := id E
  unfold f_X12_figure at hf
  refine lv_aload_n hx hb dX12_figure_0 rfl (lv_at hl 0 rfl) ?_
  obtain ⟨hq42, hf⟩ := jif hf
  obtain ⟨x39, S40, hc41, hf⟩ := jbd_e hf
  refine jbackL hM (jrunV E hM ci_X12_takeName (C_X12_takeName hc41) lk_7_120 hq42 (by decide) rfl hl.1 rfl rfl (Nat.le_of_ble_eq_true rfl) ⟨Nat.le_of_ble_eq_true rfl, Nat.le_of_ble_eq_true rfl⟩ ⟨Nat.le_refl _, Nat.le_refl _⟩ dX12_figure_1) (fun H locs hM => ?_)
  refine lv_lstore (lv' := [(5, .long x39), (0, .ref (g.2.2 + v0)), (1, .int v1), (2, .int v2), (3, .int v3), (4, .int v4)]) hx hb dX12_figure_4 hl (by decide) rfl (fun ls hl => ?_)
  refine lv_iload_n hx hb dX12_figure_6 rfl (lv_at hl 2 rfl) ?_
  refine lv_i2l hx hb dX12_figure_7 rfl ?_
  refine lv_lconst (v := (0 : Int64)) hx hb dX12_figure_8 (by decide) ?_
  refine lv_ldc2 (v := (9 : Int64)) hx hb hown (hts _ lk_7_176) dX12_figure_9 ?_
  refine jbackI hM (jrunS E hM ci_X12_in (C_X12_in rfl) lk_7_36 hl.1 rfl rfl (Nat.le_of_ble_eq_true rfl) ⟨Nat.le_of_ble_eq_true rfl, Nat.le_of_ble_eq_true rfl⟩ ⟨Nat.le_refl _, Nat.le_refl _⟩ dX12_figure_12) (fun H locs hM => ?_)
  refine lv_if_eq (tgt := 30) hx hb dX12_figure_15 (by decide) (fun c43 => ?_) (fun c43 => ?_)
  · have hf := jt c43 hf
    refine lv_bipush (v := (-2 : Int32)) hx hb dX12_figure_30 (by decide) ?_
    exact jireti (jr2 hf) E hM dX12_figure_32
  · have hf := jf c43 hf
    refine lv_iload_n hx hb dX12_figure_18 rfl (lv_at hl 3 rfl) ?_
    refine lv_i2l hx hb dX12_figure_19 rfl ?_
    refine lv_lconst (v := (0 : Int64)) hx hb dX12_figure_20 (by decide) ?_
    refine lv_ldc2 (v := (3 : Int64)) hx hb hown (hts _ lk_7_200) dX12_figure_21 ?_
    refine jbackI hM (jrunS E hM ci_X12_in (C_X12_in rfl) lk_7_36 hl.1 rfl rfl (Nat.le_of_ble_eq_true rfl) ⟨Nat.le_of_ble_eq_true rfl, Nat.le_of_ble_eq_true rfl⟩ ⟨Nat.le_refl _, Nat.le_refl _⟩ dX12_figure_24) (fun H locs hM => ?_)
    refine lv_if_ne (tgt := 33) hx hb dX12_figure_27 (by decide) (fun c44 => ?_) (fun c44 => ?_)
    · have hf := jf c44 hf
      refine lv_iload_n hx hb dX12_figure_33 rfl (lv_at hl 4 rfl) ?_
      obtain ⟨x45, hc46, hf⟩ := jb hf
      refine jbackI hM (jrunS E hM ci_X12_isDay (C_X12_isDay hc46) lk_7_177 hl.1 rfl rfl (Nat.le_of_ble_eq_true rfl) ⟨Nat.le_of_ble_eq_true rfl, Nat.le_of_ble_eq_true rfl⟩ ⟨Nat.le_refl _, Nat.le_refl _⟩ dX12_figure_34) (fun H locs hM => ?_)
      refine lv_if_eq (tgt := 55) hx hb dX12_figure_37 (by decide) (fun c47 => ?_) (fun c47 => ?_)
      · have hf := jt c47 hf
        refine lv_bipush (v := (-3 : Int32)) hx hb dX12_figure_55 (by decide) ?_
        exact jireti (jr2 hf) E hM dX12_figure_57
      · have hf := jf c47 hf
        refine lv_iload hx hb dX12_figure_40 (lv_at hl 5 rfl) ?_
        refine lv_i2l hx hb dX12_figure_42 rfl ?_
        refine lv_lconst (v := (0 : Int64)) hx hb dX12_figure_43 (by decide) ?_
        refine lv_aload_n hx hb dX12_figure_44 rfl (lv_at hl 1 rfl) ?_
        refine gt_139 E hM hq42 lk_6_53 dX12_figure_45 ?_
        refine lv_i2l hx hb dX12_figure_48 rfl ?_
        refine jbackI hM (jrunS E hM ci_X12_in (C_X12_in rfl) lk_7_36 hl.1 rfl rfl (Nat.le_of_ble_eq_true rfl) ⟨Nat.le_of_ble_eq_true rfl, Nat.le_of_ble_eq_true rfl⟩ ⟨Nat.le_refl _, Nat.le_refl _⟩ dX12_figure_49) (fun H locs hM => ?_)
        refine lv_if_ne (tgt := 58) hx hb dX12_figure_52 (by decide) (fun c48 => ?_) (fun c48 => ?_)
        · have hf := jf c48 hf
          refine lv_aload_n hx hb dX12_figure_58 rfl (lv_at hl 1 rfl) ?_
          refine lv_iload_n hx hb dX12_figure_59 rfl (lv_at hl 3 rfl) ?_
          refine lv_iload_n hx hb dX12_figure_60 rfl (lv_at hl 4 rfl) ?_
          obtain ⟨x49, hc50, hf⟩ := jb hf
          refine jbackI hM (jrunV E hM ci_X12_inForceAt (C_X12_inForceAt hc50) lk_8_63 hq42 (by decide) rfl hl.1 rfl rfl (Nat.le_of_ble_eq_true rfl) ⟨Nat.le_of_ble_eq_true rfl, Nat.le_of_ble_eq_true rfl⟩ ⟨Nat.le_refl _, Nat.le_refl _⟩ dX12_figure_61) (fun H locs hM => ?_)
          refine lv_istore (lv' := [(7, .int x49), (5, .long x39), (0, .ref (g.2.2 + v0)), (1, .int v1), (2, .int v2), (3, .int v3), (4, .int v4)]) hx hb dX12_figure_64 hl (by decide) rfl (fun ls hl => ?_)
          refine lv_iload hx hb dX12_figure_66 (lv_at hl 0 rfl) ?_
          refine lv_if_lt (tgt := 78) hx hb dX12_figure_68 (by decide) (fun c51 => ?_) (fun c51 => ?_)
          · have hf := jt c51 hf
            exact B_X12_figure_78 E  hf hM (lv_sub hl [2, 3, 5, 6, 0] rfl)
          · have hf := jf c51 hf
            refine lv_lload hx hb dX12_figure_71 (lv_at hl 1 rfl) ?_
            refine lv_lconst (v := (0 : Int64)) hx hb dX12_figure_73 (by decide) ?_
            refine jl_ne (tgt := 82) hx hb dX12_figure_74 dX12_figure_75 (by decide) (fun c52 => ?_) (fun c52 => ?_)
            · have hf := jf c52 hf
              refine lv_aload_n hx hb dX12_figure_82 rfl (lv_at hl 2 rfl) ?_
              refine lv_iload hx hb dX12_figure_83 (lv_at hl 0 rfl) ?_
              refine lv_lload hx hb dX12_figure_85 (lv_at hl 1 rfl) ?_
              obtain ⟨x53, hc54, hf⟩ := jb hf
              refine jbackI hM (jrunV E hM ci_X12_findRule (C_X12_findRule hc54) lk_7_229 hq42 (by decide) rfl hl.1 rfl rfl (Nat.le_of_ble_eq_true rfl) ⟨Nat.le_of_ble_eq_true rfl, Nat.le_of_ble_eq_true rfl⟩ ⟨Nat.le_refl _, Nat.le_refl _⟩ dX12_figure_87) (fun H locs hM => ?_)
              exact B_X12_figure_90 E  hf hM (lv_sub hl [2, 3, 5, 6, 0] rfl)
            · have hf := jt c52 hf
              exact B_X12_figure_78 E  hf hM (lv_sub hl [2, 3, 5, 6, 0] rfl)
        · have hf := jt c48 hf
          refine lv_bipush (v := (-3 : Int32)) hx hb dX12_figure_55 (by decide) ?_
          exact jireti (jr2 hf) E hM dX12_figure_57
    · have hf := jt c44 hf
      refine lv_bipush (v := (-2 : Int32)) hx hb dX12_figure_30 (by decide) ?_
      exact jireti (jr2 hf) E hM dX12_figure_32
set_option maxRecDepth 100000 in
theorem C_X12_figure {l : Launch} {g : jG} {a0 : Nat} {a1 : Int32} {a2 : Int32} {a3 : Int32} {a4 : Int32} {S : jM} {rr : Int32} {SS : jM} (hf : f_X12_figure a0 a1 a2 a3 a4 S = some (rr, SS)) : jMet l g yX12_figure cX12_figure 11 (some .int) 1019 0 0 [.ref (g.2.2 + a0), .int a1, .int a2, .int a3, .int a4] S (jQi g rr SS) := by
  refine jof (by decide +kernel) (Nat.le_of_ble_eq_true rfl) ?_
  intro p e s m below meth c E hM ls hl
  have hl : lv_has ls 11 [(0, .ref (g.2.2 + a0)),(1, .int a1),(2, .int a2),(3, .int a3),(4, .int a4)] := hl
  exact B_X12_figure_0 E hf hM hl
-- PensionHouseModel.inForce(II)I  mode R
noncomputable def f_X12_inForce (v0 : Nat) (v1 : Int32) (v2 : Int32) (S : jM) : Option Int32 := if (f_X12_in (v1.toInt64) (0 : Int64) (3 : Int64)) = 0 then some (-2 : Int32) else (f_X12_isDay v2).bind (fun x2 => if x2 = 0 then some (-3 : Int32) else if jK v0 = 10 then (f_X12_inForceAt v0 v1 v2 S).bind (fun x5 => if 0 ≤ x5 then (jR S 147 v0).bind (fun r9 => if jA r9 13 x5 = true then some (jAI S r9 (x5).toNatClampNeg) else none) else some (-1 : Int32)) else none)
set_option maxRecDepth 100000 in
set_option maxHeartbeats 4000000 in
theorem B_X12_inForce_0 {p : Program} {l : Launch} {e : Env} {s : State} {m : MethodId} {args : Array Value} {below : List Frame} {meth : Method} {c : Code} {g : jG} {rr : Int32} {S : jM} {v0 : Nat} {v1 : Int32} {v2 : Int32} (E : jEnv p s m args meth c cX12_inForce "PensionHouseModel" (some .int) 4 g)  {H : Heap} {locs : List Loc} {ls : Array Slot} (hf : f_X12_inForce v0 v1 v2 S = some rr) (hM : jAt g S s H locs) (hl : lv_has ls 4 [(0, .ref (g.2.2 + v0)), (1, .int v1), (2, .int v2)]) : W p l e (jRm 3 0 0) s m args below meth c H locs 0 0 (MQ below (jQi g rr S) args s 0 0 (jA0 g)) (F0 m 0 ls []) := by
  obtain ⟨hx, hb, hml, -, hts, hown, hK, -, hstr⟩ := id E
  unfold f_X12_inForce at hf
  refine lv_iload_n hx hb dX12_inForce_0 rfl (lv_at hl 1 rfl) ?_
  refine lv_i2l hx hb dX12_inForce_1 rfl ?_
  refine lv_lconst (v := (0 : Int64)) hx hb dX12_inForce_2 (by decide) ?_
  refine lv_ldc2 (v := (3 : Int64)) hx hb hown (hts _ lk_7_200) dX12_inForce_3 ?_
  refine jbackI hM (jrunS E hM ci_X12_in (C_X12_in rfl) lk_7_36 hl.1 rfl rfl (Nat.le_of_ble_eq_true rfl) ⟨Nat.le_of_ble_eq_true rfl, Nat.le_of_ble_eq_true rfl⟩ ⟨Nat.le_refl _, Nat.le_refl _⟩ dX12_inForce_6) (fun H locs hM => ?_)
  refine lv_if_ne (tgt := 15) hx hb dX12_inForce_9 (by decide) (fun c1 => ?_) (fun c1 => ?_)
  · have hf := jf c1 hf
    refine lv_iload_n hx hb dX12_inForce_15 rfl (lv_at hl 2 rfl) ?_
    obtain ⟨x2, hc3, hf⟩ := jb hf
    refine jbackI hM (jrunS E hM ci_X12_isDay (C_X12_isDay hc3) lk_7_177 hl.1 rfl rfl (Nat.le_of_ble_eq_true rfl) ⟨Nat.le_of_ble_eq_true rfl, Nat.le_of_ble_eq_true rfl⟩ ⟨Nat.le_refl _, Nat.le_refl _⟩ dX12_inForce_16) (fun H locs hM => ?_)
    refine lv_if_ne (tgt := 25) hx hb dX12_inForce_19 (by decide) (fun c4 => ?_) (fun c4 => ?_)
    · have hf := jf c4 hf
      refine lv_aload_n hx hb dX12_inForce_25 rfl (lv_at hl 0 rfl) ?_
      refine lv_iload_n hx hb dX12_inForce_26 rfl (lv_at hl 1 rfl) ?_
      refine lv_iload_n hx hb dX12_inForce_27 rfl (lv_at hl 2 rfl) ?_
      obtain ⟨hq7, hf⟩ := jif hf
      obtain ⟨x5, hc6, hf⟩ := jb hf
      refine jbackI hM (jrunV E hM ci_X12_inForceAt (C_X12_inForceAt hc6) lk_8_63 hq7 (by decide) rfl hl.1 rfl rfl (Nat.le_of_ble_eq_true rfl) ⟨Nat.le_of_ble_eq_true rfl, Nat.le_of_ble_eq_true rfl⟩ ⟨Nat.le_refl _, Nat.le_refl _⟩ dX12_inForce_28) (fun H locs hM => ?_)
      refine lv_istore_n (lv' := [(3, .int x5), (0, .ref (g.2.2 + v0)), (1, .int v1), (2, .int v2)]) hx hb dX12_inForce_31 rfl hl (by decide) rfl (fun ls hl => ?_)
      refine lv_iload_n hx hb dX12_inForce_32 rfl (lv_at hl 0 rfl) ?_
      refine lv_if_ge (tgt := 40) hx hb dX12_inForce_33 (by decide) (fun c8 => ?_) (fun c8 => ?_)
      · have hf := jt c8 hf
        refine lv_aload_n hx hb dX12_inForce_40 rfl (lv_at hl 1 rfl) ?_
        refine gt_147 E hM hq7 lk_6_61 dX12_inForce_41 ?_
        obtain ⟨r9, hr10, hf⟩ := jb hf
        rw [hr10]
        show W p l e _ s m args below meth c H locs 0 0 _ (F0 m _ ls (.ref (g.2.2 + r9) :: _))
        refine lv_iload_n hx hb dX12_inForce_44 rfl (lv_at hl 0 rfl) ?_
        obtain ⟨ha11, hf⟩ := jif hf
        refine jiald E hM ha11 dX12_inForce_45 ?_
        exact jireti (jr1 hf) E hM dX12_inForce_46
      · have hf := jf c8 hf
        refine lv_iconst (v := (-1 : Int32)) hx hb dX12_inForce_36 (by decide) ?_
        refine lv_goto (tgt := 46) hx hb dX12_inForce_37 (by decide) ?_
        exact jireti (jr1 hf) E hM dX12_inForce_46
    · have hf := jt c4 hf
      refine lv_bipush (v := (-3 : Int32)) hx hb dX12_inForce_22 (by decide) ?_
      exact jireti (jr1 hf) E hM dX12_inForce_24
  · have hf := jt c1 hf
    refine lv_bipush (v := (-2 : Int32)) hx hb dX12_inForce_12 (by decide) ?_
    exact jireti (jr1 hf) E hM dX12_inForce_14
set_option maxRecDepth 100000 in
theorem C_X12_inForce {l : Launch} {g : jG} {a0 : Nat} {a1 : Int32} {a2 : Int32} {S : jM} {rr : Int32} (hf : f_X12_inForce a0 a1 a2 S = some rr) : jMet l g yX12_inForce cX12_inForce 4 (some .int) 3 0 0 [.ref (g.2.2 + a0), .int a1, .int a2] S (jQi g rr S) := by
  refine jof (by decide +kernel) (Nat.le_of_ble_eq_true rfl) ?_
  intro p e s m below meth c E hM ls hl
  have hl : lv_has ls 4 [(0, .ref (g.2.2 + a0)),(1, .int a1),(2, .int a2)] := hl
  exact B_X12_inForce_0 E hf hM hl
-- PensionHouseModel.known(III)I  mode M
noncomputable def f_X12_known (v0 : Nat) (v1 : Int32) (v2 : Int32) (v3 : Int32) (S : jM) : Option (Int32 × jM) := if jK v0 = 10 then jbd (f_X12_takeName v0 S) (fun x1 S2 => if (f_X12_in (v1.toInt64) (0 : Int64) (9 : Int64)) = 0 then some ((-2 : Int32), S2) else (f_X12_isDay v2).bind (fun x6 => if x6 = 0 then some ((-3 : Int32), S2) else if (f_X12_in (v3.toInt64) (0 : Int64) ((jI S2 139 v0).toInt64)) = 0 then some ((-3 : Int32), S2) else if x1 = (0 : Int64) then some ((-4 : Int32), S2) else (f_X12_findKnown v0 v1 x1 v2 v3 S2).bind (fun x11 => if x11 < 0 then some (x11, S2) else (f_X12_copy v0 (0 : Int32) ((1 : Int32) + x11) S2).bind (fun S14 => some (x11, S14))))) else none
set_option maxRecDepth 100000 in
set_option maxHeartbeats 4000000 in
theorem B_X12_known_0 {p : Program} {l : Launch} {e : Env} {s : State} {m : MethodId} {args : Array Value} {below : List Frame} {meth : Method} {c : Code} {g : jG} {rr : Int32} {SS : jM} {v0 : Nat} {v1 : Int32} {v2 : Int32} {v3 : Int32} {S : jM} (E : jEnv p s m args meth c cX12_known "PensionHouseModel" (some .int) 7 g)  {H : Heap} {locs : List Loc} {ls : Array Slot} (hf : f_X12_known v0 v1 v2 v3 S = some (rr, SS)) (hM : jAt g S s H locs) (hl : lv_has ls 7 [(0, .ref (g.2.2 + v0)), (1, .int v1), (2, .int v2), (3, .int v3)]) : W p l e (jRm 6 0 0) s m args below meth c H locs 0 0 (MQ below (jQi g rr SS) args s 0 0 (jA0 g)) (F0 m 0 ls []) := by
  obtain ⟨hx, hb, hml, -, hts, hown, hK, -, hstr⟩ := id E
  unfold f_X12_known at hf
  refine lv_aload_n hx hb dX12_known_0 rfl (lv_at hl 0 rfl) ?_
  obtain ⟨hq4, hf⟩ := jif hf
  obtain ⟨x1, S2, hc3, hf⟩ := jbd_e hf
  refine jbackL hM (jrunV E hM ci_X12_takeName (C_X12_takeName hc3) lk_7_120 hq4 (by decide) rfl hl.1 rfl rfl (Nat.le_of_ble_eq_true rfl) ⟨Nat.le_of_ble_eq_true rfl, Nat.le_of_ble_eq_true rfl⟩ ⟨Nat.le_refl _, Nat.le_refl _⟩ dX12_known_1) (fun H locs hM => ?_)
  refine lv_lstore (lv' := [(4, .long x1), (0, .ref (g.2.2 + v0)), (1, .int v1), (2, .int v2), (3, .int v3)]) hx hb dX12_known_4 hl (by decide) rfl (fun ls hl => ?_)
  refine lv_iload_n hx hb dX12_known_6 rfl (lv_at hl 2 rfl) ?_
  refine lv_i2l hx hb dX12_known_7 rfl ?_
  refine lv_lconst (v := (0 : Int64)) hx hb dX12_known_8 (by decide) ?_
  refine lv_ldc2 (v := (9 : Int64)) hx hb hown (hts _ lk_7_176) dX12_known_9 ?_
  refine jbackI hM (jrunS E hM ci_X12_in (C_X12_in rfl) lk_7_36 hl.1 rfl rfl (Nat.le_of_ble_eq_true rfl) ⟨Nat.le_of_ble_eq_true rfl, Nat.le_of_ble_eq_true rfl⟩ ⟨Nat.le_refl _, Nat.le_refl _⟩ dX12_known_12) (fun H locs hM => ?_)
  refine lv_if_ne (tgt := 21) hx hb dX12_known_15 (by decide) (fun c5 => ?_) (fun c5 => ?_)
  · have hf := jf c5 hf
    refine lv_iload_n hx hb dX12_known_21 rfl (lv_at hl 3 rfl) ?_
    obtain ⟨x6, hc7, hf⟩ := jb hf
    refine jbackI hM (jrunS E hM ci_X12_isDay (C_X12_isDay hc7) lk_7_177 hl.1 rfl rfl (Nat.le_of_ble_eq_true rfl) ⟨Nat.le_of_ble_eq_true rfl, Nat.le_of_ble_eq_true rfl⟩ ⟨Nat.le_refl _, Nat.le_refl _⟩ dX12_known_22) (fun H locs hM => ?_)
    refine lv_if_eq (tgt := 42) hx hb dX12_known_25 (by decide) (fun c8 => ?_) (fun c8 => ?_)
    · have hf := jt c8 hf
      refine lv_bipush (v := (-3 : Int32)) hx hb dX12_known_42 (by decide) ?_
      exact jireti (jr2 hf) E hM dX12_known_44
    · have hf := jf c8 hf
      refine lv_iload_n hx hb dX12_known_28 rfl (lv_at hl 4 rfl) ?_
      refine lv_i2l hx hb dX12_known_29 rfl ?_
      refine lv_lconst (v := (0 : Int64)) hx hb dX12_known_30 (by decide) ?_
      refine lv_aload_n hx hb dX12_known_31 rfl (lv_at hl 1 rfl) ?_
      refine gt_139 E hM hq4 lk_6_53 dX12_known_32 ?_
      refine lv_i2l hx hb dX12_known_35 rfl ?_
      refine jbackI hM (jrunS E hM ci_X12_in (C_X12_in rfl) lk_7_36 hl.1 rfl rfl (Nat.le_of_ble_eq_true rfl) ⟨Nat.le_of_ble_eq_true rfl, Nat.le_of_ble_eq_true rfl⟩ ⟨Nat.le_refl _, Nat.le_refl _⟩ dX12_known_36) (fun H locs hM => ?_)
      refine lv_if_ne (tgt := 45) hx hb dX12_known_39 (by decide) (fun c9 => ?_) (fun c9 => ?_)
      · have hf := jf c9 hf
        refine lv_lload hx hb dX12_known_45 (lv_at hl 0 rfl) ?_
        refine lv_lconst (v := (0 : Int64)) hx hb dX12_known_47 (by decide) ?_
        refine jl_ne (tgt := 55) hx hb dX12_known_48 dX12_known_49 (by decide) (fun c10 => ?_) (fun c10 => ?_)
        · have hf := jf c10 hf
          refine lv_aload_n hx hb dX12_known_55 rfl (lv_at hl 1 rfl) ?_
          refine lv_iload_n hx hb dX12_known_56 rfl (lv_at hl 2 rfl) ?_
          refine lv_lload hx hb dX12_known_57 (lv_at hl 0 rfl) ?_
          refine lv_iload_n hx hb dX12_known_59 rfl (lv_at hl 3 rfl) ?_
          refine lv_iload_n hx hb dX12_known_60 rfl (lv_at hl 4 rfl) ?_
          obtain ⟨x11, hc12, hf⟩ := jb hf
          refine jbackI hM (jrunV E hM ci_X12_findKnown (C_X12_findKnown hc12) lk_7_192 hq4 (by decide) rfl hl.1 rfl rfl (Nat.le_of_ble_eq_true rfl) ⟨Nat.le_of_ble_eq_true rfl, Nat.le_of_ble_eq_true rfl⟩ ⟨Nat.le_refl _, Nat.le_refl _⟩ dX12_known_61) (fun H locs hM => ?_)
          refine lv_istore (lv' := [(6, .int x11), (4, .long x1), (0, .ref (g.2.2 + v0)), (1, .int v1), (2, .int v2), (3, .int v3)]) hx hb dX12_known_64 hl (by decide) rfl (fun ls hl => ?_)
          refine lv_iload hx hb dX12_known_66 (lv_at hl 0 rfl) ?_
          refine lv_if_lt (tgt := 80) hx hb dX12_known_68 (by decide) (fun c13 => ?_) (fun c13 => ?_)
          · have hf := jt c13 hf
            refine lv_iload hx hb dX12_known_80 (lv_at hl 0 rfl) ?_
            exact jireti (jr2 hf) E hM dX12_known_82
          · have hf := jf c13 hf
            refine lv_aload_n hx hb dX12_known_71 rfl (lv_at hl 2 rfl) ?_
            refine lv_iconst (v := (0 : Int32)) hx hb dX12_known_72 (by decide) ?_
            refine lv_iconst (v := (1 : Int32)) hx hb dX12_known_73 (by decide) ?_
            refine lv_iload hx hb dX12_known_74 (lv_at hl 0 rfl) ?_
            refine lv_iadd hx hb dX12_known_76 ?_
            obtain ⟨S14, hc15, hf⟩ := jb hf
            refine jbackV hM (jrunV E hM ci_X12_copy (C_X12_copy hc15) lk_7_180 hq4 (by decide) rfl hl.1 rfl rfl (Nat.le_of_ble_eq_true rfl) ⟨Nat.le_of_ble_eq_true rfl, Nat.le_of_ble_eq_true rfl⟩ ⟨Nat.le_refl _, Nat.le_refl _⟩ dX12_known_77) (fun H locs hM => ?_)
            refine lv_iload hx hb dX12_known_80 (lv_at hl 0 rfl) ?_
            exact jireti (jr2 hf) E hM dX12_known_82
        · have hf := jt c10 hf
          refine lv_bipush (v := (-4 : Int32)) hx hb dX12_known_52 (by decide) ?_
          exact jireti (jr2 hf) E hM dX12_known_54
      · have hf := jt c9 hf
        refine lv_bipush (v := (-3 : Int32)) hx hb dX12_known_42 (by decide) ?_
        exact jireti (jr2 hf) E hM dX12_known_44
  · have hf := jt c5 hf
    refine lv_bipush (v := (-2 : Int32)) hx hb dX12_known_18 (by decide) ?_
    exact jireti (jr2 hf) E hM dX12_known_20
set_option maxRecDepth 100000 in
theorem C_X12_known {l : Launch} {g : jG} {a0 : Nat} {a1 : Int32} {a2 : Int32} {a3 : Int32} {S : jM} {rr : Int32} {SS : jM} (hf : f_X12_known a0 a1 a2 a3 S = some (rr, SS)) : jMet l g yX12_known cX12_known 7 (some .int) 6 0 0 [.ref (g.2.2 + a0), .int a1, .int a2, .int a3] S (jQi g rr SS) := by
  refine jof (by decide +kernel) (Nat.le_of_ble_eq_true rfl) ?_
  intro p e s m below meth c E hM ls hl
  have hl : lv_has ls 7 [(0, .ref (g.2.2 + a0)),(1, .int a1),(2, .int a2),(3, .int a3)] := hl
  exact B_X12_known_0 E hf hM hl
-- PensionHouseModel.length()I  mode R
noncomputable def f_X12_length (v0 : Nat) (S : jM) : Option Int32 := if jK v0 = 10 then (jR S 88 v0).bind (fun r2 => if jA r2 13 (0 : Int32) = true then if (f_X12_isRow (jAI S r2 ((0 : Int32)).toNatClampNeg)) = 0 then some (0 : Int32) else (jR S 89 v0).bind (fun r6 => if jA r6 13 (0 : Int32) = true then some (jAI S r6 ((0 : Int32)).toNatClampNeg) else none) else none) else none
set_option maxRecDepth 100000 in
set_option maxHeartbeats 4000000 in
theorem B_X12_length_0 {p : Program} {l : Launch} {e : Env} {s : State} {m : MethodId} {args : Array Value} {below : List Frame} {meth : Method} {c : Code} {g : jG} {rr : Int32} {S : jM} {v0 : Nat} (E : jEnv p s m args meth c cX12_length "PensionHouseModel" (some .int) 1 g)  {H : Heap} {locs : List Loc} {ls : Array Slot} (hf : f_X12_length v0 S = some rr) (hM : jAt g S s H locs) (hl : lv_has ls 1 [(0, .ref (g.2.2 + v0))]) : W p l e (jRm 2 0 0) s m args below meth c H locs 0 0 (MQ below (jQi g rr S) args s 0 0 (jA0 g)) (F0 m 0 ls []) := by
  obtain ⟨hx, hb, hml, -, hts, hown, hK, -, hstr⟩ := id E
  unfold f_X12_length at hf
  refine lv_aload_n hx hb dX12_length_0 rfl (lv_at hl 0 rfl) ?_
  obtain ⟨hq1, hf⟩ := jif hf
  refine gt_88 E hM hq1 lk_6_2 dX12_length_1 ?_
  obtain ⟨r2, hr3, hf⟩ := jb hf
  rw [hr3]
  show W p l e _ s m args below meth c H locs 0 0 _ (F0 m _ ls (.ref (g.2.2 + r2) :: _))
  refine lv_iconst (v := (0 : Int32)) hx hb dX12_length_4 (by decide) ?_
  obtain ⟨ha4, hf⟩ := jif hf
  refine jiald E hM ha4 dX12_length_5 ?_
  refine jbackI hM (jrunS E hM ci_X12_isRow (C_X12_isRow rfl) lk_7_100 hl.1 rfl rfl (Nat.le_of_ble_eq_true rfl) ⟨Nat.le_of_ble_eq_true rfl, Nat.le_of_ble_eq_true rfl⟩ ⟨Nat.le_refl _, Nat.le_refl _⟩ dX12_length_6) (fun H locs hM => ?_)
  refine lv_if_eq (tgt := 21) hx hb dX12_length_9 (by decide) (fun c5 => ?_) (fun c5 => ?_)
  · have hf := jt c5 hf
    refine lv_iconst (v := (0 : Int32)) hx hb dX12_length_21 (by decide) ?_
    exact jireti (jr1 hf) E hM dX12_length_22
  · have hf := jf c5 hf
    refine lv_aload_n hx hb dX12_length_12 rfl (lv_at hl 0 rfl) ?_
    refine gt_89 E hM hq1 lk_6_3 dX12_length_13 ?_
    obtain ⟨r6, hr7, hf⟩ := jb hf
    rw [hr7]
    show W p l e _ s m args below meth c H locs 0 0 _ (F0 m _ ls (.ref (g.2.2 + r6) :: _))
    refine lv_iconst (v := (0 : Int32)) hx hb dX12_length_16 (by decide) ?_
    obtain ⟨ha8, hf⟩ := jif hf
    refine jiald E hM ha8 dX12_length_17 ?_
    refine lv_goto (tgt := 22) hx hb dX12_length_18 (by decide) ?_
    exact jireti (jr1 hf) E hM dX12_length_22
set_option maxRecDepth 100000 in
theorem C_X12_length {l : Launch} {g : jG} {a0 : Nat} {S : jM} {rr : Int32} (hf : f_X12_length a0 S = some rr) : jMet l g yX12_length cX12_length 1 (some .int) 2 0 0 [.ref (g.2.2 + a0)] S (jQi g rr S) := by
  refine jof (by decide +kernel) (Nat.le_of_ble_eq_true rfl) ?_
  intro p e s m below meth c E hM ls hl
  have hl : lv_has ls 1 [(0, .ref (g.2.2 + a0))] := hl
  exact B_X12_length_0 E hf hM hl
-- PensionHouseModel.ofBits(J)D  mode P
noncomputable def f_X12_ofBits_119 : Nat → Int64 → UInt64 → Int64 → Option UInt64
  | 0, _, _, _ => none
  | n + 1, v0, v6, v8 => if (0 : Int64) ≤ v8 then if (0 : Int64) ≤ v0 then some v6 else some (FP.dneg v6) else if jnn (FP.ddiv v6 (4611686018427387904 : UInt64)) = true then jlet (FP.ddiv v6 (4611686018427387904 : UInt64)) (fun x4 => jlet (v8 + (1 : Int64)) (fun x5 => (f_X12_ofBits_119 n) v0 x4 x5)) else none
noncomputable def f_X12_ofBits_95 : Nat → Int64 → UInt64 → Int64 → Option UInt64
  | 0, _, _, _ => none
  | n + 1, v0, v6, v8 => if v8 ≤ (0 : Int64) then f_X12_ofBits_119 1100000 v0 v6 v8 else if jnn (FP.dmul v6 (4611686018427387904 : UInt64)) = true then jlet (FP.dmul v6 (4611686018427387904 : UInt64)) (fun x8 => jlet (v8 - (1 : Int64)) (fun x9 => (f_X12_ofBits_95 n) v0 x8 x9)) else none
noncomputable def f_X12_ofBits_89 (v0 : Int64) (v6 : UInt64) (t0 : Int64) : Option UInt64 := jlet (t0 - (1075 : Int64)) (fun x10 => f_X12_ofBits_95 1100000 v0 v6 x10)
noncomputable def f_X12_ofBits_76 (v0 : Int64) (v2 : Int64) (t0 : UInt64) : Option UInt64 := if v2 = (0 : Int64) then f_X12_ofBits_89 v0 t0 (1 : Int64) else f_X12_ofBits_89 v0 t0 v2
noncomputable def f_X12_ofBits_39 (v4 : Int64) (t0 : UInt64) : Option UInt64 := if v4 = (0 : Int64) then some t0 else some (9221120237041090560 : UInt64)
noncomputable def f_X12_ofBits (v0 : Int64) : Option UInt64 := jlet ((v0 >>> ((52 : Int32).toInt64 &&& 63)) &&& (2047 : Int64)) (fun x13 => jlet (v0 &&& (4503599627370495 : Int64)) (fun x14 => if x13 = (2047 : Int64) then if (0 : Int64) ≤ v0 then f_X12_ofBits_39 x14 (9218868437227405312 : UInt64) else f_X12_ofBits_39 x14 (18442240474082181120 : UInt64) else if x13 = (0 : Int64) then f_X12_ofBits_76 v0 x13 (FP.l2d x14) else f_X12_ofBits_76 v0 x13 (FP.l2d (x14 + (4503599627370496 : Int64)))))
set_option maxRecDepth 100000 in
set_option maxHeartbeats 4000000 in
theorem B_X12_ofBits_119 {p : Program} {l : Launch} {e : Env} {s : State} {m : MethodId} {args : Array Value} {below : List Frame} {meth : Method} {c : Code} {g : jG} {rr : UInt64} {S : jM} (E : jEnv p s m args meth c cX12_ofBits "PensionHouseModel" (some .double) 10 g)  : ∀ (n : Nat) (v0 : Int64) (v6 : UInt64) (v8 : Int64) (H : Heap) (locs : List Loc) (ls : Array Slot), f_X12_ofBits_119 n v0 v6 v8 = some rr → jAt g S s H locs → lv_has ls 10 [(0, .long v0), (6, .double v6), (8, .long v8)] → W p l e (jRm 1 0 0) s m args below meth c H locs 0 0 (MQ below (jQd g rr S) args s 0 0 (jA0 g)) (F0 m 119 ls []) := by
  obtain ⟨hx, hb, hml, -, hts, hown, hK, -, hstr⟩ := id E
  intro n
  induction n with
  | zero => intro v0 v6 v8 H locs ls hf hM hl; rw [f_X12_ofBits_119] at hf; cases hf
  | succ n ih =>
    intro v0 v6 v8 H locs ls hf hM hl
    rw [f_X12_ofBits_119] at hf
    refine lv_lload hx hb dX12_ofBits_119 (lv_at hl 2 rfl) ?_
    refine lv_lconst (v := (0 : Int64)) hx hb dX12_ofBits_121 (by decide) ?_
    refine jl_ge (tgt := 143) hx hb dX12_ofBits_122 dX12_ofBits_123 (by decide) (fun c1 => ?_) (fun c1 => ?_)
    · have hf := jt c1 hf
      refine lv_lload_n hx hb dX12_ofBits_143 rfl (lv_at hl 0 rfl) ?_
      refine lv_lconst (v := (0 : Int64)) hx hb dX12_ofBits_144 (by decide) ?_
      refine jl_ge (tgt := 155) hx hb dX12_ofBits_145 dX12_ofBits_146 (by decide) (fun c2 => ?_) (fun c2 => ?_)
      · have hf := jt c2 hf
        refine lv_dload hx hb dX12_ofBits_155 (lv_at hl 1 rfl) ?_
        exact jdret (jr1 hf) E hM dX12_ofBits_157
      · have hf := jf c2 hf
        refine lv_dload hx hb dX12_ofBits_149 (lv_at hl 1 rfl) ?_
        refine lv_dneg hx hb dX12_ofBits_151 ?_
        refine lv_goto (tgt := 157) hx hb dX12_ofBits_152 (by decide) ?_
        exact jdret (jr1 hf) E hM dX12_ofBits_157
    · have hf := jf c1 hf
      refine lv_dload hx hb dX12_ofBits_126 (lv_at hl 1 rfl) ?_
      refine lv_ldc2d (v := (4611686018427387904 : UInt64)) hx hb hown (hts _ lk_7_83) dX12_ofBits_128 ?_
      obtain ⟨hn3, hf⟩ := jif hf
      refine lv_ddiv hx hb dX12_ofBits_131 (jnn_ok hn3) ?_
      refine lv_topd (fun x4 ex4 => ?_)
      have hf := jlet_y ex4 hf
      refine lv_dstore (lv' := [(6, .double x4), (0, .long v0), (8, .long v8)]) hx hb dX12_ofBits_132 hl (by decide) rfl (fun ls hl => ?_)
      refine lv_lload hx hb dX12_ofBits_134 (lv_at hl 2 rfl) ?_
      refine lv_lconst (v := (1 : Int64)) hx hb dX12_ofBits_136 (by decide) ?_
      refine lv_ladd hx hb dX12_ofBits_137 ?_
      refine lv_topl (fun x5 ex5 => ?_)
      have hf := jlet_y ex5 hf
      refine lv_lstore (lv' := [(8, .long x5), (6, .double x4), (0, .long v0)]) hx hb dX12_ofBits_138 hl (by decide) rfl (fun ls hl => ?_)
      refine lv_goto (tgt := 119) hx hb dX12_ofBits_140 (by decide) ?_
      exact ih v0 x4 x5 _ _ _ hf hM (lv_sub hl [2, 1, 0] rfl)
set_option maxRecDepth 100000 in
set_option maxHeartbeats 4000000 in
theorem B_X12_ofBits_95 {p : Program} {l : Launch} {e : Env} {s : State} {m : MethodId} {args : Array Value} {below : List Frame} {meth : Method} {c : Code} {g : jG} {rr : UInt64} {S : jM} (E : jEnv p s m args meth c cX12_ofBits "PensionHouseModel" (some .double) 10 g)  : ∀ (n : Nat) (v0 : Int64) (v6 : UInt64) (v8 : Int64) (H : Heap) (locs : List Loc) (ls : Array Slot), f_X12_ofBits_95 n v0 v6 v8 = some rr → jAt g S s H locs → lv_has ls 10 [(0, .long v0), (6, .double v6), (8, .long v8)] → W p l e (jRm 1 0 0) s m args below meth c H locs 0 0 (MQ below (jQd g rr S) args s 0 0 (jA0 g)) (F0 m 95 ls []) := by
  obtain ⟨hx, hb, hml, -, hts, hown, hK, -, hstr⟩ := id E
  intro n
  induction n with
  | zero => intro v0 v6 v8 H locs ls hf hM hl; rw [f_X12_ofBits_95] at hf; cases hf
  | succ n ih =>
    intro v0 v6 v8 H locs ls hf hM hl
    rw [f_X12_ofBits_95] at hf
    refine lv_lload hx hb dX12_ofBits_95 (lv_at hl 2 rfl) ?_
    refine lv_lconst (v := (0 : Int64)) hx hb dX12_ofBits_97 (by decide) ?_
    refine jl_le (tgt := 119) hx hb dX12_ofBits_98 dX12_ofBits_99 (by decide) (fun c6 => ?_) (fun c6 => ?_)
    · have hf := jt c6 hf
      exact B_X12_ofBits_119 E  1100000 v0 v6 v8 _ _ _ hf hM (lv_sub hl [0, 1, 2] rfl)
    · have hf := jf c6 hf
      refine lv_dload hx hb dX12_ofBits_102 (lv_at hl 1 rfl) ?_
      refine lv_ldc2d (v := (4611686018427387904 : UInt64)) hx hb hown (hts _ lk_7_83) dX12_ofBits_104 ?_
      obtain ⟨hn7, hf⟩ := jif hf
      refine lv_dmul hx hb dX12_ofBits_107 (jnn_ok hn7) ?_
      refine lv_topd (fun x8 ex8 => ?_)
      have hf := jlet_y ex8 hf
      refine lv_dstore (lv' := [(6, .double x8), (0, .long v0), (8, .long v8)]) hx hb dX12_ofBits_108 hl (by decide) rfl (fun ls hl => ?_)
      refine lv_lload hx hb dX12_ofBits_110 (lv_at hl 2 rfl) ?_
      refine lv_lconst (v := (1 : Int64)) hx hb dX12_ofBits_112 (by decide) ?_
      refine lv_lsub hx hb dX12_ofBits_113 ?_
      refine lv_topl (fun x9 ex9 => ?_)
      have hf := jlet_y ex9 hf
      refine lv_lstore (lv' := [(8, .long x9), (6, .double x8), (0, .long v0)]) hx hb dX12_ofBits_114 hl (by decide) rfl (fun ls hl => ?_)
      refine lv_goto (tgt := 95) hx hb dX12_ofBits_116 (by decide) ?_
      exact ih v0 x8 x9 _ _ _ hf hM (lv_sub hl [2, 1, 0] rfl)
set_option maxRecDepth 100000 in
set_option maxHeartbeats 4000000 in
theorem B_X12_ofBits_89 {p : Program} {l : Launch} {e : Env} {s : State} {m : MethodId} {args : Array Value} {below : List Frame} {meth : Method} {c : Code} {g : jG} {rr : UInt64} {S : jM} {v0 : Int64} {v6 : UInt64} {t0 : Int64} (E : jEnv p s m args meth c cX12_ofBits "PensionHouseModel" (some .double) 10 g)  {H : Heap} {locs : List Loc} {ls : Array Slot} (hf : f_X12_ofBits_89 v0 v6 t0 = some rr) (hM : jAt g S s H locs) (hl : lv_has ls 10 [(0, .long v0), (6, .double v6)]) : W p l e (jRm 1 0 0) s m args below meth c H locs 0 0 (MQ below (jQd g rr S) args s 0 0 (jA0 g)) (F0 m 89 ls [.long t0]) := by
  obtain ⟨hx, hb, hml, -, hts, hown, hK, -, hstr⟩ := id E
  unfold f_X12_ofBits_89 at hf
  refine lv_ldc2 (v := (1075 : Int64)) hx hb hown (hts _ lk_7_82) dX12_ofBits_89 ?_
  refine lv_lsub hx hb dX12_ofBits_92 ?_
  refine lv_topl (fun x10 ex10 => ?_)
  have hf := jlet_y ex10 hf
  refine lv_lstore (lv' := [(8, .long x10), (0, .long v0), (6, .double v6)]) hx hb dX12_ofBits_93 hl (by decide) rfl (fun ls hl => ?_)
  exact B_X12_ofBits_95 E  1100000 v0 v6 x10 _ _ _ hf hM (lv_sub hl [1, 2, 0] rfl)
set_option maxRecDepth 100000 in
set_option maxHeartbeats 4000000 in
theorem B_X12_ofBits_76 {p : Program} {l : Launch} {e : Env} {s : State} {m : MethodId} {args : Array Value} {below : List Frame} {meth : Method} {c : Code} {g : jG} {rr : UInt64} {S : jM} {v0 : Int64} {v2 : Int64} {t0 : UInt64} (E : jEnv p s m args meth c cX12_ofBits "PensionHouseModel" (some .double) 10 g)  {H : Heap} {locs : List Loc} {ls : Array Slot} (hf : f_X12_ofBits_76 v0 v2 t0 = some rr) (hM : jAt g S s H locs) (hl : lv_has ls 10 [(0, .long v0), (2, .long v2)]) : W p l e (jRm 1 0 0) s m args below meth c H locs 0 0 (MQ below (jQd g rr S) args s 0 0 (jA0 g)) (F0 m 76 ls [.double t0]) := by
  obtain ⟨hx, hb, hml, -, hts, hown, hK, -, hstr⟩ := id E
  unfold f_X12_ofBits_76 at hf
  refine lv_dstore (lv' := [(6, .double t0), (0, .long v0), (2, .long v2)]) hx hb dX12_ofBits_76 hl (by decide) rfl (fun ls hl => ?_)
  refine lv_lload_n hx hb dX12_ofBits_78 rfl (lv_at hl 2 rfl) ?_
  refine lv_lconst (v := (0 : Int64)) hx hb dX12_ofBits_79 (by decide) ?_
  refine jl_ne (tgt := 88) hx hb dX12_ofBits_80 dX12_ofBits_81 (by decide) (fun c11 => ?_) (fun c11 => ?_)
  · have hf := jf c11 hf
    refine lv_lload_n hx hb dX12_ofBits_88 rfl (lv_at hl 2 rfl) ?_
    exact B_X12_ofBits_89 E  hf hM (lv_sub hl [1, 0] rfl)
  · have hf := jt c11 hf
    refine lv_lconst (v := (1 : Int64)) hx hb dX12_ofBits_84 (by decide) ?_
    refine lv_goto (tgt := 89) hx hb dX12_ofBits_85 (by decide) ?_
    exact B_X12_ofBits_89 E  hf hM (lv_sub hl [1, 0] rfl)
set_option maxRecDepth 100000 in
set_option maxHeartbeats 4000000 in
theorem B_X12_ofBits_39 {p : Program} {l : Launch} {e : Env} {s : State} {m : MethodId} {args : Array Value} {below : List Frame} {meth : Method} {c : Code} {g : jG} {rr : UInt64} {S : jM} {v4 : Int64} {t0 : UInt64} (E : jEnv p s m args meth c cX12_ofBits "PensionHouseModel" (some .double) 10 g)  {H : Heap} {locs : List Loc} {ls : Array Slot} (hf : f_X12_ofBits_39 v4 t0 = some rr) (hM : jAt g S s H locs) (hl : lv_has ls 10 [(4, .long v4)]) : W p l e (jRm 1 0 0) s m args below meth c H locs 0 0 (MQ below (jQd g rr S) args s 0 0 (jA0 g)) (F0 m 39 ls [.double t0]) := by
  obtain ⟨hx, hb, hml, -, hts, hown, hK, -, hstr⟩ := id E
  unfold f_X12_ofBits_39 at hf
  refine lv_dstore (lv' := [(6, .double t0), (4, .long v4)]) hx hb dX12_ofBits_39 hl (by decide) rfl (fun ls hl => ?_)
  refine lv_lload hx hb dX12_ofBits_41 (lv_at hl 1 rfl) ?_
  refine lv_lconst (v := (0 : Int64)) hx hb dX12_ofBits_43 (by decide) ?_
  refine jl_ne (tgt := 53) hx hb dX12_ofBits_44 dX12_ofBits_45 (by decide) (fun c12 => ?_) (fun c12 => ?_)
  · have hf := jf c12 hf
    refine lv_ldc2d (v := (9221120237041090560 : UInt64)) hx hb hown (hts _ lk_7_80) dX12_ofBits_53 ?_
    exact jdret (jr1 hf) E hM dX12_ofBits_56
  · have hf := jt c12 hf
    refine lv_dload hx hb dX12_ofBits_48 (lv_at hl 0 rfl) ?_
    refine lv_goto (tgt := 56) hx hb dX12_ofBits_50 (by decide) ?_
    exact jdret (jr1 hf) E hM dX12_ofBits_56
set_option maxRecDepth 100000 in
set_option maxHeartbeats 4000000 in
theorem B_X12_ofBits_0 {p : Program} {l : Launch} {e : Env} {s : State} {m : MethodId} {args : Array Value} {below : List Frame} {meth : Method} {c : Code} {g : jG} {rr : UInt64} {S : jM} {v0 : Int64} (E : jEnv p s m args meth c cX12_ofBits "PensionHouseModel" (some .double) 10 g)  {H : Heap} {locs : List Loc} {ls : Array Slot} (hf : f_X12_ofBits v0 = some rr) (hM : jAt g S s H locs) (hl : lv_has ls 10 [(0, .long v0)]) : W p l e (jRm 1 0 0) s m args below meth c H locs 0 0 (MQ below (jQd g rr S) args s 0 0 (jA0 g)) (F0 m 0 ls []) := by
  obtain ⟨hx, hb, hml, -, hts, hown, hK, -, hstr⟩ := id E
  unfold f_X12_ofBits at hf
  refine lv_lload_n hx hb dX12_ofBits_0 rfl (lv_at hl 0 rfl) ?_
  refine lv_bipush (v := (52 : Int32)) hx hb dX12_ofBits_1 (by decide) ?_
  refine lv_lshr hx hb dX12_ofBits_3 rfl ?_
  refine lv_ldc2 (v := (2047 : Int64)) hx hb hown (hts _ lk_7_76) dX12_ofBits_4 ?_
  refine lv_land hx hb dX12_ofBits_7 ?_
  refine lv_topl (fun x13 ex13 => ?_)
  have hf := jlet_y ex13 hf
  refine lv_lstore_n (lv' := [(2, .long x13), (0, .long v0)]) hx hb dX12_ofBits_8 rfl hl (by decide) rfl (fun ls hl => ?_)
  refine lv_lload_n hx hb dX12_ofBits_9 rfl (lv_at hl 1 rfl) ?_
  refine lv_ldc2 (v := (4503599627370495 : Int64)) hx hb hown (hts _ lk_7_77) dX12_ofBits_10 ?_
  refine lv_land hx hb dX12_ofBits_13 ?_
  refine lv_topl (fun x14 ex14 => ?_)
  have hf := jlet_y ex14 hf
  refine lv_lstore (lv' := [(4, .long x14), (2, .long x13), (0, .long v0)]) hx hb dX12_ofBits_14 hl (by decide) rfl (fun ls hl => ?_)
  refine lv_lload_n hx hb dX12_ofBits_16 rfl (lv_at hl 1 rfl) ?_
  refine lv_ldc2 (v := (2047 : Int64)) hx hb hown (hts _ lk_7_76) dX12_ofBits_17 ?_
  refine jl_ne (tgt := 57) hx hb dX12_ofBits_20 dX12_ofBits_21 (by decide) (fun c15 => ?_) (fun c15 => ?_)
  · have hf := jf c15 hf
    refine lv_lload_n hx hb dX12_ofBits_57 rfl (lv_at hl 1 rfl) ?_
    refine lv_lconst (v := (0 : Int64)) hx hb dX12_ofBits_58 (by decide) ?_
    refine jl_ne (tgt := 69) hx hb dX12_ofBits_59 dX12_ofBits_60 (by decide) (fun c16 => ?_) (fun c16 => ?_)
    · have hf := jf c16 hf
      refine lv_lload hx hb dX12_ofBits_69 (lv_at hl 0 rfl) ?_
      refine lv_ldc2 (v := (4503599627370496 : Int64)) hx hb hown (hts _ lk_7_81) dX12_ofBits_71 ?_
      refine lv_ladd hx hb dX12_ofBits_74 ?_
      refine lv_l2d hx hb dX12_ofBits_75 ?_
      exact B_X12_ofBits_76 E  hf hM (lv_sub hl [2, 1] rfl)
    · have hf := jt c16 hf
      refine lv_lload hx hb dX12_ofBits_63 (lv_at hl 0 rfl) ?_
      refine lv_l2d hx hb dX12_ofBits_65 ?_
      refine lv_goto (tgt := 76) hx hb dX12_ofBits_66 (by decide) ?_
      exact B_X12_ofBits_76 E  hf hM (lv_sub hl [2, 1] rfl)
  · have hf := jt c15 hf
    refine lv_lload_n hx hb dX12_ofBits_24 rfl (lv_at hl 2 rfl) ?_
    refine lv_lconst (v := (0 : Int64)) hx hb dX12_ofBits_25 (by decide) ?_
    refine jl_ge (tgt := 36) hx hb dX12_ofBits_26 dX12_ofBits_27 (by decide) (fun c17 => ?_) (fun c17 => ?_)
    · have hf := jt c17 hf
      refine lv_ldc2d (v := (9218868437227405312 : UInt64)) hx hb hown (hts _ lk_7_79) dX12_ofBits_36 ?_
      exact B_X12_ofBits_39 E  hf hM (lv_sub hl [0] rfl)
    · have hf := jf c17 hf
      refine lv_ldc2d (v := (18442240474082181120 : UInt64)) hx hb hown (hts _ lk_7_78) dX12_ofBits_30 ?_
      refine lv_goto (tgt := 39) hx hb dX12_ofBits_33 (by decide) ?_
      exact B_X12_ofBits_39 E  hf hM (lv_sub hl [0] rfl)
set_option maxRecDepth 100000 in
theorem C_X12_ofBits {l : Launch} {g : jG} {a0 : Int64} {S : jM} {rr : UInt64} (hf : f_X12_ofBits a0 = some rr) : jMet l g yX12_ofBits cX12_ofBits 10 (some .double) 1 0 0 [.long a0] S (jQd g rr S) := by
  refine jof (by decide +kernel) (Nat.le_of_ble_eq_true rfl) ?_
  intro p e s m below meth c E hM ls hl
  have hl : lv_has ls 10 [(0, .long a0)] := hl
  exact B_X12_ofBits_0 E hf hM hl
-- PensionHouseModel.payment(II)J  mode R
noncomputable def f_X12_payment (v0 : Nat) (v1 : Int32) (v2 : Int32) (S : jM) : Option Int64 := if jK v0 = 10 then if (f_X12_in (v1.toInt64) (0 : Int64) (((jI S 175 v0) - (1 : Int32)).toInt64)) = 0 then some (0 : Int64) else if (f_X12_in (v2.toInt64) (0 : Int64) (7 : Int64)) = 0 then some (0 : Int64) else if v2 = (0 : Int32) then (jR S 169 v0).bind (fun r4 => if jA r4 13 v1 = true then some ((jAI S r4 (v1).toNatClampNeg).toInt64) else none) else if v2 = (1 : Int32) then (jR S 170 v0).bind (fun r8 => if jA r8 13 v1 = true then some ((jAI S r8 (v1).toNatClampNeg).toInt64) else none) else if v2 = (6 : Int32) then (jR S 172 v0).bind (fun r12 => if jA r12 15 v1 = true then if (jAI S r12 (v1).toNatClampNeg) = 0 then some (0 : Int64) else some (1 : Int64) else none) else if v2 = (7 : Int32) then (jR S 173 v0).bind (fun r17 => if jA r17 15 v1 = true then if (jAI S r17 (v1).toNatClampNeg) = 0 then some (0 : Int64) else some (1 : Int64) else none) else (jR S 171 v0).bind (fun r22 => if jA r22 14 ((((4 : Int32) * v1) + v2) - (2 : Int32)) = true then some (jAL S r22 ((((4 : Int32) * v1) + v2) - (2 : Int32)).toNatClampNeg) else none) else none
set_option maxRecDepth 100000 in
set_option maxHeartbeats 4000000 in
theorem B_X12_payment_0 {p : Program} {l : Launch} {e : Env} {s : State} {m : MethodId} {args : Array Value} {below : List Frame} {meth : Method} {c : Code} {g : jG} {rr : Int64} {S : jM} {v0 : Nat} {v1 : Int32} {v2 : Int32} (E : jEnv p s m args meth c cX12_payment "PensionHouseModel" (some .long) 3 g)  {H : Heap} {locs : List Loc} {ls : Array Slot} (hf : f_X12_payment v0 v1 v2 S = some rr) (hM : jAt g S s H locs) (hl : lv_has ls 3 [(0, .ref (g.2.2 + v0)), (1, .int v1), (2, .int v2)]) : W p l e (jRm 2 0 0) s m args below meth c H locs 0 0 (MQ below (jQl g rr S) args s 0 0 (jA0 g)) (F0 m 0 ls []) := by
  obtain ⟨hx, hb, hml, -, hts, hown, hK, -, hstr⟩ := id E
  unfold f_X12_payment at hf
  refine lv_iload_n hx hb dX12_payment_0 rfl (lv_at hl 1 rfl) ?_
  refine lv_i2l hx hb dX12_payment_1 rfl ?_
  refine lv_lconst (v := (0 : Int64)) hx hb dX12_payment_2 (by decide) ?_
  refine lv_aload_n hx hb dX12_payment_3 rfl (lv_at hl 0 rfl) ?_
  obtain ⟨hq1, hf⟩ := jif hf
  refine gt_175 E hM hq1 lk_6_89 dX12_payment_4 ?_
  refine lv_iconst (v := (1 : Int32)) hx hb dX12_payment_7 (by decide) ?_
  refine lv_isub hx hb dX12_payment_8 ?_
  refine lv_i2l hx hb dX12_payment_9 rfl ?_
  refine jbackI hM (jrunS E hM ci_X12_in (C_X12_in rfl) lk_7_36 hl.1 rfl rfl (Nat.le_of_ble_eq_true rfl) ⟨Nat.le_of_ble_eq_true rfl, Nat.le_of_ble_eq_true rfl⟩ ⟨Nat.le_refl _, Nat.le_refl _⟩ dX12_payment_10) (fun H locs hM => ?_)
  refine lv_if_eq (tgt := 28) hx hb dX12_payment_13 (by decide) (fun c2 => ?_) (fun c2 => ?_)
  · have hf := jt c2 hf
    refine lv_lconst (v := (0 : Int64)) hx hb dX12_payment_28 (by decide) ?_
    exact jlret (jr1 hf) E hM dX12_payment_29
  · have hf := jf c2 hf
    refine lv_iload_n hx hb dX12_payment_16 rfl (lv_at hl 2 rfl) ?_
    refine lv_i2l hx hb dX12_payment_17 rfl ?_
    refine lv_lconst (v := (0 : Int64)) hx hb dX12_payment_18 (by decide) ?_
    refine lv_ldc2 (v := (7 : Int64)) hx hb hown (hts _ lk_7_57) dX12_payment_19 ?_
    refine jbackI hM (jrunS E hM ci_X12_in (C_X12_in rfl) lk_7_36 hl.1 rfl rfl (Nat.le_of_ble_eq_true rfl) ⟨Nat.le_of_ble_eq_true rfl, Nat.le_of_ble_eq_true rfl⟩ ⟨Nat.le_refl _, Nat.le_refl _⟩ dX12_payment_22) (fun H locs hM => ?_)
    refine lv_if_ne (tgt := 30) hx hb dX12_payment_25 (by decide) (fun c3 => ?_) (fun c3 => ?_)
    · have hf := jf c3 hf
      refine lv_iload_n hx hb dX12_payment_30 rfl (lv_at hl 2 rfl) ?_
      by_cases c7 : v2 = (0 : Int32)
      · have hf := jt c7 hf
        refine lv_tableIn (off := 45) (tgt := 76) hx hb dX12_payment_31 (by rw [c7]; decide) (by rw [c7]; decide) (by rw [c7]; rfl) (by decide) ?_
        refine lv_aload_n hx hb dX12_payment_76 rfl (lv_at hl 0 rfl) ?_
        refine gt_169 E hM hq1 lk_6_83 dX12_payment_77 ?_
        obtain ⟨r4, hr5, hf⟩ := jb hf
        rw [hr5]
        show W p l e _ s m args below meth c H locs 0 0 _ (F0 m _ ls (.ref (g.2.2 + r4) :: _))
        refine lv_iload_n hx hb dX12_payment_80 rfl (lv_at hl 1 rfl) ?_
        obtain ⟨ha6, hf⟩ := jif hf
        refine jiald E hM ha6 dX12_payment_81 ?_
        refine lv_i2l hx hb dX12_payment_82 rfl ?_
        exact jlret (jr1 hf) E hM dX12_payment_83
      have hf := jf c7 hf
      by_cases c11 : v2 = (1 : Int32)
      · have hf := jt c11 hf
        refine lv_tableIn (off := 53) (tgt := 84) hx hb dX12_payment_31 (by rw [c11]; decide) (by rw [c11]; decide) (by rw [c11]; rfl) (by decide) ?_
        refine lv_aload_n hx hb dX12_payment_84 rfl (lv_at hl 0 rfl) ?_
        refine gt_170 E hM hq1 lk_6_84 dX12_payment_85 ?_
        obtain ⟨r8, hr9, hf⟩ := jb hf
        rw [hr9]
        show W p l e _ s m args below meth c H locs 0 0 _ (F0 m _ ls (.ref (g.2.2 + r8) :: _))
        refine lv_iload_n hx hb dX12_payment_88 rfl (lv_at hl 1 rfl) ?_
        obtain ⟨ha10, hf⟩ := jif hf
        refine jiald E hM ha10 dX12_payment_89 ?_
        refine lv_i2l hx hb dX12_payment_90 rfl ?_
        exact jlret (jr1 hf) E hM dX12_payment_91
      have hf := jf c11 hf
      by_cases c16 : v2 = (6 : Int32)
      · have hf := jt c16 hf
        refine lv_tableIn (off := 61) (tgt := 92) hx hb dX12_payment_31 (by rw [c16]; decide) (by rw [c16]; decide) (by rw [c16]; rfl) (by decide) ?_
        refine lv_aload_n hx hb dX12_payment_92 rfl (lv_at hl 0 rfl) ?_
        refine gt_172 E hM hq1 lk_6_86 dX12_payment_93 ?_
        obtain ⟨r12, hr13, hf⟩ := jb hf
        rw [hr13]
        show W p l e _ s m args below meth c H locs 0 0 _ (F0 m _ ls (.ref (g.2.2 + r12) :: _))
        refine lv_iload_n hx hb dX12_payment_96 rfl (lv_at hl 1 rfl) ?_
        obtain ⟨ha14, hf⟩ := jif hf
        refine jzald E hM ha14 dX12_payment_97 ?_
        refine lv_if_eq (tgt := 105) hx hb dX12_payment_98 (by decide) (fun c15 => ?_) (fun c15 => ?_)
        · have hf := jt c15 hf
          refine lv_lconst (v := (0 : Int64)) hx hb dX12_payment_105 (by decide) ?_
          exact jlret (jr1 hf) E hM dX12_payment_106
        · have hf := jf c15 hf
          refine lv_lconst (v := (1 : Int64)) hx hb dX12_payment_101 (by decide) ?_
          refine lv_goto (tgt := 106) hx hb dX12_payment_102 (by decide) ?_
          exact jlret (jr1 hf) E hM dX12_payment_106
      have hf := jf c16 hf
      by_cases c21 : v2 = (7 : Int32)
      · have hf := jt c21 hf
        refine lv_tableIn (off := 76) (tgt := 107) hx hb dX12_payment_31 (by rw [c21]; decide) (by rw [c21]; decide) (by rw [c21]; rfl) (by decide) ?_
        refine lv_aload_n hx hb dX12_payment_107 rfl (lv_at hl 0 rfl) ?_
        refine gt_173 E hM hq1 lk_6_87 dX12_payment_108 ?_
        obtain ⟨r17, hr18, hf⟩ := jb hf
        rw [hr18]
        show W p l e _ s m args below meth c H locs 0 0 _ (F0 m _ ls (.ref (g.2.2 + r17) :: _))
        refine lv_iload_n hx hb dX12_payment_111 rfl (lv_at hl 1 rfl) ?_
        obtain ⟨ha19, hf⟩ := jif hf
        refine jzald E hM ha19 dX12_payment_112 ?_
        refine lv_if_eq (tgt := 120) hx hb dX12_payment_113 (by decide) (fun c20 => ?_) (fun c20 => ?_)
        · have hf := jt c20 hf
          refine lv_lconst (v := (0 : Int64)) hx hb dX12_payment_120 (by decide) ?_
          exact jlret (jr1 hf) E hM dX12_payment_121
        · have hf := jf c20 hf
          refine lv_lconst (v := (1 : Int64)) hx hb dX12_payment_116 (by decide) ?_
          refine lv_goto (tgt := 121) hx hb dX12_payment_117 (by decide) ?_
          exact jlret (jr1 hf) E hM dX12_payment_121
      have hf := jf c21 hf
      refine jtabD (tgt := 122) (nd := [0, 1, 6, 7]) hx hb dX12_payment_31 (by decide) (by decide) (by decide) (List.forall_mem_cons.mpr ⟨jne (k := 0) c7 rfl, List.forall_mem_cons.mpr ⟨jne (k := 1) c11 rfl, List.forall_mem_cons.mpr ⟨jne (k := 6) c16 rfl, List.forall_mem_cons.mpr ⟨jne (k := 7) c21 rfl, fun _ h => absurd h List.not_mem_nil⟩⟩⟩⟩) ?_
      refine lv_aload_n hx hb dX12_payment_122 rfl (lv_at hl 0 rfl) ?_
      refine gt_171 E hM hq1 lk_6_85 dX12_payment_123 ?_
      obtain ⟨r22, hr23, hf⟩ := jb hf
      rw [hr23]
      show W p l e _ s m args below meth c H locs 0 0 _ (F0 m _ ls (.ref (g.2.2 + r22) :: _))
      refine lv_iconst (v := (4 : Int32)) hx hb dX12_payment_126 (by decide) ?_
      refine lv_iload_n hx hb dX12_payment_127 rfl (lv_at hl 1 rfl) ?_
      refine lv_imul hx hb dX12_payment_128 ?_
      refine lv_iload_n hx hb dX12_payment_129 rfl (lv_at hl 2 rfl) ?_
      refine lv_iadd hx hb dX12_payment_130 ?_
      refine lv_iconst (v := (2 : Int32)) hx hb dX12_payment_131 (by decide) ?_
      refine lv_isub hx hb dX12_payment_132 ?_
      obtain ⟨ha24, hf⟩ := jif hf
      refine jlald E hM ha24 dX12_payment_133 ?_
      exact jlret (jr1 hf) E hM dX12_payment_134
    · have hf := jt c3 hf
      refine lv_lconst (v := (0 : Int64)) hx hb dX12_payment_28 (by decide) ?_
      exact jlret (jr1 hf) E hM dX12_payment_29
set_option maxRecDepth 100000 in
theorem C_X12_payment {l : Launch} {g : jG} {a0 : Nat} {a1 : Int32} {a2 : Int32} {S : jM} {rr : Int64} (hf : f_X12_payment a0 a1 a2 S = some rr) : jMet l g yX12_payment cX12_payment 3 (some .long) 2 0 0 [.ref (g.2.2 + a0), .int a1, .int a2] S (jQl g rr S) := by
  refine jof (by decide +kernel) (Nat.le_of_ble_eq_true rfl) ?_
  intro p e s m below meth c E hM ls hl
  have hl : lv_has ls 3 [(0, .ref (g.2.2 + a0)),(1, .int a1),(2, .int a2)] := hl
  exact B_X12_payment_0 E hf hM hl
-- PensionHouseModel.person(ZI)I  mode M
noncomputable def f_X12_person (v0 : Nat) (v1 : Int32) (v2 : Int32) (S : jM) : Option (Int32 × jM) := if (f_X12_in (v2.toInt64) (-40000 : Int64) (389 : Int64)) = 0 then some ((-3 : Int32), S) else if jK v0 = 10 then if (jI S 138 v0) = (16 : Int32) then some ((-5 : Int32), S) else (jR S 136 v0).bind (fun r4 => if jA r4 15 (jI S 138 v0) = true then jlet (jrI S r4 (upd (jAI S r4) (jI S 138 v0).toNatClampNeg (vp_nar .boolean v1))) (fun S7 => (jR S7 137 v0).bind (fun r8 => if jA r8 13 (jI S7 138 v0) = true then jlet (jrI S7 r8 (upd (jAI S7 r8) (jI S7 138 v0).toNatClampNeg v2)) (fun S11 => jlet (jsI S11 138 v0 ((jI S11 138 v0) + (1 : Int32))) (fun S12 => some ((jI S12 138 v0) - (1 : Int32), S12))) else none)) else none) else none
set_option maxRecDepth 100000 in
set_option maxHeartbeats 4000000 in
theorem B_X12_person_0 {p : Program} {l : Launch} {e : Env} {s : State} {m : MethodId} {args : Array Value} {below : List Frame} {meth : Method} {c : Code} {g : jG} {rr : Int32} {SS : jM} {v0 : Nat} {v1 : Int32} {v2 : Int32} {S : jM} (E : jEnv p s m args meth c cX12_person "PensionHouseModel" (some .int) 3 g)  {H : Heap} {locs : List Loc} {ls : Array Slot} (hf : f_X12_person v0 v1 v2 S = some (rr, SS)) (hM : jAt g S s H locs) (hl : lv_has ls 3 [(0, .ref (g.2.2 + v0)), (1, .int v1), (2, .int v2)]) : W p l e (jRm 2 0 0) s m args below meth c H locs 0 0 (MQ below (jQi g rr SS) args s 0 0 (jA0 g)) (F0 m 0 ls []) := by
  obtain ⟨hx, hb, hml, -, hts, hown, hK, -, hstr⟩ := id E
  unfold f_X12_person at hf
  refine lv_iload_n hx hb dX12_person_0 rfl (lv_at hl 2 rfl) ?_
  refine lv_i2l hx hb dX12_person_1 rfl ?_
  refine lv_ldc2 (v := (-40000 : Int64)) hx hb hown (hts _ lk_7_52) dX12_person_2 ?_
  refine lv_ldc2 (v := (389 : Int64)) hx hb hown (hts _ lk_7_47) dX12_person_5 ?_
  refine jbackI hM (jrunS E hM ci_X12_in (C_X12_in rfl) lk_7_36 hl.1 rfl rfl (Nat.le_of_ble_eq_true rfl) ⟨Nat.le_of_ble_eq_true rfl, Nat.le_of_ble_eq_true rfl⟩ ⟨Nat.le_refl _, Nat.le_refl _⟩ dX12_person_8) (fun H locs hM => ?_)
  refine lv_if_ne (tgt := 17) hx hb dX12_person_11 (by decide) (fun c1 => ?_) (fun c1 => ?_)
  · have hf := jf c1 hf
    refine lv_aload_n hx hb dX12_person_17 rfl (lv_at hl 0 rfl) ?_
    obtain ⟨hq2, hf⟩ := jif hf
    refine gt_138 E hM hq2 lk_6_52 dX12_person_18 ?_
    refine lv_bipush (v := (16 : Int32)) hx hb dX12_person_21 (by decide) ?_
    refine lv_icmp_ne (tgt := 29) hx hb dX12_person_23 (by decide) (fun c3 => ?_) (fun c3 => ?_)
    · have hf := jf c3 hf
      refine lv_aload_n hx hb dX12_person_29 rfl (lv_at hl 0 rfl) ?_
      refine gt_136 E hM hq2 lk_6_50 dX12_person_30 ?_
      obtain ⟨r4, hr5, hf⟩ := jb hf
      rw [hr5]
      show W p l e _ s m args below meth c H locs 0 0 _ (F0 m _ ls (.ref (g.2.2 + r4) :: _))
      refine lv_aload_n hx hb dX12_person_33 rfl (lv_at hl 0 rfl) ?_
      refine gt_138 E hM hq2 lk_6_52 dX12_person_34 ?_
      refine lv_iload_n hx hb dX12_person_37 rfl (lv_at hl 1 rfl) ?_
      obtain ⟨ha6, hf⟩ := jif hf
      refine jzast E hM ha6 dX12_person_38 (fun H locs S7 eS7 hM => ?_)
      have hf := jlet_y eS7 hf
      refine lv_aload_n hx hb dX12_person_39 rfl (lv_at hl 0 rfl) ?_
      refine gt_137 E hM hq2 lk_6_51 dX12_person_40 ?_
      obtain ⟨r8, hr9, hf⟩ := jb hf
      rw [hr9]
      show W p l e _ s m args below meth c H locs 0 0 _ (F0 m _ ls (.ref (g.2.2 + r8) :: _))
      refine lv_aload_n hx hb dX12_person_43 rfl (lv_at hl 0 rfl) ?_
      refine gt_138 E hM hq2 lk_6_52 dX12_person_44 ?_
      refine lv_iload_n hx hb dX12_person_47 rfl (lv_at hl 2 rfl) ?_
      obtain ⟨ha10, hf⟩ := jif hf
      refine jiast E hM ha10 dX12_person_48 (fun H locs S11 eS11 hM => ?_)
      have hf := jlet_y eS11 hf
      refine lv_aload_n hx hb dX12_person_49 rfl (lv_at hl 0 rfl) ?_
      refine lv_dup hx hb dX12_person_50 rfl ?_
      refine gt_138 E hM hq2 lk_6_52 dX12_person_51 ?_
      refine lv_iconst (v := (1 : Int32)) hx hb dX12_person_54 (by decide) ?_
      refine lv_iadd hx hb dX12_person_55 ?_
      refine pt_138 E hM hq2 lk_6_52 dX12_person_56 (fun H locs S12 eS12 hM => ?_)
      have hf := jlet_y eS12 hf
      refine lv_aload_n hx hb dX12_person_59 rfl (lv_at hl 0 rfl) ?_
      refine gt_138 E hM hq2 lk_6_52 dX12_person_60 ?_
      refine lv_iconst (v := (1 : Int32)) hx hb dX12_person_63 (by decide) ?_
      refine lv_isub hx hb dX12_person_64 ?_
      exact jireti (jr2 hf) E hM dX12_person_65
    · have hf := jt c3 hf
      refine lv_bipush (v := (-5 : Int32)) hx hb dX12_person_26 (by decide) ?_
      exact jireti (jr2 hf) E hM dX12_person_28
  · have hf := jt c1 hf
    refine lv_bipush (v := (-3 : Int32)) hx hb dX12_person_14 (by decide) ?_
    exact jireti (jr2 hf) E hM dX12_person_16
set_option maxRecDepth 100000 in
theorem C_X12_person {l : Launch} {g : jG} {a0 : Nat} {a1 : Int32} {a2 : Int32} {S : jM} {rr : Int32} {SS : jM} (hf : f_X12_person a0 a1 a2 S = some (rr, SS)) : jMet l g yX12_person cX12_person 3 (some .int) 2 0 0 [.ref (g.2.2 + a0), .int a1, .int a2] S (jQi g rr SS) := by
  refine jof (by decide +kernel) (Nat.le_of_ble_eq_true rfl) ?_
  intro p e s m below meth c E hM ls hl
  have hl : lv_has ls 3 [(0, .ref (g.2.2 + a0)),(1, .int a1),(2, .int a2)] := hl
  exact B_X12_person_0 E hf hM hl
-- PensionHouseModel.read(I)J  mode R
noncomputable def f_X12_read_65 (v0 : Nat) (v3 : Int32) (S : jM) : Option Int64 := if jK v0 = 10 then (jR S 91 v0).bind (fun r2 => if jA r2 12 v3 = true then (f_X12_bitsOf (jAD S r2 (v3).toNatClampNeg)).bind (fun x5 => some x5) else none) else none
noncomputable def f_X12_read_54 (v0 : Nat) (v2 : Int32) (t0 : Int32) (S : jM) : Option Int64 := if v2 = (1 : Int32) then f_X12_read_65 v0 t0 S else if v2 = (4 : Int32) then f_X12_read_65 v0 t0 S else if jK v0 = 10 then (jR S 90 v0).bind (fun r10 => if jA r10 14 t0 = true then some (jAL S r10 (t0).toNatClampNeg) else none) else none
noncomputable def f_X12_read_42 (v0 : Nat) (v1 : Int32) (v2 : Int32) (S : jM) : Option Int64 := if (f_X12_isRow v2) = 0 then f_X12_read_54 v0 v2 (0 : Int32) S else f_X12_read_54 v0 v2 v1 S
noncomputable def f_X12_read (v0 : Nat) (v1 : Int32) (S : jM) : Option Int64 := if jK v0 = 10 then (jR S 88 v0).bind (fun r15 => if jA r15 13 (0 : Int32) = true then jlet (jAI S r15 ((0 : Int32)).toNatClampNeg) (fun x18 => if (f_X12_isRow x18) = 0 then if v1 = (-1 : Int32) then f_X12_read_42 v0 v1 x18 S else some (0 : Int64) else (jR S 89 v0).bind (fun r21 => if jA r21 13 (0 : Int32) = true then if (f_X12_in (v1.toInt64) (0 : Int64) (((jAI S r21 ((0 : Int32)).toNatClampNeg) - (1 : Int32)).toInt64)) = 0 then some (0 : Int64) else f_X12_read_42 v0 v1 x18 S else none)) else none) else none
set_option maxRecDepth 100000 in
set_option maxHeartbeats 4000000 in
theorem B_X12_read_65 {p : Program} {l : Launch} {e : Env} {s : State} {m : MethodId} {args : Array Value} {below : List Frame} {meth : Method} {c : Code} {g : jG} {rr : Int64} {S : jM} {v0 : Nat} {v3 : Int32} (E : jEnv p s m args meth c cX12_read "PensionHouseModel" (some .long) 4 g)  {H : Heap} {locs : List Loc} {ls : Array Slot} (hf : f_X12_read_65 v0 v3 S = some rr) (hM : jAt g S s H locs) (hl : lv_has ls 4 [(0, .ref (g.2.2 + v0)), (3, .int v3)]) : W p l e (jRm 2 0 0) s m args below meth c H locs 0 0 (MQ below (jQl g rr S) args s 0 0 (jA0 g)) (F0 m 65 ls []) := by
  obtain ⟨hx, hb, hml, -, hts, hown, hK, -, hstr⟩ := id E
  unfold f_X12_read_65 at hf
  refine lv_aload_n hx hb dX12_read_65 rfl (lv_at hl 0 rfl) ?_
  obtain ⟨hq1, hf⟩ := jif hf
  refine gt_91 E hM hq1 lk_6_5 dX12_read_66 ?_
  obtain ⟨r2, hr3, hf⟩ := jb hf
  rw [hr3]
  show W p l e _ s m args below meth c H locs 0 0 _ (F0 m _ ls (.ref (g.2.2 + r2) :: _))
  refine lv_iload_n hx hb dX12_read_69 rfl (lv_at hl 1 rfl) ?_
  obtain ⟨ha4, hf⟩ := jif hf
  refine jdald E hM ha4 dX12_read_70 ?_
  obtain ⟨x5, hc6, hf⟩ := jb hf
  refine jbackL hM (jrunS E hM ci_X12_bitsOf (C_X12_bitsOf hc6) lk_7_107 hl.1 rfl rfl (Nat.le_of_ble_eq_true rfl) ⟨Nat.le_of_ble_eq_true rfl, Nat.le_of_ble_eq_true rfl⟩ ⟨Nat.le_refl _, Nat.le_refl _⟩ dX12_read_71) (fun H locs hM => ?_)
  refine lv_goto (tgt := 83) hx hb dX12_read_74 (by decide) ?_
  exact jlret (jr1 hf) E hM dX12_read_83
set_option maxRecDepth 100000 in
set_option maxHeartbeats 4000000 in
theorem B_X12_read_54 {p : Program} {l : Launch} {e : Env} {s : State} {m : MethodId} {args : Array Value} {below : List Frame} {meth : Method} {c : Code} {g : jG} {rr : Int64} {S : jM} {v0 : Nat} {v2 : Int32} {t0 : Int32} (E : jEnv p s m args meth c cX12_read "PensionHouseModel" (some .long) 4 g)  {H : Heap} {locs : List Loc} {ls : Array Slot} (hf : f_X12_read_54 v0 v2 t0 S = some rr) (hM : jAt g S s H locs) (hl : lv_has ls 4 [(0, .ref (g.2.2 + v0)), (2, .int v2)]) : W p l e (jRm 2 0 0) s m args below meth c H locs 0 0 (MQ below (jQl g rr S) args s 0 0 (jA0 g)) (F0 m 54 ls [.int t0]) := by
  obtain ⟨hx, hb, hml, -, hts, hown, hK, -, hstr⟩ := id E
  unfold f_X12_read_54 at hf
  refine lv_istore_n (lv' := [(3, .int t0), (0, .ref (g.2.2 + v0)), (2, .int v2)]) hx hb dX12_read_54 rfl hl (by decide) rfl (fun ls hl => ?_)
  refine lv_iload_n hx hb dX12_read_55 rfl (lv_at hl 2 rfl) ?_
  refine lv_iconst (v := (1 : Int32)) hx hb dX12_read_56 (by decide) ?_
  refine lv_icmp_eq (tgt := 65) hx hb dX12_read_57 (by decide) (fun c7 => ?_) (fun c7 => ?_)
  · have hf := jt c7 hf
    exact B_X12_read_65 E  hf hM (lv_sub hl [1, 0] rfl)
  · have hf := jf c7 hf
    refine lv_iload_n hx hb dX12_read_60 rfl (lv_at hl 2 rfl) ?_
    refine lv_iconst (v := (4 : Int32)) hx hb dX12_read_61 (by decide) ?_
    refine lv_icmp_ne (tgt := 77) hx hb dX12_read_62 (by decide) (fun c8 => ?_) (fun c8 => ?_)
    · have hf := jf c8 hf
      refine lv_aload_n hx hb dX12_read_77 rfl (lv_at hl 1 rfl) ?_
      obtain ⟨hq9, hf⟩ := jif hf
      refine gt_90 E hM hq9 lk_6_4 dX12_read_78 ?_
      obtain ⟨r10, hr11, hf⟩ := jb hf
      rw [hr11]
      show W p l e _ s m args below meth c H locs 0 0 _ (F0 m _ ls (.ref (g.2.2 + r10) :: _))
      refine lv_iload_n hx hb dX12_read_81 rfl (lv_at hl 0 rfl) ?_
      obtain ⟨ha12, hf⟩ := jif hf
      refine jlald E hM ha12 dX12_read_82 ?_
      exact jlret (jr1 hf) E hM dX12_read_83
    · have hf := jt c8 hf
      exact B_X12_read_65 E  hf hM (lv_sub hl [1, 0] rfl)
set_option maxRecDepth 100000 in
set_option maxHeartbeats 4000000 in
theorem B_X12_read_42 {p : Program} {l : Launch} {e : Env} {s : State} {m : MethodId} {args : Array Value} {below : List Frame} {meth : Method} {c : Code} {g : jG} {rr : Int64} {S : jM} {v0 : Nat} {v1 : Int32} {v2 : Int32} (E : jEnv p s m args meth c cX12_read "PensionHouseModel" (some .long) 4 g)  {H : Heap} {locs : List Loc} {ls : Array Slot} (hf : f_X12_read_42 v0 v1 v2 S = some rr) (hM : jAt g S s H locs) (hl : lv_has ls 4 [(0, .ref (g.2.2 + v0)), (1, .int v1), (2, .int v2)]) : W p l e (jRm 2 0 0) s m args below meth c H locs 0 0 (MQ below (jQl g rr S) args s 0 0 (jA0 g)) (F0 m 42 ls []) := by
  obtain ⟨hx, hb, hml, -, hts, hown, hK, -, hstr⟩ := id E
  unfold f_X12_read_42 at hf
  refine lv_iload_n hx hb dX12_read_42 rfl (lv_at hl 2 rfl) ?_
  refine jbackI hM (jrunS E hM ci_X12_isRow (C_X12_isRow rfl) lk_7_100 hl.1 rfl rfl (Nat.le_of_ble_eq_true rfl) ⟨Nat.le_of_ble_eq_true rfl, Nat.le_of_ble_eq_true rfl⟩ ⟨Nat.le_refl _, Nat.le_refl _⟩ dX12_read_43) (fun H locs hM => ?_)
  refine lv_if_eq (tgt := 53) hx hb dX12_read_46 (by decide) (fun c13 => ?_) (fun c13 => ?_)
  · have hf := jt c13 hf
    refine lv_iconst (v := (0 : Int32)) hx hb dX12_read_53 (by decide) ?_
    exact B_X12_read_54 E  hf hM (lv_sub hl [0, 2] rfl)
  · have hf := jf c13 hf
    refine lv_iload_n hx hb dX12_read_49 rfl (lv_at hl 1 rfl) ?_
    refine lv_goto (tgt := 54) hx hb dX12_read_50 (by decide) ?_
    exact B_X12_read_54 E  hf hM (lv_sub hl [0, 2] rfl)
set_option maxRecDepth 100000 in
set_option maxHeartbeats 4000000 in
theorem B_X12_read_0 {p : Program} {l : Launch} {e : Env} {s : State} {m : MethodId} {args : Array Value} {below : List Frame} {meth : Method} {c : Code} {g : jG} {rr : Int64} {S : jM} {v0 : Nat} {v1 : Int32} (E : jEnv p s m args meth c cX12_read "PensionHouseModel" (some .long) 4 g)  {H : Heap} {locs : List Loc} {ls : Array Slot} (hf : f_X12_read v0 v1 S = some rr) (hM : jAt g S s H locs) (hl : lv_has ls 4 [(0, .ref (g.2.2 + v0)), (1, .int v1)]) : W p l e (jRm 2 0 0) s m args below meth c H locs 0 0 (MQ below (jQl g rr S) args s 0 0 (jA0 g)) (F0 m 0 ls []) := by
  obtain ⟨hx, hb, hml, -, hts, hown, hK, -, hstr⟩ := id E
  unfold f_X12_read at hf
  refine lv_aload_n hx hb dX12_read_0 rfl (lv_at hl 0 rfl) ?_
  obtain ⟨hq14, hf⟩ := jif hf
  refine gt_88 E hM hq14 lk_6_2 dX12_read_1 ?_
  obtain ⟨r15, hr16, hf⟩ := jb hf
  rw [hr16]
  show W p l e _ s m args below meth c H locs 0 0 _ (F0 m _ ls (.ref (g.2.2 + r15) :: _))
  refine lv_iconst (v := (0 : Int32)) hx hb dX12_read_4 (by decide) ?_
  obtain ⟨ha17, hf⟩ := jif hf
  refine jiald E hM ha17 dX12_read_5 ?_
  refine lv_topi (fun x18 ex18 => ?_)
  have hf := jlet_y ex18 hf
  refine lv_istore_n (lv' := [(2, .int x18), (0, .ref (g.2.2 + v0)), (1, .int v1)]) hx hb dX12_read_6 rfl hl (by decide) rfl (fun ls hl => ?_)
  refine lv_iload_n hx hb dX12_read_7 rfl (lv_at hl 0 rfl) ?_
  refine jbackI hM (jrunS E hM ci_X12_isRow (C_X12_isRow rfl) lk_7_100 hl.1 rfl rfl (Nat.le_of_ble_eq_true rfl) ⟨Nat.le_of_ble_eq_true rfl, Nat.le_of_ble_eq_true rfl⟩ ⟨Nat.le_refl _, Nat.le_refl _⟩ dX12_read_8) (fun H locs hM => ?_)
  refine lv_if_eq (tgt := 35) hx hb dX12_read_11 (by decide) (fun c19 => ?_) (fun c19 => ?_)
  · have hf := jt c19 hf
    refine lv_iload_n hx hb dX12_read_35 rfl (lv_at hl 2 rfl) ?_
    refine lv_iconst (v := (-1 : Int32)) hx hb dX12_read_36 (by decide) ?_
    refine lv_icmp_eq (tgt := 42) hx hb dX12_read_37 (by decide) (fun c20 => ?_) (fun c20 => ?_)
    · have hf := jt c20 hf
      exact B_X12_read_42 E  hf hM (lv_sub hl [1, 2, 0] rfl)
    · have hf := jf c20 hf
      refine lv_lconst (v := (0 : Int64)) hx hb dX12_read_40 (by decide) ?_
      exact jlret (jr1 hf) E hM dX12_read_41
  · have hf := jf c19 hf
    refine lv_iload_n hx hb dX12_read_14 rfl (lv_at hl 2 rfl) ?_
    refine lv_i2l hx hb dX12_read_15 rfl ?_
    refine lv_lconst (v := (0 : Int64)) hx hb dX12_read_16 (by decide) ?_
    refine lv_aload_n hx hb dX12_read_17 rfl (lv_at hl 1 rfl) ?_
    refine gt_89 E hM hq14 lk_6_3 dX12_read_18 ?_
    obtain ⟨r21, hr22, hf⟩ := jb hf
    rw [hr22]
    show W p l e _ s m args below meth c H locs 0 0 _ (F0 m _ ls (.ref (g.2.2 + r21) :: _))
    refine lv_iconst (v := (0 : Int32)) hx hb dX12_read_21 (by decide) ?_
    obtain ⟨ha23, hf⟩ := jif hf
    refine jiald E hM ha23 dX12_read_22 ?_
    refine lv_iconst (v := (1 : Int32)) hx hb dX12_read_23 (by decide) ?_
    refine lv_isub hx hb dX12_read_24 ?_
    refine lv_i2l hx hb dX12_read_25 rfl ?_
    refine jbackI hM (jrunS E hM ci_X12_in (C_X12_in rfl) lk_7_36 hl.1 rfl rfl (Nat.le_of_ble_eq_true rfl) ⟨Nat.le_of_ble_eq_true rfl, Nat.le_of_ble_eq_true rfl⟩ ⟨Nat.le_refl _, Nat.le_refl _⟩ dX12_read_26) (fun H locs hM => ?_)
    refine lv_if_ne (tgt := 42) hx hb dX12_read_29 (by decide) (fun c24 => ?_) (fun c24 => ?_)
    · have hf := jf c24 hf
      exact B_X12_read_42 E  hf hM (lv_sub hl [1, 2, 0] rfl)
    · have hf := jt c24 hf
      refine lv_goto (tgt := 40) hx hb dX12_read_32 (by decide) ?_
      refine lv_lconst (v := (0 : Int64)) hx hb dX12_read_40 (by decide) ?_
      exact jlret (jr1 hf) E hM dX12_read_41
set_option maxRecDepth 100000 in
theorem C_X12_read {l : Launch} {g : jG} {a0 : Nat} {a1 : Int32} {S : jM} {rr : Int64} (hf : f_X12_read a0 a1 S = some rr) : jMet l g yX12_read cX12_read 4 (some .long) 2 0 0 [.ref (g.2.2 + a0), .int a1] S (jQl g rr S) := by
  refine jof (by decide +kernel) (Nat.le_of_ble_eq_true rfl) ?_
  intro p e s m below meth c E hM ls hl
  have hl : lv_has ls 4 [(0, .ref (g.2.2 + a0)),(1, .int a1)] := hl
  exact B_X12_read_0 E hf hM hl
-- PensionHouseModel.returned(I)I  mode M
noncomputable def f_X12_returned (v0 : Nat) (v1 : Int32) (S : jM) : Option (Int32 × jM) := if jK v0 = 10 then if (f_X12_in (v1.toInt64) (0 : Int64) (((jI S 175 v0) - (1 : Int32)).toInt64)) = 0 then some ((-2 : Int32), S) else (jR S 172 v0).bind (fun r3 => if jA r3 15 v1 = true then if (jAI S r3 (v1).toNatClampNeg) = 0 then (jR S 172 v0).bind (fun r7 => if jA r7 15 v1 = true then jlet (jrI S r7 (upd (jAI S r7) (v1).toNatClampNeg (vp_nar .boolean (1 : Int32)))) (fun S10 => some ((1 : Int32), S10)) else none) else some ((-4 : Int32), S) else none) else none
set_option maxRecDepth 100000 in
set_option maxHeartbeats 4000000 in
theorem B_X12_returned_0 {p : Program} {l : Launch} {e : Env} {s : State} {m : MethodId} {args : Array Value} {below : List Frame} {meth : Method} {c : Code} {g : jG} {rr : Int32} {SS : jM} {v0 : Nat} {v1 : Int32} {S : jM} (E : jEnv p s m args meth c cX12_returned "PensionHouseModel" (some .int) 2 g)  {H : Heap} {locs : List Loc} {ls : Array Slot} (hf : f_X12_returned v0 v1 S = some (rr, SS)) (hM : jAt g S s H locs) (hl : lv_has ls 2 [(0, .ref (g.2.2 + v0)), (1, .int v1)]) : W p l e (jRm 2 0 0) s m args below meth c H locs 0 0 (MQ below (jQi g rr SS) args s 0 0 (jA0 g)) (F0 m 0 ls []) := by
  obtain ⟨hx, hb, hml, -, hts, hown, hK, -, hstr⟩ := id E
  unfold f_X12_returned at hf
  refine lv_iload_n hx hb dX12_returned_0 rfl (lv_at hl 1 rfl) ?_
  refine lv_i2l hx hb dX12_returned_1 rfl ?_
  refine lv_lconst (v := (0 : Int64)) hx hb dX12_returned_2 (by decide) ?_
  refine lv_aload_n hx hb dX12_returned_3 rfl (lv_at hl 0 rfl) ?_
  obtain ⟨hq1, hf⟩ := jif hf
  refine gt_175 E hM hq1 lk_6_89 dX12_returned_4 ?_
  refine lv_iconst (v := (1 : Int32)) hx hb dX12_returned_7 (by decide) ?_
  refine lv_isub hx hb dX12_returned_8 ?_
  refine lv_i2l hx hb dX12_returned_9 rfl ?_
  refine jbackI hM (jrunS E hM ci_X12_in (C_X12_in rfl) lk_7_36 hl.1 rfl rfl (Nat.le_of_ble_eq_true rfl) ⟨Nat.le_of_ble_eq_true rfl, Nat.le_of_ble_eq_true rfl⟩ ⟨Nat.le_refl _, Nat.le_refl _⟩ dX12_returned_10) (fun H locs hM => ?_)
  refine lv_if_ne (tgt := 19) hx hb dX12_returned_13 (by decide) (fun c2 => ?_) (fun c2 => ?_)
  · have hf := jf c2 hf
    refine lv_aload_n hx hb dX12_returned_19 rfl (lv_at hl 0 rfl) ?_
    refine gt_172 E hM hq1 lk_6_86 dX12_returned_20 ?_
    obtain ⟨r3, hr4, hf⟩ := jb hf
    rw [hr4]
    show W p l e _ s m args below meth c H locs 0 0 _ (F0 m _ ls (.ref (g.2.2 + r3) :: _))
    refine lv_iload_n hx hb dX12_returned_23 rfl (lv_at hl 1 rfl) ?_
    obtain ⟨ha5, hf⟩ := jif hf
    refine jzald E hM ha5 dX12_returned_24 ?_
    refine lv_if_eq (tgt := 31) hx hb dX12_returned_25 (by decide) (fun c6 => ?_) (fun c6 => ?_)
    · have hf := jt c6 hf
      refine lv_aload_n hx hb dX12_returned_31 rfl (lv_at hl 0 rfl) ?_
      refine gt_172 E hM hq1 lk_6_86 dX12_returned_32 ?_
      obtain ⟨r7, hr8, hf⟩ := jb hf
      rw [hr8]
      show W p l e _ s m args below meth c H locs 0 0 _ (F0 m _ ls (.ref (g.2.2 + r7) :: _))
      refine lv_iload_n hx hb dX12_returned_35 rfl (lv_at hl 1 rfl) ?_
      refine lv_iconst (v := (1 : Int32)) hx hb dX12_returned_36 (by decide) ?_
      obtain ⟨ha9, hf⟩ := jif hf
      refine jzast E hM ha9 dX12_returned_37 (fun H locs S10 eS10 hM => ?_)
      have hf := jlet_y eS10 hf
      refine lv_iconst (v := (1 : Int32)) hx hb dX12_returned_38 (by decide) ?_
      exact jireti (jr2 hf) E hM dX12_returned_39
    · have hf := jf c6 hf
      refine lv_bipush (v := (-4 : Int32)) hx hb dX12_returned_28 (by decide) ?_
      exact jireti (jr2 hf) E hM dX12_returned_30
  · have hf := jt c2 hf
    refine lv_bipush (v := (-2 : Int32)) hx hb dX12_returned_16 (by decide) ?_
    exact jireti (jr2 hf) E hM dX12_returned_18
set_option maxRecDepth 100000 in
theorem C_X12_returned {l : Launch} {g : jG} {a0 : Nat} {a1 : Int32} {S : jM} {rr : Int32} {SS : jM} (hf : f_X12_returned a0 a1 S = some (rr, SS)) : jMet l g yX12_returned cX12_returned 2 (some .int) 2 0 0 [.ref (g.2.2 + a0), .int a1] S (jQi g rr SS) := by
  refine jof (by decide +kernel) (Nat.le_of_ble_eq_true rfl) ?_
  intro p e s m below meth c E hM ls hl
  have hl : lv_has ls 2 [(0, .ref (g.2.2 + a0)),(1, .int a1)] := hl
  exact B_X12_returned_0 E hf hM hl
-- PensionHouseModel.run(I)I  mode M
noncomputable def f_X12_run_154 (k116 : Nat → Int32 → Int32 → jM → Option (Int32 × jM)) (v0 : Nat) (v1 : Int32) (v3 : Int32) (S : jM) : Option (Int32 × jM) := jlet (v3 + (1 : Int32)) (fun x1 => k116 v0 v1 x1 S)
noncomputable def f_X12_run_116 : Nat → Nat → Int32 → Int32 → jM → Option (Int32 × jM)
  | 0, _, _, _, _ => none
  | n + 1, v0, v1, v3, S => if jK v0 = 10 then if (jI S 160 v0) ≤ v3 then some (jI S 167 v0, S) else (jR S 159 v0).bind (fun r4 => if jA r4 13 v3 = true then if v1 < (jAI S r4 (v3).toNatClampNeg) then f_X12_run_154 (f_X12_run_116 n) v0 v1 v3 S else (jR S 166 v0).bind (fun r8 => if jA r8 13 (jI S 167 v0) = true then jlet (jrI S r8 (upd (jAI S r8) (jI S 167 v0).toNatClampNeg v3)) (fun S11 => jlet (jsI S11 167 v0 ((jI S11 167 v0) + (1 : Int32))) (fun S12 => f_X12_run_154 (f_X12_run_116 n) v0 v1 v3 S12)) else none) else none) else none
noncomputable def f_X12_run_76 (k52 : Nat → Int32 → Int32 → Int32 → jM → Option (Int32 × jM)) (v0 : Nat) (v1 : Int32) (v3 : Int32) (t0 : Int32) (t1 : Int32) (S : jM) : Option (Int32 × jM) := jlet (t0 + t1) (fun x13 => jlet (v3 + (1 : Int32)) (fun x14 => k52 v0 v1 x13 x14 S))
noncomputable def f_X12_run_52 : Nat → Nat → Int32 → Int32 → Int32 → jM → Option (Int32 × jM)
  | 0, _, _, _, _, _ => none
  | n + 1, v0, v1, v2, v3, S => if jK v0 = 10 then if (jI S 160 v0) ≤ v3 then if ((jI S 175 v0) + v2) ≤ (200 : Int32) then jlet (jsI S 165 v0 v1) (fun S18 => jlet (jsI S18 167 v0 (0 : Int32)) (fun S19 => jlet (jsI S19 168 v0 (0 : Int32)) (fun S20 => f_X12_run_116 1100000 v0 v1 (0 : Int32) S20))) else some ((-5 : Int32), S) else (jR S 159 v0).bind (fun r21 => if jA r21 13 v3 = true then if v1 < (jAI S r21 (v3).toNatClampNeg) then f_X12_run_76 (f_X12_run_52 n) v0 v1 v3 v2 (0 : Int32) S else f_X12_run_76 (f_X12_run_52 n) v0 v1 v3 v2 (1 : Int32) S else none) else none
noncomputable def f_X12_run (v0 : Nat) (v1 : Int32) (S : jM) : Option (Int32 × jM) := if (f_X12_in (v1.toInt64) (0 : Int64) (12 : Int64)) = 0 then some ((-3 : Int32), S) else if jK v0 = 10 then if (jI S 168 v0) < (jI S 167 v0) then some ((-4 : Int32), S) else if v1 ≤ (jI S 165 v0) then some ((-4 : Int32), S) else if ((30 : Int32) * v1) ≤ (jI S 139 v0) then f_X12_run_52 1100000 v0 v1 (0 : Int32) (0 : Int32) S else some ((-4 : Int32), S) else none
set_option maxRecDepth 100000 in
set_option maxHeartbeats 4000000 in
theorem B_X12_run_154 {p : Program} {l : Launch} {e : Env} {s : State} {m : MethodId} {args : Array Value} {below : List Frame} {meth : Method} {c : Code} {g : jG} {rr : Int32} {SS : jM} {v0 : Nat} {v1 : Int32} {v3 : Int32} {S : jM} {k116 : Nat → Int32 → Int32 → jM → Option (Int32 × jM)} (E : jEnv p s m args meth c cX12_run "PensionHouseModel" (some .int) 4 g) (hk116 : ∀ (v0 : Nat) (v1 : Int32) (v3 : Int32) (S : jM) (H : Heap) (locs : List Loc) (ls : Array Slot), k116 v0 v1 v3 S = some (rr, SS) → jAt g S s H locs → lv_has ls 4 [(0, .ref (g.2.2 + v0)), (1, .int v1), (3, .int v3)] → W p l e (jRm 2 0 0) s m args below meth c H locs 0 0 (MQ below (jQi g rr SS) args s 0 0 (jA0 g)) (F0 m 116 ls [])) {H : Heap} {locs : List Loc} {ls : Array Slot} (hf : f_X12_run_154 k116 v0 v1 v3 S = some (rr, SS)) (hM : jAt g S s H locs) (hl : lv_has ls 4 [(0, .ref (g.2.2 + v0)), (1, .int v1), (3, .int v3)]) : W p l e (jRm 2 0 0) s m args below meth c H locs 0 0 (MQ below (jQi g rr SS) args s 0 0 (jA0 g)) (F0 m 154 ls []) := by
  obtain ⟨hx, hb, hml, -, hts, hown, hK, -, hstr⟩ := id E
  unfold f_X12_run_154 at hf
  obtain ⟨x1, ex1⟩ : ∃ z, z = v3 + (1 : Int32) := ⟨_, rfl⟩
  have hf := jlet_y ex1 hf
  refine lv_iinc (v := x1) (lv' := [(3, .int x1), (0, .ref (g.2.2 + v0)), (1, .int v1)]) hx hb dX12_run_154 hl (k := 2) rfl (by rw [ex1]; rfl) (by decide) rfl (fun ls hl => ?_)
  refine lv_goto (tgt := 116) hx hb dX12_run_157 (by decide) ?_
  exact hk116 v0 v1 x1 S _ _ _ hf hM (lv_sub hl [1, 2, 0] rfl)
set_option maxRecDepth 100000 in
set_option maxHeartbeats 4000000 in
theorem B_X12_run_116 {p : Program} {l : Launch} {e : Env} {s : State} {m : MethodId} {args : Array Value} {below : List Frame} {meth : Method} {c : Code} {g : jG} {rr : Int32} {SS : jM} (E : jEnv p s m args meth c cX12_run "PensionHouseModel" (some .int) 4 g)  : ∀ (n : Nat) (v0 : Nat) (v1 : Int32) (v3 : Int32) (S : jM) (H : Heap) (locs : List Loc) (ls : Array Slot), f_X12_run_116 n v0 v1 v3 S = some (rr, SS) → jAt g S s H locs → lv_has ls 4 [(0, .ref (g.2.2 + v0)), (1, .int v1), (3, .int v3)] → W p l e (jRm 2 0 0) s m args below meth c H locs 0 0 (MQ below (jQi g rr SS) args s 0 0 (jA0 g)) (F0 m 116 ls []) := by
  obtain ⟨hx, hb, hml, -, hts, hown, hK, -, hstr⟩ := id E
  intro n
  induction n with
  | zero => intro v0 v1 v3 S H locs ls hf hM hl; rw [f_X12_run_116] at hf; cases hf
  | succ n ih =>
    intro v0 v1 v3 S H locs ls hf hM hl
    rw [f_X12_run_116] at hf
    refine lv_iload_n hx hb dX12_run_116 rfl (lv_at hl 2 rfl) ?_
    refine lv_aload_n hx hb dX12_run_117 rfl (lv_at hl 0 rfl) ?_
    obtain ⟨hq2, hf⟩ := jif hf
    refine gt_160 E hM hq2 lk_6_74 dX12_run_118 ?_
    refine lv_icmp_ge (tgt := 160) hx hb dX12_run_121 (by decide) (fun c3 => ?_) (fun c3 => ?_)
    · have hf := jt c3 hf
      refine lv_aload_n hx hb dX12_run_160 rfl (lv_at hl 0 rfl) ?_
      refine gt_167 E hM hq2 lk_6_81 dX12_run_161 ?_
      exact jireti (jr2 hf) E hM dX12_run_164
    · have hf := jf c3 hf
      refine lv_aload_n hx hb dX12_run_124 rfl (lv_at hl 0 rfl) ?_
      refine gt_159 E hM hq2 lk_6_73 dX12_run_125 ?_
      obtain ⟨r4, hr5, hf⟩ := jb hf
      rw [hr5]
      show W p l e _ s m args below meth c H locs 0 0 _ (F0 m _ ls (.ref (g.2.2 + r4) :: _))
      refine lv_iload_n hx hb dX12_run_128 rfl (lv_at hl 2 rfl) ?_
      obtain ⟨ha6, hf⟩ := jif hf
      refine jiald E hM ha6 dX12_run_129 ?_
      refine lv_iload_n hx hb dX12_run_130 rfl (lv_at hl 1 rfl) ?_
      refine lv_icmp_gt (tgt := 154) hx hb dX12_run_131 (by decide) (fun c7 => ?_) (fun c7 => ?_)
      · have hf := jt c7 hf
        exact B_X12_run_154 E ih hf hM (lv_sub hl [0, 1, 2] rfl)
      · have hf := jf c7 hf
        refine lv_aload_n hx hb dX12_run_134 rfl (lv_at hl 0 rfl) ?_
        refine gt_166 E hM hq2 lk_6_80 dX12_run_135 ?_
        obtain ⟨r8, hr9, hf⟩ := jb hf
        rw [hr9]
        show W p l e _ s m args below meth c H locs 0 0 _ (F0 m _ ls (.ref (g.2.2 + r8) :: _))
        refine lv_aload_n hx hb dX12_run_138 rfl (lv_at hl 0 rfl) ?_
        refine gt_167 E hM hq2 lk_6_81 dX12_run_139 ?_
        refine lv_iload_n hx hb dX12_run_142 rfl (lv_at hl 2 rfl) ?_
        obtain ⟨ha10, hf⟩ := jif hf
        refine jiast E hM ha10 dX12_run_143 (fun H locs S11 eS11 hM => ?_)
        have hf := jlet_y eS11 hf
        refine lv_aload_n hx hb dX12_run_144 rfl (lv_at hl 0 rfl) ?_
        refine lv_dup hx hb dX12_run_145 rfl ?_
        refine gt_167 E hM hq2 lk_6_81 dX12_run_146 ?_
        refine lv_iconst (v := (1 : Int32)) hx hb dX12_run_149 (by decide) ?_
        refine lv_iadd hx hb dX12_run_150 ?_
        refine pt_167 E hM hq2 lk_6_81 dX12_run_151 (fun H locs S12 eS12 hM => ?_)
        have hf := jlet_y eS12 hf
        exact B_X12_run_154 E ih hf hM (lv_sub hl [0, 1, 2] rfl)
set_option maxRecDepth 100000 in
set_option maxHeartbeats 4000000 in
theorem B_X12_run_76 {p : Program} {l : Launch} {e : Env} {s : State} {m : MethodId} {args : Array Value} {below : List Frame} {meth : Method} {c : Code} {g : jG} {rr : Int32} {SS : jM} {v0 : Nat} {v1 : Int32} {v3 : Int32} {t0 : Int32} {t1 : Int32} {S : jM} {k52 : Nat → Int32 → Int32 → Int32 → jM → Option (Int32 × jM)} (E : jEnv p s m args meth c cX12_run "PensionHouseModel" (some .int) 4 g) (hk52 : ∀ (v0 : Nat) (v1 : Int32) (v2 : Int32) (v3 : Int32) (S : jM) (H : Heap) (locs : List Loc) (ls : Array Slot), k52 v0 v1 v2 v3 S = some (rr, SS) → jAt g S s H locs → lv_has ls 4 [(0, .ref (g.2.2 + v0)), (1, .int v1), (2, .int v2), (3, .int v3)] → W p l e (jRm 2 0 0) s m args below meth c H locs 0 0 (MQ below (jQi g rr SS) args s 0 0 (jA0 g)) (F0 m 52 ls [])) {H : Heap} {locs : List Loc} {ls : Array Slot} (hf : f_X12_run_76 k52 v0 v1 v3 t0 t1 S = some (rr, SS)) (hM : jAt g S s H locs) (hl : lv_has ls 4 [(0, .ref (g.2.2 + v0)), (1, .int v1), (3, .int v3)]) : W p l e (jRm 2 0 0) s m args below meth c H locs 0 0 (MQ below (jQi g rr SS) args s 0 0 (jA0 g)) (F0 m 76 ls [.int t1, .int t0]) := by
  obtain ⟨hx, hb, hml, -, hts, hown, hK, -, hstr⟩ := id E
  unfold f_X12_run_76 at hf
  refine lv_iadd hx hb dX12_run_76 ?_
  refine lv_topi (fun x13 ex13 => ?_)
  have hf := jlet_y ex13 hf
  refine lv_istore_n (lv' := [(2, .int x13), (0, .ref (g.2.2 + v0)), (1, .int v1), (3, .int v3)]) hx hb dX12_run_77 rfl hl (by decide) rfl (fun ls hl => ?_)
  obtain ⟨x14, ex14⟩ : ∃ z, z = v3 + (1 : Int32) := ⟨_, rfl⟩
  have hf := jlet_y ex14 hf
  refine lv_iinc (v := x14) (lv' := [(3, .int x14), (2, .int x13), (0, .ref (g.2.2 + v0)), (1, .int v1)]) hx hb dX12_run_78 hl (k := 3) rfl (by rw [ex14]; rfl) (by decide) rfl (fun ls hl => ?_)
  refine lv_goto (tgt := 52) hx hb dX12_run_81 (by decide) ?_
  exact hk52 v0 v1 x13 x14 S _ _ _ hf hM (lv_sub hl [2, 3, 1, 0] rfl)
set_option maxRecDepth 100000 in
set_option maxHeartbeats 4000000 in
theorem B_X12_run_52 {p : Program} {l : Launch} {e : Env} {s : State} {m : MethodId} {args : Array Value} {below : List Frame} {meth : Method} {c : Code} {g : jG} {rr : Int32} {SS : jM} (E : jEnv p s m args meth c cX12_run "PensionHouseModel" (some .int) 4 g)  : ∀ (n : Nat) (v0 : Nat) (v1 : Int32) (v2 : Int32) (v3 : Int32) (S : jM) (H : Heap) (locs : List Loc) (ls : Array Slot), f_X12_run_52 n v0 v1 v2 v3 S = some (rr, SS) → jAt g S s H locs → lv_has ls 4 [(0, .ref (g.2.2 + v0)), (1, .int v1), (2, .int v2), (3, .int v3)] → W p l e (jRm 2 0 0) s m args below meth c H locs 0 0 (MQ below (jQi g rr SS) args s 0 0 (jA0 g)) (F0 m 52 ls []) := by
  obtain ⟨hx, hb, hml, -, hts, hown, hK, -, hstr⟩ := id E
  intro n
  induction n with
  | zero => intro v0 v1 v2 v3 S H locs ls hf hM hl; rw [f_X12_run_52] at hf; cases hf
  | succ n ih =>
    intro v0 v1 v2 v3 S H locs ls hf hM hl
    rw [f_X12_run_52] at hf
    refine lv_iload_n hx hb dX12_run_52 rfl (lv_at hl 3 rfl) ?_
    refine lv_aload_n hx hb dX12_run_53 rfl (lv_at hl 0 rfl) ?_
    obtain ⟨hq15, hf⟩ := jif hf
    refine gt_160 E hM hq15 lk_6_74 dX12_run_54 ?_
    refine lv_icmp_ge (tgt := 84) hx hb dX12_run_57 (by decide) (fun c16 => ?_) (fun c16 => ?_)
    · have hf := jt c16 hf
      refine lv_aload_n hx hb dX12_run_84 rfl (lv_at hl 0 rfl) ?_
      refine gt_175 E hM hq15 lk_6_89 dX12_run_85 ?_
      refine lv_iload_n hx hb dX12_run_88 rfl (lv_at hl 2 rfl) ?_
      refine lv_iadd hx hb dX12_run_89 ?_
      refine lv_sipush (v := (200 : Int32)) hx hb dX12_run_90 (by decide) ?_
      refine lv_icmp_le (tgt := 99) hx hb dX12_run_93 (by decide) (fun c17 => ?_) (fun c17 => ?_)
      · have hf := jt c17 hf
        refine lv_aload_n hx hb dX12_run_99 rfl (lv_at hl 0 rfl) ?_
        refine lv_iload_n hx hb dX12_run_100 rfl (lv_at hl 1 rfl) ?_
        refine pt_165 E hM hq15 lk_6_79 dX12_run_101 (fun H locs S18 eS18 hM => ?_)
        have hf := jlet_y eS18 hf
        refine lv_aload_n hx hb dX12_run_104 rfl (lv_at hl 0 rfl) ?_
        refine lv_iconst (v := (0 : Int32)) hx hb dX12_run_105 (by decide) ?_
        refine pt_167 E hM hq15 lk_6_81 dX12_run_106 (fun H locs S19 eS19 hM => ?_)
        have hf := jlet_y eS19 hf
        refine lv_aload_n hx hb dX12_run_109 rfl (lv_at hl 0 rfl) ?_
        refine lv_iconst (v := (0 : Int32)) hx hb dX12_run_110 (by decide) ?_
        refine pt_168 E hM hq15 lk_6_82 dX12_run_111 (fun H locs S20 eS20 hM => ?_)
        have hf := jlet_y eS20 hf
        refine lv_iconst (v := (0 : Int32)) hx hb dX12_run_114 (by decide) ?_
        refine lv_istore_n (lv' := [(3, .int (0 : Int32)), (0, .ref (g.2.2 + v0)), (1, .int v1), (2, .int v2)]) hx hb dX12_run_115 rfl hl (by decide) rfl (fun ls hl => ?_)
        exact B_X12_run_116 E  1100000 v0 v1 (0 : Int32) S20 _ _ _ hf hM (lv_sub hl [1, 2, 0] rfl)
      · have hf := jf c17 hf
        refine lv_bipush (v := (-5 : Int32)) hx hb dX12_run_96 (by decide) ?_
        exact jireti (jr2 hf) E hM dX12_run_98
    · have hf := jf c16 hf
      refine lv_iload_n hx hb dX12_run_60 rfl (lv_at hl 2 rfl) ?_
      refine lv_aload_n hx hb dX12_run_61 rfl (lv_at hl 0 rfl) ?_
      refine gt_159 E hM hq15 lk_6_73 dX12_run_62 ?_
      obtain ⟨r21, hr22, hf⟩ := jb hf
      rw [hr22]
      show W p l e _ s m args below meth c H locs 0 0 _ (F0 m _ ls (.ref (g.2.2 + r21) :: _))
      refine lv_iload_n hx hb dX12_run_65 rfl (lv_at hl 3 rfl) ?_
      obtain ⟨ha23, hf⟩ := jif hf
      refine jiald E hM ha23 dX12_run_66 ?_
      refine lv_iload_n hx hb dX12_run_67 rfl (lv_at hl 1 rfl) ?_
      refine lv_icmp_gt (tgt := 75) hx hb dX12_run_68 (by decide) (fun c24 => ?_) (fun c24 => ?_)
      · have hf := jt c24 hf
        refine lv_iconst (v := (0 : Int32)) hx hb dX12_run_75 (by decide) ?_
        exact B_X12_run_76 E ih hf hM (lv_sub hl [0, 1, 3] rfl)
      · have hf := jf c24 hf
        refine lv_iconst (v := (1 : Int32)) hx hb dX12_run_71 (by decide) ?_
        refine lv_goto (tgt := 76) hx hb dX12_run_72 (by decide) ?_
        exact B_X12_run_76 E ih hf hM (lv_sub hl [0, 1, 3] rfl)
set_option maxRecDepth 100000 in
set_option maxHeartbeats 4000000 in
theorem B_X12_run_0 {p : Program} {l : Launch} {e : Env} {s : State} {m : MethodId} {args : Array Value} {below : List Frame} {meth : Method} {c : Code} {g : jG} {rr : Int32} {SS : jM} {v0 : Nat} {v1 : Int32} {S : jM} (E : jEnv p s m args meth c cX12_run "PensionHouseModel" (some .int) 4 g)  {H : Heap} {locs : List Loc} {ls : Array Slot} (hf : f_X12_run v0 v1 S = some (rr, SS)) (hM : jAt g S s H locs) (hl : lv_has ls 4 [(0, .ref (g.2.2 + v0)), (1, .int v1)]) : W p l e (jRm 2 0 0) s m args below meth c H locs 0 0 (MQ below (jQi g rr SS) args s 0 0 (jA0 g)) (F0 m 0 ls []) := by
  obtain ⟨hx, hb, hml, -, hts, hown, hK, -, hstr⟩ := id E
  unfold f_X12_run at hf
  refine lv_iload_n hx hb dX12_run_0 rfl (lv_at hl 1 rfl) ?_
  refine lv_i2l hx hb dX12_run_1 rfl ?_
  refine lv_lconst (v := (0 : Int64)) hx hb dX12_run_2 (by decide) ?_
  refine lv_ldc2 (v := (12 : Int64)) hx hb hown (hts _ lk_7_58) dX12_run_3 ?_
  refine jbackI hM (jrunS E hM ci_X12_in (C_X12_in rfl) lk_7_36 hl.1 rfl rfl (Nat.le_of_ble_eq_true rfl) ⟨Nat.le_of_ble_eq_true rfl, Nat.le_of_ble_eq_true rfl⟩ ⟨Nat.le_refl _, Nat.le_refl _⟩ dX12_run_6) (fun H locs hM => ?_)
  refine lv_if_ne (tgt := 15) hx hb dX12_run_9 (by decide) (fun c25 => ?_) (fun c25 => ?_)
  · have hf := jf c25 hf
    refine lv_aload_n hx hb dX12_run_15 rfl (lv_at hl 0 rfl) ?_
    obtain ⟨hq26, hf⟩ := jif hf
    refine gt_168 E hM hq26 lk_6_82 dX12_run_16 ?_
    refine lv_aload_n hx hb dX12_run_19 rfl (lv_at hl 0 rfl) ?_
    refine gt_167 E hM hq26 lk_6_81 dX12_run_20 ?_
    refine lv_icmp_lt (tgt := 45) hx hb dX12_run_23 (by decide) (fun c27 => ?_) (fun c27 => ?_)
    · have hf := jt c27 hf
      refine lv_bipush (v := (-4 : Int32)) hx hb dX12_run_45 (by decide) ?_
      exact jireti (jr2 hf) E hM dX12_run_47
    · have hf := jf c27 hf
      refine lv_iload_n hx hb dX12_run_26 rfl (lv_at hl 1 rfl) ?_
      refine lv_aload_n hx hb dX12_run_27 rfl (lv_at hl 0 rfl) ?_
      refine gt_165 E hM hq26 lk_6_79 dX12_run_28 ?_
      refine lv_icmp_le (tgt := 45) hx hb dX12_run_31 (by decide) (fun c28 => ?_) (fun c28 => ?_)
      · have hf := jt c28 hf
        refine lv_bipush (v := (-4 : Int32)) hx hb dX12_run_45 (by decide) ?_
        exact jireti (jr2 hf) E hM dX12_run_47
      · have hf := jf c28 hf
        refine lv_bipush (v := (30 : Int32)) hx hb dX12_run_34 (by decide) ?_
        refine lv_iload_n hx hb dX12_run_36 rfl (lv_at hl 1 rfl) ?_
        refine lv_imul hx hb dX12_run_37 ?_
        refine lv_aload_n hx hb dX12_run_38 rfl (lv_at hl 0 rfl) ?_
        refine gt_139 E hM hq26 lk_6_53 dX12_run_39 ?_
        refine lv_icmp_le (tgt := 48) hx hb dX12_run_42 (by decide) (fun c29 => ?_) (fun c29 => ?_)
        · have hf := jt c29 hf
          refine lv_iconst (v := (0 : Int32)) hx hb dX12_run_48 (by decide) ?_
          refine lv_istore_n (lv' := [(2, .int (0 : Int32)), (0, .ref (g.2.2 + v0)), (1, .int v1)]) hx hb dX12_run_49 rfl hl (by decide) rfl (fun ls hl => ?_)
          refine lv_iconst (v := (0 : Int32)) hx hb dX12_run_50 (by decide) ?_
          refine lv_istore_n (lv' := [(3, .int (0 : Int32)), (2, .int (0 : Int32)), (0, .ref (g.2.2 + v0)), (1, .int v1)]) hx hb dX12_run_51 rfl hl (by decide) rfl (fun ls hl => ?_)
          exact B_X12_run_52 E  1100000 v0 v1 (0 : Int32) (0 : Int32) S _ _ _ hf hM (lv_sub hl [2, 3, 1, 0] rfl)
        · have hf := jf c29 hf
          refine lv_bipush (v := (-4 : Int32)) hx hb dX12_run_45 (by decide) ?_
          exact jireti (jr2 hf) E hM dX12_run_47
  · have hf := jt c25 hf
    refine lv_bipush (v := (-3 : Int32)) hx hb dX12_run_12 (by decide) ?_
    exact jireti (jr2 hf) E hM dX12_run_14
set_option maxRecDepth 100000 in
theorem C_X12_run {l : Launch} {g : jG} {a0 : Nat} {a1 : Int32} {S : jM} {rr : Int32} {SS : jM} (hf : f_X12_run a0 a1 S = some (rr, SS)) : jMet l g yX12_run cX12_run 4 (some .int) 2 0 0 [.ref (g.2.2 + a0), .int a1] S (jQi g rr SS) := by
  refine jof (by decide +kernel) (Nat.le_of_ble_eq_true rfl) ?_
  intro p e s m below meth c E hM ls hl
  have hl : lv_has ls 4 [(0, .ref (g.2.2 + a0)),(1, .int a1)] := hl
  exact B_X12_run_0 E hf hM hl
-- PensionHouseModel.seat(II)I  mode M
noncomputable def f_X12_seat_24 (v0 : Nat) (v1 : Int32) (v2 : Int32) (S : jM) : Option (Int32 × jM) := if jK v0 = 10 then (jR S 88 v0).bind (fun r2 => if jA r2 13 (0 : Int32) = true then if (f_X12_isKin (jAI S r2 ((0 : Int32)).toNatClampNeg)) = 0 then some ((-4 : Int32), S) else (jR S 89 v0).bind (fun r6 => if jA r6 13 (0 : Int32) = true then if (f_X12_in (v1.toInt64) (0 : Int64) (((jAI S r6 ((0 : Int32)).toNatClampNeg) - (1 : Int32)).toInt64)) = 0 then some ((-3 : Int32), S) else (jR S 88 v0).bind (fun r10 => if jA r10 13 (0 : Int32) = true then (f_X12_belongs v0 (v2.toInt64) (jAI S r10 ((0 : Int32)).toNatClampNeg) S).bind (fun x13 => if x13 = 0 then some ((-4 : Int32), S) else (jR S 90 v0).bind (fun r16 => if jA r16 14 v1 = true then jlet (jrL S r16 (vp_updL (jAL S r16) (v1).toNatClampNeg (v2.toInt64))) (fun S19 => some ((1 : Int32), S19)) else none)) else none) else none) else none) else none
noncomputable def f_X12_seat (v0 : Nat) (v1 : Int32) (v2 : Int32) (S : jM) : Option (Int32 × jM) := if v2 = (-1 : Int32) then f_X12_seat_24 v0 v1 v2 S else if jK v0 = 10 then if (f_X12_in (v2.toInt64) (0 : Int64) (((jI S 138 v0) - (1 : Int32)).toInt64)) = 0 then some ((-2 : Int32), S) else f_X12_seat_24 v0 v1 v2 S else none
set_option maxRecDepth 100000 in
set_option maxHeartbeats 4000000 in
theorem B_X12_seat_24 {p : Program} {l : Launch} {e : Env} {s : State} {m : MethodId} {args : Array Value} {below : List Frame} {meth : Method} {c : Code} {g : jG} {rr : Int32} {SS : jM} {v0 : Nat} {v1 : Int32} {v2 : Int32} {S : jM} (E : jEnv p s m args meth c cX12_seat "PensionHouseModel" (some .int) 3 g)  {H : Heap} {locs : List Loc} {ls : Array Slot} (hf : f_X12_seat_24 v0 v1 v2 S = some (rr, SS)) (hM : jAt g S s H locs) (hl : lv_has ls 3 [(0, .ref (g.2.2 + v0)), (1, .int v1), (2, .int v2)]) : W p l e (jRm 2 0 0) s m args below meth c H locs 0 0 (MQ below (jQi g rr SS) args s 0 0 (jA0 g)) (F0 m 24 ls []) := by
  obtain ⟨hx, hb, hml, -, hts, hown, hK, -, hstr⟩ := id E
  unfold f_X12_seat_24 at hf
  refine lv_aload_n hx hb dX12_seat_24 rfl (lv_at hl 0 rfl) ?_
  obtain ⟨hq1, hf⟩ := jif hf
  refine gt_88 E hM hq1 lk_6_2 dX12_seat_25 ?_
  obtain ⟨r2, hr3, hf⟩ := jb hf
  rw [hr3]
  show W p l e _ s m args below meth c H locs 0 0 _ (F0 m _ ls (.ref (g.2.2 + r2) :: _))
  refine lv_iconst (v := (0 : Int32)) hx hb dX12_seat_28 (by decide) ?_
  obtain ⟨ha4, hf⟩ := jif hf
  refine jiald E hM ha4 dX12_seat_29 ?_
  refine jbackI hM (jrunS E hM ci_X12_isKin (C_X12_isKin rfl) lk_7_63 hl.1 rfl rfl (Nat.le_of_ble_eq_true rfl) ⟨Nat.le_of_ble_eq_true rfl, Nat.le_of_ble_eq_true rfl⟩ ⟨Nat.le_refl _, Nat.le_refl _⟩ dX12_seat_30) (fun H locs hM => ?_)
  refine lv_if_ne (tgt := 39) hx hb dX12_seat_33 (by decide) (fun c5 => ?_) (fun c5 => ?_)
  · have hf := jf c5 hf
    refine lv_iload_n hx hb dX12_seat_39 rfl (lv_at hl 1 rfl) ?_
    refine lv_i2l hx hb dX12_seat_40 rfl ?_
    refine lv_lconst (v := (0 : Int64)) hx hb dX12_seat_41 (by decide) ?_
    refine lv_aload_n hx hb dX12_seat_42 rfl (lv_at hl 0 rfl) ?_
    refine gt_89 E hM hq1 lk_6_3 dX12_seat_43 ?_
    obtain ⟨r6, hr7, hf⟩ := jb hf
    rw [hr7]
    show W p l e _ s m args below meth c H locs 0 0 _ (F0 m _ ls (.ref (g.2.2 + r6) :: _))
    refine lv_iconst (v := (0 : Int32)) hx hb dX12_seat_46 (by decide) ?_
    obtain ⟨ha8, hf⟩ := jif hf
    refine jiald E hM ha8 dX12_seat_47 ?_
    refine lv_iconst (v := (1 : Int32)) hx hb dX12_seat_48 (by decide) ?_
    refine lv_isub hx hb dX12_seat_49 ?_
    refine lv_i2l hx hb dX12_seat_50 rfl ?_
    refine jbackI hM (jrunS E hM ci_X12_in (C_X12_in rfl) lk_7_36 hl.1 rfl rfl (Nat.le_of_ble_eq_true rfl) ⟨Nat.le_of_ble_eq_true rfl, Nat.le_of_ble_eq_true rfl⟩ ⟨Nat.le_refl _, Nat.le_refl _⟩ dX12_seat_51) (fun H locs hM => ?_)
    refine lv_if_ne (tgt := 60) hx hb dX12_seat_54 (by decide) (fun c9 => ?_) (fun c9 => ?_)
    · have hf := jf c9 hf
      refine lv_aload_n hx hb dX12_seat_60 rfl (lv_at hl 0 rfl) ?_
      refine lv_iload_n hx hb dX12_seat_61 rfl (lv_at hl 2 rfl) ?_
      refine lv_i2l hx hb dX12_seat_62 rfl ?_
      refine lv_aload_n hx hb dX12_seat_63 rfl (lv_at hl 0 rfl) ?_
      refine gt_88 E hM hq1 lk_6_2 dX12_seat_64 ?_
      obtain ⟨r10, hr11, hf⟩ := jb hf
      rw [hr11]
      show W p l e _ s m args below meth c H locs 0 0 _ (F0 m _ ls (.ref (g.2.2 + r10) :: _))
      refine lv_iconst (v := (0 : Int32)) hx hb dX12_seat_67 (by decide) ?_
      obtain ⟨ha12, hf⟩ := jif hf
      refine jiald E hM ha12 dX12_seat_68 ?_
      obtain ⟨x13, hc14, hf⟩ := jb hf
      refine jbackI hM (jrunV E hM ci_X12_belongs (C_X12_belongs hc14) lk_7_88 hq1 (by decide) rfl hl.1 rfl rfl (Nat.le_of_ble_eq_true rfl) ⟨Nat.le_of_ble_eq_true rfl, Nat.le_of_ble_eq_true rfl⟩ ⟨Nat.le_refl _, Nat.le_refl _⟩ dX12_seat_69) (fun H locs hM => ?_)
      refine lv_if_ne (tgt := 78) hx hb dX12_seat_72 (by decide) (fun c15 => ?_) (fun c15 => ?_)
      · have hf := jf c15 hf
        refine lv_aload_n hx hb dX12_seat_78 rfl (lv_at hl 0 rfl) ?_
        refine gt_90 E hM hq1 lk_6_4 dX12_seat_79 ?_
        obtain ⟨r16, hr17, hf⟩ := jb hf
        rw [hr17]
        show W p l e _ s m args below meth c H locs 0 0 _ (F0 m _ ls (.ref (g.2.2 + r16) :: _))
        refine lv_iload_n hx hb dX12_seat_82 rfl (lv_at hl 1 rfl) ?_
        refine lv_iload_n hx hb dX12_seat_83 rfl (lv_at hl 2 rfl) ?_
        refine lv_i2l hx hb dX12_seat_84 rfl ?_
        obtain ⟨ha18, hf⟩ := jif hf
        refine jlast E hM ha18 dX12_seat_85 (fun H locs S19 eS19 hM => ?_)
        have hf := jlet_y eS19 hf
        refine lv_iconst (v := (1 : Int32)) hx hb dX12_seat_86 (by decide) ?_
        exact jireti (jr2 hf) E hM dX12_seat_87
      · have hf := jt c15 hf
        refine lv_bipush (v := (-4 : Int32)) hx hb dX12_seat_75 (by decide) ?_
        exact jireti (jr2 hf) E hM dX12_seat_77
    · have hf := jt c9 hf
      refine lv_bipush (v := (-3 : Int32)) hx hb dX12_seat_57 (by decide) ?_
      exact jireti (jr2 hf) E hM dX12_seat_59
  · have hf := jt c5 hf
    refine lv_bipush (v := (-4 : Int32)) hx hb dX12_seat_36 (by decide) ?_
    exact jireti (jr2 hf) E hM dX12_seat_38
set_option maxRecDepth 100000 in
set_option maxHeartbeats 4000000 in
theorem B_X12_seat_0 {p : Program} {l : Launch} {e : Env} {s : State} {m : MethodId} {args : Array Value} {below : List Frame} {meth : Method} {c : Code} {g : jG} {rr : Int32} {SS : jM} {v0 : Nat} {v1 : Int32} {v2 : Int32} {S : jM} (E : jEnv p s m args meth c cX12_seat "PensionHouseModel" (some .int) 3 g)  {H : Heap} {locs : List Loc} {ls : Array Slot} (hf : f_X12_seat v0 v1 v2 S = some (rr, SS)) (hM : jAt g S s H locs) (hl : lv_has ls 3 [(0, .ref (g.2.2 + v0)), (1, .int v1), (2, .int v2)]) : W p l e (jRm 2 0 0) s m args below meth c H locs 0 0 (MQ below (jQi g rr SS) args s 0 0 (jA0 g)) (F0 m 0 ls []) := by
  obtain ⟨hx, hb, hml, -, hts, hown, hK, -, hstr⟩ := id E
  unfold f_X12_seat at hf
  refine lv_iload_n hx hb dX12_seat_0 rfl (lv_at hl 2 rfl) ?_
  refine lv_iconst (v := (-1 : Int32)) hx hb dX12_seat_1 (by decide) ?_
  refine lv_icmp_eq (tgt := 24) hx hb dX12_seat_2 (by decide) (fun c20 => ?_) (fun c20 => ?_)
  · have hf := jt c20 hf
    exact B_X12_seat_24 E  hf hM (lv_sub hl [0, 1, 2] rfl)
  · have hf := jf c20 hf
    refine lv_iload_n hx hb dX12_seat_5 rfl (lv_at hl 2 rfl) ?_
    refine lv_i2l hx hb dX12_seat_6 rfl ?_
    refine lv_lconst (v := (0 : Int64)) hx hb dX12_seat_7 (by decide) ?_
    refine lv_aload_n hx hb dX12_seat_8 rfl (lv_at hl 0 rfl) ?_
    obtain ⟨hq21, hf⟩ := jif hf
    refine gt_138 E hM hq21 lk_6_52 dX12_seat_9 ?_
    refine lv_iconst (v := (1 : Int32)) hx hb dX12_seat_12 (by decide) ?_
    refine lv_isub hx hb dX12_seat_13 ?_
    refine lv_i2l hx hb dX12_seat_14 rfl ?_
    refine jbackI hM (jrunS E hM ci_X12_in (C_X12_in rfl) lk_7_36 hl.1 rfl rfl (Nat.le_of_ble_eq_true rfl) ⟨Nat.le_of_ble_eq_true rfl, Nat.le_of_ble_eq_true rfl⟩ ⟨Nat.le_refl _, Nat.le_refl _⟩ dX12_seat_15) (fun H locs hM => ?_)
    refine lv_if_ne (tgt := 24) hx hb dX12_seat_18 (by decide) (fun c22 => ?_) (fun c22 => ?_)
    · have hf := jf c22 hf
      exact B_X12_seat_24 E  hf hM (lv_sub hl [0, 1, 2] rfl)
    · have hf := jt c22 hf
      refine lv_bipush (v := (-2 : Int32)) hx hb dX12_seat_21 (by decide) ?_
      exact jireti (jr2 hf) E hM dX12_seat_23
set_option maxRecDepth 100000 in
theorem C_X12_seat {l : Launch} {g : jG} {a0 : Nat} {a1 : Int32} {a2 : Int32} {S : jM} {rr : Int32} {SS : jM} (hf : f_X12_seat a0 a1 a2 S = some (rr, SS)) : jMet l g yX12_seat cX12_seat 3 (some .int) 2 0 0 [.ref (g.2.2 + a0), .int a1, .int a2] S (jQi g rr SS) := by
  refine jof (by decide +kernel) (Nat.le_of_ble_eq_true rfl) ?_
  intro p e s m below meth c E hM ls hl
  have hl : lv_has ls 3 [(0, .ref (g.2.2 + a0)),(1, .int a1),(2, .int a2)] := hl
  exact B_X12_seat_0 E hf hM hl
-- PensionHouseModel.share(I)I  mode M
noncomputable def f_X12_share (v0 : Nat) (v1 : Int32) (S : jM) : Option (Int32 × jM) := if (f_X12_in (v1.toInt64) (0 : Int64) (100 : Int64)) = 0 then some ((-3 : Int32), S) else if jK v0 = 10 then jlet (jI S 164 v0) (fun x3 => jlet (jsI S 164 v0 v1) (fun S4 => some (x3, S4))) else none
set_option maxRecDepth 100000 in
set_option maxHeartbeats 4000000 in
theorem B_X12_share_0 {p : Program} {l : Launch} {e : Env} {s : State} {m : MethodId} {args : Array Value} {below : List Frame} {meth : Method} {c : Code} {g : jG} {rr : Int32} {SS : jM} {v0 : Nat} {v1 : Int32} {S : jM} (E : jEnv p s m args meth c cX12_share "PensionHouseModel" (some .int) 3 g)  {H : Heap} {locs : List Loc} {ls : Array Slot} (hf : f_X12_share v0 v1 S = some (rr, SS)) (hM : jAt g S s H locs) (hl : lv_has ls 3 [(0, .ref (g.2.2 + v0)), (1, .int v1)]) : W p l e (jRm 2 0 0) s m args below meth c H locs 0 0 (MQ below (jQi g rr SS) args s 0 0 (jA0 g)) (F0 m 0 ls []) := by
  obtain ⟨hx, hb, hml, -, hts, hown, hK, -, hstr⟩ := id E
  unfold f_X12_share at hf
  refine lv_iload_n hx hb dX12_share_0 rfl (lv_at hl 1 rfl) ?_
  refine lv_i2l hx hb dX12_share_1 rfl ?_
  refine lv_lconst (v := (0 : Int64)) hx hb dX12_share_2 (by decide) ?_
  refine lv_ldc2 (v := (100 : Int64)) hx hb hown (hts _ lk_9_21) dX12_share_3 ?_
  refine jbackI hM (jrunS E hM ci_X12_in (C_X12_in rfl) lk_7_36 hl.1 rfl rfl (Nat.le_of_ble_eq_true rfl) ⟨Nat.le_of_ble_eq_true rfl, Nat.le_of_ble_eq_true rfl⟩ ⟨Nat.le_refl _, Nat.le_refl _⟩ dX12_share_6) (fun H locs hM => ?_)
  refine lv_if_ne (tgt := 15) hx hb dX12_share_9 (by decide) (fun c1 => ?_) (fun c1 => ?_)
  · have hf := jf c1 hf
    refine lv_aload_n hx hb dX12_share_15 rfl (lv_at hl 0 rfl) ?_
    obtain ⟨hq2, hf⟩ := jif hf
    refine gt_164 E hM hq2 lk_6_78 dX12_share_16 ?_
    refine lv_topi (fun x3 ex3 => ?_)
    have hf := jlet_y ex3 hf
    refine lv_istore_n (lv' := [(2, .int x3), (0, .ref (g.2.2 + v0)), (1, .int v1)]) hx hb dX12_share_19 rfl hl (by decide) rfl (fun ls hl => ?_)
    refine lv_aload_n hx hb dX12_share_20 rfl (lv_at hl 1 rfl) ?_
    refine lv_iload_n hx hb dX12_share_21 rfl (lv_at hl 2 rfl) ?_
    refine pt_164 E hM hq2 lk_6_78 dX12_share_22 (fun H locs S4 eS4 hM => ?_)
    have hf := jlet_y eS4 hf
    refine lv_iload_n hx hb dX12_share_25 rfl (lv_at hl 0 rfl) ?_
    exact jireti (jr2 hf) E hM dX12_share_26
  · have hf := jt c1 hf
    refine lv_bipush (v := (-3 : Int32)) hx hb dX12_share_12 (by decide) ?_
    exact jireti (jr2 hf) E hM dX12_share_14
set_option maxRecDepth 100000 in
theorem C_X12_share {l : Launch} {g : jG} {a0 : Nat} {a1 : Int32} {S : jM} {rr : Int32} {SS : jM} (hf : f_X12_share a0 a1 S = some (rr, SS)) : jMet l g yX12_share cX12_share 3 (some .int) 2 0 0 [.ref (g.2.2 + a0), .int a1] S (jQi g rr SS) := by
  refine jof (by decide +kernel) (Nat.le_of_ble_eq_true rfl) ?_
  intro p e s m below meth c E hM ls hl
  have hl : lv_has ls 3 [(0, .ref (g.2.2 + a0)),(1, .int a1)] := hl
  exact B_X12_share_0 E hf hM hl
-- PensionHouseModel.sort()I  mode R
noncomputable def f_X12_sort (v0 : Nat) (S : jM) : Option Int32 := if jK v0 = 10 then (jR S 88 v0).bind (fun r2 => if jA r2 13 (0 : Int32) = true then some (jAI S r2 ((0 : Int32)).toNatClampNeg) else none) else none
set_option maxRecDepth 100000 in
set_option maxHeartbeats 4000000 in
theorem B_X12_sort_0 {p : Program} {l : Launch} {e : Env} {s : State} {m : MethodId} {args : Array Value} {below : List Frame} {meth : Method} {c : Code} {g : jG} {rr : Int32} {S : jM} {v0 : Nat} (E : jEnv p s m args meth c cX12_sort "PensionHouseModel" (some .int) 1 g)  {H : Heap} {locs : List Loc} {ls : Array Slot} (hf : f_X12_sort v0 S = some rr) (hM : jAt g S s H locs) (hl : lv_has ls 1 [(0, .ref (g.2.2 + v0))]) : W p l e (jRm 1 0 0) s m args below meth c H locs 0 0 (MQ below (jQi g rr S) args s 0 0 (jA0 g)) (F0 m 0 ls []) := by
  obtain ⟨hx, hb, hml, -, hts, hown, hK, -, hstr⟩ := id E
  unfold f_X12_sort at hf
  refine lv_aload_n hx hb dX12_sort_0 rfl (lv_at hl 0 rfl) ?_
  obtain ⟨hq1, hf⟩ := jif hf
  refine gt_88 E hM hq1 lk_6_2 dX12_sort_1 ?_
  obtain ⟨r2, hr3, hf⟩ := jb hf
  rw [hr3]
  show W p l e _ s m args below meth c H locs 0 0 _ (F0 m _ ls (.ref (g.2.2 + r2) :: _))
  refine lv_iconst (v := (0 : Int32)) hx hb dX12_sort_4 (by decide) ?_
  obtain ⟨ha4, hf⟩ := jif hf
  refine jiald E hM ha4 dX12_sort_5 ?_
  exact jireti (jr1 hf) E hM dX12_sort_6
set_option maxRecDepth 100000 in
theorem C_X12_sort {l : Launch} {g : jG} {a0 : Nat} {S : jM} {rr : Int32} (hf : f_X12_sort a0 S = some rr) : jMet l g yX12_sort cX12_sort 1 (some .int) 1 0 0 [.ref (g.2.2 + a0)] S (jQi g rr S) := by
  refine jof (by decide +kernel) (Nat.le_of_ble_eq_true rfl) ?_
  intro p e s m below meth c E hM ls hl
  have hl : lv_has ls 1 [(0, .ref (g.2.2 + a0))] := hl
  exact B_X12_sort_0 E hf hM hl
-- PensionHouseModel.step(I)I  mode M
noncomputable def f_X12_step_41 (v0 : Nat) (v1 : Int32) (S : jM) : Option (Int32 × jM) := if jK v0 = 10 then (jR S 155 v0).bind (fun r2 => if jA r2 13 v1 = true then some (jAI S r2 (v1).toNatClampNeg, S) else none) else none
noncomputable def f_X12_step (v0 : Nat) (v1 : Int32) (S : jM) : Option (Int32 × jM) := if jK v0 = 10 then if (f_X12_in (v1.toInt64) (0 : Int64) (((jI S 152 v0) - (1 : Int32)).toInt64)) = 0 then some ((-2 : Int32), S) else (jR S 155 v0).bind (fun r7 => if jA r7 13 v1 = true then if ((jAI S r7 (v1).toNatClampNeg) - (jAI S r7 (v1).toNatClampNeg) / (100 : Int32) * (100 : Int32)) = 0 then (f_X12_copy v0 (0 : Int32) ((201 : Int32) + v1) S).bind (fun S11 => f_X12_step_41 v0 v1 S11) else f_X12_step_41 v0 v1 S else none) else none
set_option maxRecDepth 100000 in
set_option maxHeartbeats 4000000 in
theorem B_X12_step_41 {p : Program} {l : Launch} {e : Env} {s : State} {m : MethodId} {args : Array Value} {below : List Frame} {meth : Method} {c : Code} {g : jG} {rr : Int32} {SS : jM} {v0 : Nat} {v1 : Int32} {S : jM} (E : jEnv p s m args meth c cX12_step "PensionHouseModel" (some .int) 2 g)  {H : Heap} {locs : List Loc} {ls : Array Slot} (hf : f_X12_step_41 v0 v1 S = some (rr, SS)) (hM : jAt g S s H locs) (hl : lv_has ls 2 [(0, .ref (g.2.2 + v0)), (1, .int v1)]) : W p l e (jRm 2 0 0) s m args below meth c H locs 0 0 (MQ below (jQi g rr SS) args s 0 0 (jA0 g)) (F0 m 41 ls []) := by
  obtain ⟨hx, hb, hml, -, hts, hown, hK, -, hstr⟩ := id E
  unfold f_X12_step_41 at hf
  refine lv_aload_n hx hb dX12_step_41 rfl (lv_at hl 0 rfl) ?_
  obtain ⟨hq1, hf⟩ := jif hf
  refine gt_155 E hM hq1 lk_6_69 dX12_step_42 ?_
  obtain ⟨r2, hr3, hf⟩ := jb hf
  rw [hr3]
  show W p l e _ s m args below meth c H locs 0 0 _ (F0 m _ ls (.ref (g.2.2 + r2) :: _))
  refine lv_iload_n hx hb dX12_step_45 rfl (lv_at hl 1 rfl) ?_
  obtain ⟨ha4, hf⟩ := jif hf
  refine jiald E hM ha4 dX12_step_46 ?_
  exact jireti (jr2 hf) E hM dX12_step_47
set_option maxRecDepth 100000 in
set_option maxHeartbeats 4000000 in
theorem B_X12_step_0 {p : Program} {l : Launch} {e : Env} {s : State} {m : MethodId} {args : Array Value} {below : List Frame} {meth : Method} {c : Code} {g : jG} {rr : Int32} {SS : jM} {v0 : Nat} {v1 : Int32} {S : jM} (E : jEnv p s m args meth c cX12_step "PensionHouseModel" (some .int) 2 g)  {H : Heap} {locs : List Loc} {ls : Array Slot} (hf : f_X12_step v0 v1 S = some (rr, SS)) (hM : jAt g S s H locs) (hl : lv_has ls 2 [(0, .ref (g.2.2 + v0)), (1, .int v1)]) : W p l e (jRm 2 0 0) s m args below meth c H locs 0 0 (MQ below (jQi g rr SS) args s 0 0 (jA0 g)) (F0 m 0 ls []) := by
  obtain ⟨hx, hb, hml, -, hts, hown, hK, -, hstr⟩ := id E
  unfold f_X12_step at hf
  refine lv_iload_n hx hb dX12_step_0 rfl (lv_at hl 1 rfl) ?_
  refine lv_i2l hx hb dX12_step_1 rfl ?_
  refine lv_lconst (v := (0 : Int64)) hx hb dX12_step_2 (by decide) ?_
  refine lv_aload_n hx hb dX12_step_3 rfl (lv_at hl 0 rfl) ?_
  obtain ⟨hq5, hf⟩ := jif hf
  refine gt_152 E hM hq5 lk_6_66 dX12_step_4 ?_
  refine lv_iconst (v := (1 : Int32)) hx hb dX12_step_7 (by decide) ?_
  refine lv_isub hx hb dX12_step_8 ?_
  refine lv_i2l hx hb dX12_step_9 rfl ?_
  refine jbackI hM (jrunS E hM ci_X12_in (C_X12_in rfl) lk_7_36 hl.1 rfl rfl (Nat.le_of_ble_eq_true rfl) ⟨Nat.le_of_ble_eq_true rfl, Nat.le_of_ble_eq_true rfl⟩ ⟨Nat.le_refl _, Nat.le_refl _⟩ dX12_step_10) (fun H locs hM => ?_)
  refine lv_if_ne (tgt := 19) hx hb dX12_step_13 (by decide) (fun c6 => ?_) (fun c6 => ?_)
  · have hf := jf c6 hf
    refine lv_aload_n hx hb dX12_step_19 rfl (lv_at hl 0 rfl) ?_
    refine gt_155 E hM hq5 lk_6_69 dX12_step_20 ?_
    obtain ⟨r7, hr8, hf⟩ := jb hf
    rw [hr8]
    show W p l e _ s m args below meth c H locs 0 0 _ (F0 m _ ls (.ref (g.2.2 + r7) :: _))
    refine lv_iload_n hx hb dX12_step_23 rfl (lv_at hl 1 rfl) ?_
    obtain ⟨ha9, hf⟩ := jif hf
    refine jiald E hM ha9 dX12_step_24 ?_
    refine lv_bipush (v := (100 : Int32)) hx hb dX12_step_25 (by decide) ?_
    refine lv_irem hx hb dX12_step_27 (by decide) ?_
    refine lv_if_ne (tgt := 41) hx hb dX12_step_28 (by decide) (fun c10 => ?_) (fun c10 => ?_)
    · have hf := jf c10 hf
      exact B_X12_step_41 E  hf hM (lv_sub hl [0, 1] rfl)
    · have hf := jt c10 hf
      refine lv_aload_n hx hb dX12_step_31 rfl (lv_at hl 0 rfl) ?_
      refine lv_iconst (v := (0 : Int32)) hx hb dX12_step_32 (by decide) ?_
      refine lv_sipush (v := (201 : Int32)) hx hb dX12_step_33 (by decide) ?_
      refine lv_iload_n hx hb dX12_step_36 rfl (lv_at hl 1 rfl) ?_
      refine lv_iadd hx hb dX12_step_37 ?_
      obtain ⟨S11, hc12, hf⟩ := jb hf
      refine jbackV hM (jrunV E hM ci_X12_copy (C_X12_copy hc12) lk_7_180 hq5 (by decide) rfl hl.1 rfl rfl (Nat.le_of_ble_eq_true rfl) ⟨Nat.le_of_ble_eq_true rfl, Nat.le_of_ble_eq_true rfl⟩ ⟨Nat.le_refl _, Nat.le_refl _⟩ dX12_step_38) (fun H locs hM => ?_)
      exact B_X12_step_41 E  hf hM (lv_sub hl [0, 1] rfl)
  · have hf := jt c6 hf
    refine lv_bipush (v := (-2 : Int32)) hx hb dX12_step_16 (by decide) ?_
    exact jireti (jr2 hf) E hM dX12_step_18
set_option maxRecDepth 100000 in
theorem C_X12_step {l : Launch} {g : jG} {a0 : Nat} {a1 : Int32} {S : jM} {rr : Int32} {SS : jM} (hf : f_X12_step a0 a1 S = some (rr, SS)) : jMet l g yX12_step cX12_step 2 (some .int) 2 0 0 [.ref (g.2.2 + a0), .int a1] S (jQi g rr SS) := by
  refine jof (by decide +kernel) (Nat.le_of_ble_eq_true rfl) ?_
  intro p e s m below meth c E hM ls hl
  have hl : lv_has ls 2 [(0, .ref (g.2.2 + a0)),(1, .int a1)] := hl
  exact B_X12_step_0 E hf hM hl
-- PensionHouseModel.taken(II)I  mode R
noncomputable def f_X12_taken (v0 : Nat) (v1 : Int32) (v2 : Int32) (S : jM) : Option Int32 := if jK v0 = 10 then if (f_X12_in (v1.toInt64) (0 : Int64) (((jI S 175 v0) - (1 : Int32)).toInt64)) = 0 then some (-2 : Int32) else if (f_X12_in (v2.toInt64) (0 : Int64) (5 : Int64)) = 0 then some (-3 : Int32) else (jR S 174 v0).bind (fun r4 => if jA r4 13 (((6 : Int32) * v1) + v2) = true then some (jAI S r4 (((6 : Int32) * v1) + v2).toNatClampNeg) else none) else none
set_option maxRecDepth 100000 in
set_option maxHeartbeats 4000000 in
theorem B_X12_taken_0 {p : Program} {l : Launch} {e : Env} {s : State} {m : MethodId} {args : Array Value} {below : List Frame} {meth : Method} {c : Code} {g : jG} {rr : Int32} {S : jM} {v0 : Nat} {v1 : Int32} {v2 : Int32} (E : jEnv p s m args meth c cX12_taken "PensionHouseModel" (some .int) 3 g)  {H : Heap} {locs : List Loc} {ls : Array Slot} (hf : f_X12_taken v0 v1 v2 S = some rr) (hM : jAt g S s H locs) (hl : lv_has ls 3 [(0, .ref (g.2.2 + v0)), (1, .int v1), (2, .int v2)]) : W p l e (jRm 2 0 0) s m args below meth c H locs 0 0 (MQ below (jQi g rr S) args s 0 0 (jA0 g)) (F0 m 0 ls []) := by
  obtain ⟨hx, hb, hml, -, hts, hown, hK, -, hstr⟩ := id E
  unfold f_X12_taken at hf
  refine lv_iload_n hx hb dX12_taken_0 rfl (lv_at hl 1 rfl) ?_
  refine lv_i2l hx hb dX12_taken_1 rfl ?_
  refine lv_lconst (v := (0 : Int64)) hx hb dX12_taken_2 (by decide) ?_
  refine lv_aload_n hx hb dX12_taken_3 rfl (lv_at hl 0 rfl) ?_
  obtain ⟨hq1, hf⟩ := jif hf
  refine gt_175 E hM hq1 lk_6_89 dX12_taken_4 ?_
  refine lv_iconst (v := (1 : Int32)) hx hb dX12_taken_7 (by decide) ?_
  refine lv_isub hx hb dX12_taken_8 ?_
  refine lv_i2l hx hb dX12_taken_9 rfl ?_
  refine jbackI hM (jrunS E hM ci_X12_in (C_X12_in rfl) lk_7_36 hl.1 rfl rfl (Nat.le_of_ble_eq_true rfl) ⟨Nat.le_of_ble_eq_true rfl, Nat.le_of_ble_eq_true rfl⟩ ⟨Nat.le_refl _, Nat.le_refl _⟩ dX12_taken_10) (fun H locs hM => ?_)
  refine lv_if_ne (tgt := 19) hx hb dX12_taken_13 (by decide) (fun c2 => ?_) (fun c2 => ?_)
  · have hf := jf c2 hf
    refine lv_iload_n hx hb dX12_taken_19 rfl (lv_at hl 2 rfl) ?_
    refine lv_i2l hx hb dX12_taken_20 rfl ?_
    refine lv_lconst (v := (0 : Int64)) hx hb dX12_taken_21 (by decide) ?_
    refine lv_ldc2 (v := (5 : Int64)) hx hb hown (hts _ lk_9_47) dX12_taken_22 ?_
    refine jbackI hM (jrunS E hM ci_X12_in (C_X12_in rfl) lk_7_36 hl.1 rfl rfl (Nat.le_of_ble_eq_true rfl) ⟨Nat.le_of_ble_eq_true rfl, Nat.le_of_ble_eq_true rfl⟩ ⟨Nat.le_refl _, Nat.le_refl _⟩ dX12_taken_25) (fun H locs hM => ?_)
    refine lv_if_eq (tgt := 45) hx hb dX12_taken_28 (by decide) (fun c3 => ?_) (fun c3 => ?_)
    · have hf := jt c3 hf
      refine lv_bipush (v := (-3 : Int32)) hx hb dX12_taken_45 (by decide) ?_
      exact jireti (jr1 hf) E hM dX12_taken_47
    · have hf := jf c3 hf
      refine lv_aload_n hx hb dX12_taken_31 rfl (lv_at hl 0 rfl) ?_
      refine gt_174 E hM hq1 lk_6_88 dX12_taken_32 ?_
      obtain ⟨r4, hr5, hf⟩ := jb hf
      rw [hr5]
      show W p l e _ s m args below meth c H locs 0 0 _ (F0 m _ ls (.ref (g.2.2 + r4) :: _))
      refine lv_bipush (v := (6 : Int32)) hx hb dX12_taken_35 (by decide) ?_
      refine lv_iload_n hx hb dX12_taken_37 rfl (lv_at hl 1 rfl) ?_
      refine lv_imul hx hb dX12_taken_38 ?_
      refine lv_iload_n hx hb dX12_taken_39 rfl (lv_at hl 2 rfl) ?_
      refine lv_iadd hx hb dX12_taken_40 ?_
      obtain ⟨ha6, hf⟩ := jif hf
      refine jiald E hM ha6 dX12_taken_41 ?_
      refine lv_goto (tgt := 47) hx hb dX12_taken_42 (by decide) ?_
      exact jireti (jr1 hf) E hM dX12_taken_47
  · have hf := jt c2 hf
    refine lv_bipush (v := (-2 : Int32)) hx hb dX12_taken_16 (by decide) ?_
    exact jireti (jr1 hf) E hM dX12_taken_18
set_option maxRecDepth 100000 in
theorem C_X12_taken {l : Launch} {g : jG} {a0 : Nat} {a1 : Int32} {a2 : Int32} {S : jM} {rr : Int32} (hf : f_X12_taken a0 a1 a2 S = some rr) : jMet l g yX12_taken cX12_taken 3 (some .int) 2 0 0 [.ref (g.2.2 + a0), .int a1, .int a2] S (jQi g rr S) := by
  refine jof (by decide +kernel) (Nat.le_of_ble_eq_true rfl) ?_
  intro p e s m below meth c E hM ls hl
  have hl : lv_has ls 3 [(0, .ref (g.2.2 + a0)),(1, .int a1),(2, .int a2)] := hl
  exact B_X12_taken_0 E hf hM hl
-- PensionHouseModel.told(I)I  mode R
noncomputable def f_X12_told (v0 : Nat) (v1 : Int32) (S : jM) : Option Int32 := if v1 = (0 : Int32) then if jK v0 = 10 then some (jI S 150 v0) else none else if v1 = (1 : Int32) then if jK v0 = 10 then some (jI S 151 v0) else none else if v1 = (2 : Int32) then if jK v0 = 10 then some (jI S 152 v0) else none else if v1 = (3 : Int32) then if jK v0 = 10 then some (jI S 153 v0) else none else if v1 = (4 : Int32) then if jK v0 = 10 then some (jI S 154 v0) else none else some (-3 : Int32)
set_option maxRecDepth 100000 in
set_option maxHeartbeats 4000000 in
theorem B_X12_told_0 {p : Program} {l : Launch} {e : Env} {s : State} {m : MethodId} {args : Array Value} {below : List Frame} {meth : Method} {c : Code} {g : jG} {rr : Int32} {S : jM} {v0 : Nat} {v1 : Int32} (E : jEnv p s m args meth c cX12_told "PensionHouseModel" (some .int) 2 g)  {H : Heap} {locs : List Loc} {ls : Array Slot} (hf : f_X12_told v0 v1 S = some rr) (hM : jAt g S s H locs) (hl : lv_has ls 2 [(0, .ref (g.2.2 + v0)), (1, .int v1)]) : W p l e (jRm 1 0 0) s m args below meth c H locs 0 0 (MQ below (jQi g rr S) args s 0 0 (jA0 g)) (F0 m 0 ls []) := by
  obtain ⟨hx, hb, hml, -, hts, hown, hK, -, hstr⟩ := id E
  unfold f_X12_told at hf
  refine lv_iload_n hx hb dX12_told_0 rfl (lv_at hl 1 rfl) ?_
  by_cases c2 : v1 = (0 : Int32)
  · have hf := jt c2 hf
    refine lv_tableIn (off := 35) (tgt := 36) hx hb dX12_told_1 (by rw [c2]; decide) (by rw [c2]; decide) (by rw [c2]; rfl) (by decide) ?_
    refine lv_aload_n hx hb dX12_told_36 rfl (lv_at hl 0 rfl) ?_
    obtain ⟨hq1, hf⟩ := jif hf
    refine gt_150 E hM hq1 lk_6_64 dX12_told_37 ?_
    exact jireti (jr1 hf) E hM dX12_told_40
  have hf := jf c2 hf
  by_cases c4 : v1 = (1 : Int32)
  · have hf := jt c4 hf
    refine lv_tableIn (off := 40) (tgt := 41) hx hb dX12_told_1 (by rw [c4]; decide) (by rw [c4]; decide) (by rw [c4]; rfl) (by decide) ?_
    refine lv_aload_n hx hb dX12_told_41 rfl (lv_at hl 0 rfl) ?_
    obtain ⟨hq3, hf⟩ := jif hf
    refine gt_151 E hM hq3 lk_6_65 dX12_told_42 ?_
    exact jireti (jr1 hf) E hM dX12_told_45
  have hf := jf c4 hf
  by_cases c6 : v1 = (2 : Int32)
  · have hf := jt c6 hf
    refine lv_tableIn (off := 45) (tgt := 46) hx hb dX12_told_1 (by rw [c6]; decide) (by rw [c6]; decide) (by rw [c6]; rfl) (by decide) ?_
    refine lv_aload_n hx hb dX12_told_46 rfl (lv_at hl 0 rfl) ?_
    obtain ⟨hq5, hf⟩ := jif hf
    refine gt_152 E hM hq5 lk_6_66 dX12_told_47 ?_
    exact jireti (jr1 hf) E hM dX12_told_50
  have hf := jf c6 hf
  by_cases c8 : v1 = (3 : Int32)
  · have hf := jt c8 hf
    refine lv_tableIn (off := 50) (tgt := 51) hx hb dX12_told_1 (by rw [c8]; decide) (by rw [c8]; decide) (by rw [c8]; rfl) (by decide) ?_
    refine lv_aload_n hx hb dX12_told_51 rfl (lv_at hl 0 rfl) ?_
    obtain ⟨hq7, hf⟩ := jif hf
    refine gt_153 E hM hq7 lk_6_67 dX12_told_52 ?_
    exact jireti (jr1 hf) E hM dX12_told_55
  have hf := jf c8 hf
  by_cases c10 : v1 = (4 : Int32)
  · have hf := jt c10 hf
    refine lv_tableIn (off := 55) (tgt := 56) hx hb dX12_told_1 (by rw [c10]; decide) (by rw [c10]; decide) (by rw [c10]; rfl) (by decide) ?_
    refine lv_aload_n hx hb dX12_told_56 rfl (lv_at hl 0 rfl) ?_
    obtain ⟨hq9, hf⟩ := jif hf
    refine gt_154 E hM hq9 lk_6_68 dX12_told_57 ?_
    exact jireti (jr1 hf) E hM dX12_told_60
  have hf := jf c10 hf
  refine jtabD (tgt := 61) (nd := [0, 1, 2, 3, 4]) hx hb dX12_told_1 (by decide) (by decide) (by decide) (List.forall_mem_cons.mpr ⟨jne (k := 0) c2 rfl, List.forall_mem_cons.mpr ⟨jne (k := 1) c4 rfl, List.forall_mem_cons.mpr ⟨jne (k := 2) c6 rfl, List.forall_mem_cons.mpr ⟨jne (k := 3) c8 rfl, List.forall_mem_cons.mpr ⟨jne (k := 4) c10 rfl, fun _ h => absurd h List.not_mem_nil⟩⟩⟩⟩⟩) ?_
  refine lv_bipush (v := (-3 : Int32)) hx hb dX12_told_61 (by decide) ?_
  exact jireti (jr1 hf) E hM dX12_told_63
set_option maxRecDepth 100000 in
theorem C_X12_told {l : Launch} {g : jG} {a0 : Nat} {a1 : Int32} {S : jM} {rr : Int32} (hf : f_X12_told a0 a1 S = some rr) : jMet l g yX12_told cX12_told 2 (some .int) 1 0 0 [.ref (g.2.2 + a0), .int a1] S (jQi g rr S) := by
  refine jof (by decide +kernel) (Nat.le_of_ble_eq_true rfl) ?_
  intro p e s m below meth c E hM ls hl
  have hl : lv_has ls 2 [(0, .ref (g.2.2 + a0)),(1, .int a1)] := hl
  exact B_X12_told_0 E hf hM hl
-- PensionHouseModel.trial(III)I  mode M
noncomputable def f_X12_trial_175 (k80 : Nat → Int32 → Int32 → Int32 → Int32 → Int32 → jM → Option (Int32 × jM)) (v0 : Nat) (v2 : Int32) (v3 : Int32) (v4 : Int32) (v6 : Int32) (t0 : Int32) (t1 : Int32) (S : jM) : Option (Int32 × jM) := jlet (t0 ||| t1) (fun x1 => jlet (v6 + (1 : Int32)) (fun x2 => k80 v0 v2 v3 v4 x1 x2 S))
noncomputable def f_X12_trial_158 (k80 : Nat → Int32 → Int32 → Int32 → Int32 → Int32 → jM → Option (Int32 × jM)) (v0 : Nat) (v2 : Int32) (v3 : Int32) (v4 : Int32) (v5 : Int32) (v6 : Int32) (t0 : Int32) (S : jM) : Option (Int32 × jM) := if t0 = 0 then f_X12_trial_175 k80 v0 v2 v3 v4 v6 v5 ((1 : Int32) <<< (v6 &&& 31)) S else f_X12_trial_175 k80 v0 v2 v3 v4 v6 v5 (0 : Int32) S
noncomputable def f_X12_trial_157 (k80 : Nat → Int32 → Int32 → Int32 → Int32 → Int32 → jM → Option (Int32 × jM)) (v0 : Nat) (v2 : Int32) (v3 : Int32) (v4 : Int32) (v5 : Int32) (v6 : Int32) (S : jM) : Option (Int32 × jM) := f_X12_trial_158 k80 v0 v2 v3 v4 v5 v6 (0 : Int32) S
noncomputable def f_X12_trial_153 (k80 : Nat → Int32 → Int32 → Int32 → Int32 → Int32 → jM → Option (Int32 × jM)) (v0 : Nat) (v2 : Int32) (v3 : Int32) (v4 : Int32) (v5 : Int32) (v6 : Int32) (S : jM) : Option (Int32 × jM) := f_X12_trial_158 k80 v0 v2 v3 v4 v5 v6 (1 : Int32) S
noncomputable def f_X12_trial_115 (k80 : Nat → Int32 → Int32 → Int32 → Int32 → Int32 → jM → Option (Int32 × jM)) (v0 : Nat) (v2 : Int32) (v3 : Int32) (v4 : Int32) (v5 : Int32) (v6 : Int32) (v7 : Int32) (S : jM) : Option (Int32 × jM) := if jK v0 = 10 then jbd (f_X12_workDue v0 v4 v6 v2 v3 S) (fun x4 S5 => if v7 = x4 then if v7 = 0 then (f_X12_areAlike v0 (225 : Int32) (jI S5 156 v0) S5).bind (fun x10 => if x10 = 0 then f_X12_trial_157 k80 v0 v2 v3 v4 v5 v6 S5 else f_X12_trial_153 k80 v0 v2 v3 v4 v5 v6 S5) else f_X12_trial_153 k80 v0 v2 v3 v4 v5 v6 S5 else f_X12_trial_157 k80 v0 v2 v3 v4 v5 v6 S5) else none
noncomputable def f_X12_trial_80 : Nat → Nat → Int32 → Int32 → Int32 → Int32 → Int32 → jM → Option (Int32 × jM)
  | 0, _, _, _, _, _, _, _ => none
  | n + 1, v0, v2, v3, v4, v5, v6, S => if (10 : Int32) ≤ v6 then some (v5, S) else if jK v0 = 10 then jbd (f_X12_workDue v0 (32 : Int32) v6 v2 v3 S) (fun x14 S15 => if x14 = 0 then (f_X12_copy v0 (225 : Int32) (jI S15 156 v0) S15).bind (fun S19 => f_X12_trial_115 (f_X12_trial_80 n) v0 v2 v3 v4 v5 v6 x14 S19) else f_X12_trial_115 (f_X12_trial_80 n) v0 v2 v3 v4 v5 v6 x14 S15) else none
noncomputable def f_X12_trial (v0 : Nat) (v1 : Int32) (v2 : Int32) (v3 : Int32) (S : jM) : Option (Int32 × jM) := if jK v0 = 10 then (f_X12_tokenize v0 S).bind (fun S21 => if (f_X12_in (v1.toInt64) (0 : Int64) (3 : Int64)) = 0 then some ((-2 : Int32), S21) else (f_X12_isDay v2).bind (fun x25 => if x25 = 0 then some ((-3 : Int32), S21) else if (f_X12_in (v3.toInt64) (0 : Int64) ((jI S21 139 v0).toInt64)) = 0 then some ((-3 : Int32), S21) else (f_X12_readText v0 (32 : Int32) S21).bind (fun S29 => if (jI S29 101 v0) ≤ 0 then jlet (jsI S29 149 v0 (0 : Int32)) (fun S32 => (f_X12_inForceAt v0 v1 v2 S32).bind (fun x33 => f_X12_trial_80 1100000 v0 v2 v3 x33 (0 : Int32) (0 : Int32) S32)) else jbd (f_X12_toldText v0 S29) (fun x35 S36 => some (x35, S36))))) else none
set_option maxRecDepth 100000 in
set_option maxHeartbeats 4000000 in
theorem B_X12_trial_175 {p : Program} {l : Launch} {e : Env} {s : State} {m : MethodId} {args : Array Value} {below : List Frame} {meth : Method} {c : Code} {g : jG} {rr : Int32} {SS : jM} {v0 : Nat} {v2 : Int32} {v3 : Int32} {v4 : Int32} {v6 : Int32} {t0 : Int32} {t1 : Int32} {S : jM} {k80 : Nat → Int32 → Int32 → Int32 → Int32 → Int32 → jM → Option (Int32 × jM)} (E : jEnv p s m args meth c cX12_trial "PensionHouseModel" (some .int) 10 g) (hk80 : ∀ (v0 : Nat) (v2 : Int32) (v3 : Int32) (v4 : Int32) (v5 : Int32) (v6 : Int32) (S : jM) (H : Heap) (locs : List Loc) (ls : Array Slot), k80 v0 v2 v3 v4 v5 v6 S = some (rr, SS) → jAt g S s H locs → lv_has ls 10 [(0, .ref (g.2.2 + v0)), (2, .int v2), (3, .int v3), (4, .int v4), (5, .int v5), (6, .int v6)] → W p l e (jRm 1020 0 0) s m args below meth c H locs 0 0 (MQ below (jQi g rr SS) args s 0 0 (jA0 g)) (F0 m 80 ls [])) {H : Heap} {locs : List Loc} {ls : Array Slot} (hf : f_X12_trial_175 k80 v0 v2 v3 v4 v6 t0 t1 S = some (rr, SS)) (hM : jAt g S s H locs) (hl : lv_has ls 10 [(0, .ref (g.2.2 + v0)), (2, .int v2), (3, .int v3), (4, .int v4), (6, .int v6)]) : W p l e (jRm 1020 0 0) s m args below meth c H locs 0 0 (MQ below (jQi g rr SS) args s 0 0 (jA0 g)) (F0 m 175 ls [.int t1, .int t0]) := by
  obtain ⟨hx, hb, hml, -, hts, hown, hK, -, hstr⟩ := id E
  unfold f_X12_trial_175 at hf
  refine lv_ior hx hb dX12_trial_175 ?_
  refine lv_topi (fun x1 ex1 => ?_)
  have hf := jlet_y ex1 hf
  refine lv_istore (lv' := [(5, .int x1), (0, .ref (g.2.2 + v0)), (2, .int v2), (3, .int v3), (4, .int v4), (6, .int v6)]) hx hb dX12_trial_176 hl (by decide) rfl (fun ls hl => ?_)
  obtain ⟨x2, ex2⟩ : ∃ z, z = v6 + (1 : Int32) := ⟨_, rfl⟩
  have hf := jlet_y ex2 hf
  refine lv_iinc (v := x2) (lv' := [(6, .int x2), (5, .int x1), (0, .ref (g.2.2 + v0)), (2, .int v2), (3, .int v3), (4, .int v4)]) hx hb dX12_trial_178 hl (k := 5) rfl (by rw [ex2]; rfl) (by decide) rfl (fun ls hl => ?_)
  refine lv_goto (tgt := 80) hx hb dX12_trial_181 (by decide) ?_
  exact hk80 v0 v2 v3 v4 x1 x2 S _ _ _ hf hM (lv_sub hl [2, 3, 4, 5, 1, 0] rfl)
set_option maxRecDepth 100000 in
set_option maxHeartbeats 4000000 in
theorem B_X12_trial_158 {p : Program} {l : Launch} {e : Env} {s : State} {m : MethodId} {args : Array Value} {below : List Frame} {meth : Method} {c : Code} {g : jG} {rr : Int32} {SS : jM} {v0 : Nat} {v2 : Int32} {v3 : Int32} {v4 : Int32} {v5 : Int32} {v6 : Int32} {t0 : Int32} {S : jM} {k80 : Nat → Int32 → Int32 → Int32 → Int32 → Int32 → jM → Option (Int32 × jM)} (E : jEnv p s m args meth c cX12_trial "PensionHouseModel" (some .int) 10 g) (hk80 : ∀ (v0 : Nat) (v2 : Int32) (v3 : Int32) (v4 : Int32) (v5 : Int32) (v6 : Int32) (S : jM) (H : Heap) (locs : List Loc) (ls : Array Slot), k80 v0 v2 v3 v4 v5 v6 S = some (rr, SS) → jAt g S s H locs → lv_has ls 10 [(0, .ref (g.2.2 + v0)), (2, .int v2), (3, .int v3), (4, .int v4), (5, .int v5), (6, .int v6)] → W p l e (jRm 1020 0 0) s m args below meth c H locs 0 0 (MQ below (jQi g rr SS) args s 0 0 (jA0 g)) (F0 m 80 ls [])) {H : Heap} {locs : List Loc} {ls : Array Slot} (hf : f_X12_trial_158 k80 v0 v2 v3 v4 v5 v6 t0 S = some (rr, SS)) (hM : jAt g S s H locs) (hl : lv_has ls 10 [(0, .ref (g.2.2 + v0)), (2, .int v2), (3, .int v3), (4, .int v4), (5, .int v5), (6, .int v6)]) : W p l e (jRm 1020 0 0) s m args below meth c H locs 0 0 (MQ below (jQi g rr SS) args s 0 0 (jA0 g)) (F0 m 158 ls [.int t0]) := by
  obtain ⟨hx, hb, hml, -, hts, hown, hK, -, hstr⟩ := id E
  unfold f_X12_trial_158 at hf
  refine lv_istore (lv' := [(9, .int t0), (0, .ref (g.2.2 + v0)), (2, .int v2), (3, .int v3), (4, .int v4), (5, .int v5), (6, .int v6)]) hx hb dX12_trial_158 hl (by decide) rfl (fun ls hl => ?_)
  refine lv_iload hx hb dX12_trial_160 (lv_at hl 5 rfl) ?_
  refine lv_iload hx hb dX12_trial_162 (lv_at hl 0 rfl) ?_
  refine lv_if_eq (tgt := 171) hx hb dX12_trial_164 (by decide) (fun c3 => ?_) (fun c3 => ?_)
  · have hf := jt c3 hf
    refine lv_iconst (v := (1 : Int32)) hx hb dX12_trial_171 (by decide) ?_
    refine lv_iload hx hb dX12_trial_172 (lv_at hl 6 rfl) ?_
    refine lv_ishl hx hb dX12_trial_174 ?_
    exact B_X12_trial_175 E hk80 hf hM (lv_sub hl [1, 2, 3, 4, 6] rfl)
  · have hf := jf c3 hf
    refine lv_iconst (v := (0 : Int32)) hx hb dX12_trial_167 (by decide) ?_
    refine lv_goto (tgt := 175) hx hb dX12_trial_168 (by decide) ?_
    exact B_X12_trial_175 E hk80 hf hM (lv_sub hl [1, 2, 3, 4, 6] rfl)
set_option maxRecDepth 100000 in
set_option maxHeartbeats 4000000 in
theorem B_X12_trial_157 {p : Program} {l : Launch} {e : Env} {s : State} {m : MethodId} {args : Array Value} {below : List Frame} {meth : Method} {c : Code} {g : jG} {rr : Int32} {SS : jM} {v0 : Nat} {v2 : Int32} {v3 : Int32} {v4 : Int32} {v5 : Int32} {v6 : Int32} {S : jM} {k80 : Nat → Int32 → Int32 → Int32 → Int32 → Int32 → jM → Option (Int32 × jM)} (E : jEnv p s m args meth c cX12_trial "PensionHouseModel" (some .int) 10 g) (hk80 : ∀ (v0 : Nat) (v2 : Int32) (v3 : Int32) (v4 : Int32) (v5 : Int32) (v6 : Int32) (S : jM) (H : Heap) (locs : List Loc) (ls : Array Slot), k80 v0 v2 v3 v4 v5 v6 S = some (rr, SS) → jAt g S s H locs → lv_has ls 10 [(0, .ref (g.2.2 + v0)), (2, .int v2), (3, .int v3), (4, .int v4), (5, .int v5), (6, .int v6)] → W p l e (jRm 1020 0 0) s m args below meth c H locs 0 0 (MQ below (jQi g rr SS) args s 0 0 (jA0 g)) (F0 m 80 ls [])) {H : Heap} {locs : List Loc} {ls : Array Slot} (hf : f_X12_trial_157 k80 v0 v2 v3 v4 v5 v6 S = some (rr, SS)) (hM : jAt g S s H locs) (hl : lv_has ls 10 [(0, .ref (g.2.2 + v0)), (2, .int v2), (3, .int v3), (4, .int v4), (5, .int v5), (6, .int v6)]) : W p l e (jRm 1020 0 0) s m args below meth c H locs 0 0 (MQ below (jQi g rr SS) args s 0 0 (jA0 g)) (F0 m 157 ls []) := by
  obtain ⟨hx, hb, hml, -, hts, hown, hK, -, hstr⟩ := id E
  unfold f_X12_trial_157 at hf
  refine lv_iconst (v := (0 : Int32)) hx hb dX12_trial_157 (by decide) ?_
  exact B_X12_trial_158 E hk80 hf hM (lv_sub hl [0, 1, 2, 3, 4, 5] rfl)
set_option maxRecDepth 100000 in
set_option maxHeartbeats 4000000 in
theorem B_X12_trial_153 {p : Program} {l : Launch} {e : Env} {s : State} {m : MethodId} {args : Array Value} {below : List Frame} {meth : Method} {c : Code} {g : jG} {rr : Int32} {SS : jM} {v0 : Nat} {v2 : Int32} {v3 : Int32} {v4 : Int32} {v5 : Int32} {v6 : Int32} {S : jM} {k80 : Nat → Int32 → Int32 → Int32 → Int32 → Int32 → jM → Option (Int32 × jM)} (E : jEnv p s m args meth c cX12_trial "PensionHouseModel" (some .int) 10 g) (hk80 : ∀ (v0 : Nat) (v2 : Int32) (v3 : Int32) (v4 : Int32) (v5 : Int32) (v6 : Int32) (S : jM) (H : Heap) (locs : List Loc) (ls : Array Slot), k80 v0 v2 v3 v4 v5 v6 S = some (rr, SS) → jAt g S s H locs → lv_has ls 10 [(0, .ref (g.2.2 + v0)), (2, .int v2), (3, .int v3), (4, .int v4), (5, .int v5), (6, .int v6)] → W p l e (jRm 1020 0 0) s m args below meth c H locs 0 0 (MQ below (jQi g rr SS) args s 0 0 (jA0 g)) (F0 m 80 ls [])) {H : Heap} {locs : List Loc} {ls : Array Slot} (hf : f_X12_trial_153 k80 v0 v2 v3 v4 v5 v6 S = some (rr, SS)) (hM : jAt g S s H locs) (hl : lv_has ls 10 [(0, .ref (g.2.2 + v0)), (2, .int v2), (3, .int v3), (4, .int v4), (5, .int v5), (6, .int v6)]) : W p l e (jRm 1020 0 0) s m args below meth c H locs 0 0 (MQ below (jQi g rr SS) args s 0 0 (jA0 g)) (F0 m 153 ls []) := by
  obtain ⟨hx, hb, hml, -, hts, hown, hK, -, hstr⟩ := id E
  unfold f_X12_trial_153 at hf
  refine lv_iconst (v := (1 : Int32)) hx hb dX12_trial_153 (by decide) ?_
  refine lv_goto (tgt := 158) hx hb dX12_trial_154 (by decide) ?_
  exact B_X12_trial_158 E hk80 hf hM (lv_sub hl [0, 1, 2, 3, 4, 5] rfl)
set_option maxRecDepth 100000 in
set_option maxHeartbeats 4000000 in
theorem B_X12_trial_115 {p : Program} {l : Launch} {e : Env} {s : State} {m : MethodId} {args : Array Value} {below : List Frame} {meth : Method} {c : Code} {g : jG} {rr : Int32} {SS : jM} {v0 : Nat} {v2 : Int32} {v3 : Int32} {v4 : Int32} {v5 : Int32} {v6 : Int32} {v7 : Int32} {S : jM} {k80 : Nat → Int32 → Int32 → Int32 → Int32 → Int32 → jM → Option (Int32 × jM)} (E : jEnv p s m args meth c cX12_trial "PensionHouseModel" (some .int) 10 g) (hk80 : ∀ (v0 : Nat) (v2 : Int32) (v3 : Int32) (v4 : Int32) (v5 : Int32) (v6 : Int32) (S : jM) (H : Heap) (locs : List Loc) (ls : Array Slot), k80 v0 v2 v3 v4 v5 v6 S = some (rr, SS) → jAt g S s H locs → lv_has ls 10 [(0, .ref (g.2.2 + v0)), (2, .int v2), (3, .int v3), (4, .int v4), (5, .int v5), (6, .int v6)] → W p l e (jRm 1020 0 0) s m args below meth c H locs 0 0 (MQ below (jQi g rr SS) args s 0 0 (jA0 g)) (F0 m 80 ls [])) {H : Heap} {locs : List Loc} {ls : Array Slot} (hf : f_X12_trial_115 k80 v0 v2 v3 v4 v5 v6 v7 S = some (rr, SS)) (hM : jAt g S s H locs) (hl : lv_has ls 10 [(0, .ref (g.2.2 + v0)), (2, .int v2), (3, .int v3), (4, .int v4), (5, .int v5), (6, .int v6), (7, .int v7)]) : W p l e (jRm 1020 0 0) s m args below meth c H locs 0 0 (MQ below (jQi g rr SS) args s 0 0 (jA0 g)) (F0 m 115 ls []) := by
  obtain ⟨hx, hb, hml, -, hts, hown, hK, -, hstr⟩ := id E
  unfold f_X12_trial_115 at hf
  refine lv_aload_n hx hb dX12_trial_115 rfl (lv_at hl 0 rfl) ?_
  refine lv_iload hx hb dX12_trial_116 (lv_at hl 3 rfl) ?_
  refine lv_iload hx hb dX12_trial_118 (lv_at hl 5 rfl) ?_
  refine lv_iload_n hx hb dX12_trial_120 rfl (lv_at hl 1 rfl) ?_
  refine lv_iload_n hx hb dX12_trial_121 rfl (lv_at hl 2 rfl) ?_
  obtain ⟨hq7, hf⟩ := jif hf
  obtain ⟨x4, S5, hc6, hf⟩ := jbd_e hf
  refine jbackI hM (jrunV E hM ci_X12_workDue (C_X12_workDue hc6) lk_8_230 hq7 (by decide) rfl hl.1 rfl rfl (Nat.le_of_ble_eq_true rfl) ⟨Nat.le_of_ble_eq_true rfl, Nat.le_of_ble_eq_true rfl⟩ ⟨Nat.le_refl _, Nat.le_refl _⟩ dX12_trial_122) (fun H locs hM => ?_)
  refine lv_istore (lv' := [(8, .int x4), (0, .ref (g.2.2 + v0)), (2, .int v2), (3, .int v3), (4, .int v4), (5, .int v5), (6, .int v6), (7, .int v7)]) hx hb dX12_trial_125 hl (by decide) rfl (fun ls hl => ?_)
  refine lv_iload hx hb dX12_trial_127 (lv_at hl 7 rfl) ?_
  refine lv_iload hx hb dX12_trial_129 (lv_at hl 0 rfl) ?_
  refine lv_icmp_ne (tgt := 157) hx hb dX12_trial_131 (by decide) (fun c8 => ?_) (fun c8 => ?_)
  · have hf := jf c8 hf
    exact B_X12_trial_157 E hk80 hf hM (lv_sub hl [1, 2, 3, 4, 5, 6] rfl)
  · have hf := jt c8 hf
    refine lv_iload hx hb dX12_trial_134 (lv_at hl 7 rfl) ?_
    refine lv_if_ne (tgt := 153) hx hb dX12_trial_136 (by decide) (fun c9 => ?_) (fun c9 => ?_)
    · have hf := jf c9 hf
      exact B_X12_trial_153 E hk80 hf hM (lv_sub hl [1, 2, 3, 4, 5, 6] rfl)
    · have hf := jt c9 hf
      refine lv_aload_n hx hb dX12_trial_139 rfl (lv_at hl 1 rfl) ?_
      refine lv_sipush (v := (225 : Int32)) hx hb dX12_trial_140 (by decide) ?_
      refine lv_aload_n hx hb dX12_trial_143 rfl (lv_at hl 1 rfl) ?_
      refine gt_156 E hM hq7 lk_6_70 dX12_trial_144 ?_
      obtain ⟨x10, hc11, hf⟩ := jb hf
      refine jbackI hM (jrunV E hM ci_X12_areAlike (C_X12_areAlike hc11) lk_8_235 hq7 (by decide) rfl hl.1 rfl rfl (Nat.le_of_ble_eq_true rfl) ⟨Nat.le_of_ble_eq_true rfl, Nat.le_of_ble_eq_true rfl⟩ ⟨Nat.le_refl _, Nat.le_refl _⟩ dX12_trial_147) (fun H locs hM => ?_)
      refine lv_if_eq (tgt := 157) hx hb dX12_trial_150 (by decide) (fun c12 => ?_) (fun c12 => ?_)
      · have hf := jt c12 hf
        exact B_X12_trial_157 E hk80 hf hM (lv_sub hl [1, 2, 3, 4, 5, 6] rfl)
      · have hf := jf c12 hf
        exact B_X12_trial_153 E hk80 hf hM (lv_sub hl [1, 2, 3, 4, 5, 6] rfl)
set_option maxRecDepth 100000 in
set_option maxHeartbeats 4000000 in
theorem B_X12_trial_80 {p : Program} {l : Launch} {e : Env} {s : State} {m : MethodId} {args : Array Value} {below : List Frame} {meth : Method} {c : Code} {g : jG} {rr : Int32} {SS : jM} (E : jEnv p s m args meth c cX12_trial "PensionHouseModel" (some .int) 10 g)  : ∀ (n : Nat) (v0 : Nat) (v2 : Int32) (v3 : Int32) (v4 : Int32) (v5 : Int32) (v6 : Int32) (S : jM) (H : Heap) (locs : List Loc) (ls : Array Slot), f_X12_trial_80 n v0 v2 v3 v4 v5 v6 S = some (rr, SS) → jAt g S s H locs → lv_has ls 10 [(0, .ref (g.2.2 + v0)), (2, .int v2), (3, .int v3), (4, .int v4), (5, .int v5), (6, .int v6)] → W p l e (jRm 1020 0 0) s m args below meth c H locs 0 0 (MQ below (jQi g rr SS) args s 0 0 (jA0 g)) (F0 m 80 ls []) := by
  obtain ⟨hx, hb, hml, -, hts, hown, hK, -, hstr⟩ := id E
  intro n
  induction n with
  | zero => intro v0 v2 v3 v4 v5 v6 S H locs ls hf hM hl; rw [f_X12_trial_80] at hf; cases hf
  | succ n ih =>
    intro v0 v2 v3 v4 v5 v6 S H locs ls hf hM hl
    rw [f_X12_trial_80] at hf
    refine lv_iload hx hb dX12_trial_80 (lv_at hl 5 rfl) ?_
    refine lv_bipush (v := (10 : Int32)) hx hb dX12_trial_82 (by decide) ?_
    refine lv_icmp_ge (tgt := 184) hx hb dX12_trial_84 (by decide) (fun c13 => ?_) (fun c13 => ?_)
    · have hf := jt c13 hf
      refine lv_iload hx hb dX12_trial_184 (lv_at hl 4 rfl) ?_
      exact jireti (jr2 hf) E hM dX12_trial_186
    · have hf := jf c13 hf
      refine lv_aload_n hx hb dX12_trial_87 rfl (lv_at hl 0 rfl) ?_
      refine lv_bipush (v := (32 : Int32)) hx hb dX12_trial_88 (by decide) ?_
      refine lv_iload hx hb dX12_trial_90 (lv_at hl 5 rfl) ?_
      refine lv_iload_n hx hb dX12_trial_92 rfl (lv_at hl 1 rfl) ?_
      refine lv_iload_n hx hb dX12_trial_93 rfl (lv_at hl 2 rfl) ?_
      obtain ⟨hq17, hf⟩ := jif hf
      obtain ⟨x14, S15, hc16, hf⟩ := jbd_e hf
      refine jbackI hM (jrunV E hM ci_X12_workDue (C_X12_workDue hc16) lk_8_230 hq17 (by decide) rfl hl.1 rfl rfl (Nat.le_of_ble_eq_true rfl) ⟨Nat.le_of_ble_eq_true rfl, Nat.le_of_ble_eq_true rfl⟩ ⟨Nat.le_refl _, Nat.le_refl _⟩ dX12_trial_94) (fun H locs hM => ?_)
      refine lv_istore (lv' := [(7, .int x14), (0, .ref (g.2.2 + v0)), (2, .int v2), (3, .int v3), (4, .int v4), (5, .int v5), (6, .int v6)]) hx hb dX12_trial_97 hl (by decide) rfl (fun ls hl => ?_)
      refine lv_iload hx hb dX12_trial_99 (lv_at hl 0 rfl) ?_
      refine lv_if_ne (tgt := 115) hx hb dX12_trial_101 (by decide) (fun c18 => ?_) (fun c18 => ?_)
      · have hf := jf c18 hf
        exact B_X12_trial_115 E ih hf hM (lv_sub hl [1, 2, 3, 4, 5, 6, 0] rfl)
      · have hf := jt c18 hf
        refine lv_aload_n hx hb dX12_trial_104 rfl (lv_at hl 1 rfl) ?_
        refine lv_sipush (v := (225 : Int32)) hx hb dX12_trial_105 (by decide) ?_
        refine lv_aload_n hx hb dX12_trial_108 rfl (lv_at hl 1 rfl) ?_
        refine gt_156 E hM hq17 lk_6_70 dX12_trial_109 ?_
        obtain ⟨S19, hc20, hf⟩ := jb hf
        refine jbackV hM (jrunV E hM ci_X12_copy (C_X12_copy hc20) lk_7_180 hq17 (by decide) rfl hl.1 rfl rfl (Nat.le_of_ble_eq_true rfl) ⟨Nat.le_of_ble_eq_true rfl, Nat.le_of_ble_eq_true rfl⟩ ⟨Nat.le_refl _, Nat.le_refl _⟩ dX12_trial_112) (fun H locs hM => ?_)
        exact B_X12_trial_115 E ih hf hM (lv_sub hl [1, 2, 3, 4, 5, 6, 0] rfl)
set_option maxRecDepth 100000 in
set_option maxHeartbeats 4000000 in
theorem B_X12_trial_0 {p : Program} {l : Launch} {e : Env} {s : State} {m : MethodId} {args : Array Value} {below : List Frame} {meth : Method} {c : Code} {g : jG} {rr : Int32} {SS : jM} {v0 : Nat} {v1 : Int32} {v2 : Int32} {v3 : Int32} {S : jM} (E : jEnv p s m args meth c cX12_trial "PensionHouseModel" (some .int) 10 g)  {H : Heap} {locs : List Loc} {ls : Array Slot} (hf : f_X12_trial v0 v1 v2 v3 S = some (rr, SS)) (hM : jAt g S s H locs) (hl : lv_has ls 10 [(0, .ref (g.2.2 + v0)), (1, .int v1), (2, .int v2), (3, .int v3)]) : W p l e (jRm 1020 0 0) s m args below meth c H locs 0 0 (MQ below (jQi g rr SS) args s 0 0 (jA0 g)) (F0 m 0 ls []) := by
  obtain ⟨hx, hb, hml, -, hts, hown, hK, -, hstr⟩ := id E
  unfold f_X12_trial at hf
  refine lv_aload_n hx hb dX12_trial_0 rfl (lv_at hl 0 rfl) ?_
  obtain ⟨hq23, hf⟩ := jif hf
  obtain ⟨S21, hc22, hf⟩ := jb hf
  refine jbackV hM (jrunV E hM ci_X12_tokenize (C_X12_tokenize hc22) lk_7_124 hq23 (by decide) rfl hl.1 rfl rfl (Nat.le_of_ble_eq_true rfl) ⟨Nat.le_of_ble_eq_true rfl, Nat.le_of_ble_eq_true rfl⟩ ⟨Nat.le_refl _, Nat.le_refl _⟩ dX12_trial_1) (fun H locs hM => ?_)
  refine lv_iload_n hx hb dX12_trial_4 rfl (lv_at hl 1 rfl) ?_
  refine lv_i2l hx hb dX12_trial_5 rfl ?_
  refine lv_lconst (v := (0 : Int64)) hx hb dX12_trial_6 (by decide) ?_
  refine lv_ldc2 (v := (3 : Int64)) hx hb hown (hts _ lk_7_200) dX12_trial_7 ?_
  refine jbackI hM (jrunS E hM ci_X12_in (C_X12_in rfl) lk_7_36 hl.1 rfl rfl (Nat.le_of_ble_eq_true rfl) ⟨Nat.le_of_ble_eq_true rfl, Nat.le_of_ble_eq_true rfl⟩ ⟨Nat.le_refl _, Nat.le_refl _⟩ dX12_trial_10) (fun H locs hM => ?_)
  refine lv_if_ne (tgt := 19) hx hb dX12_trial_13 (by decide) (fun c24 => ?_) (fun c24 => ?_)
  · have hf := jf c24 hf
    refine lv_iload_n hx hb dX12_trial_19 rfl (lv_at hl 2 rfl) ?_
    obtain ⟨x25, hc26, hf⟩ := jb hf
    refine jbackI hM (jrunS E hM ci_X12_isDay (C_X12_isDay hc26) lk_7_177 hl.1 rfl rfl (Nat.le_of_ble_eq_true rfl) ⟨Nat.le_of_ble_eq_true rfl, Nat.le_of_ble_eq_true rfl⟩ ⟨Nat.le_refl _, Nat.le_refl _⟩ dX12_trial_20) (fun H locs hM => ?_)
    refine lv_if_eq (tgt := 40) hx hb dX12_trial_23 (by decide) (fun c27 => ?_) (fun c27 => ?_)
    · have hf := jt c27 hf
      refine lv_bipush (v := (-3 : Int32)) hx hb dX12_trial_40 (by decide) ?_
      exact jireti (jr2 hf) E hM dX12_trial_42
    · have hf := jf c27 hf
      refine lv_iload_n hx hb dX12_trial_26 rfl (lv_at hl 3 rfl) ?_
      refine lv_i2l hx hb dX12_trial_27 rfl ?_
      refine lv_lconst (v := (0 : Int64)) hx hb dX12_trial_28 (by decide) ?_
      refine lv_aload_n hx hb dX12_trial_29 rfl (lv_at hl 0 rfl) ?_
      refine gt_139 E hM hq23 lk_6_53 dX12_trial_30 ?_
      refine lv_i2l hx hb dX12_trial_33 rfl ?_
      refine jbackI hM (jrunS E hM ci_X12_in (C_X12_in rfl) lk_7_36 hl.1 rfl rfl (Nat.le_of_ble_eq_true rfl) ⟨Nat.le_of_ble_eq_true rfl, Nat.le_of_ble_eq_true rfl⟩ ⟨Nat.le_refl _, Nat.le_refl _⟩ dX12_trial_34) (fun H locs hM => ?_)
      refine lv_if_ne (tgt := 43) hx hb dX12_trial_37 (by decide) (fun c28 => ?_) (fun c28 => ?_)
      · have hf := jf c28 hf
        refine lv_aload_n hx hb dX12_trial_43 rfl (lv_at hl 0 rfl) ?_
        refine lv_bipush (v := (32 : Int32)) hx hb dX12_trial_44 (by decide) ?_
        obtain ⟨S29, hc30, hf⟩ := jb hf
        refine jbackV hM (jrunV E hM ci_X12_readText (C_X12_readText hc30) lk_7_205 hq23 (by decide) rfl hl.1 rfl rfl (Nat.le_of_ble_eq_true rfl) ⟨Nat.le_of_ble_eq_true rfl, Nat.le_of_ble_eq_true rfl⟩ ⟨Nat.le_refl _, Nat.le_refl _⟩ dX12_trial_46) (fun H locs hM => ?_)
        refine lv_aload_n hx hb dX12_trial_49 rfl (lv_at hl 0 rfl) ?_
        refine gt_101 E hM hq23 lk_6_15 dX12_trial_50 ?_
        refine lv_if_le (tgt := 61) hx hb dX12_trial_53 (by decide) (fun c31 => ?_) (fun c31 => ?_)
        · have hf := jt c31 hf
          refine lv_aload_n hx hb dX12_trial_61 rfl (lv_at hl 0 rfl) ?_
          refine lv_iconst (v := (0 : Int32)) hx hb dX12_trial_62 (by decide) ?_
          refine pt_149 E hM hq23 lk_6_63 dX12_trial_63 (fun H locs S32 eS32 hM => ?_)
          have hf := jlet_y eS32 hf
          refine lv_aload_n hx hb dX12_trial_66 rfl (lv_at hl 0 rfl) ?_
          refine lv_iload_n hx hb dX12_trial_67 rfl (lv_at hl 1 rfl) ?_
          refine lv_iload_n hx hb dX12_trial_68 rfl (lv_at hl 2 rfl) ?_
          obtain ⟨x33, hc34, hf⟩ := jb hf
          refine jbackI hM (jrunV E hM ci_X12_inForceAt (C_X12_inForceAt hc34) lk_8_63 hq23 (by decide) rfl hl.1 rfl rfl (Nat.le_of_ble_eq_true rfl) ⟨Nat.le_of_ble_eq_true rfl, Nat.le_of_ble_eq_true rfl⟩ ⟨Nat.le_refl _, Nat.le_refl _⟩ dX12_trial_69) (fun H locs hM => ?_)
          refine lv_istore (lv' := [(4, .int x33), (0, .ref (g.2.2 + v0)), (1, .int v1), (2, .int v2), (3, .int v3)]) hx hb dX12_trial_72 hl (by decide) rfl (fun ls hl => ?_)
          refine lv_iconst (v := (0 : Int32)) hx hb dX12_trial_74 (by decide) ?_
          refine lv_istore (lv' := [(5, .int (0 : Int32)), (4, .int x33), (0, .ref (g.2.2 + v0)), (1, .int v1), (2, .int v2), (3, .int v3)]) hx hb dX12_trial_75 hl (by decide) rfl (fun ls hl => ?_)
          refine lv_iconst (v := (0 : Int32)) hx hb dX12_trial_77 (by decide) ?_
          refine lv_istore (lv' := [(6, .int (0 : Int32)), (5, .int (0 : Int32)), (4, .int x33), (0, .ref (g.2.2 + v0)), (1, .int v1), (2, .int v2), (3, .int v3)]) hx hb dX12_trial_78 hl (by decide) rfl (fun ls hl => ?_)
          exact B_X12_trial_80 E  1100000 v0 v2 v3 x33 (0 : Int32) (0 : Int32) S32 _ _ _ hf hM (lv_sub hl [3, 5, 6, 2, 1, 0] rfl)
        · have hf := jf c31 hf
          refine lv_aload_n hx hb dX12_trial_56 rfl (lv_at hl 0 rfl) ?_
          obtain ⟨x35, S36, hc37, hf⟩ := jbd_e hf
          refine jbackI hM (jrunV E hM ci_X12_toldText (C_X12_toldText hc37) lk_8_51 hq23 (by decide) rfl hl.1 rfl rfl (Nat.le_of_ble_eq_true rfl) ⟨Nat.le_of_ble_eq_true rfl, Nat.le_of_ble_eq_true rfl⟩ ⟨Nat.le_refl _, Nat.le_refl _⟩ dX12_trial_57) (fun H locs hM => ?_)
          exact jireti (jr2 hf) E hM dX12_trial_60
      · have hf := jt c28 hf
        refine lv_bipush (v := (-3 : Int32)) hx hb dX12_trial_40 (by decide) ?_
        exact jireti (jr2 hf) E hM dX12_trial_42
  · have hf := jt c24 hf
    refine lv_bipush (v := (-2 : Int32)) hx hb dX12_trial_16 (by decide) ?_
    exact jireti (jr2 hf) E hM dX12_trial_18
set_option maxRecDepth 100000 in
theorem C_X12_trial {l : Launch} {g : jG} {a0 : Nat} {a1 : Int32} {a2 : Int32} {a3 : Int32} {S : jM} {rr : Int32} {SS : jM} (hf : f_X12_trial a0 a1 a2 a3 S = some (rr, SS)) : jMet l g yX12_trial cX12_trial 10 (some .int) 1020 0 0 [.ref (g.2.2 + a0), .int a1, .int a2, .int a3] S (jQi g rr SS) := by
  refine jof (by decide +kernel) (Nat.le_of_ble_eq_true rfl) ?_
  intro p e s m below meth c E hM ls hl
  have hl : lv_has ls 10 [(0, .ref (g.2.2 + a0)),(1, .int a1),(2, .int a2),(3, .int a3)] := hl
  exact B_X12_trial_0 E hf hM hl
-- PensionHouseModel.write(IJ)I  mode M
noncomputable def f_X12_write_123 (t0 : Nat) (t1 : Int32) (t2 : Int64) (S : jM) : Option (Int32 × jM) := if jA t0 14 t1 = true then jlet (jrL S t0 (vp_updL (jAL S t0) (t1).toNatClampNeg t2)) (fun S2 => some ((1 : Int32), S2)) else none
noncomputable def f_X12_write_90 (v0 : Nat) (v2 : Int64) (v5 : Int32) (S : jM) : Option (Int32 × jM) := if jK v0 = 10 then (jR S 91 v0).bind (fun r4 => (f_X12_ofBits v2).bind (fun x6 => if jA r4 12 v5 = true then jlet (jrD S r4 (vf_upd (jAD S r4) (v5).toNatClampNeg x6)) (fun S9 => some ((1 : Int32), S9)) else none)) else none
noncomputable def f_X12_write_76 (v0 : Nat) (v2 : Int64) (v4 : Int32) (t0 : Int32) (S : jM) : Option (Int32 × jM) := if v4 = (1 : Int32) then f_X12_write_90 v0 v2 t0 S else if v4 = (4 : Int32) then f_X12_write_90 v0 v2 t0 S else if jK v0 = 10 then (jR S 90 v0).bind (fun r13 => if v4 = (2 : Int32) then f_X12_write_123 r13 t0 ((v2.toInt32).toInt64) S else f_X12_write_123 r13 t0 v2 S) else none
noncomputable def f_X12_write_66 (v0 : Nat) (v1 : Int32) (v2 : Int64) (v4 : Int32) (S : jM) : Option (Int32 × jM) := if v1 = (-1 : Int32) then f_X12_write_76 v0 v2 v4 (0 : Int32) S else f_X12_write_76 v0 v2 v4 v1 S
noncomputable def f_X12_write_40 (v0 : Nat) (v1 : Int32) (v2 : Int64) (v4 : Int32) (S : jM) : Option (Int32 × jM) := if v1 = (-1 : Int32) then f_X12_write_66 v0 v1 v2 v4 S else if jK v0 = 10 then (jR S 89 v0).bind (fun r19 => if jA r19 13 (0 : Int32) = true then if (f_X12_in (v1.toInt64) (0 : Int64) (((jAI S r19 ((0 : Int32)).toNatClampNeg) - (1 : Int32)).toInt64)) = 0 then some ((-3 : Int32), S) else f_X12_write_66 v0 v1 v2 v4 S else none) else none
noncomputable def f_X12_write (v0 : Nat) (v1 : Int32) (v2 : Int64) (S : jM) : Option (Int32 × jM) := if jK v0 = 10 then (jR S 88 v0).bind (fun r24 => if jA r24 13 (0 : Int32) = true then jlet (jAI S r24 ((0 : Int32)).toNatClampNeg) (fun x27 => if v1 = (-1 : Int32) then if x27 ≤ (1 : Int32) then f_X12_write_40 v0 v1 v2 x27 S else some ((-4 : Int32), S) else if (f_X12_in (x27.toInt64) (2 : Int64) (4 : Int64)) = 0 then some ((-4 : Int32), S) else f_X12_write_40 v0 v1 v2 x27 S) else none) else none
set_option maxRecDepth 100000 in
set_option maxHeartbeats 4000000 in
theorem B_X12_write_123 {p : Program} {l : Launch} {e : Env} {s : State} {m : MethodId} {args : Array Value} {below : List Frame} {meth : Method} {c : Code} {g : jG} {rr : Int32} {SS : jM} {t0 : Nat} {t1 : Int32} {t2 : Int64} {S : jM} (E : jEnv p s m args meth c cX12_write "PensionHouseModel" (some .int) 6 g)  {H : Heap} {locs : List Loc} {ls : Array Slot} (hf : f_X12_write_123 t0 t1 t2 S = some (rr, SS)) (hM : jAt g S s H locs) (hl : lv_has ls 6 []) : W p l e (jRm 2 0 0) s m args below meth c H locs 0 0 (MQ below (jQi g rr SS) args s 0 0 (jA0 g)) (F0 m 123 ls [.long t2, .int t1, .ref (g.2.2 + t0)]) := by
  obtain ⟨hx, hb, hml, -, hts, hown, hK, -, hstr⟩ := id E
  unfold f_X12_write_123 at hf
  obtain ⟨ha1, hf⟩ := jif hf
  refine jlast E hM ha1 dX12_write_123 (fun H locs S2 eS2 hM => ?_)
  have hf := jlet_y eS2 hf
  refine lv_iconst (v := (1 : Int32)) hx hb dX12_write_124 (by decide) ?_
  exact jireti (jr2 hf) E hM dX12_write_125
set_option maxRecDepth 100000 in
set_option maxHeartbeats 4000000 in
theorem B_X12_write_90 {p : Program} {l : Launch} {e : Env} {s : State} {m : MethodId} {args : Array Value} {below : List Frame} {meth : Method} {c : Code} {g : jG} {rr : Int32} {SS : jM} {v0 : Nat} {v2 : Int64} {v5 : Int32} {S : jM} (E : jEnv p s m args meth c cX12_write "PensionHouseModel" (some .int) 6 g)  {H : Heap} {locs : List Loc} {ls : Array Slot} (hf : f_X12_write_90 v0 v2 v5 S = some (rr, SS)) (hM : jAt g S s H locs) (hl : lv_has ls 6 [(0, .ref (g.2.2 + v0)), (2, .long v2), (5, .int v5)]) : W p l e (jRm 2 0 0) s m args below meth c H locs 0 0 (MQ below (jQi g rr SS) args s 0 0 (jA0 g)) (F0 m 90 ls []) := by
  obtain ⟨hx, hb, hml, -, hts, hown, hK, -, hstr⟩ := id E
  unfold f_X12_write_90 at hf
  refine lv_aload_n hx hb dX12_write_90 rfl (lv_at hl 0 rfl) ?_
  obtain ⟨hq3, hf⟩ := jif hf
  refine gt_91 E hM hq3 lk_6_5 dX12_write_91 ?_
  obtain ⟨r4, hr5, hf⟩ := jb hf
  rw [hr5]
  show W p l e _ s m args below meth c H locs 0 0 _ (F0 m _ ls (.ref (g.2.2 + r4) :: _))
  refine lv_iload hx hb dX12_write_94 (lv_at hl 2 rfl) ?_
  refine lv_lload_n hx hb dX12_write_96 rfl (lv_at hl 1 rfl) ?_
  obtain ⟨x6, hc7, hf⟩ := jb hf
  refine jbackD hM (jrunS E hM ci_X12_ofBits (C_X12_ofBits hc7) lk_7_73 hl.1 rfl rfl (Nat.le_of_ble_eq_true rfl) ⟨Nat.le_of_ble_eq_true rfl, Nat.le_of_ble_eq_true rfl⟩ ⟨Nat.le_refl _, Nat.le_refl _⟩ dX12_write_97) (fun H locs hM => ?_)
  obtain ⟨ha8, hf⟩ := jif hf
  refine jdast E hM ha8 dX12_write_100 (fun H locs S9 eS9 hM => ?_)
  have hf := jlet_y eS9 hf
  refine lv_goto (tgt := 124) hx hb dX12_write_101 (by decide) ?_
  refine lv_iconst (v := (1 : Int32)) hx hb dX12_write_124 (by decide) ?_
  exact jireti (jr2 hf) E hM dX12_write_125
set_option maxRecDepth 100000 in
set_option maxHeartbeats 4000000 in
theorem B_X12_write_76 {p : Program} {l : Launch} {e : Env} {s : State} {m : MethodId} {args : Array Value} {below : List Frame} {meth : Method} {c : Code} {g : jG} {rr : Int32} {SS : jM} {v0 : Nat} {v2 : Int64} {v4 : Int32} {t0 : Int32} {S : jM} (E : jEnv p s m args meth c cX12_write "PensionHouseModel" (some .int) 6 g)  {H : Heap} {locs : List Loc} {ls : Array Slot} (hf : f_X12_write_76 v0 v2 v4 t0 S = some (rr, SS)) (hM : jAt g S s H locs) (hl : lv_has ls 6 [(0, .ref (g.2.2 + v0)), (2, .long v2), (4, .int v4)]) : W p l e (jRm 2 0 0) s m args below meth c H locs 0 0 (MQ below (jQi g rr SS) args s 0 0 (jA0 g)) (F0 m 76 ls [.int t0]) := by
  obtain ⟨hx, hb, hml, -, hts, hown, hK, -, hstr⟩ := id E
  unfold f_X12_write_76 at hf
  refine lv_istore (lv' := [(5, .int t0), (0, .ref (g.2.2 + v0)), (2, .long v2), (4, .int v4)]) hx hb dX12_write_76 hl (by decide) rfl (fun ls hl => ?_)
  refine lv_iload hx hb dX12_write_78 (lv_at hl 3 rfl) ?_
  refine lv_iconst (v := (1 : Int32)) hx hb dX12_write_80 (by decide) ?_
  refine lv_icmp_eq (tgt := 90) hx hb dX12_write_81 (by decide) (fun c10 => ?_) (fun c10 => ?_)
  · have hf := jt c10 hf
    exact B_X12_write_90 E  hf hM (lv_sub hl [1, 2, 0] rfl)
  · have hf := jf c10 hf
    refine lv_iload hx hb dX12_write_84 (lv_at hl 3 rfl) ?_
    refine lv_iconst (v := (4 : Int32)) hx hb dX12_write_86 (by decide) ?_
    refine lv_icmp_ne (tgt := 104) hx hb dX12_write_87 (by decide) (fun c11 => ?_) (fun c11 => ?_)
    · have hf := jf c11 hf
      refine lv_aload_n hx hb dX12_write_104 rfl (lv_at hl 1 rfl) ?_
      obtain ⟨hq12, hf⟩ := jif hf
      refine gt_90 E hM hq12 lk_6_4 dX12_write_105 ?_
      obtain ⟨r13, hr14, hf⟩ := jb hf
      rw [hr14]
      show W p l e _ s m args below meth c H locs 0 0 _ (F0 m _ ls (.ref (g.2.2 + r13) :: _))
      refine lv_iload hx hb dX12_write_108 (lv_at hl 0 rfl) ?_
      refine lv_iload hx hb dX12_write_110 (lv_at hl 3 rfl) ?_
      refine lv_iconst (v := (2 : Int32)) hx hb dX12_write_112 (by decide) ?_
      refine lv_icmp_ne (tgt := 122) hx hb dX12_write_113 (by decide) (fun c15 => ?_) (fun c15 => ?_)
      · have hf := jf c15 hf
        refine lv_lload_n hx hb dX12_write_122 rfl (lv_at hl 2 rfl) ?_
        exact B_X12_write_123 E  hf hM (lv_sub hl [] rfl)
      · have hf := jt c15 hf
        refine lv_lload_n hx hb dX12_write_116 rfl (lv_at hl 2 rfl) ?_
        refine lv_l2i hx hb dX12_write_117 rfl ?_
        refine lv_i2l hx hb dX12_write_118 rfl ?_
        refine lv_goto (tgt := 123) hx hb dX12_write_119 (by decide) ?_
        exact B_X12_write_123 E  hf hM (lv_sub hl [] rfl)
    · have hf := jt c11 hf
      exact B_X12_write_90 E  hf hM (lv_sub hl [1, 2, 0] rfl)
set_option maxRecDepth 100000 in
set_option maxHeartbeats 4000000 in
theorem B_X12_write_66 {p : Program} {l : Launch} {e : Env} {s : State} {m : MethodId} {args : Array Value} {below : List Frame} {meth : Method} {c : Code} {g : jG} {rr : Int32} {SS : jM} {v0 : Nat} {v1 : Int32} {v2 : Int64} {v4 : Int32} {S : jM} (E : jEnv p s m args meth c cX12_write "PensionHouseModel" (some .int) 6 g)  {H : Heap} {locs : List Loc} {ls : Array Slot} (hf : f_X12_write_66 v0 v1 v2 v4 S = some (rr, SS)) (hM : jAt g S s H locs) (hl : lv_has ls 6 [(0, .ref (g.2.2 + v0)), (1, .int v1), (2, .long v2), (4, .int v4)]) : W p l e (jRm 2 0 0) s m args below meth c H locs 0 0 (MQ below (jQi g rr SS) args s 0 0 (jA0 g)) (F0 m 66 ls []) := by
  obtain ⟨hx, hb, hml, -, hts, hown, hK, -, hstr⟩ := id E
  unfold f_X12_write_66 at hf
  refine lv_iload_n hx hb dX12_write_66 rfl (lv_at hl 1 rfl) ?_
  refine lv_iconst (v := (-1 : Int32)) hx hb dX12_write_67 (by decide) ?_
  refine lv_icmp_ne (tgt := 75) hx hb dX12_write_68 (by decide) (fun c16 => ?_) (fun c16 => ?_)
  · have hf := jf c16 hf
    refine lv_iload_n hx hb dX12_write_75 rfl (lv_at hl 1 rfl) ?_
    exact B_X12_write_76 E  hf hM (lv_sub hl [0, 2, 3] rfl)
  · have hf := jt c16 hf
    refine lv_iconst (v := (0 : Int32)) hx hb dX12_write_71 (by decide) ?_
    refine lv_goto (tgt := 76) hx hb dX12_write_72 (by decide) ?_
    exact B_X12_write_76 E  hf hM (lv_sub hl [0, 2, 3] rfl)
set_option maxRecDepth 100000 in
set_option maxHeartbeats 4000000 in
theorem B_X12_write_40 {p : Program} {l : Launch} {e : Env} {s : State} {m : MethodId} {args : Array Value} {below : List Frame} {meth : Method} {c : Code} {g : jG} {rr : Int32} {SS : jM} {v0 : Nat} {v1 : Int32} {v2 : Int64} {v4 : Int32} {S : jM} (E : jEnv p s m args meth c cX12_write "PensionHouseModel" (some .int) 6 g)  {H : Heap} {locs : List Loc} {ls : Array Slot} (hf : f_X12_write_40 v0 v1 v2 v4 S = some (rr, SS)) (hM : jAt g S s H locs) (hl : lv_has ls 6 [(0, .ref (g.2.2 + v0)), (1, .int v1), (2, .long v2), (4, .int v4)]) : W p l e (jRm 2 0 0) s m args below meth c H locs 0 0 (MQ below (jQi g rr SS) args s 0 0 (jA0 g)) (F0 m 40 ls []) := by
  obtain ⟨hx, hb, hml, -, hts, hown, hK, -, hstr⟩ := id E
  unfold f_X12_write_40 at hf
  refine lv_iload_n hx hb dX12_write_40 rfl (lv_at hl 1 rfl) ?_
  refine lv_iconst (v := (-1 : Int32)) hx hb dX12_write_41 (by decide) ?_
  refine lv_icmp_eq (tgt := 66) hx hb dX12_write_42 (by decide) (fun c17 => ?_) (fun c17 => ?_)
  · have hf := jt c17 hf
    exact B_X12_write_66 E  hf hM (lv_sub hl [0, 1, 2, 3] rfl)
  · have hf := jf c17 hf
    refine lv_iload_n hx hb dX12_write_45 rfl (lv_at hl 1 rfl) ?_
    refine lv_i2l hx hb dX12_write_46 rfl ?_
    refine lv_lconst (v := (0 : Int64)) hx hb dX12_write_47 (by decide) ?_
    refine lv_aload_n hx hb dX12_write_48 rfl (lv_at hl 0 rfl) ?_
    obtain ⟨hq18, hf⟩ := jif hf
    refine gt_89 E hM hq18 lk_6_3 dX12_write_49 ?_
    obtain ⟨r19, hr20, hf⟩ := jb hf
    rw [hr20]
    show W p l e _ s m args below meth c H locs 0 0 _ (F0 m _ ls (.ref (g.2.2 + r19) :: _))
    refine lv_iconst (v := (0 : Int32)) hx hb dX12_write_52 (by decide) ?_
    obtain ⟨ha21, hf⟩ := jif hf
    refine jiald E hM ha21 dX12_write_53 ?_
    refine lv_iconst (v := (1 : Int32)) hx hb dX12_write_54 (by decide) ?_
    refine lv_isub hx hb dX12_write_55 ?_
    refine lv_i2l hx hb dX12_write_56 rfl ?_
    refine jbackI hM (jrunS E hM ci_X12_in (C_X12_in rfl) lk_7_36 hl.1 rfl rfl (Nat.le_of_ble_eq_true rfl) ⟨Nat.le_of_ble_eq_true rfl, Nat.le_of_ble_eq_true rfl⟩ ⟨Nat.le_refl _, Nat.le_refl _⟩ dX12_write_57) (fun H locs hM => ?_)
    refine lv_if_ne (tgt := 66) hx hb dX12_write_60 (by decide) (fun c22 => ?_) (fun c22 => ?_)
    · have hf := jf c22 hf
      exact B_X12_write_66 E  hf hM (lv_sub hl [0, 1, 2, 3] rfl)
    · have hf := jt c22 hf
      refine lv_bipush (v := (-3 : Int32)) hx hb dX12_write_63 (by decide) ?_
      exact jireti (jr2 hf) E hM dX12_write_65
set_option maxRecDepth 100000 in
set_option maxHeartbeats 4000000 in
theorem B_X12_write_0 {p : Program} {l : Launch} {e : Env} {s : State} {m : MethodId} {args : Array Value} {below : List Frame} {meth : Method} {c : Code} {g : jG} {rr : Int32} {SS : jM} {v0 : Nat} {v1 : Int32} {v2 : Int64} {S : jM} (E : jEnv p s m args meth c cX12_write "PensionHouseModel" (some .int) 6 g)  {H : Heap} {locs : List Loc} {ls : Array Slot} (hf : f_X12_write v0 v1 v2 S = some (rr, SS)) (hM : jAt g S s H locs) (hl : lv_has ls 6 [(0, .ref (g.2.2 + v0)), (1, .int v1), (2, .long v2)]) : W p l e (jRm 2 0 0) s m args below meth c H locs 0 0 (MQ below (jQi g rr SS) args s 0 0 (jA0 g)) (F0 m 0 ls []) := by
  obtain ⟨hx, hb, hml, -, hts, hown, hK, -, hstr⟩ := id E
  unfold f_X12_write at hf
  refine lv_aload_n hx hb dX12_write_0 rfl (lv_at hl 0 rfl) ?_
  obtain ⟨hq23, hf⟩ := jif hf
  refine gt_88 E hM hq23 lk_6_2 dX12_write_1 ?_
  obtain ⟨r24, hr25, hf⟩ := jb hf
  rw [hr25]
  show W p l e _ s m args below meth c H locs 0 0 _ (F0 m _ ls (.ref (g.2.2 + r24) :: _))
  refine lv_iconst (v := (0 : Int32)) hx hb dX12_write_4 (by decide) ?_
  obtain ⟨ha26, hf⟩ := jif hf
  refine jiald E hM ha26 dX12_write_5 ?_
  refine lv_topi (fun x27 ex27 => ?_)
  have hf := jlet_y ex27 hf
  refine lv_istore (lv' := [(4, .int x27), (0, .ref (g.2.2 + v0)), (1, .int v1), (2, .long v2)]) hx hb dX12_write_6 hl (by decide) rfl (fun ls hl => ?_)
  refine lv_iload_n hx hb dX12_write_8 rfl (lv_at hl 2 rfl) ?_
  refine lv_iconst (v := (-1 : Int32)) hx hb dX12_write_9 (by decide) ?_
  refine lv_icmp_ne (tgt := 22) hx hb dX12_write_10 (by decide) (fun c28 => ?_) (fun c28 => ?_)
  · have hf := jf c28 hf
    refine lv_iload hx hb dX12_write_22 (lv_at hl 0 rfl) ?_
    refine lv_i2l hx hb dX12_write_24 rfl ?_
    refine lv_ldc2 (v := (2 : Int64)) hx hb hown (hts _ lk_7_71) dX12_write_25 ?_
    refine lv_ldc2 (v := (4 : Int64)) hx hb hown (hts _ lk_7_72) dX12_write_28 ?_
    refine jbackI hM (jrunS E hM ci_X12_in (C_X12_in rfl) lk_7_36 hl.1 rfl rfl (Nat.le_of_ble_eq_true rfl) ⟨Nat.le_of_ble_eq_true rfl, Nat.le_of_ble_eq_true rfl⟩ ⟨Nat.le_refl _, Nat.le_refl _⟩ dX12_write_31) (fun H locs hM => ?_)
    refine lv_if_ne (tgt := 40) hx hb dX12_write_34 (by decide) (fun c29 => ?_) (fun c29 => ?_)
    · have hf := jf c29 hf
      exact B_X12_write_40 E  hf hM (lv_sub hl [1, 2, 3, 0] rfl)
    · have hf := jt c29 hf
      refine lv_bipush (v := (-4 : Int32)) hx hb dX12_write_37 (by decide) ?_
      exact jireti (jr2 hf) E hM dX12_write_39
  · have hf := jt c28 hf
    refine lv_iload hx hb dX12_write_13 (lv_at hl 0 rfl) ?_
    refine lv_iconst (v := (1 : Int32)) hx hb dX12_write_15 (by decide) ?_
    refine lv_icmp_le (tgt := 40) hx hb dX12_write_16 (by decide) (fun c30 => ?_) (fun c30 => ?_)
    · have hf := jt c30 hf
      exact B_X12_write_40 E  hf hM (lv_sub hl [1, 2, 3, 0] rfl)
    · have hf := jf c30 hf
      refine lv_goto (tgt := 37) hx hb dX12_write_19 (by decide) ?_
      refine lv_bipush (v := (-4 : Int32)) hx hb dX12_write_37 (by decide) ?_
      exact jireti (jr2 hf) E hM dX12_write_39
set_option maxRecDepth 100000 in
theorem C_X12_write {l : Launch} {g : jG} {a0 : Nat} {a1 : Int32} {a2 : Int64} {S : jM} {rr : Int32} {SS : jM} (hf : f_X12_write a0 a1 a2 S = some (rr, SS)) : jMet l g yX12_write cX12_write 6 (some .int) 2 0 0 [.ref (g.2.2 + a0), .int a1, .long a2] S (jQi g rr SS) := by
  refine jof (by decide +kernel) (Nat.le_of_ble_eq_true rfl) ?_
  intro p e s m below meth c E hM ls hl
  have hl : lv_has ls 6 [(0, .ref (g.2.2 + a0)),(1, .int a1),(2, .long a2)] := hl
  exact B_X12_write_0 E hf hM hl
