-- PensionHouse$Real.rounded(JIJ)J  mode P
noncomputable def f_X5_rounded_178 (t0 : Int64) (t1 : Int64) : Option Int64 := some (t0 ||| t1)
noncomputable def f_X5_rounded_156 (v0 : Int64) (v8 : Int32) (v10 : Int64) : Option Int64 := if v8 ≤ 0 then f_X5_rounded_178 v0 v10 else f_X5_rounded_178 v0 ((((v8 - (1 : Int32)).toInt64) <<< ((52 : Int32).toInt64 &&& 63)) + v10)
noncomputable def f_X5_rounded_150 (v0 : Int64) (v8 : Int32) (v10 : Int64) : Option Int64 := jlet (v10 + (1 : Int64)) (fun x2 => f_X5_rounded_156 v0 v8 x2)
noncomputable def f_X5_rounded_88 (v0 : Int64) (v5 : Int64) (v8 : Int32) (t0 : Int32) : Option Int64 := if t0 ≤ (63 : Int32) then jlet ((v5.toUInt64 >>> (t0.toInt64.toUInt64 &&& Int64.toUInt64 63)).toInt64) (fun x4 => jlet (v5 &&& (((1 : Int64) <<< (t0.toInt64 &&& 63)) - (1 : Int64))) (fun x5 => jlet ((1 : Int64) <<< ((t0 - (1 : Int32)).toInt64 &&& 63)) (fun x6 => if x6 < x5 then f_X5_rounded_150 v0 v8 x4 else if x5 = x6 then if (x4 &&& (1 : Int64)) = (0 : Int64) then f_X5_rounded_156 v0 v8 x4 else f_X5_rounded_150 v0 v8 x4 else f_X5_rounded_156 v0 v8 x4))) else some v0
noncomputable def f_X5_rounded_42 (k10 : Int64 → Int64 → Int32 → Int32 → Option Int64) (v0 : Int64) (v5 : Int64) (v7 : Int32) (v8 : Int32) : Option Int64 := jlet (v8 >>> ((1 : Int32) &&& 31)) (fun x10 => k10 v0 v5 v7 x10)
noncomputable def f_X5_rounded_10 : Nat → Int64 → Int64 → Int32 → Int32 → Option Int64
  | 0, _, _, _, _ => none
  | n + 1, v0, v5, v7, v8 => if v8 ≤ 0 then jlet (v7 + (1085 : Int32)) (fun x12 => if x12 < (2047 : Int32) then if x12 ≤ 0 then f_X5_rounded_88 v0 v5 x12 ((11 : Int32) - x12) else f_X5_rounded_88 v0 v5 x12 (10 : Int32) else some (v0 ||| (9218868437227405312 : Int64))) else if ((v5.toUInt64 >>> (((63 : Int32) - v8).toInt64.toUInt64 &&& Int64.toUInt64 63)).toInt64) = (0 : Int64) then jlet (v5 <<< (v8.toInt64 &&& 63)) (fun x16 => jlet (v7 - v8) (fun x17 => f_X5_rounded_42 (f_X5_rounded_10 n) v0 x16 x17 v8)) else f_X5_rounded_42 (f_X5_rounded_10 n) v0 v5 v7 v8
noncomputable def f_X5_rounded (v0 : Int64) (v2 : Int32) (v3 : Int64) : Option Int64 := f_X5_rounded_10 1100000 v0 v3 v2 (32 : Int32)
set_option maxRecDepth 100000 in
set_option maxHeartbeats 4000000 in
theorem B_X5_rounded_178 {p : Program} {l : Launch} {e : Env} {s : State} {m : MethodId} {args : Array Value} {below : List Frame} {meth : Method} {c : Code} {g : jG} {rr : Int64} {S : jM} {t0 : Int64} {t1 : Int64} (E : jEnv p s m args meth c cX5_rounded "PensionHouse$Real" (some .long) 16 g)  {H : Heap} {locs : List Loc} {ls : Array Slot} (hf : f_X5_rounded_178 t0 t1 = some rr) (hM : jAt g S s H locs) (hl : lv_has ls 16 []) : W p l e (jRm 1 0 0) s m args below meth c H locs 0 0 (MQ below (jQl g rr S) args s 0 0 (jA0 g)) (F0 m 178 ls [.long t1, .long t0]) := by
  obtain ⟨hx, hb, hml, -, hts, hown, hK, -, hstr⟩ := id E
  unfold f_X5_rounded_178 at hf
  refine lv_lor hx hb dX5_rounded_178 ?_
  exact jlret (jr1 hf) E hM dX5_rounded_179
set_option maxRecDepth 100000 in
set_option maxHeartbeats 4000000 in
theorem B_X5_rounded_156 {p : Program} {l : Launch} {e : Env} {s : State} {m : MethodId} {args : Array Value} {below : List Frame} {meth : Method} {c : Code} {g : jG} {rr : Int64} {S : jM} {v0 : Int64} {v8 : Int32} {v10 : Int64} (E : jEnv p s m args meth c cX5_rounded "PensionHouse$Real" (some .long) 16 g)  {H : Heap} {locs : List Loc} {ls : Array Slot} (hf : f_X5_rounded_156 v0 v8 v10 = some rr) (hM : jAt g S s H locs) (hl : lv_has ls 16 [(0, .long v0), (8, .int v8), (10, .long v10)]) : W p l e (jRm 1 0 0) s m args below meth c H locs 0 0 (MQ below (jQl g rr S) args s 0 0 (jA0 g)) (F0 m 156 ls []) := by
  obtain ⟨hx, hb, hml, -, hts, hown, hK, -, hstr⟩ := id E
  unfold f_X5_rounded_156 at hf
  refine lv_lload_n hx hb dX5_rounded_156 rfl (lv_at hl 0 rfl) ?_
  refine lv_iload hx hb dX5_rounded_157 (lv_at hl 1 rfl) ?_
  refine lv_if_le (tgt := 176) hx hb dX5_rounded_159 (by decide) (fun c1 => ?_) (fun c1 => ?_)
  · have hf := jt c1 hf
    refine lv_lload hx hb dX5_rounded_176 (lv_at hl 2 rfl) ?_
    exact B_X5_rounded_178 E  hf hM (lv_sub hl [] rfl)
  · have hf := jf c1 hf
    refine lv_iload hx hb dX5_rounded_162 (lv_at hl 1 rfl) ?_
    refine lv_iconst (v := (1 : Int32)) hx hb dX5_rounded_164 (by decide) ?_
    refine lv_isub hx hb dX5_rounded_165 ?_
    refine lv_i2l hx hb dX5_rounded_166 rfl ?_
    refine lv_bipush (v := (52 : Int32)) hx hb dX5_rounded_167 (by decide) ?_
    refine lv_lshl hx hb dX5_rounded_169 rfl ?_
    refine lv_lload hx hb dX5_rounded_170 (lv_at hl 2 rfl) ?_
    refine lv_ladd hx hb dX5_rounded_172 ?_
    refine lv_goto (tgt := 178) hx hb dX5_rounded_173 (by decide) ?_
    exact B_X5_rounded_178 E  hf hM (lv_sub hl [] rfl)
set_option maxRecDepth 100000 in
set_option maxHeartbeats 4000000 in
theorem B_X5_rounded_150 {p : Program} {l : Launch} {e : Env} {s : State} {m : MethodId} {args : Array Value} {below : List Frame} {meth : Method} {c : Code} {g : jG} {rr : Int64} {S : jM} {v0 : Int64} {v8 : Int32} {v10 : Int64} (E : jEnv p s m args meth c cX5_rounded "PensionHouse$Real" (some .long) 16 g)  {H : Heap} {locs : List Loc} {ls : Array Slot} (hf : f_X5_rounded_150 v0 v8 v10 = some rr) (hM : jAt g S s H locs) (hl : lv_has ls 16 [(0, .long v0), (8, .int v8), (10, .long v10)]) : W p l e (jRm 1 0 0) s m args below meth c H locs 0 0 (MQ below (jQl g rr S) args s 0 0 (jA0 g)) (F0 m 150 ls []) := by
  obtain ⟨hx, hb, hml, -, hts, hown, hK, -, hstr⟩ := id E
  unfold f_X5_rounded_150 at hf
  refine lv_lload hx hb dX5_rounded_150 (lv_at hl 2 rfl) ?_
  refine lv_lconst (v := (1 : Int64)) hx hb dX5_rounded_152 (by decide) ?_
  refine lv_ladd hx hb dX5_rounded_153 ?_
  refine lv_topl (fun x2 ex2 => ?_)
  have hf := jlet_y ex2 hf
  refine lv_lstore (lv' := [(10, .long x2), (0, .long v0), (8, .int v8)]) hx hb dX5_rounded_154 hl (by decide) rfl (fun ls hl => ?_)
  exact B_X5_rounded_156 E  hf hM (lv_sub hl [1, 2, 0] rfl)
set_option maxRecDepth 100000 in
set_option maxHeartbeats 4000000 in
theorem B_X5_rounded_88 {p : Program} {l : Launch} {e : Env} {s : State} {m : MethodId} {args : Array Value} {below : List Frame} {meth : Method} {c : Code} {g : jG} {rr : Int64} {S : jM} {v0 : Int64} {v5 : Int64} {v8 : Int32} {t0 : Int32} (E : jEnv p s m args meth c cX5_rounded "PensionHouse$Real" (some .long) 16 g)  {H : Heap} {locs : List Loc} {ls : Array Slot} (hf : f_X5_rounded_88 v0 v5 v8 t0 = some rr) (hM : jAt g S s H locs) (hl : lv_has ls 16 [(0, .long v0), (5, .long v5), (8, .int v8)]) : W p l e (jRm 1 0 0) s m args below meth c H locs 0 0 (MQ below (jQl g rr S) args s 0 0 (jA0 g)) (F0 m 88 ls [.int t0]) := by
  obtain ⟨hx, hb, hml, -, hts, hown, hK, -, hstr⟩ := id E
  unfold f_X5_rounded_88 at hf
  refine lv_istore (lv' := [(9, .int t0), (0, .long v0), (5, .long v5), (8, .int v8)]) hx hb dX5_rounded_88 hl (by decide) rfl (fun ls hl => ?_)
  refine lv_iload hx hb dX5_rounded_90 (lv_at hl 0 rfl) ?_
  refine lv_bipush (v := (63 : Int32)) hx hb dX5_rounded_92 (by decide) ?_
  refine lv_icmp_le (tgt := 99) hx hb dX5_rounded_94 (by decide) (fun c3 => ?_) (fun c3 => ?_)
  · have hf := jt c3 hf
    refine lv_lload hx hb dX5_rounded_99 (lv_at hl 2 rfl) ?_
    refine lv_iload hx hb dX5_rounded_101 (lv_at hl 0 rfl) ?_
    refine lv_lushr hx hb dX5_rounded_103 rfl ?_
    refine lv_topl (fun x4 ex4 => ?_)
    have hf := jlet_y ex4 hf
    refine lv_lstore (lv' := [(10, .long x4), (9, .int t0), (0, .long v0), (5, .long v5), (8, .int v8)]) hx hb dX5_rounded_104 hl (by decide) rfl (fun ls hl => ?_)
    refine lv_lload hx hb dX5_rounded_106 (lv_at hl 3 rfl) ?_
    refine lv_lconst (v := (1 : Int64)) hx hb dX5_rounded_108 (by decide) ?_
    refine lv_iload hx hb dX5_rounded_109 (lv_at hl 1 rfl) ?_
    refine lv_lshl hx hb dX5_rounded_111 rfl ?_
    refine lv_lconst (v := (1 : Int64)) hx hb dX5_rounded_112 (by decide) ?_
    refine lv_lsub hx hb dX5_rounded_113 ?_
    refine lv_land hx hb dX5_rounded_114 ?_
    refine lv_topl (fun x5 ex5 => ?_)
    have hf := jlet_y ex5 hf
    refine lv_lstore (lv' := [(12, .long x5), (10, .long x4), (9, .int t0), (0, .long v0), (5, .long v5), (8, .int v8)]) hx hb dX5_rounded_115 hl (by decide) rfl (fun ls hl => ?_)
    refine lv_lconst (v := (1 : Int64)) hx hb dX5_rounded_117 (by decide) ?_
    refine lv_iload hx hb dX5_rounded_118 (lv_at hl 2 rfl) ?_
    refine lv_iconst (v := (1 : Int32)) hx hb dX5_rounded_120 (by decide) ?_
    refine lv_isub hx hb dX5_rounded_121 ?_
    refine lv_lshl hx hb dX5_rounded_122 rfl ?_
    refine lv_topl (fun x6 ex6 => ?_)
    have hf := jlet_y ex6 hf
    refine lv_lstore (lv' := [(14, .long x6), (12, .long x5), (10, .long x4), (9, .int t0), (0, .long v0), (5, .long v5), (8, .int v8)]) hx hb dX5_rounded_123 hl (by decide) rfl (fun ls hl => ?_)
    refine lv_lload hx hb dX5_rounded_125 (lv_at hl 1 rfl) ?_
    refine lv_lload hx hb dX5_rounded_127 (lv_at hl 0 rfl) ?_
    refine jl_gt (tgt := 150) hx hb dX5_rounded_129 dX5_rounded_130 (by decide) (fun c7 => ?_) (fun c7 => ?_)
    · have hf := jt c7 hf
      exact B_X5_rounded_150 E  hf hM (lv_sub hl [4, 6, 2] rfl)
    · have hf := jf c7 hf
      refine lv_lload hx hb dX5_rounded_133 (lv_at hl 1 rfl) ?_
      refine lv_lload hx hb dX5_rounded_135 (lv_at hl 0 rfl) ?_
      refine jl_ne (tgt := 156) hx hb dX5_rounded_137 dX5_rounded_138 (by decide) (fun c8 => ?_) (fun c8 => ?_)
      · have hf := jf c8 hf
        exact B_X5_rounded_156 E  hf hM (lv_sub hl [4, 6, 2] rfl)
      · have hf := jt c8 hf
        refine lv_lload hx hb dX5_rounded_141 (lv_at hl 2 rfl) ?_
        refine lv_lconst (v := (1 : Int64)) hx hb dX5_rounded_143 (by decide) ?_
        refine lv_land hx hb dX5_rounded_144 ?_
        refine lv_lconst (v := (0 : Int64)) hx hb dX5_rounded_145 (by decide) ?_
        refine jl_eq (tgt := 156) hx hb dX5_rounded_146 dX5_rounded_147 (by decide) (fun c9 => ?_) (fun c9 => ?_)
        · have hf := jt c9 hf
          exact B_X5_rounded_156 E  hf hM (lv_sub hl [4, 6, 2] rfl)
        · have hf := jf c9 hf
          exact B_X5_rounded_150 E  hf hM (lv_sub hl [4, 6, 2] rfl)
  · have hf := jf c3 hf
    refine lv_lload_n hx hb dX5_rounded_97 rfl (lv_at hl 1 rfl) ?_
    exact jlret (jr1 hf) E hM dX5_rounded_98
set_option maxRecDepth 100000 in
set_option maxHeartbeats 4000000 in
theorem B_X5_rounded_42 {p : Program} {l : Launch} {e : Env} {s : State} {m : MethodId} {args : Array Value} {below : List Frame} {meth : Method} {c : Code} {g : jG} {rr : Int64} {S : jM} {v0 : Int64} {v5 : Int64} {v7 : Int32} {v8 : Int32} {k10 : Int64 → Int64 → Int32 → Int32 → Option Int64} (E : jEnv p s m args meth c cX5_rounded "PensionHouse$Real" (some .long) 16 g) (hk10 : ∀ (v0 : Int64) (v5 : Int64) (v7 : Int32) (v8 : Int32) (H : Heap) (locs : List Loc) (ls : Array Slot), k10 v0 v5 v7 v8 = some rr → jAt g S s H locs → lv_has ls 16 [(0, .long v0), (5, .long v5), (7, .int v7), (8, .int v8)] → W p l e (jRm 1 0 0) s m args below meth c H locs 0 0 (MQ below (jQl g rr S) args s 0 0 (jA0 g)) (F0 m 10 ls [])) {H : Heap} {locs : List Loc} {ls : Array Slot} (hf : f_X5_rounded_42 k10 v0 v5 v7 v8 = some rr) (hM : jAt g S s H locs) (hl : lv_has ls 16 [(0, .long v0), (5, .long v5), (7, .int v7), (8, .int v8)]) : W p l e (jRm 1 0 0) s m args below meth c H locs 0 0 (MQ below (jQl g rr S) args s 0 0 (jA0 g)) (F0 m 42 ls []) := by
  obtain ⟨hx, hb, hml, -, hts, hown, hK, -, hstr⟩ := id E
  unfold f_X5_rounded_42 at hf
  refine lv_iload hx hb dX5_rounded_42 (lv_at hl 3 rfl) ?_
  refine lv_iconst (v := (1 : Int32)) hx hb dX5_rounded_44 (by decide) ?_
  refine lv_ishr hx hb dX5_rounded_45 ?_
  refine lv_topi (fun x10 ex10 => ?_)
  have hf := jlet_y ex10 hf
  refine lv_istore (lv' := [(8, .int x10), (0, .long v0), (5, .long v5), (7, .int v7)]) hx hb dX5_rounded_46 hl (by decide) rfl (fun ls hl => ?_)
  refine lv_goto (tgt := 10) hx hb dX5_rounded_48 (by decide) ?_
  exact hk10 v0 v5 v7 x10 _ _ _ hf hM (lv_sub hl [1, 2, 3, 0] rfl)
set_option maxRecDepth 100000 in
set_option maxHeartbeats 4000000 in
theorem B_X5_rounded_10 {p : Program} {l : Launch} {e : Env} {s : State} {m : MethodId} {args : Array Value} {below : List Frame} {meth : Method} {c : Code} {g : jG} {rr : Int64} {S : jM} (E : jEnv p s m args meth c cX5_rounded "PensionHouse$Real" (some .long) 16 g)  : ∀ (n : Nat) (v0 : Int64) (v5 : Int64) (v7 : Int32) (v8 : Int32) (H : Heap) (locs : List Loc) (ls : Array Slot), f_X5_rounded_10 n v0 v5 v7 v8 = some rr → jAt g S s H locs → lv_has ls 16 [(0, .long v0), (5, .long v5), (7, .int v7), (8, .int v8)] → W p l e (jRm 1 0 0) s m args below meth c H locs 0 0 (MQ below (jQl g rr S) args s 0 0 (jA0 g)) (F0 m 10 ls []) := by
  obtain ⟨hx, hb, hml, -, hts, hown, hK, -, hstr⟩ := id E
  intro n
  induction n with
  | zero => intro v0 v5 v7 v8 H locs ls hf hM hl; rw [f_X5_rounded_10] at hf; cases hf
  | succ n ih =>
    intro v0 v5 v7 v8 H locs ls hf hM hl
    rw [f_X5_rounded_10] at hf
    refine lv_iload hx hb dX5_rounded_10 (lv_at hl 3 rfl) ?_
    refine lv_if_le (tgt := 51) hx hb dX5_rounded_12 (by decide) (fun c11 => ?_) (fun c11 => ?_)
    · have hf := jt c11 hf
      refine lv_iload hx hb dX5_rounded_51 (lv_at hl 2 rfl) ?_
      refine lv_sipush (v := (1085 : Int32)) hx hb dX5_rounded_53 (by decide) ?_
      refine lv_iadd hx hb dX5_rounded_56 ?_
      refine lv_topi (fun x12 ex12 => ?_)
      have hf := jlet_y ex12 hf
      refine lv_istore (lv' := [(8, .int x12), (0, .long v0), (5, .long v5), (7, .int v7)]) hx hb dX5_rounded_57 hl (by decide) rfl (fun ls hl => ?_)
      refine lv_iload hx hb dX5_rounded_59 (lv_at hl 0 rfl) ?_
      refine lv_sipush (v := (2047 : Int32)) hx hb dX5_rounded_61 (by decide) ?_
      refine lv_icmp_lt (tgt := 73) hx hb dX5_rounded_64 (by decide) (fun c13 => ?_) (fun c13 => ?_)
      · have hf := jt c13 hf
        refine lv_iload hx hb dX5_rounded_73 (lv_at hl 0 rfl) ?_
        refine lv_if_le (tgt := 83) hx hb dX5_rounded_75 (by decide) (fun c14 => ?_) (fun c14 => ?_)
        · have hf := jt c14 hf
          refine lv_bipush (v := (11 : Int32)) hx hb dX5_rounded_83 (by decide) ?_
          refine lv_iload hx hb dX5_rounded_85 (lv_at hl 0 rfl) ?_
          refine lv_isub hx hb dX5_rounded_87 ?_
          exact B_X5_rounded_88 E  hf hM (lv_sub hl [1, 2, 0] rfl)
        · have hf := jf c14 hf
          refine lv_bipush (v := (10 : Int32)) hx hb dX5_rounded_78 (by decide) ?_
          refine lv_goto (tgt := 88) hx hb dX5_rounded_80 (by decide) ?_
          exact B_X5_rounded_88 E  hf hM (lv_sub hl [1, 2, 0] rfl)
      · have hf := jf c13 hf
        refine lv_lload_n hx hb dX5_rounded_67 rfl (lv_at hl 1 rfl) ?_
        refine lv_ldc2 (v := (9218868437227405312 : Int64)) hx hb hown (hts _ lk_3_24) dX5_rounded_68 ?_
        refine lv_lor hx hb dX5_rounded_71 ?_
        exact jlret (jr1 hf) E hM dX5_rounded_72
    · have hf := jf c11 hf
      refine lv_lload hx hb dX5_rounded_15 (lv_at hl 1 rfl) ?_
      refine lv_bipush (v := (63 : Int32)) hx hb dX5_rounded_17 (by decide) ?_
      refine lv_iload hx hb dX5_rounded_19 (lv_at hl 3 rfl) ?_
      refine lv_isub hx hb dX5_rounded_21 ?_
      refine lv_lushr hx hb dX5_rounded_22 rfl ?_
      refine lv_lconst (v := (0 : Int64)) hx hb dX5_rounded_23 (by decide) ?_
      refine jl_ne (tgt := 42) hx hb dX5_rounded_24 dX5_rounded_25 (by decide) (fun c15 => ?_) (fun c15 => ?_)
      · have hf := jf c15 hf
        exact B_X5_rounded_42 E ih hf hM (lv_sub hl [0, 1, 2, 3] rfl)
      · have hf := jt c15 hf
        refine lv_lload hx hb dX5_rounded_28 (lv_at hl 1 rfl) ?_
        refine lv_iload hx hb dX5_rounded_30 (lv_at hl 3 rfl) ?_
        refine lv_lshl hx hb dX5_rounded_32 rfl ?_
        refine lv_topl (fun x16 ex16 => ?_)
        have hf := jlet_y ex16 hf
        refine lv_lstore (lv' := [(5, .long x16), (0, .long v0), (7, .int v7), (8, .int v8)]) hx hb dX5_rounded_33 hl (by decide) rfl (fun ls hl => ?_)
        refine lv_iload hx hb dX5_rounded_35 (lv_at hl 2 rfl) ?_
        refine lv_iload hx hb dX5_rounded_37 (lv_at hl 3 rfl) ?_
        refine lv_isub hx hb dX5_rounded_39 ?_
        refine lv_topi (fun x17 ex17 => ?_)
        have hf := jlet_y ex17 hf
        refine lv_istore (lv' := [(7, .int x17), (5, .long x16), (0, .long v0), (8, .int v8)]) hx hb dX5_rounded_40 hl (by decide) rfl (fun ls hl => ?_)
        exact B_X5_rounded_42 E ih hf hM (lv_sub hl [2, 1, 0, 3] rfl)
set_option maxRecDepth 100000 in
set_option maxHeartbeats 4000000 in
theorem B_X5_rounded_0 {p : Program} {l : Launch} {e : Env} {s : State} {m : MethodId} {args : Array Value} {below : List Frame} {meth : Method} {c : Code} {g : jG} {rr : Int64} {S : jM} {v0 : Int64} {v2 : Int32} {v3 : Int64} (E : jEnv p s m args meth c cX5_rounded "PensionHouse$Real" (some .long) 16 g)  {H : Heap} {locs : List Loc} {ls : Array Slot} (hf : f_X5_rounded v0 v2 v3 = some rr) (hM : jAt g S s H locs) (hl : lv_has ls 16 [(0, .long v0), (2, .int v2), (3, .long v3)]) : W p l e (jRm 1 0 0) s m args below meth c H locs 0 0 (MQ below (jQl g rr S) args s 0 0 (jA0 g)) (F0 m 0 ls []) := by
  obtain ⟨hx, hb, hml, -, hts, hown, hK, -, hstr⟩ := id E
  unfold f_X5_rounded at hf
  refine lv_lload_n hx hb dX5_rounded_0 rfl (lv_at hl 2 rfl) ?_
  refine lv_lstore (lv' := [(5, .long v3), (0, .long v0), (2, .int v2), (3, .long v3)]) hx hb dX5_rounded_1 hl (by decide) rfl (fun ls hl => ?_)
  refine lv_iload_n hx hb dX5_rounded_3 rfl (lv_at hl 2 rfl) ?_
  refine lv_istore (lv' := [(7, .int v2), (5, .long v3), (0, .long v0), (2, .int v2), (3, .long v3)]) hx hb dX5_rounded_4 hl (by decide) rfl (fun ls hl => ?_)
  refine lv_bipush (v := (32 : Int32)) hx hb dX5_rounded_6 (by decide) ?_
  refine lv_istore (lv' := [(8, .int (32 : Int32)), (7, .int v2), (5, .long v3), (0, .long v0), (2, .int v2), (3, .long v3)]) hx hb dX5_rounded_8 hl (by decide) rfl (fun ls hl => ?_)
  exact B_X5_rounded_10 E  1100000 v0 v3 v2 (32 : Int32) _ _ _ hf hM (lv_sub hl [3, 2, 1, 0] rfl)
set_option maxRecDepth 100000 in
theorem C_X5_rounded {l : Launch} {g : jG} {a0 : Int64} {a2 : Int32} {a3 : Int64} {S : jM} {rr : Int64} (hf : f_X5_rounded a0 a2 a3 = some rr) : jMet l g yX5_rounded cX5_rounded 16 (some .long) 1 0 0 [.long a0, .int a2, .long a3] S (jQl g rr S) := by
  refine jof (by decide +kernel) (Nat.le_of_ble_eq_true rfl) ?_
  intro p e s m below meth c E hM ls hl
  have hl : lv_has ls 16 [(0, .long a0),(2, .int a2),(3, .long a3)] := hl
  exact B_X5_rounded_0 E hf hM hl
-- PensionHouse$Real.nearest(J)J  mode P
noncomputable def f_X5_nearest (v0 : Int64) : Option Int64 := if v0 = (0 : Int64) then some (0 : Int64) else if v0 = (-9223372036854775808 : Int64) then some (-4332462841530417152 : Int64) else if (0 : Int64) ≤ v0 then (f_X5_rounded (0 : Int64) (0 : Int32) v0).bind (fun x4 => some x4) else (f_X5_rounded (-9223372036854775808 : Int64) (0 : Int32) (-v0)).bind (fun x6 => some x6)
set_option maxRecDepth 100000 in
set_option maxHeartbeats 4000000 in
theorem B_X5_nearest_0 {p : Program} {l : Launch} {e : Env} {s : State} {m : MethodId} {args : Array Value} {below : List Frame} {meth : Method} {c : Code} {g : jG} {rr : Int64} {S : jM} {v0 : Int64} (E : jEnv p s m args meth c cX5_nearest "PensionHouse$Real" (some .long) 2 g)  {H : Heap} {locs : List Loc} {ls : Array Slot} (hf : f_X5_nearest v0 = some rr) (hM : jAt g S s H locs) (hl : lv_has ls 2 [(0, .long v0)]) : W p l e (jRm 2 0 0) s m args below meth c H locs 0 0 (MQ below (jQl g rr S) args s 0 0 (jA0 g)) (F0 m 0 ls []) := by
  obtain ⟨hx, hb, hml, -, hts, hown, hK, -, hstr⟩ := id E
  unfold f_X5_nearest at hf
  refine lv_lload_n hx hb dX5_nearest_0 rfl (lv_at hl 0 rfl) ?_
  refine lv_lconst (v := (0 : Int64)) hx hb dX5_nearest_1 (by decide) ?_
  refine jl_ne (tgt := 8) hx hb dX5_nearest_2 dX5_nearest_3 (by decide) (fun c1 => ?_) (fun c1 => ?_)
  · have hf := jf c1 hf
    refine lv_lload_n hx hb dX5_nearest_8 rfl (lv_at hl 0 rfl) ?_
    refine lv_ldc2 (v := (-9223372036854775808 : Int64)) hx hb hown (hts _ lk_4_91) dX5_nearest_9 ?_
    refine jl_ne (tgt := 20) hx hb dX5_nearest_12 dX5_nearest_13 (by decide) (fun c2 => ?_) (fun c2 => ?_)
    · have hf := jf c2 hf
      refine lv_lload_n hx hb dX5_nearest_20 rfl (lv_at hl 0 rfl) ?_
      refine lv_lconst (v := (0 : Int64)) hx hb dX5_nearest_21 (by decide) ?_
      refine jl_ge (tgt := 38) hx hb dX5_nearest_22 dX5_nearest_23 (by decide) (fun c3 => ?_) (fun c3 => ?_)
      · have hf := jt c3 hf
        refine lv_lconst (v := (0 : Int64)) hx hb dX5_nearest_38 (by decide) ?_
        refine lv_iconst (v := (0 : Int32)) hx hb dX5_nearest_39 (by decide) ?_
        refine lv_lload_n hx hb dX5_nearest_40 rfl (lv_at hl 0 rfl) ?_
        obtain ⟨x4, hc5, hf⟩ := jb hf
        refine jbackL hM (jrunS E hM ci_X5_rounded (C_X5_rounded hc5) lk_4_93 hl.1 rfl rfl (Nat.le_of_ble_eq_true rfl) ⟨Nat.le_of_ble_eq_true rfl, Nat.le_of_ble_eq_true rfl⟩ ⟨Nat.le_refl _, Nat.le_refl _⟩ dX5_nearest_41) (fun H locs hM => ?_)
        exact jlret (jr1 hf) E hM dX5_nearest_44
      · have hf := jf c3 hf
        refine lv_ldc2 (v := (-9223372036854775808 : Int64)) hx hb hown (hts _ lk_4_91) dX5_nearest_26 ?_
        refine lv_iconst (v := (0 : Int32)) hx hb dX5_nearest_29 (by decide) ?_
        refine lv_lload_n hx hb dX5_nearest_30 rfl (lv_at hl 0 rfl) ?_
        refine lv_lneg hx hb dX5_nearest_31 ?_
        obtain ⟨x6, hc7, hf⟩ := jb hf
        refine jbackL hM (jrunS E hM ci_X5_rounded (C_X5_rounded hc7) lk_4_93 hl.1 rfl rfl (Nat.le_of_ble_eq_true rfl) ⟨Nat.le_of_ble_eq_true rfl, Nat.le_of_ble_eq_true rfl⟩ ⟨Nat.le_refl _, Nat.le_refl _⟩ dX5_nearest_32) (fun H locs hM => ?_)
        refine lv_goto (tgt := 44) hx hb dX5_nearest_35 (by decide) ?_
        exact jlret (jr1 hf) E hM dX5_nearest_44
    · have hf := jt c2 hf
      refine lv_ldc2 (v := (-4332462841530417152 : Int64)) hx hb hown (hts _ lk_4_92) dX5_nearest_16 ?_
      exact jlret (jr1 hf) E hM dX5_nearest_19
  · have hf := jt c1 hf
    refine lv_lconst (v := (0 : Int64)) hx hb dX5_nearest_6 (by decide) ?_
    exact jlret (jr1 hf) E hM dX5_nearest_7
set_option maxRecDepth 100000 in
theorem C_X5_nearest {l : Launch} {g : jG} {a0 : Int64} {S : jM} {rr : Int64} (hf : f_X5_nearest a0 = some rr) : jMet l g yX5_nearest cX5_nearest 2 (some .long) 2 0 0 [.long a0] S (jQl g rr S) := by
  refine jof (by decide +kernel) (Nat.le_of_ble_eq_true rfl) ?_
  intro p e s m below meth c E hM ls hl
  have hl : lv_has ls 2 [(0, .long a0)] := hl
  exact B_X5_nearest_0 E hf hM hl
-- PensionHouse$Real.isNot(J)Z  mode T
noncomputable def f_X5_isNot (v0 : Int64) : Int32 := if (v0 &&& (9223372036854775807 : Int64)) ≤ (9218868437227405312 : Int64) then (0 : Int32) else (1 : Int32)
set_option maxRecDepth 100000 in
set_option maxHeartbeats 4000000 in
theorem B_X5_isNot_0 {p : Program} {l : Launch} {e : Env} {s : State} {m : MethodId} {args : Array Value} {below : List Frame} {meth : Method} {c : Code} {g : jG} {rr : Int32} {S : jM} {v0 : Int64} (E : jEnv p s m args meth c cX5_isNot "PensionHouse$Real" (some .boolean) 2 g)  {H : Heap} {locs : List Loc} {ls : Array Slot} (hf : f_X5_isNot v0 = rr) (hM : jAt g S s H locs) (hl : lv_has ls 2 [(0, .long v0)]) : W p l e (jRm 1 0 0) s m args below meth c H locs 0 0 (MQ below (jQi g rr S) args s 0 0 (jA0 g)) (F0 m 0 ls []) := by
  obtain ⟨hx, hb, hml, -, hts, hown, hK, -, hstr⟩ := id E
  unfold f_X5_isNot at hf
  refine lv_lload_n hx hb dX5_isNot_0 rfl (lv_at hl 0 rfl) ?_
  refine lv_ldc2 (v := (9223372036854775807 : Int64)) hx hb hown (hts _ lk_3_23) dX5_isNot_1 ?_
  refine lv_land hx hb dX5_isNot_4 ?_
  refine lv_ldc2 (v := (9218868437227405312 : Int64)) hx hb hown (hts _ lk_3_24) dX5_isNot_5 ?_
  refine jl_le (tgt := 16) hx hb dX5_isNot_8 dX5_isNot_9 (by decide) (fun c1 => ?_) (fun c1 => ?_)
  · have hf := jt c1 hf
    refine lv_iconst (v := (0 : Int32)) hx hb dX5_isNot_16 (by decide) ?_
    exact jiretz (jr0 hf) E hM (by decide) dX5_isNot_17
  · have hf := jf c1 hf
    refine lv_iconst (v := (1 : Int32)) hx hb dX5_isNot_12 (by decide) ?_
    refine lv_goto (tgt := 17) hx hb dX5_isNot_13 (by decide) ?_
    exact jiretz (jr0 hf) E hM (by decide) dX5_isNot_17
set_option maxRecDepth 100000 in
theorem C_X5_isNot {l : Launch} {g : jG} {a0 : Int64} {S : jM} {rr : Int32} (hf : f_X5_isNot a0 = rr) : jMet l g yX5_isNot cX5_isNot 2 (some .boolean) 1 0 0 [.long a0] S (jQi g rr S) := by
  refine jof (by decide +kernel) (Nat.le_of_ble_eq_true rfl) ?_
  intro p e s m below meth c E hM ls hl
  have hl : lv_has ls 2 [(0, .long a0)] := hl
  exact B_X5_isNot_0 E hf hM hl
-- PensionHouse$Real.exponent(J)I  mode P
noncomputable def f_X5_exponent_31 : Nat → Int32 → Int64 → Option Int32
  | 0, _, _ => none
  | n + 1, v3, v4 => if v3 ≤ (-1126 : Int32) then some v3 else if (4503599627370496 : Int64) ≤ v4 then some v3 else jlet (v3 + (-1 : Int32)) (fun x3 => jlet (v4 <<< ((1 : Int32).toInt64 &&& 63)) (fun x4 => (f_X5_exponent_31 n) x3 x4))
noncomputable def f_X5_exponent (v0 : Int64) : Option Int32 := jlet ((((v0 &&& (9218868437227405312 : Int64)).toUInt64 >>> ((52 : Int32).toInt64.toUInt64 &&& Int64.toUInt64 63)).toInt64).toInt32) (fun x5 => if x5 = 0 then jlet (v0 &&& (4503599627370495 : Int64)) (fun x7 => f_X5_exponent_31 1100000 (-1074 : Int32) x7) else some (x5 - (1075 : Int32)))
set_option maxRecDepth 100000 in
set_option maxHeartbeats 4000000 in
theorem B_X5_exponent_31 {p : Program} {l : Launch} {e : Env} {s : State} {m : MethodId} {args : Array Value} {below : List Frame} {meth : Method} {c : Code} {g : jG} {rr : Int32} {S : jM} (E : jEnv p s m args meth c cX5_exponent "PensionHouse$Real" (some .int) 6 g)  : ∀ (n : Nat) (v3 : Int32) (v4 : Int64) (H : Heap) (locs : List Loc) (ls : Array Slot), f_X5_exponent_31 n v3 v4 = some rr → jAt g S s H locs → lv_has ls 6 [(3, .int v3), (4, .long v4)] → W p l e (jRm 1 0 0) s m args below meth c H locs 0 0 (MQ below (jQi g rr S) args s 0 0 (jA0 g)) (F0 m 31 ls []) := by
  obtain ⟨hx, hb, hml, -, hts, hown, hK, -, hstr⟩ := id E
  intro n
  induction n with
  | zero => intro v3 v4 H locs ls hf hM hl; rw [f_X5_exponent_31] at hf; cases hf
  | succ n ih =>
    intro v3 v4 H locs ls hf hM hl
    rw [f_X5_exponent_31] at hf
    refine lv_iload_n hx hb dX5_exponent_31 rfl (lv_at hl 0 rfl) ?_
    refine lv_sipush (v := (-1126 : Int32)) hx hb dX5_exponent_32 (by decide) ?_
    refine lv_icmp_le (tgt := 59) hx hb dX5_exponent_35 (by decide) (fun c1 => ?_) (fun c1 => ?_)
    · have hf := jt c1 hf
      refine lv_iload_n hx hb dX5_exponent_59 rfl (lv_at hl 0 rfl) ?_
      exact jireti (jr1 hf) E hM dX5_exponent_60
    · have hf := jf c1 hf
      refine lv_lload hx hb dX5_exponent_38 (lv_at hl 1 rfl) ?_
      refine lv_ldc2 (v := (4503599627370496 : Int64)) hx hb hown (hts _ lk_4_105) dX5_exponent_40 ?_
      refine jl_ge (tgt := 59) hx hb dX5_exponent_43 dX5_exponent_44 (by decide) (fun c2 => ?_) (fun c2 => ?_)
      · have hf := jt c2 hf
        refine lv_iload_n hx hb dX5_exponent_59 rfl (lv_at hl 0 rfl) ?_
        exact jireti (jr1 hf) E hM dX5_exponent_60
      · have hf := jf c2 hf
        obtain ⟨x3, ex3⟩ : ∃ z, z = v3 + (-1 : Int32) := ⟨_, rfl⟩
        have hf := jlet_y ex3 hf
        refine lv_iinc (v := x3) (lv' := [(3, .int x3), (4, .long v4)]) hx hb dX5_exponent_47 hl (k := 0) rfl (by rw [ex3]; rfl) (by decide) rfl (fun ls hl => ?_)
        refine lv_lload hx hb dX5_exponent_50 (lv_at hl 1 rfl) ?_
        refine lv_iconst (v := (1 : Int32)) hx hb dX5_exponent_52 (by decide) ?_
        refine lv_lshl hx hb dX5_exponent_53 rfl ?_
        refine lv_topl (fun x4 ex4 => ?_)
        have hf := jlet_y ex4 hf
        refine lv_lstore (lv' := [(4, .long x4), (3, .int x3)]) hx hb dX5_exponent_54 hl (by decide) rfl (fun ls hl => ?_)
        refine lv_goto (tgt := 31) hx hb dX5_exponent_56 (by decide) ?_
        exact ih x3 x4 _ _ _ hf hM (lv_sub hl [1, 0] rfl)
set_option maxRecDepth 100000 in
set_option maxHeartbeats 4000000 in
theorem B_X5_exponent_0 {p : Program} {l : Launch} {e : Env} {s : State} {m : MethodId} {args : Array Value} {below : List Frame} {meth : Method} {c : Code} {g : jG} {rr : Int32} {S : jM} {v0 : Int64} (E : jEnv p s m args meth c cX5_exponent "PensionHouse$Real" (some .int) 6 g)  {H : Heap} {locs : List Loc} {ls : Array Slot} (hf : f_X5_exponent v0 = some rr) (hM : jAt g S s H locs) (hl : lv_has ls 6 [(0, .long v0)]) : W p l e (jRm 1 0 0) s m args below meth c H locs 0 0 (MQ below (jQi g rr S) args s 0 0 (jA0 g)) (F0 m 0 ls []) := by
  obtain ⟨hx, hb, hml, -, hts, hown, hK, -, hstr⟩ := id E
  unfold f_X5_exponent at hf
  refine lv_lload_n hx hb dX5_exponent_0 rfl (lv_at hl 0 rfl) ?_
  refine lv_ldc2 (v := (9218868437227405312 : Int64)) hx hb hown (hts _ lk_3_24) dX5_exponent_1 ?_
  refine lv_land hx hb dX5_exponent_4 ?_
  refine lv_bipush (v := (52 : Int32)) hx hb dX5_exponent_5 (by decide) ?_
  refine lv_lushr hx hb dX5_exponent_7 rfl ?_
  refine lv_l2i hx hb dX5_exponent_8 rfl ?_
  refine lv_topi (fun x5 ex5 => ?_)
  have hf := jlet_y ex5 hf
  refine lv_istore_n (lv' := [(2, .int x5), (0, .long v0)]) hx hb dX5_exponent_9 rfl hl (by decide) rfl (fun ls hl => ?_)
  refine lv_iload_n hx hb dX5_exponent_10 rfl (lv_at hl 0 rfl) ?_
  refine lv_if_eq (tgt := 20) hx hb dX5_exponent_11 (by decide) (fun c6 => ?_) (fun c6 => ?_)
  · have hf := jt c6 hf
    refine lv_sipush (v := (-1074 : Int32)) hx hb dX5_exponent_20 (by decide) ?_
    refine lv_istore_n (lv' := [(3, .int (-1074 : Int32)), (2, .int x5), (0, .long v0)]) hx hb dX5_exponent_23 rfl hl (by decide) rfl (fun ls hl => ?_)
    refine lv_lload_n hx hb dX5_exponent_24 rfl (lv_at hl 2 rfl) ?_
    refine lv_ldc2 (v := (4503599627370495 : Int64)) hx hb hown (hts _ lk_4_104) dX5_exponent_25 ?_
    refine lv_land hx hb dX5_exponent_28 ?_
    refine lv_topl (fun x7 ex7 => ?_)
    have hf := jlet_y ex7 hf
    refine lv_lstore (lv' := [(4, .long x7), (3, .int (-1074 : Int32)), (2, .int x5), (0, .long v0)]) hx hb dX5_exponent_29 hl (by decide) rfl (fun ls hl => ?_)
    exact B_X5_exponent_31 E  1100000 (-1074 : Int32) x7 _ _ _ hf hM (lv_sub hl [1, 0] rfl)
  · have hf := jf c6 hf
    refine lv_iload_n hx hb dX5_exponent_14 rfl (lv_at hl 0 rfl) ?_
    refine lv_sipush (v := (1075 : Int32)) hx hb dX5_exponent_15 (by decide) ?_
    refine lv_isub hx hb dX5_exponent_18 ?_
    exact jireti (jr1 hf) E hM dX5_exponent_19
set_option maxRecDepth 100000 in
theorem C_X5_exponent {l : Launch} {g : jG} {a0 : Int64} {S : jM} {rr : Int32} (hf : f_X5_exponent a0 = some rr) : jMet l g yX5_exponent cX5_exponent 6 (some .int) 1 0 0 [.long a0] S (jQi g rr S) := by
  refine jof (by decide +kernel) (Nat.le_of_ble_eq_true rfl) ?_
  intro p e s m below meth c E hM ls hl
  have hl : lv_has ls 6 [(0, .long a0)] := hl
  exact B_X5_exponent_0 E hf hM hl
-- PensionHouse$Real.mantissa(J)J  mode P
noncomputable def f_X5_mantissa_29 : Nat → Int64 → Int32 → Option Int64
  | 0, _, _ => none
  | n + 1, v2, v4 => if (52 : Int32) ≤ v4 then some v2 else if (4503599627370496 : Int64) ≤ v2 then some v2 else jlet (v2 <<< ((1 : Int32).toInt64 &&& 63)) (fun x3 => jlet (v4 + (1 : Int32)) (fun x4 => (f_X5_mantissa_29 n) x3 x4))
noncomputable def f_X5_mantissa (v0 : Int64) : Option Int64 := if (v0 &&& (9218868437227405312 : Int64)) = (0 : Int64) then jlet (v0 &&& (4503599627370495 : Int64)) (fun x6 => f_X5_mantissa_29 1100000 x6 (0 : Int32)) else some ((v0 &&& (4503599627370495 : Int64)) ||| (4503599627370496 : Int64))
set_option maxRecDepth 100000 in
set_option maxHeartbeats 4000000 in
theorem B_X5_mantissa_29 {p : Program} {l : Launch} {e : Env} {s : State} {m : MethodId} {args : Array Value} {below : List Frame} {meth : Method} {c : Code} {g : jG} {rr : Int64} {S : jM} (E : jEnv p s m args meth c cX5_mantissa "PensionHouse$Real" (some .long) 5 g)  : ∀ (n : Nat) (v2 : Int64) (v4 : Int32) (H : Heap) (locs : List Loc) (ls : Array Slot), f_X5_mantissa_29 n v2 v4 = some rr → jAt g S s H locs → lv_has ls 5 [(2, .long v2), (4, .int v4)] → W p l e (jRm 1 0 0) s m args below meth c H locs 0 0 (MQ below (jQl g rr S) args s 0 0 (jA0 g)) (F0 m 29 ls []) := by
  obtain ⟨hx, hb, hml, -, hts, hown, hK, -, hstr⟩ := id E
  intro n
  induction n with
  | zero => intro v2 v4 H locs ls hf hM hl; rw [f_X5_mantissa_29] at hf; cases hf
  | succ n ih =>
    intro v2 v4 H locs ls hf hM hl
    rw [f_X5_mantissa_29] at hf
    refine lv_iload hx hb dX5_mantissa_29 (lv_at hl 1 rfl) ?_
    refine lv_bipush (v := (52 : Int32)) hx hb dX5_mantissa_31 (by decide) ?_
    refine lv_icmp_ge (tgt := 54) hx hb dX5_mantissa_33 (by decide) (fun c1 => ?_) (fun c1 => ?_)
    · have hf := jt c1 hf
      refine lv_lload_n hx hb dX5_mantissa_54 rfl (lv_at hl 0 rfl) ?_
      exact jlret (jr1 hf) E hM dX5_mantissa_55
    · have hf := jf c1 hf
      refine lv_lload_n hx hb dX5_mantissa_36 rfl (lv_at hl 0 rfl) ?_
      refine lv_ldc2 (v := (4503599627370496 : Int64)) hx hb hown (hts _ lk_4_105) dX5_mantissa_37 ?_
      refine jl_ge (tgt := 54) hx hb dX5_mantissa_40 dX5_mantissa_41 (by decide) (fun c2 => ?_) (fun c2 => ?_)
      · have hf := jt c2 hf
        refine lv_lload_n hx hb dX5_mantissa_54 rfl (lv_at hl 0 rfl) ?_
        exact jlret (jr1 hf) E hM dX5_mantissa_55
      · have hf := jf c2 hf
        refine lv_lload_n hx hb dX5_mantissa_44 rfl (lv_at hl 0 rfl) ?_
        refine lv_iconst (v := (1 : Int32)) hx hb dX5_mantissa_45 (by decide) ?_
        refine lv_lshl hx hb dX5_mantissa_46 rfl ?_
        refine lv_topl (fun x3 ex3 => ?_)
        have hf := jlet_y ex3 hf
        refine lv_lstore_n (lv' := [(2, .long x3), (4, .int v4)]) hx hb dX5_mantissa_47 rfl hl (by decide) rfl (fun ls hl => ?_)
        obtain ⟨x4, ex4⟩ : ∃ z, z = v4 + (1 : Int32) := ⟨_, rfl⟩
        have hf := jlet_y ex4 hf
        refine lv_iinc (v := x4) (lv' := [(4, .int x4), (2, .long x3)]) hx hb dX5_mantissa_48 hl (k := 1) rfl (by rw [ex4]; rfl) (by decide) rfl (fun ls hl => ?_)
        refine lv_goto (tgt := 29) hx hb dX5_mantissa_51 (by decide) ?_
        exact ih x3 x4 _ _ _ hf hM (lv_sub hl [1, 0] rfl)
set_option maxRecDepth 100000 in
set_option maxHeartbeats 4000000 in
theorem B_X5_mantissa_0 {p : Program} {l : Launch} {e : Env} {s : State} {m : MethodId} {args : Array Value} {below : List Frame} {meth : Method} {c : Code} {g : jG} {rr : Int64} {S : jM} {v0 : Int64} (E : jEnv p s m args meth c cX5_mantissa "PensionHouse$Real" (some .long) 5 g)  {H : Heap} {locs : List Loc} {ls : Array Slot} (hf : f_X5_mantissa v0 = some rr) (hM : jAt g S s H locs) (hl : lv_has ls 5 [(0, .long v0)]) : W p l e (jRm 1 0 0) s m args below meth c H locs 0 0 (MQ below (jQl g rr S) args s 0 0 (jA0 g)) (F0 m 0 ls []) := by
  obtain ⟨hx, hb, hml, -, hts, hown, hK, -, hstr⟩ := id E
  unfold f_X5_mantissa at hf
  refine lv_lload_n hx hb dX5_mantissa_0 rfl (lv_at hl 0 rfl) ?_
  refine lv_ldc2 (v := (9218868437227405312 : Int64)) hx hb hown (hts _ lk_3_24) dX5_mantissa_1 ?_
  refine lv_land hx hb dX5_mantissa_4 ?_
  refine lv_lconst (v := (0 : Int64)) hx hb dX5_mantissa_5 (by decide) ?_
  refine jl_eq (tgt := 20) hx hb dX5_mantissa_6 dX5_mantissa_7 (by decide) (fun c5 => ?_) (fun c5 => ?_)
  · have hf := jt c5 hf
    refine lv_lload_n hx hb dX5_mantissa_20 rfl (lv_at hl 0 rfl) ?_
    refine lv_ldc2 (v := (4503599627370495 : Int64)) hx hb hown (hts _ lk_4_104) dX5_mantissa_21 ?_
    refine lv_land hx hb dX5_mantissa_24 ?_
    refine lv_topl (fun x6 ex6 => ?_)
    have hf := jlet_y ex6 hf
    refine lv_lstore_n (lv' := [(2, .long x6), (0, .long v0)]) hx hb dX5_mantissa_25 rfl hl (by decide) rfl (fun ls hl => ?_)
    refine lv_iconst (v := (0 : Int32)) hx hb dX5_mantissa_26 (by decide) ?_
    refine lv_istore (lv' := [(4, .int (0 : Int32)), (2, .long x6), (0, .long v0)]) hx hb dX5_mantissa_27 hl (by decide) rfl (fun ls hl => ?_)
    exact B_X5_mantissa_29 E  1100000 x6 (0 : Int32) _ _ _ hf hM (lv_sub hl [1, 0] rfl)
  · have hf := jf c5 hf
    refine lv_lload_n hx hb dX5_mantissa_10 rfl (lv_at hl 0 rfl) ?_
    refine lv_ldc2 (v := (4503599627370495 : Int64)) hx hb hown (hts _ lk_4_104) dX5_mantissa_11 ?_
    refine lv_land hx hb dX5_mantissa_14 ?_
    refine lv_ldc2 (v := (4503599627370496 : Int64)) hx hb hown (hts _ lk_4_105) dX5_mantissa_15 ?_
    refine lv_lor hx hb dX5_mantissa_18 ?_
    exact jlret (jr1 hf) E hM dX5_mantissa_19
set_option maxRecDepth 100000 in
theorem C_X5_mantissa {l : Launch} {g : jG} {a0 : Int64} {S : jM} {rr : Int64} (hf : f_X5_mantissa a0 = some rr) : jMet l g yX5_mantissa cX5_mantissa 5 (some .long) 1 0 0 [.long a0] S (jQl g rr S) := by
  refine jof (by decide +kernel) (Nat.le_of_ble_eq_true rfl) ?_
  intro p e s m below meth c E hM ls hl
  have hl : lv_has ls 5 [(0, .long a0)] := hl
  exact B_X5_mantissa_0 E hf hM hl
-- PensionHouse$Real.plus(JJ)J  mode P
noncomputable def f_X5_plus_250 (v5 : Int64) (t0 : Int64) : Option Int64 := if t0 = (0 : Int64) then some (0 : Int64) else (f_X5_exponent v5).bind (fun x2 => (f_X5_rounded (v5 &&& (-9223372036854775808 : Int64)) (x2 - (9 : Int32)) t0).bind (fun x4 => some x4))
noncomputable def f_X5_plus_232 (v5 : Int64) (v9 : Int32) (v11 : Int64) (v13 : Int64) : Option Int64 := if v9 = 0 then f_X5_plus_250 v5 (v11 - v13) else f_X5_plus_250 v5 (v11 + v13)
noncomputable def f_X5_plus_228 (v5 : Int64) (v9 : Int32) (v11 : Int64) (t0 : Int64) (t1 : Int32) : Option Int64 := jlet (t0 ||| (t1.toInt64)) (fun x7 => f_X5_plus_232 v5 v9 v11 x7)
noncomputable def f_X5_plus_78 (v5 : Int64) (v7 : Int64) (t0 : Int32) : Option Int64 := if (v5 &&& (9223372036854775807 : Int64)) = (9218868437227405312 : Int64) then if (v7 &&& (9223372036854775807 : Int64)) = (9218868437227405312 : Int64) then if t0 = 0 then some (9221120237041090560 : Int64) else some v5 else some v5 else if (v7 &&& (9223372036854775807 : Int64)) = (0 : Int64) then if (v5 &&& (9223372036854775807 : Int64)) = (0 : Int64) then if t0 = 0 then some (0 : Int64) else some v5 else some v5 else (f_X5_exponent v5).bind (fun x10 => (f_X5_exponent v7).bind (fun x12 => jlet (x10 - x12) (fun x14 => (f_X5_mantissa v5).bind (fun x15 => jlet (x15 <<< ((9 : Int32).toInt64 &&& 63)) (fun x17 => (f_X5_mantissa v7).bind (fun x18 => jlet (x18 <<< ((9 : Int32).toInt64 &&& 63)) (fun x20 => if x14 ≤ (62 : Int32) then jlet (x20 &&& (((1 : Int64) <<< (x14.toInt64 &&& 63)) - (1 : Int64))) (fun x22 => if x22 = (0 : Int64) then f_X5_plus_228 v5 t0 x17 ((x20.toUInt64 >>> (x14.toInt64.toUInt64 &&& Int64.toUInt64 63)).toInt64) (0 : Int32) else f_X5_plus_228 v5 t0 x17 ((x20.toUInt64 >>> (x14.toInt64.toUInt64 &&& Int64.toUInt64 63)).toInt64) (1 : Int32)) else f_X5_plus_232 v5 t0 x17 (1 : Int64))))))))
noncomputable def f_X5_plus_61 (v5 : Int64) (t0 : Int64) : Option Int64 := if (v5 ^^^ t0) < (0 : Int64) then f_X5_plus_78 v5 t0 (0 : Int32) else f_X5_plus_78 v5 t0 (1 : Int32)
noncomputable def f_X5_plus_49 (v0 : Int64) (v2 : Int64) (v4 : Int32) (t0 : Int64) : Option Int64 := if v4 = 0 then f_X5_plus_61 t0 v0 else f_X5_plus_61 t0 v2
noncomputable def f_X5_plus_37 (v0 : Int64) (v2 : Int64) (t0 : Int32) : Option Int64 := if t0 = 0 then f_X5_plus_49 v0 v2 t0 v2 else f_X5_plus_49 v0 v2 t0 v0
noncomputable def f_X5_plus (v0 : Int64) (v2 : Int64) : Option Int64 := if (f_X5_isNot v0) = 0 then if (f_X5_isNot v2) = 0 then if (v0 &&& (9223372036854775807 : Int64)) < (v2 &&& (9223372036854775807 : Int64)) then f_X5_plus_37 v0 v2 (0 : Int32) else f_X5_plus_37 v0 v2 (1 : Int32) else some (9221120237041090560 : Int64) else some (9221120237041090560 : Int64)
set_option maxRecDepth 100000 in
set_option maxHeartbeats 4000000 in
theorem B_X5_plus_250 {p : Program} {l : Launch} {e : Env} {s : State} {m : MethodId} {args : Array Value} {below : List Frame} {meth : Method} {c : Code} {g : jG} {rr : Int64} {S : jM} {v5 : Int64} {t0 : Int64} (E : jEnv p s m args meth c cX5_plus "PensionHouse$Real" (some .long) 17 g)  {H : Heap} {locs : List Loc} {ls : Array Slot} (hf : f_X5_plus_250 v5 t0 = some rr) (hM : jAt g S s H locs) (hl : lv_has ls 17 [(5, .long v5)]) : W p l e (jRm 2 0 0) s m args below meth c H locs 0 0 (MQ below (jQl g rr S) args s 0 0 (jA0 g)) (F0 m 250 ls [.long t0]) := by
  obtain ⟨hx, hb, hml, -, hts, hown, hK, -, hstr⟩ := id E
  unfold f_X5_plus_250 at hf
  refine lv_lstore (lv' := [(15, .long t0), (5, .long v5)]) hx hb dX5_plus_250 hl (by decide) rfl (fun ls hl => ?_)
  refine lv_lload hx hb dX5_plus_252 (lv_at hl 0 rfl) ?_
  refine lv_lconst (v := (0 : Int64)) hx hb dX5_plus_254 (by decide) ?_
  refine jl_ne (tgt := 263) hx hb dX5_plus_255 dX5_plus_256 (by decide) (fun c1 => ?_) (fun c1 => ?_)
  · have hf := jf c1 hf
    refine lv_lload hx hb dX5_plus_263 (lv_at hl 1 rfl) ?_
    refine lv_ldc2 (v := (-9223372036854775808 : Int64)) hx hb hown (hts _ lk_4_91) dX5_plus_265 ?_
    refine lv_land hx hb dX5_plus_268 ?_
    refine lv_lload hx hb dX5_plus_269 (lv_at hl 1 rfl) ?_
    obtain ⟨x2, hc3, hf⟩ := jb hf
    refine jbackI hM (jrunS E hM ci_X5_exponent (C_X5_exponent hc3) lk_4_106 hl.1 rfl rfl (Nat.le_of_ble_eq_true rfl) ⟨Nat.le_of_ble_eq_true rfl, Nat.le_of_ble_eq_true rfl⟩ ⟨Nat.le_refl _, Nat.le_refl _⟩ dX5_plus_271) (fun H locs hM => ?_)
    refine lv_bipush (v := (9 : Int32)) hx hb dX5_plus_274 (by decide) ?_
    refine lv_isub hx hb dX5_plus_276 ?_
    refine lv_lload hx hb dX5_plus_277 (lv_at hl 0 rfl) ?_
    obtain ⟨x4, hc5, hf⟩ := jb hf
    refine jbackL hM (jrunS E hM ci_X5_rounded (C_X5_rounded hc5) lk_4_93 hl.1 rfl rfl (Nat.le_of_ble_eq_true rfl) ⟨Nat.le_of_ble_eq_true rfl, Nat.le_of_ble_eq_true rfl⟩ ⟨Nat.le_refl _, Nat.le_refl _⟩ dX5_plus_279) (fun H locs hM => ?_)
    exact jlret (jr1 hf) E hM dX5_plus_282
  · have hf := jt c1 hf
    refine lv_lconst (v := (0 : Int64)) hx hb dX5_plus_259 (by decide) ?_
    refine lv_goto (tgt := 282) hx hb dX5_plus_260 (by decide) ?_
    exact jlret (jr1 hf) E hM dX5_plus_282
set_option maxRecDepth 100000 in
set_option maxHeartbeats 4000000 in
theorem B_X5_plus_232 {p : Program} {l : Launch} {e : Env} {s : State} {m : MethodId} {args : Array Value} {below : List Frame} {meth : Method} {c : Code} {g : jG} {rr : Int64} {S : jM} {v5 : Int64} {v9 : Int32} {v11 : Int64} {v13 : Int64} (E : jEnv p s m args meth c cX5_plus "PensionHouse$Real" (some .long) 17 g)  {H : Heap} {locs : List Loc} {ls : Array Slot} (hf : f_X5_plus_232 v5 v9 v11 v13 = some rr) (hM : jAt g S s H locs) (hl : lv_has ls 17 [(5, .long v5), (9, .int v9), (11, .long v11), (13, .long v13)]) : W p l e (jRm 2 0 0) s m args below meth c H locs 0 0 (MQ below (jQl g rr S) args s 0 0 (jA0 g)) (F0 m 232 ls []) := by
  obtain ⟨hx, hb, hml, -, hts, hown, hK, -, hstr⟩ := id E
  unfold f_X5_plus_232 at hf
  refine lv_iload hx hb dX5_plus_232 (lv_at hl 1 rfl) ?_
  refine lv_if_eq (tgt := 245) hx hb dX5_plus_234 (by decide) (fun c6 => ?_) (fun c6 => ?_)
  · have hf := jt c6 hf
    refine lv_lload hx hb dX5_plus_245 (lv_at hl 2 rfl) ?_
    refine lv_lload hx hb dX5_plus_247 (lv_at hl 3 rfl) ?_
    refine lv_lsub hx hb dX5_plus_249 ?_
    exact B_X5_plus_250 E  hf hM (lv_sub hl [0] rfl)
  · have hf := jf c6 hf
    refine lv_lload hx hb dX5_plus_237 (lv_at hl 2 rfl) ?_
    refine lv_lload hx hb dX5_plus_239 (lv_at hl 3 rfl) ?_
    refine lv_ladd hx hb dX5_plus_241 ?_
    refine lv_goto (tgt := 250) hx hb dX5_plus_242 (by decide) ?_
    exact B_X5_plus_250 E  hf hM (lv_sub hl [0] rfl)
set_option maxRecDepth 100000 in
set_option maxHeartbeats 4000000 in
theorem B_X5_plus_228 {p : Program} {l : Launch} {e : Env} {s : State} {m : MethodId} {args : Array Value} {below : List Frame} {meth : Method} {c : Code} {g : jG} {rr : Int64} {S : jM} {v5 : Int64} {v9 : Int32} {v11 : Int64} {t0 : Int64} {t1 : Int32} (E : jEnv p s m args meth c cX5_plus "PensionHouse$Real" (some .long) 17 g)  {H : Heap} {locs : List Loc} {ls : Array Slot} (hf : f_X5_plus_228 v5 v9 v11 t0 t1 = some rr) (hM : jAt g S s H locs) (hl : lv_has ls 17 [(5, .long v5), (9, .int v9), (11, .long v11)]) : W p l e (jRm 2 0 0) s m args below meth c H locs 0 0 (MQ below (jQl g rr S) args s 0 0 (jA0 g)) (F0 m 228 ls [.int t1, .long t0]) := by
  obtain ⟨hx, hb, hml, -, hts, hown, hK, -, hstr⟩ := id E
  unfold f_X5_plus_228 at hf
  refine lv_i2l hx hb dX5_plus_228 rfl ?_
  refine lv_lor hx hb dX5_plus_229 ?_
  refine lv_topl (fun x7 ex7 => ?_)
  have hf := jlet_y ex7 hf
  refine lv_lstore (lv' := [(13, .long x7), (5, .long v5), (9, .int v9), (11, .long v11)]) hx hb dX5_plus_230 hl (by decide) rfl (fun ls hl => ?_)
  exact B_X5_plus_232 E  hf hM (lv_sub hl [1, 2, 3, 0] rfl)
set_option maxRecDepth 100000 in
set_option maxHeartbeats 4000000 in
theorem B_X5_plus_78 {p : Program} {l : Launch} {e : Env} {s : State} {m : MethodId} {args : Array Value} {below : List Frame} {meth : Method} {c : Code} {g : jG} {rr : Int64} {S : jM} {v5 : Int64} {v7 : Int64} {t0 : Int32} (E : jEnv p s m args meth c cX5_plus "PensionHouse$Real" (some .long) 17 g)  {H : Heap} {locs : List Loc} {ls : Array Slot} (hf : f_X5_plus_78 v5 v7 t0 = some rr) (hM : jAt g S s H locs) (hl : lv_has ls 17 [(5, .long v5), (7, .long v7)]) : W p l e (jRm 2 0 0) s m args below meth c H locs 0 0 (MQ below (jQl g rr S) args s 0 0 (jA0 g)) (F0 m 78 ls [.int t0]) := by
  obtain ⟨hx, hb, hml, -, hts, hown, hK, -, hstr⟩ := id E
  unfold f_X5_plus_78 at hf
  refine lv_istore (lv' := [(9, .int t0), (5, .long v5), (7, .long v7)]) hx hb dX5_plus_78 hl (by decide) rfl (fun ls hl => ?_)
  refine lv_lload hx hb dX5_plus_80 (lv_at hl 1 rfl) ?_
  refine lv_ldc2 (v := (9223372036854775807 : Int64)) hx hb hown (hts _ lk_3_23) dX5_plus_82 ?_
  refine lv_land hx hb dX5_plus_85 ?_
  refine lv_ldc2 (v := (9218868437227405312 : Int64)) hx hb hown (hts _ lk_3_24) dX5_plus_86 ?_
  refine jl_ne (tgt := 120) hx hb dX5_plus_89 dX5_plus_90 (by decide) (fun c8 => ?_) (fun c8 => ?_)
  · have hf := jf c8 hf
    refine lv_lload hx hb dX5_plus_120 (lv_at hl 2 rfl) ?_
    refine lv_ldc2 (v := (9223372036854775807 : Int64)) hx hb hown (hts _ lk_3_23) dX5_plus_122 ?_
    refine lv_land hx hb dX5_plus_125 ?_
    refine lv_lconst (v := (0 : Int64)) hx hb dX5_plus_126 (by decide) ?_
    refine jl_ne (tgt := 154) hx hb dX5_plus_127 dX5_plus_128 (by decide) (fun c9 => ?_) (fun c9 => ?_)
    · have hf := jf c9 hf
      refine lv_lload hx hb dX5_plus_154 (lv_at hl 1 rfl) ?_
      obtain ⟨x10, hc11, hf⟩ := jb hf
      refine jbackI hM (jrunS E hM ci_X5_exponent (C_X5_exponent hc11) lk_4_106 hl.1 rfl rfl (Nat.le_of_ble_eq_true rfl) ⟨Nat.le_of_ble_eq_true rfl, Nat.le_of_ble_eq_true rfl⟩ ⟨Nat.le_refl _, Nat.le_refl _⟩ dX5_plus_156) (fun H locs hM => ?_)
      refine lv_lload hx hb dX5_plus_159 (lv_at hl 2 rfl) ?_
      obtain ⟨x12, hc13, hf⟩ := jb hf
      refine jbackI hM (jrunS E hM ci_X5_exponent (C_X5_exponent hc13) lk_4_106 hl.1 rfl rfl (Nat.le_of_ble_eq_true rfl) ⟨Nat.le_of_ble_eq_true rfl, Nat.le_of_ble_eq_true rfl⟩ ⟨Nat.le_refl _, Nat.le_refl _⟩ dX5_plus_161) (fun H locs hM => ?_)
      refine lv_isub hx hb dX5_plus_164 ?_
      refine lv_topi (fun x14 ex14 => ?_)
      have hf := jlet_y ex14 hf
      refine lv_istore (lv' := [(10, .int x14), (9, .int t0), (5, .long v5), (7, .long v7)]) hx hb dX5_plus_165 hl (by decide) rfl (fun ls hl => ?_)
      refine lv_lload hx hb dX5_plus_167 (lv_at hl 2 rfl) ?_
      obtain ⟨x15, hc16, hf⟩ := jb hf
      refine jbackL hM (jrunS E hM ci_X5_mantissa (C_X5_mantissa hc16) lk_4_101 hl.1 rfl rfl (Nat.le_of_ble_eq_true rfl) ⟨Nat.le_of_ble_eq_true rfl, Nat.le_of_ble_eq_true rfl⟩ ⟨Nat.le_refl _, Nat.le_refl _⟩ dX5_plus_169) (fun H locs hM => ?_)
      refine lv_bipush (v := (9 : Int32)) hx hb dX5_plus_172 (by decide) ?_
      refine lv_lshl hx hb dX5_plus_174 rfl ?_
      refine lv_topl (fun x17 ex17 => ?_)
      have hf := jlet_y ex17 hf
      refine lv_lstore (lv' := [(11, .long x17), (10, .int x14), (9, .int t0), (5, .long v5), (7, .long v7)]) hx hb dX5_plus_175 hl (by decide) rfl (fun ls hl => ?_)
      refine lv_lload hx hb dX5_plus_177 (lv_at hl 4 rfl) ?_
      obtain ⟨x18, hc19, hf⟩ := jb hf
      refine jbackL hM (jrunS E hM ci_X5_mantissa (C_X5_mantissa hc19) lk_4_101 hl.1 rfl rfl (Nat.le_of_ble_eq_true rfl) ⟨Nat.le_of_ble_eq_true rfl, Nat.le_of_ble_eq_true rfl⟩ ⟨Nat.le_refl _, Nat.le_refl _⟩ dX5_plus_179) (fun H locs hM => ?_)
      refine lv_bipush (v := (9 : Int32)) hx hb dX5_plus_182 (by decide) ?_
      refine lv_lshl hx hb dX5_plus_184 rfl ?_
      refine lv_topl (fun x20 ex20 => ?_)
      have hf := jlet_y ex20 hf
      refine lv_lstore (lv' := [(13, .long x20), (11, .long x17), (10, .int x14), (9, .int t0), (5, .long v5), (7, .long v7)]) hx hb dX5_plus_185 hl (by decide) rfl (fun ls hl => ?_)
      refine lv_iload hx hb dX5_plus_187 (lv_at hl 2 rfl) ?_
      refine lv_bipush (v := (62 : Int32)) hx hb dX5_plus_189 (by decide) ?_
      refine lv_icmp_le (tgt := 200) hx hb dX5_plus_191 (by decide) (fun c21 => ?_) (fun c21 => ?_)
      · have hf := jt c21 hf
        refine lv_lload hx hb dX5_plus_200 (lv_at hl 0 rfl) ?_
        refine lv_lconst (v := (1 : Int64)) hx hb dX5_plus_202 (by decide) ?_
        refine lv_iload hx hb dX5_plus_203 (lv_at hl 2 rfl) ?_
        refine lv_lshl hx hb dX5_plus_205 rfl ?_
        refine lv_lconst (v := (1 : Int64)) hx hb dX5_plus_206 (by decide) ?_
        refine lv_lsub hx hb dX5_plus_207 ?_
        refine lv_land hx hb dX5_plus_208 ?_
        refine lv_topl (fun x22 ex22 => ?_)
        have hf := jlet_y ex22 hf
        refine lv_lstore (lv' := [(15, .long x22), (13, .long x20), (11, .long x17), (10, .int x14), (9, .int t0), (5, .long v5), (7, .long v7)]) hx hb dX5_plus_209 hl (by decide) rfl (fun ls hl => ?_)
        refine lv_lload hx hb dX5_plus_211 (lv_at hl 1 rfl) ?_
        refine lv_iload hx hb dX5_plus_213 (lv_at hl 3 rfl) ?_
        refine lv_lushr hx hb dX5_plus_215 rfl ?_
        refine lv_lload hx hb dX5_plus_216 (lv_at hl 0 rfl) ?_
        refine lv_lconst (v := (0 : Int64)) hx hb dX5_plus_218 (by decide) ?_
        refine jl_eq (tgt := 227) hx hb dX5_plus_219 dX5_plus_220 (by decide) (fun c23 => ?_) (fun c23 => ?_)
        · have hf := jt c23 hf
          refine lv_iconst (v := (0 : Int32)) hx hb dX5_plus_227 (by decide) ?_
          exact B_X5_plus_228 E  hf hM (lv_sub hl [5, 4, 2] rfl)
        · have hf := jf c23 hf
          refine lv_iconst (v := (1 : Int32)) hx hb dX5_plus_223 (by decide) ?_
          refine lv_goto (tgt := 228) hx hb dX5_plus_224 (by decide) ?_
          exact B_X5_plus_228 E  hf hM (lv_sub hl [5, 4, 2] rfl)
      · have hf := jf c21 hf
        refine lv_lconst (v := (1 : Int64)) hx hb dX5_plus_194 (by decide) ?_
        refine lv_lstore (lv' := [(13, .long (1 : Int64)), (11, .long x17), (10, .int x14), (9, .int t0), (5, .long v5), (7, .long v7)]) hx hb dX5_plus_195 hl (by decide) rfl (fun ls hl => ?_)
        refine lv_goto (tgt := 232) hx hb dX5_plus_197 (by decide) ?_
        exact B_X5_plus_232 E  hf hM (lv_sub hl [4, 3, 1, 0] rfl)
    · have hf := jt c9 hf
      refine lv_lload hx hb dX5_plus_131 (lv_at hl 1 rfl) ?_
      refine lv_ldc2 (v := (9223372036854775807 : Int64)) hx hb hown (hts _ lk_3_23) dX5_plus_133 ?_
      refine lv_land hx hb dX5_plus_136 ?_
      refine lv_lconst (v := (0 : Int64)) hx hb dX5_plus_137 (by decide) ?_
      refine jl_ne (tgt := 151) hx hb dX5_plus_138 dX5_plus_139 (by decide) (fun c24 => ?_) (fun c24 => ?_)
      · have hf := jf c24 hf
        refine lv_lload hx hb dX5_plus_151 (lv_at hl 1 rfl) ?_
        exact jlret (jr1 hf) E hM dX5_plus_153
      · have hf := jt c24 hf
        refine lv_iload hx hb dX5_plus_142 (lv_at hl 0 rfl) ?_
        refine lv_if_ne (tgt := 151) hx hb dX5_plus_144 (by decide) (fun c25 => ?_) (fun c25 => ?_)
        · have hf := jf c25 hf
          refine lv_lload hx hb dX5_plus_151 (lv_at hl 1 rfl) ?_
          exact jlret (jr1 hf) E hM dX5_plus_153
        · have hf := jt c25 hf
          refine lv_lconst (v := (0 : Int64)) hx hb dX5_plus_147 (by decide) ?_
          refine lv_goto (tgt := 153) hx hb dX5_plus_148 (by decide) ?_
          exact jlret (jr1 hf) E hM dX5_plus_153
  · have hf := jt c8 hf
    refine lv_lload hx hb dX5_plus_93 (lv_at hl 2 rfl) ?_
    refine lv_ldc2 (v := (9223372036854775807 : Int64)) hx hb hown (hts _ lk_3_23) dX5_plus_95 ?_
    refine lv_land hx hb dX5_plus_98 ?_
    refine lv_ldc2 (v := (9218868437227405312 : Int64)) hx hb hown (hts _ lk_3_24) dX5_plus_99 ?_
    refine jl_ne (tgt := 117) hx hb dX5_plus_102 dX5_plus_103 (by decide) (fun c26 => ?_) (fun c26 => ?_)
    · have hf := jf c26 hf
      refine lv_lload hx hb dX5_plus_117 (lv_at hl 1 rfl) ?_
      exact jlret (jr1 hf) E hM dX5_plus_119
    · have hf := jt c26 hf
      refine lv_iload hx hb dX5_plus_106 (lv_at hl 0 rfl) ?_
      refine lv_if_ne (tgt := 117) hx hb dX5_plus_108 (by decide) (fun c27 => ?_) (fun c27 => ?_)
      · have hf := jf c27 hf
        refine lv_lload hx hb dX5_plus_117 (lv_at hl 1 rfl) ?_
        exact jlret (jr1 hf) E hM dX5_plus_119
      · have hf := jt c27 hf
        refine lv_ldc2 (v := (9221120237041090560 : Int64)) hx hb hown (hts _ lk_4_100) dX5_plus_111 ?_
        refine lv_goto (tgt := 119) hx hb dX5_plus_114 (by decide) ?_
        exact jlret (jr1 hf) E hM dX5_plus_119
set_option maxRecDepth 100000 in
set_option maxHeartbeats 4000000 in
theorem B_X5_plus_61 {p : Program} {l : Launch} {e : Env} {s : State} {m : MethodId} {args : Array Value} {below : List Frame} {meth : Method} {c : Code} {g : jG} {rr : Int64} {S : jM} {v5 : Int64} {t0 : Int64} (E : jEnv p s m args meth c cX5_plus "PensionHouse$Real" (some .long) 17 g)  {H : Heap} {locs : List Loc} {ls : Array Slot} (hf : f_X5_plus_61 v5 t0 = some rr) (hM : jAt g S s H locs) (hl : lv_has ls 17 [(5, .long v5)]) : W p l e (jRm 2 0 0) s m args below meth c H locs 0 0 (MQ below (jQl g rr S) args s 0 0 (jA0 g)) (F0 m 61 ls [.long t0]) := by
  obtain ⟨hx, hb, hml, -, hts, hown, hK, -, hstr⟩ := id E
  unfold f_X5_plus_61 at hf
  refine lv_lstore (lv' := [(7, .long t0), (5, .long v5)]) hx hb dX5_plus_61 hl (by decide) rfl (fun ls hl => ?_)
  refine lv_lload hx hb dX5_plus_63 (lv_at hl 1 rfl) ?_
  refine lv_lload hx hb dX5_plus_65 (lv_at hl 0 rfl) ?_
  refine lv_lxor hx hb dX5_plus_67 ?_
  refine lv_lconst (v := (0 : Int64)) hx hb dX5_plus_68 (by decide) ?_
  refine jl_lt (tgt := 77) hx hb dX5_plus_69 dX5_plus_70 (by decide) (fun c28 => ?_) (fun c28 => ?_)
  · have hf := jt c28 hf
    refine lv_iconst (v := (0 : Int32)) hx hb dX5_plus_77 (by decide) ?_
    exact B_X5_plus_78 E  hf hM (lv_sub hl [1, 0] rfl)
  · have hf := jf c28 hf
    refine lv_iconst (v := (1 : Int32)) hx hb dX5_plus_73 (by decide) ?_
    refine lv_goto (tgt := 78) hx hb dX5_plus_74 (by decide) ?_
    exact B_X5_plus_78 E  hf hM (lv_sub hl [1, 0] rfl)
set_option maxRecDepth 100000 in
set_option maxHeartbeats 4000000 in
theorem B_X5_plus_49 {p : Program} {l : Launch} {e : Env} {s : State} {m : MethodId} {args : Array Value} {below : List Frame} {meth : Method} {c : Code} {g : jG} {rr : Int64} {S : jM} {v0 : Int64} {v2 : Int64} {v4 : Int32} {t0 : Int64} (E : jEnv p s m args meth c cX5_plus "PensionHouse$Real" (some .long) 17 g)  {H : Heap} {locs : List Loc} {ls : Array Slot} (hf : f_X5_plus_49 v0 v2 v4 t0 = some rr) (hM : jAt g S s H locs) (hl : lv_has ls 17 [(0, .long v0), (2, .long v2), (4, .int v4)]) : W p l e (jRm 2 0 0) s m args below meth c H locs 0 0 (MQ below (jQl g rr S) args s 0 0 (jA0 g)) (F0 m 49 ls [.long t0]) := by
  obtain ⟨hx, hb, hml, -, hts, hown, hK, -, hstr⟩ := id E
  unfold f_X5_plus_49 at hf
  refine lv_lstore (lv' := [(5, .long t0), (0, .long v0), (2, .long v2), (4, .int v4)]) hx hb dX5_plus_49 hl (by decide) rfl (fun ls hl => ?_)
  refine lv_iload hx hb dX5_plus_51 (lv_at hl 3 rfl) ?_
  refine lv_if_eq (tgt := 60) hx hb dX5_plus_53 (by decide) (fun c29 => ?_) (fun c29 => ?_)
  · have hf := jt c29 hf
    refine lv_lload_n hx hb dX5_plus_60 rfl (lv_at hl 1 rfl) ?_
    exact B_X5_plus_61 E  hf hM (lv_sub hl [0] rfl)
  · have hf := jf c29 hf
    refine lv_lload_n hx hb dX5_plus_56 rfl (lv_at hl 2 rfl) ?_
    refine lv_goto (tgt := 61) hx hb dX5_plus_57 (by decide) ?_
    exact B_X5_plus_61 E  hf hM (lv_sub hl [0] rfl)
set_option maxRecDepth 100000 in
set_option maxHeartbeats 4000000 in
theorem B_X5_plus_37 {p : Program} {l : Launch} {e : Env} {s : State} {m : MethodId} {args : Array Value} {below : List Frame} {meth : Method} {c : Code} {g : jG} {rr : Int64} {S : jM} {v0 : Int64} {v2 : Int64} {t0 : Int32} (E : jEnv p s m args meth c cX5_plus "PensionHouse$Real" (some .long) 17 g)  {H : Heap} {locs : List Loc} {ls : Array Slot} (hf : f_X5_plus_37 v0 v2 t0 = some rr) (hM : jAt g S s H locs) (hl : lv_has ls 17 [(0, .long v0), (2, .long v2)]) : W p l e (jRm 2 0 0) s m args below meth c H locs 0 0 (MQ below (jQl g rr S) args s 0 0 (jA0 g)) (F0 m 37 ls [.int t0]) := by
  obtain ⟨hx, hb, hml, -, hts, hown, hK, -, hstr⟩ := id E
  unfold f_X5_plus_37 at hf
  refine lv_istore (lv' := [(4, .int t0), (0, .long v0), (2, .long v2)]) hx hb dX5_plus_37 hl (by decide) rfl (fun ls hl => ?_)
  refine lv_iload hx hb dX5_plus_39 (lv_at hl 0 rfl) ?_
  refine lv_if_eq (tgt := 48) hx hb dX5_plus_41 (by decide) (fun c30 => ?_) (fun c30 => ?_)
  · have hf := jt c30 hf
    refine lv_lload_n hx hb dX5_plus_48 rfl (lv_at hl 2 rfl) ?_
    exact B_X5_plus_49 E  hf hM (lv_sub hl [1, 2, 0] rfl)
  · have hf := jf c30 hf
    refine lv_lload_n hx hb dX5_plus_44 rfl (lv_at hl 1 rfl) ?_
    refine lv_goto (tgt := 49) hx hb dX5_plus_45 (by decide) ?_
    exact B_X5_plus_49 E  hf hM (lv_sub hl [1, 2, 0] rfl)
set_option maxRecDepth 100000 in
set_option maxHeartbeats 4000000 in
theorem B_X5_plus_0 {p : Program} {l : Launch} {e : Env} {s : State} {m : MethodId} {args : Array Value} {below : List Frame} {meth : Method} {c : Code} {g : jG} {rr : Int64} {S : jM} {v0 : Int64} {v2 : Int64} (E : jEnv p s m args meth c cX5_plus "PensionHouse$Real" (some .long) 17 g)  {H : Heap} {locs : List Loc} {ls : Array Slot} (hf : f_X5_plus v0 v2 = some rr) (hM : jAt g S s H locs) (hl : lv_has ls 17 [(0, .long v0), (2, .long v2)]) : W p l e (jRm 2 0 0) s m args below meth c H locs 0 0 (MQ below (jQl g rr S) args s 0 0 (jA0 g)) (F0 m 0 ls []) := by
  obtain ⟨hx, hb, hml, -, hts, hown, hK, -, hstr⟩ := id E
  unfold f_X5_plus at hf
  refine lv_lload_n hx hb dX5_plus_0 rfl (lv_at hl 0 rfl) ?_
  refine jbackI hM (jrunS E hM ci_X5_isNot (C_X5_isNot rfl) lk_4_99 hl.1 rfl rfl (Nat.le_of_ble_eq_true rfl) ⟨Nat.le_of_ble_eq_true rfl, Nat.le_of_ble_eq_true rfl⟩ ⟨Nat.le_refl _, Nat.le_refl _⟩ dX5_plus_1) (fun H locs hM => ?_)
  refine lv_if_ne (tgt := 14) hx hb dX5_plus_4 (by decide) (fun c31 => ?_) (fun c31 => ?_)
  · have hf := jf c31 hf
    refine lv_ldc2 (v := (9221120237041090560 : Int64)) hx hb hown (hts _ lk_4_100) dX5_plus_14 ?_
    exact jlret (jr1 hf) E hM dX5_plus_17
  · have hf := jt c31 hf
    refine lv_lload_n hx hb dX5_plus_7 rfl (lv_at hl 1 rfl) ?_
    refine jbackI hM (jrunS E hM ci_X5_isNot (C_X5_isNot rfl) lk_4_99 hl.1 rfl rfl (Nat.le_of_ble_eq_true rfl) ⟨Nat.le_of_ble_eq_true rfl, Nat.le_of_ble_eq_true rfl⟩ ⟨Nat.le_refl _, Nat.le_refl _⟩ dX5_plus_8) (fun H locs hM => ?_)
    refine lv_if_eq (tgt := 18) hx hb dX5_plus_11 (by decide) (fun c32 => ?_) (fun c32 => ?_)
    · have hf := jt c32 hf
      refine lv_lload_n hx hb dX5_plus_18 rfl (lv_at hl 0 rfl) ?_
      refine lv_ldc2 (v := (9223372036854775807 : Int64)) hx hb hown (hts _ lk_3_23) dX5_plus_19 ?_
      refine lv_land hx hb dX5_plus_22 ?_
      refine lv_lload_n hx hb dX5_plus_23 rfl (lv_at hl 1 rfl) ?_
      refine lv_ldc2 (v := (9223372036854775807 : Int64)) hx hb hown (hts _ lk_3_23) dX5_plus_24 ?_
      refine lv_land hx hb dX5_plus_27 ?_
      refine jl_lt (tgt := 36) hx hb dX5_plus_28 dX5_plus_29 (by decide) (fun c33 => ?_) (fun c33 => ?_)
      · have hf := jt c33 hf
        refine lv_iconst (v := (0 : Int32)) hx hb dX5_plus_36 (by decide) ?_
        exact B_X5_plus_37 E  hf hM (lv_sub hl [0, 1] rfl)
      · have hf := jf c33 hf
        refine lv_iconst (v := (1 : Int32)) hx hb dX5_plus_32 (by decide) ?_
        refine lv_goto (tgt := 37) hx hb dX5_plus_33 (by decide) ?_
        exact B_X5_plus_37 E  hf hM (lv_sub hl [0, 1] rfl)
    · have hf := jf c32 hf
      refine lv_ldc2 (v := (9221120237041090560 : Int64)) hx hb hown (hts _ lk_4_100) dX5_plus_14 ?_
      exact jlret (jr1 hf) E hM dX5_plus_17
set_option maxRecDepth 100000 in
theorem C_X5_plus {l : Launch} {g : jG} {a0 : Int64} {a2 : Int64} {S : jM} {rr : Int64} (hf : f_X5_plus a0 a2 = some rr) : jMet l g yX5_plus cX5_plus 17 (some .long) 2 0 0 [.long a0, .long a2] S (jQl g rr S) := by
  refine jof (by decide +kernel) (Nat.le_of_ble_eq_true rfl) ?_
  intro p e s m below meth c E hM ls hl
  have hl : lv_has ls 17 [(0, .long a0),(2, .long a2)] := hl
  exact B_X5_plus_0 E hf hM hl
-- PensionHouse$Real.times(JJ)J  mode P
noncomputable def f_X5_times_249 (v0 : Int64) (v2 : Int64) (v4 : Int64) (t0 : Int64) (t1 : Int32) : Option Int64 := jlet (t0 ||| (t1.toInt64)) (fun x1 => (f_X5_exponent v0).bind (fun x2 => (f_X5_exponent v2).bind (fun x4 => (f_X5_rounded v4 ((x2 + x4) + (44 : Int32)) x1).bind (fun x6 => some x6))))
noncomputable def f_X5_times_105 (v4 : Int64) (v6 : Int32) : Option Int64 := if v6 = 0 then some (v4 ||| (9218868437227405312 : Int64)) else some v4
noncomputable def f_X5_times_95 (v0 : Int64) (v2 : Int64) (v4 : Int64) (v6 : Int32) (v7 : Int32) : Option Int64 := if v6 = 0 then if v7 = 0 then (f_X5_mantissa v0).bind (fun x11 => (f_X5_mantissa v2).bind (fun x13 => jlet ((x11 &&& (67108863 : Int64)) * (x13 &&& (67108863 : Int64))) (fun x15 => jlet (((((x11.toUInt64 >>> ((26 : Int32).toInt64.toUInt64 &&& Int64.toUInt64 63)).toInt64) * (x13 &&& (67108863 : Int64))) + ((x11 &&& (67108863 : Int64)) * ((x13.toUInt64 >>> ((26 : Int32).toInt64.toUInt64 &&& Int64.toUInt64 63)).toInt64))) + ((x15.toUInt64 >>> ((26 : Int32).toInt64.toUInt64 &&& Int64.toUInt64 63)).toInt64)) (fun x16 => jlet ((((x11.toUInt64 >>> ((26 : Int32).toInt64.toUInt64 &&& Int64.toUInt64 63)).toInt64) * ((x13.toUInt64 >>> ((26 : Int32).toInt64.toUInt64 &&& Int64.toUInt64 63)).toInt64)) + ((x16.toUInt64 >>> ((26 : Int32).toInt64.toUInt64 &&& Int64.toUInt64 63)).toInt64)) (fun x17 => jlet (((x16 &&& (67108863 : Int64)) <<< ((26 : Int32).toInt64 &&& 63)) ||| (x15 &&& (67108863 : Int64))) (fun x18 => jlet (x18 &&& (17592186044415 : Int64)) (fun x19 => if x19 = (0 : Int64) then f_X5_times_249 v0 v2 v4 ((x17 <<< ((8 : Int32).toInt64 &&& 63)) ||| ((x18.toUInt64 >>> ((44 : Int32).toInt64.toUInt64 &&& Int64.toUInt64 63)).toInt64)) (0 : Int32) else f_X5_times_249 v0 v2 v4 ((x17 <<< ((8 : Int32).toInt64 &&& 63)) ||| ((x18.toUInt64 >>> ((44 : Int32).toInt64.toUInt64 &&& Int64.toUInt64 63)).toInt64)) (1 : Int32)))))))) else f_X5_times_105 v4 v6 else f_X5_times_105 v4 v6
noncomputable def f_X5_times_65 (v0 : Int64) (v2 : Int64) (v4 : Int64) (v6 : Int32) (t0 : Int32) : Option Int64 := if (f_X5_isNot v0) = 0 then if (f_X5_isNot v2) = 0 then if v6 = 0 then f_X5_times_95 v0 v2 v4 v6 t0 else if t0 = 0 then f_X5_times_95 v0 v2 v4 v6 t0 else some (9221120237041090560 : Int64) else some (9221120237041090560 : Int64) else some (9221120237041090560 : Int64)
noncomputable def f_X5_times_60 (v0 : Int64) (v2 : Int64) (v4 : Int64) (v6 : Int32) : Option Int64 := f_X5_times_65 v0 v2 v4 v6 (1 : Int32)
noncomputable def f_X5_times_34 (v0 : Int64) (v2 : Int64) (v4 : Int64) (t0 : Int32) : Option Int64 := if (v0 &&& (9223372036854775807 : Int64)) = (9218868437227405312 : Int64) then f_X5_times_60 v0 v2 v4 t0 else if (v2 &&& (9223372036854775807 : Int64)) = (9218868437227405312 : Int64) then f_X5_times_60 v0 v2 v4 t0 else f_X5_times_65 v0 v2 v4 t0 (0 : Int32)
noncomputable def f_X5_times_29 (v0 : Int64) (v2 : Int64) (v4 : Int64) : Option Int64 := f_X5_times_34 v0 v2 v4 (1 : Int32)
noncomputable def f_X5_times (v0 : Int64) (v2 : Int64) : Option Int64 := jlet ((v0 ^^^ v2) &&& (-9223372036854775808 : Int64)) (fun x27 => if (v0 &&& (9223372036854775807 : Int64)) = (0 : Int64) then f_X5_times_29 v0 v2 x27 else if (v2 &&& (9223372036854775807 : Int64)) = (0 : Int64) then f_X5_times_29 v0 v2 x27 else f_X5_times_34 v0 v2 x27 (0 : Int32))
set_option maxRecDepth 100000 in
set_option maxHeartbeats 4000000 in
theorem B_X5_times_249 {p : Program} {l : Launch} {e : Env} {s : State} {m : MethodId} {args : Array Value} {below : List Frame} {meth : Method} {c : Code} {g : jG} {rr : Int64} {S : jM} {v0 : Int64} {v2 : Int64} {v4 : Int64} {t0 : Int64} {t1 : Int32} (E : jEnv p s m args meth c cX5_times "PensionHouse$Real" (some .long) 26 g)  {H : Heap} {locs : List Loc} {ls : Array Slot} (hf : f_X5_times_249 v0 v2 v4 t0 t1 = some rr) (hM : jAt g S s H locs) (hl : lv_has ls 26 [(0, .long v0), (2, .long v2), (4, .long v4)]) : W p l e (jRm 2 0 0) s m args below meth c H locs 0 0 (MQ below (jQl g rr S) args s 0 0 (jA0 g)) (F0 m 249 ls [.int t1, .long t0]) := by
  obtain ⟨hx, hb, hml, -, hts, hown, hK, -, hstr⟩ := id E
  unfold f_X5_times_249 at hf
  refine lv_i2l hx hb dX5_times_249 rfl ?_
  refine lv_lor hx hb dX5_times_250 ?_
  refine lv_topl (fun x1 ex1 => ?_)
  have hf := jlet_y ex1 hf
  refine lv_lstore (lv' := [(24, .long x1), (0, .long v0), (2, .long v2), (4, .long v4)]) hx hb dX5_times_251 hl (by decide) rfl (fun ls hl => ?_)
  refine lv_lload hx hb dX5_times_253 (lv_at hl 3 rfl) ?_
  refine lv_lload_n hx hb dX5_times_255 rfl (lv_at hl 1 rfl) ?_
  obtain ⟨x2, hc3, hf⟩ := jb hf
  refine jbackI hM (jrunS E hM ci_X5_exponent (C_X5_exponent hc3) lk_4_106 hl.1 rfl rfl (Nat.le_of_ble_eq_true rfl) ⟨Nat.le_of_ble_eq_true rfl, Nat.le_of_ble_eq_true rfl⟩ ⟨Nat.le_refl _, Nat.le_refl _⟩ dX5_times_256) (fun H locs hM => ?_)
  refine lv_lload_n hx hb dX5_times_259 rfl (lv_at hl 2 rfl) ?_
  obtain ⟨x4, hc5, hf⟩ := jb hf
  refine jbackI hM (jrunS E hM ci_X5_exponent (C_X5_exponent hc5) lk_4_106 hl.1 rfl rfl (Nat.le_of_ble_eq_true rfl) ⟨Nat.le_of_ble_eq_true rfl, Nat.le_of_ble_eq_true rfl⟩ ⟨Nat.le_refl _, Nat.le_refl _⟩ dX5_times_260) (fun H locs hM => ?_)
  refine lv_iadd hx hb dX5_times_263 ?_
  refine lv_bipush (v := (44 : Int32)) hx hb dX5_times_264 (by decide) ?_
  refine lv_iadd hx hb dX5_times_266 ?_
  refine lv_lload hx hb dX5_times_267 (lv_at hl 0 rfl) ?_
  obtain ⟨x6, hc7, hf⟩ := jb hf
  refine jbackL hM (jrunS E hM ci_X5_rounded (C_X5_rounded hc7) lk_4_93 hl.1 rfl rfl (Nat.le_of_ble_eq_true rfl) ⟨Nat.le_of_ble_eq_true rfl, Nat.le_of_ble_eq_true rfl⟩ ⟨Nat.le_refl _, Nat.le_refl _⟩ dX5_times_269) (fun H locs hM => ?_)
  exact jlret (jr1 hf) E hM dX5_times_272
set_option maxRecDepth 100000 in
set_option maxHeartbeats 4000000 in
theorem B_X5_times_105 {p : Program} {l : Launch} {e : Env} {s : State} {m : MethodId} {args : Array Value} {below : List Frame} {meth : Method} {c : Code} {g : jG} {rr : Int64} {S : jM} {v4 : Int64} {v6 : Int32} (E : jEnv p s m args meth c cX5_times "PensionHouse$Real" (some .long) 26 g)  {H : Heap} {locs : List Loc} {ls : Array Slot} (hf : f_X5_times_105 v4 v6 = some rr) (hM : jAt g S s H locs) (hl : lv_has ls 26 [(4, .long v4), (6, .int v6)]) : W p l e (jRm 2 0 0) s m args below meth c H locs 0 0 (MQ below (jQl g rr S) args s 0 0 (jA0 g)) (F0 m 105 ls []) := by
  obtain ⟨hx, hb, hml, -, hts, hown, hK, -, hstr⟩ := id E
  unfold f_X5_times_105 at hf
  refine lv_iload hx hb dX5_times_105 (lv_at hl 1 rfl) ?_
  refine lv_if_eq (tgt := 115) hx hb dX5_times_107 (by decide) (fun c8 => ?_) (fun c8 => ?_)
  · have hf := jt c8 hf
    refine lv_lload hx hb dX5_times_115 (lv_at hl 0 rfl) ?_
    refine lv_ldc2 (v := (9218868437227405312 : Int64)) hx hb hown (hts _ lk_3_24) dX5_times_117 ?_
    refine lv_lor hx hb dX5_times_120 ?_
    exact jlret (jr1 hf) E hM dX5_times_121
  · have hf := jf c8 hf
    refine lv_lload hx hb dX5_times_110 (lv_at hl 0 rfl) ?_
    refine lv_goto (tgt := 121) hx hb dX5_times_112 (by decide) ?_
    exact jlret (jr1 hf) E hM dX5_times_121
set_option maxRecDepth 100000 in
set_option maxHeartbeats 4000000 in
theorem B_X5_times_95 {p : Program} {l : Launch} {e : Env} {s : State} {m : MethodId} {args : Array Value} {below : List Frame} {meth : Method} {c : Code} {g : jG} {rr : Int64} {S : jM} {v0 : Int64} {v2 : Int64} {v4 : Int64} {v6 : Int32} {v7 : Int32} (E : jEnv p s m args meth c cX5_times "PensionHouse$Real" (some .long) 26 g)  {H : Heap} {locs : List Loc} {ls : Array Slot} (hf : f_X5_times_95 v0 v2 v4 v6 v7 = some rr) (hM : jAt g S s H locs) (hl : lv_has ls 26 [(0, .long v0), (2, .long v2), (4, .long v4), (6, .int v6), (7, .int v7)]) : W p l e (jRm 2 0 0) s m args below meth c H locs 0 0 (MQ below (jQl g rr S) args s 0 0 (jA0 g)) (F0 m 95 ls []) := by
  obtain ⟨hx, hb, hml, -, hts, hown, hK, -, hstr⟩ := id E
  unfold f_X5_times_95 at hf
  refine lv_iload hx hb dX5_times_95 (lv_at hl 3 rfl) ?_
  refine lv_if_ne (tgt := 105) hx hb dX5_times_97 (by decide) (fun c9 => ?_) (fun c9 => ?_)
  · have hf := jf c9 hf
    exact B_X5_times_105 E  hf hM (lv_sub hl [2, 3] rfl)
  · have hf := jt c9 hf
    refine lv_iload hx hb dX5_times_100 (lv_at hl 4 rfl) ?_
    refine lv_if_eq (tgt := 122) hx hb dX5_times_102 (by decide) (fun c10 => ?_) (fun c10 => ?_)
    · have hf := jt c10 hf
      refine lv_lload_n hx hb dX5_times_122 rfl (lv_at hl 0 rfl) ?_
      obtain ⟨x11, hc12, hf⟩ := jb hf
      refine jbackL hM (jrunS E hM ci_X5_mantissa (C_X5_mantissa hc12) lk_4_101 hl.1 rfl rfl (Nat.le_of_ble_eq_true rfl) ⟨Nat.le_of_ble_eq_true rfl, Nat.le_of_ble_eq_true rfl⟩ ⟨Nat.le_refl _, Nat.le_refl _⟩ dX5_times_123) (fun H locs hM => ?_)
      refine lv_lstore (lv' := [(8, .long x11), (0, .long v0), (2, .long v2), (4, .long v4), (6, .int v6), (7, .int v7)]) hx hb dX5_times_126 hl (by decide) rfl (fun ls hl => ?_)
      refine lv_lload_n hx hb dX5_times_128 rfl (lv_at hl 2 rfl) ?_
      obtain ⟨x13, hc14, hf⟩ := jb hf
      refine jbackL hM (jrunS E hM ci_X5_mantissa (C_X5_mantissa hc14) lk_4_101 hl.1 rfl rfl (Nat.le_of_ble_eq_true rfl) ⟨Nat.le_of_ble_eq_true rfl, Nat.le_of_ble_eq_true rfl⟩ ⟨Nat.le_refl _, Nat.le_refl _⟩ dX5_times_129) (fun H locs hM => ?_)
      refine lv_lstore (lv' := [(10, .long x13), (8, .long x11), (0, .long v0), (2, .long v2), (4, .long v4), (6, .int v6), (7, .int v7)]) hx hb dX5_times_132 hl (by decide) rfl (fun ls hl => ?_)
      refine lv_ldc2 (v := (67108863 : Int64)) hx hb hown (hts _ lk_5_16) dX5_times_134 ?_
      refine lv_lstore (lv' := [(12, .long (67108863 : Int64)), (10, .long x13), (8, .long x11), (0, .long v0), (2, .long v2), (4, .long v4), (6, .int v6), (7, .int v7)]) hx hb dX5_times_137 hl (by decide) rfl (fun ls hl => ?_)
      refine lv_lload hx hb dX5_times_139 (lv_at hl 2 rfl) ?_
      refine lv_lload hx hb dX5_times_141 (lv_at hl 0 rfl) ?_
      refine lv_land hx hb dX5_times_143 ?_
      refine lv_lload hx hb dX5_times_144 (lv_at hl 1 rfl) ?_
      refine lv_lload hx hb dX5_times_146 (lv_at hl 0 rfl) ?_
      refine lv_land hx hb dX5_times_148 ?_
      refine lv_lmul hx hb dX5_times_149 ?_
      refine lv_topl (fun x15 ex15 => ?_)
      have hf := jlet_y ex15 hf
      refine lv_lstore (lv' := [(14, .long x15), (12, .long (67108863 : Int64)), (10, .long x13), (8, .long x11), (0, .long v0), (2, .long v2), (4, .long v4), (6, .int v6), (7, .int v7)]) hx hb dX5_times_150 hl (by decide) rfl (fun ls hl => ?_)
      refine lv_lload hx hb dX5_times_152 (lv_at hl 3 rfl) ?_
      refine lv_bipush (v := (26 : Int32)) hx hb dX5_times_154 (by decide) ?_
      refine lv_lushr hx hb dX5_times_156 rfl ?_
      refine lv_lload hx hb dX5_times_157 (lv_at hl 2 rfl) ?_
      refine lv_lload hx hb dX5_times_159 (lv_at hl 1 rfl) ?_
      refine lv_land hx hb dX5_times_161 ?_
      refine lv_lmul hx hb dX5_times_162 ?_
      refine lv_lload hx hb dX5_times_163 (lv_at hl 3 rfl) ?_
      refine lv_lload hx hb dX5_times_165 (lv_at hl 1 rfl) ?_
      refine lv_land hx hb dX5_times_167 ?_
      refine lv_lload hx hb dX5_times_168 (lv_at hl 2 rfl) ?_
      refine lv_bipush (v := (26 : Int32)) hx hb dX5_times_170 (by decide) ?_
      refine lv_lushr hx hb dX5_times_172 rfl ?_
      refine lv_lmul hx hb dX5_times_173 ?_
      refine lv_ladd hx hb dX5_times_174 ?_
      refine lv_lload hx hb dX5_times_175 (lv_at hl 0 rfl) ?_
      refine lv_bipush (v := (26 : Int32)) hx hb dX5_times_177 (by decide) ?_
      refine lv_lushr hx hb dX5_times_179 rfl ?_
      refine lv_ladd hx hb dX5_times_180 ?_
      refine lv_topl (fun x16 ex16 => ?_)
      have hf := jlet_y ex16 hf
      refine lv_lstore (lv' := [(16, .long x16), (14, .long x15), (12, .long (67108863 : Int64)), (10, .long x13), (8, .long x11), (0, .long v0), (2, .long v2), (4, .long v4), (6, .int v6), (7, .int v7)]) hx hb dX5_times_181 hl (by decide) rfl (fun ls hl => ?_)
      refine lv_lload hx hb dX5_times_183 (lv_at hl 4 rfl) ?_
      refine lv_bipush (v := (26 : Int32)) hx hb dX5_times_185 (by decide) ?_
      refine lv_lushr hx hb dX5_times_187 rfl ?_
      refine lv_lload hx hb dX5_times_188 (lv_at hl 3 rfl) ?_
      refine lv_bipush (v := (26 : Int32)) hx hb dX5_times_190 (by decide) ?_
      refine lv_lushr hx hb dX5_times_192 rfl ?_
      refine lv_lmul hx hb dX5_times_193 ?_
      refine lv_lload hx hb dX5_times_194 (lv_at hl 0 rfl) ?_
      refine lv_bipush (v := (26 : Int32)) hx hb dX5_times_196 (by decide) ?_
      refine lv_lushr hx hb dX5_times_198 rfl ?_
      refine lv_ladd hx hb dX5_times_199 ?_
      refine lv_topl (fun x17 ex17 => ?_)
      have hf := jlet_y ex17 hf
      refine lv_lstore (lv' := [(18, .long x17), (16, .long x16), (14, .long x15), (12, .long (67108863 : Int64)), (10, .long x13), (8, .long x11), (0, .long v0), (2, .long v2), (4, .long v4), (6, .int v6), (7, .int v7)]) hx hb dX5_times_200 hl (by decide) rfl (fun ls hl => ?_)
      refine lv_lload hx hb dX5_times_202 (lv_at hl 1 rfl) ?_
      refine lv_lload hx hb dX5_times_204 (lv_at hl 3 rfl) ?_
      refine lv_land hx hb dX5_times_206 ?_
      refine lv_bipush (v := (26 : Int32)) hx hb dX5_times_207 (by decide) ?_
      refine lv_lshl hx hb dX5_times_209 rfl ?_
      refine lv_lload hx hb dX5_times_210 (lv_at hl 2 rfl) ?_
      refine lv_lload hx hb dX5_times_212 (lv_at hl 3 rfl) ?_
      refine lv_land hx hb dX5_times_214 ?_
      refine lv_lor hx hb dX5_times_215 ?_
      refine lv_topl (fun x18 ex18 => ?_)
      have hf := jlet_y ex18 hf
      refine lv_lstore (lv' := [(20, .long x18), (18, .long x17), (16, .long x16), (14, .long x15), (12, .long (67108863 : Int64)), (10, .long x13), (8, .long x11), (0, .long v0), (2, .long v2), (4, .long v4), (6, .int v6), (7, .int v7)]) hx hb dX5_times_216 hl (by decide) rfl (fun ls hl => ?_)
      refine lv_lload hx hb dX5_times_218 (lv_at hl 0 rfl) ?_
      refine lv_ldc2 (v := (17592186044415 : Int64)) hx hb hown (hts _ lk_5_17) dX5_times_220 ?_
      refine lv_land hx hb dX5_times_223 ?_
      refine lv_topl (fun x19 ex19 => ?_)
      have hf := jlet_y ex19 hf
      refine lv_lstore (lv' := [(22, .long x19), (20, .long x18), (18, .long x17), (16, .long x16), (14, .long x15), (12, .long (67108863 : Int64)), (10, .long x13), (8, .long x11), (0, .long v0), (2, .long v2), (4, .long v4), (6, .int v6), (7, .int v7)]) hx hb dX5_times_224 hl (by decide) rfl (fun ls hl => ?_)
      refine lv_lload hx hb dX5_times_226 (lv_at hl 2 rfl) ?_
      refine lv_bipush (v := (8 : Int32)) hx hb dX5_times_228 (by decide) ?_
      refine lv_lshl hx hb dX5_times_230 rfl ?_
      refine lv_lload hx hb dX5_times_231 (lv_at hl 1 rfl) ?_
      refine lv_bipush (v := (44 : Int32)) hx hb dX5_times_233 (by decide) ?_
      refine lv_lushr hx hb dX5_times_235 rfl ?_
      refine lv_lor hx hb dX5_times_236 ?_
      refine lv_lload hx hb dX5_times_237 (lv_at hl 0 rfl) ?_
      refine lv_lconst (v := (0 : Int64)) hx hb dX5_times_239 (by decide) ?_
      refine jl_eq (tgt := 248) hx hb dX5_times_240 dX5_times_241 (by decide) (fun c20 => ?_) (fun c20 => ?_)
      · have hf := jt c20 hf
        refine lv_iconst (v := (0 : Int32)) hx hb dX5_times_248 (by decide) ?_
        exact B_X5_times_249 E  hf hM (lv_sub hl [8, 9, 10] rfl)
      · have hf := jf c20 hf
        refine lv_iconst (v := (1 : Int32)) hx hb dX5_times_244 (by decide) ?_
        refine lv_goto (tgt := 249) hx hb dX5_times_245 (by decide) ?_
        exact B_X5_times_249 E  hf hM (lv_sub hl [8, 9, 10] rfl)
    · have hf := jf c10 hf
      exact B_X5_times_105 E  hf hM (lv_sub hl [2, 3] rfl)
set_option maxRecDepth 100000 in
set_option maxHeartbeats 4000000 in
theorem B_X5_times_65 {p : Program} {l : Launch} {e : Env} {s : State} {m : MethodId} {args : Array Value} {below : List Frame} {meth : Method} {c : Code} {g : jG} {rr : Int64} {S : jM} {v0 : Int64} {v2 : Int64} {v4 : Int64} {v6 : Int32} {t0 : Int32} (E : jEnv p s m args meth c cX5_times "PensionHouse$Real" (some .long) 26 g)  {H : Heap} {locs : List Loc} {ls : Array Slot} (hf : f_X5_times_65 v0 v2 v4 v6 t0 = some rr) (hM : jAt g S s H locs) (hl : lv_has ls 26 [(0, .long v0), (2, .long v2), (4, .long v4), (6, .int v6)]) : W p l e (jRm 2 0 0) s m args below meth c H locs 0 0 (MQ below (jQl g rr S) args s 0 0 (jA0 g)) (F0 m 65 ls [.int t0]) := by
  obtain ⟨hx, hb, hml, -, hts, hown, hK, -, hstr⟩ := id E
  unfold f_X5_times_65 at hf
  refine lv_istore (lv' := [(7, .int t0), (0, .long v0), (2, .long v2), (4, .long v4), (6, .int v6)]) hx hb dX5_times_65 hl (by decide) rfl (fun ls hl => ?_)
  refine lv_lload_n hx hb dX5_times_67 rfl (lv_at hl 1 rfl) ?_
  refine jbackI hM (jrunS E hM ci_X5_isNot (C_X5_isNot rfl) lk_4_99 hl.1 rfl rfl (Nat.le_of_ble_eq_true rfl) ⟨Nat.le_of_ble_eq_true rfl, Nat.le_of_ble_eq_true rfl⟩ ⟨Nat.le_refl _, Nat.le_refl _⟩ dX5_times_68) (fun H locs hM => ?_)
  refine lv_if_ne (tgt := 91) hx hb dX5_times_71 (by decide) (fun c21 => ?_) (fun c21 => ?_)
  · have hf := jf c21 hf
    refine lv_ldc2 (v := (9221120237041090560 : Int64)) hx hb hown (hts _ lk_4_100) dX5_times_91 ?_
    exact jlret (jr1 hf) E hM dX5_times_94
  · have hf := jt c21 hf
    refine lv_lload_n hx hb dX5_times_74 rfl (lv_at hl 2 rfl) ?_
    refine jbackI hM (jrunS E hM ci_X5_isNot (C_X5_isNot rfl) lk_4_99 hl.1 rfl rfl (Nat.le_of_ble_eq_true rfl) ⟨Nat.le_of_ble_eq_true rfl, Nat.le_of_ble_eq_true rfl⟩ ⟨Nat.le_refl _, Nat.le_refl _⟩ dX5_times_75) (fun H locs hM => ?_)
    refine lv_if_ne (tgt := 91) hx hb dX5_times_78 (by decide) (fun c22 => ?_) (fun c22 => ?_)
    · have hf := jf c22 hf
      refine lv_ldc2 (v := (9221120237041090560 : Int64)) hx hb hown (hts _ lk_4_100) dX5_times_91 ?_
      exact jlret (jr1 hf) E hM dX5_times_94
    · have hf := jt c22 hf
      refine lv_iload hx hb dX5_times_81 (lv_at hl 4 rfl) ?_
      refine lv_if_eq (tgt := 95) hx hb dX5_times_83 (by decide) (fun c23 => ?_) (fun c23 => ?_)
      · have hf := jt c23 hf
        exact B_X5_times_95 E  hf hM (lv_sub hl [1, 2, 3, 4, 0] rfl)
      · have hf := jf c23 hf
        refine lv_iload hx hb dX5_times_86 (lv_at hl 0 rfl) ?_
        refine lv_if_eq (tgt := 95) hx hb dX5_times_88 (by decide) (fun c24 => ?_) (fun c24 => ?_)
        · have hf := jt c24 hf
          exact B_X5_times_95 E  hf hM (lv_sub hl [1, 2, 3, 4, 0] rfl)
        · have hf := jf c24 hf
          refine lv_ldc2 (v := (9221120237041090560 : Int64)) hx hb hown (hts _ lk_4_100) dX5_times_91 ?_
          exact jlret (jr1 hf) E hM dX5_times_94
set_option maxRecDepth 100000 in
set_option maxHeartbeats 4000000 in
theorem B_X5_times_60 {p : Program} {l : Launch} {e : Env} {s : State} {m : MethodId} {args : Array Value} {below : List Frame} {meth : Method} {c : Code} {g : jG} {rr : Int64} {S : jM} {v0 : Int64} {v2 : Int64} {v4 : Int64} {v6 : Int32} (E : jEnv p s m args meth c cX5_times "PensionHouse$Real" (some .long) 26 g)  {H : Heap} {locs : List Loc} {ls : Array Slot} (hf : f_X5_times_60 v0 v2 v4 v6 = some rr) (hM : jAt g S s H locs) (hl : lv_has ls 26 [(0, .long v0), (2, .long v2), (4, .long v4), (6, .int v6)]) : W p l e (jRm 2 0 0) s m args below meth c H locs 0 0 (MQ below (jQl g rr S) args s 0 0 (jA0 g)) (F0 m 60 ls []) := by
  obtain ⟨hx, hb, hml, -, hts, hown, hK, -, hstr⟩ := id E
  unfold f_X5_times_60 at hf
  refine lv_iconst (v := (1 : Int32)) hx hb dX5_times_60 (by decide) ?_
  refine lv_goto (tgt := 65) hx hb dX5_times_61 (by decide) ?_
  exact B_X5_times_65 E  hf hM (lv_sub hl [0, 1, 2, 3] rfl)
set_option maxRecDepth 100000 in
set_option maxHeartbeats 4000000 in
theorem B_X5_times_34 {p : Program} {l : Launch} {e : Env} {s : State} {m : MethodId} {args : Array Value} {below : List Frame} {meth : Method} {c : Code} {g : jG} {rr : Int64} {S : jM} {v0 : Int64} {v2 : Int64} {v4 : Int64} {t0 : Int32} (E : jEnv p s m args meth c cX5_times "PensionHouse$Real" (some .long) 26 g)  {H : Heap} {locs : List Loc} {ls : Array Slot} (hf : f_X5_times_34 v0 v2 v4 t0 = some rr) (hM : jAt g S s H locs) (hl : lv_has ls 26 [(0, .long v0), (2, .long v2), (4, .long v4)]) : W p l e (jRm 2 0 0) s m args below meth c H locs 0 0 (MQ below (jQl g rr S) args s 0 0 (jA0 g)) (F0 m 34 ls [.int t0]) := by
  obtain ⟨hx, hb, hml, -, hts, hown, hK, -, hstr⟩ := id E
  unfold f_X5_times_34 at hf
  refine lv_istore (lv' := [(6, .int t0), (0, .long v0), (2, .long v2), (4, .long v4)]) hx hb dX5_times_34 hl (by decide) rfl (fun ls hl => ?_)
  refine lv_lload_n hx hb dX5_times_36 rfl (lv_at hl 1 rfl) ?_
  refine lv_ldc2 (v := (9223372036854775807 : Int64)) hx hb hown (hts _ lk_3_23) dX5_times_37 ?_
  refine lv_land hx hb dX5_times_40 ?_
  refine lv_ldc2 (v := (9218868437227405312 : Int64)) hx hb hown (hts _ lk_3_24) dX5_times_41 ?_
  refine jl_eq (tgt := 60) hx hb dX5_times_44 dX5_times_45 (by decide) (fun c25 => ?_) (fun c25 => ?_)
  · have hf := jt c25 hf
    exact B_X5_times_60 E  hf hM (lv_sub hl [1, 2, 3, 0] rfl)
  · have hf := jf c25 hf
    refine lv_lload_n hx hb dX5_times_48 rfl (lv_at hl 2 rfl) ?_
    refine lv_ldc2 (v := (9223372036854775807 : Int64)) hx hb hown (hts _ lk_3_23) dX5_times_49 ?_
    refine lv_land hx hb dX5_times_52 ?_
    refine lv_ldc2 (v := (9218868437227405312 : Int64)) hx hb hown (hts _ lk_3_24) dX5_times_53 ?_
    refine jl_ne (tgt := 64) hx hb dX5_times_56 dX5_times_57 (by decide) (fun c26 => ?_) (fun c26 => ?_)
    · have hf := jf c26 hf
      refine lv_iconst (v := (0 : Int32)) hx hb dX5_times_64 (by decide) ?_
      exact B_X5_times_65 E  hf hM (lv_sub hl [1, 2, 3, 0] rfl)
    · have hf := jt c26 hf
      exact B_X5_times_60 E  hf hM (lv_sub hl [1, 2, 3, 0] rfl)
set_option maxRecDepth 100000 in
set_option maxHeartbeats 4000000 in
theorem B_X5_times_29 {p : Program} {l : Launch} {e : Env} {s : State} {m : MethodId} {args : Array Value} {below : List Frame} {meth : Method} {c : Code} {g : jG} {rr : Int64} {S : jM} {v0 : Int64} {v2 : Int64} {v4 : Int64} (E : jEnv p s m args meth c cX5_times "PensionHouse$Real" (some .long) 26 g)  {H : Heap} {locs : List Loc} {ls : Array Slot} (hf : f_X5_times_29 v0 v2 v4 = some rr) (hM : jAt g S s H locs) (hl : lv_has ls 26 [(0, .long v0), (2, .long v2), (4, .long v4)]) : W p l e (jRm 2 0 0) s m args below meth c H locs 0 0 (MQ below (jQl g rr S) args s 0 0 (jA0 g)) (F0 m 29 ls []) := by
  obtain ⟨hx, hb, hml, -, hts, hown, hK, -, hstr⟩ := id E
  unfold f_X5_times_29 at hf
  refine lv_iconst (v := (1 : Int32)) hx hb dX5_times_29 (by decide) ?_
  refine lv_goto (tgt := 34) hx hb dX5_times_30 (by decide) ?_
  exact B_X5_times_34 E  hf hM (lv_sub hl [0, 1, 2] rfl)
set_option maxRecDepth 100000 in
set_option maxHeartbeats 4000000 in
theorem B_X5_times_0 {p : Program} {l : Launch} {e : Env} {s : State} {m : MethodId} {args : Array Value} {below : List Frame} {meth : Method} {c : Code} {g : jG} {rr : Int64} {S : jM} {v0 : Int64} {v2 : Int64} (E : jEnv p s m args meth c cX5_times "PensionHouse$Real" (some .long) 26 g)  {H : Heap} {locs : List Loc} {ls : Array Slot} (hf : f_X5_times v0 v2 = some rr) (hM : jAt g S s H locs) (hl : lv_has ls 26 [(0, .long v0), (2, .long v2)]) : W p l e (jRm 2 0 0) s m args below meth c H locs 0 0 (MQ below (jQl g rr S) args s 0 0 (jA0 g)) (F0 m 0 ls []) := by
  obtain ⟨hx, hb, hml, -, hts, hown, hK, -, hstr⟩ := id E
  unfold f_X5_times at hf
  refine lv_lload_n hx hb dX5_times_0 rfl (lv_at hl 0 rfl) ?_
  refine lv_lload_n hx hb dX5_times_1 rfl (lv_at hl 1 rfl) ?_
  refine lv_lxor hx hb dX5_times_2 ?_
  refine lv_ldc2 (v := (-9223372036854775808 : Int64)) hx hb hown (hts _ lk_4_91) dX5_times_3 ?_
  refine lv_land hx hb dX5_times_6 ?_
  refine lv_topl (fun x27 ex27 => ?_)
  have hf := jlet_y ex27 hf
  refine lv_lstore (lv' := [(4, .long x27), (0, .long v0), (2, .long v2)]) hx hb dX5_times_7 hl (by decide) rfl (fun ls hl => ?_)
  refine lv_lload_n hx hb dX5_times_9 rfl (lv_at hl 1 rfl) ?_
  refine lv_ldc2 (v := (9223372036854775807 : Int64)) hx hb hown (hts _ lk_3_23) dX5_times_10 ?_
  refine lv_land hx hb dX5_times_13 ?_
  refine lv_lconst (v := (0 : Int64)) hx hb dX5_times_14 (by decide) ?_
  refine jl_eq (tgt := 29) hx hb dX5_times_15 dX5_times_16 (by decide) (fun c28 => ?_) (fun c28 => ?_)
  · have hf := jt c28 hf
    exact B_X5_times_29 E  hf hM (lv_sub hl [1, 2, 0] rfl)
  · have hf := jf c28 hf
    refine lv_lload_n hx hb dX5_times_19 rfl (lv_at hl 2 rfl) ?_
    refine lv_ldc2 (v := (9223372036854775807 : Int64)) hx hb hown (hts _ lk_3_23) dX5_times_20 ?_
    refine lv_land hx hb dX5_times_23 ?_
    refine lv_lconst (v := (0 : Int64)) hx hb dX5_times_24 (by decide) ?_
    refine jl_ne (tgt := 33) hx hb dX5_times_25 dX5_times_26 (by decide) (fun c29 => ?_) (fun c29 => ?_)
    · have hf := jf c29 hf
      refine lv_iconst (v := (0 : Int32)) hx hb dX5_times_33 (by decide) ?_
      exact B_X5_times_34 E  hf hM (lv_sub hl [1, 2, 0] rfl)
    · have hf := jt c29 hf
      exact B_X5_times_29 E  hf hM (lv_sub hl [1, 2, 0] rfl)
set_option maxRecDepth 100000 in
theorem C_X5_times {l : Launch} {g : jG} {a0 : Int64} {a2 : Int64} {S : jM} {rr : Int64} (hf : f_X5_times a0 a2 = some rr) : jMet l g yX5_times cX5_times 26 (some .long) 2 0 0 [.long a0, .long a2] S (jQl g rr S) := by
  refine jof (by decide +kernel) (Nat.le_of_ble_eq_true rfl) ?_
  intro p e s m below meth c E hM ls hl
  have hl : lv_has ls 26 [(0, .long a0),(2, .long a2)] := hl
  exact B_X5_times_0 E hf hM hl
-- PensionHouse$Real.over(JJ)J  mode P
noncomputable def f_X5_over_241 (t0 : Int64) (t1 : Int32) (t2 : Int64) (t3 : Int32) : Option Int64 := (f_X5_rounded t0 t1 (t2 ||| (t3.toInt64))).bind (fun x1 => some x1)
noncomputable def f_X5_over_201 (k167 : Int64 → Int64 → Int64 → Int64 → Int64 → Int64 → Int32 → Option Int64) (v0 : Int64) (v2 : Int64) (v4 : Int64) (v10 : Int64) (v12 : Int64) (v14 : Int64) (v16 : Int32) : Option Int64 := jlet (v10 <<< ((1 : Int32).toInt64 &&& 63)) (fun x3 => jlet (v16 + (1 : Int32)) (fun x4 => k167 v0 v2 v4 x3 v12 v14 x4))
noncomputable def f_X5_over_167 : Nat → Int64 → Int64 → Int64 → Int64 → Int64 → Int64 → Int32 → Option Int64
  | 0, _, _, _, _, _, _, _ => none
  | n + 1, v0, v2, v4, v10, v12, v14, v16 => if (60 : Int32) < v16 then (f_X5_exponent v0).bind (fun x6 => (f_X5_exponent v2).bind (fun x8 => if v10 = (0 : Int64) then f_X5_over_241 v4 ((x6 - x8) - (60 : Int32)) v14 (0 : Int32) else f_X5_over_241 v4 ((x6 - x8) - (60 : Int32)) v14 (1 : Int32))) else jlet (v14 <<< ((1 : Int32).toInt64 &&& 63)) (fun x11 => if v10 < v12 then f_X5_over_201 (f_X5_over_167 n) v0 v2 v4 v10 v12 x11 v16 else jlet (v10 - v12) (fun x13 => jlet (x11 ||| (1 : Int64)) (fun x14 => f_X5_over_201 (f_X5_over_167 n) v0 v2 v4 x13 v12 x14 v16)))
noncomputable def f_X5_over_142 (v4 : Int64) : Option Int64 := some (v4 ||| (9218868437227405312 : Int64))
noncomputable def f_X5_over_119 (v0 : Int64) (v2 : Int64) (v4 : Int64) (v6 : Int32) (v7 : Int32) (v8 : Int32) (v9 : Int32) : Option Int64 := if v6 = 0 then if v9 = 0 then if v8 = 0 then if v7 = 0 then (f_X5_mantissa v0).bind (fun x19 => (f_X5_mantissa v2).bind (fun x21 => f_X5_over_167 1100000 v0 v2 v4 x19 x21 (0 : Int64) (0 : Int32))) else f_X5_over_142 v4 else f_X5_over_142 v4 else some v4 else some v4
noncomputable def f_X5_over_105 (v0 : Int64) (v2 : Int64) (v4 : Int64) (v6 : Int32) (v7 : Int32) (v8 : Int32) (v9 : Int32) : Option Int64 := if v8 = 0 then f_X5_over_119 v0 v2 v4 v6 v7 v8 v9 else if v9 = 0 then f_X5_over_119 v0 v2 v4 v6 v7 v8 v9 else some (9221120237041090560 : Int64)
noncomputable def f_X5_over_79 (v0 : Int64) (v2 : Int64) (v4 : Int64) (v6 : Int32) (v7 : Int32) (v8 : Int32) (t0 : Int32) : Option Int64 := if (f_X5_isNot v0) = 0 then if (f_X5_isNot v2) = 0 then if v6 = 0 then f_X5_over_105 v0 v2 v4 v6 v7 v8 t0 else if v7 = 0 then f_X5_over_105 v0 v2 v4 v6 v7 v8 t0 else some (9221120237041090560 : Int64) else some (9221120237041090560 : Int64) else some (9221120237041090560 : Int64)
noncomputable def f_X5_over_60 (v0 : Int64) (v2 : Int64) (v4 : Int64) (v6 : Int32) (v7 : Int32) (t0 : Int32) : Option Int64 := if (v2 &&& (9223372036854775807 : Int64)) = (9218868437227405312 : Int64) then f_X5_over_79 v0 v2 v4 v6 v7 t0 (1 : Int32) else f_X5_over_79 v0 v2 v4 v6 v7 t0 (0 : Int32)
noncomputable def f_X5_over_41 (v0 : Int64) (v2 : Int64) (v4 : Int64) (v6 : Int32) (t0 : Int32) : Option Int64 := if (v0 &&& (9223372036854775807 : Int64)) = (9218868437227405312 : Int64) then f_X5_over_60 v0 v2 v4 v6 t0 (1 : Int32) else f_X5_over_60 v0 v2 v4 v6 t0 (0 : Int32)
noncomputable def f_X5_over_24 (v0 : Int64) (v2 : Int64) (v4 : Int64) (t0 : Int32) : Option Int64 := if (v2 &&& (9223372036854775807 : Int64)) = (0 : Int64) then f_X5_over_41 v0 v2 v4 t0 (1 : Int32) else f_X5_over_41 v0 v2 v4 t0 (0 : Int32)
noncomputable def f_X5_over (v0 : Int64) (v2 : Int64) : Option Int64 := jlet ((v0 ^^^ v2) &&& (-9223372036854775808 : Int64)) (fun x32 => if (v0 &&& (9223372036854775807 : Int64)) = (0 : Int64) then f_X5_over_24 v0 v2 x32 (1 : Int32) else f_X5_over_24 v0 v2 x32 (0 : Int32))
set_option maxRecDepth 100000 in
set_option maxHeartbeats 4000000 in
theorem B_X5_over_241 {p : Program} {l : Launch} {e : Env} {s : State} {m : MethodId} {args : Array Value} {below : List Frame} {meth : Method} {c : Code} {g : jG} {rr : Int64} {S : jM} {t0 : Int64} {t1 : Int32} {t2 : Int64} {t3 : Int32} (E : jEnv p s m args meth c cX5_over "PensionHouse$Real" (some .long) 17 g)  {H : Heap} {locs : List Loc} {ls : Array Slot} (hf : f_X5_over_241 t0 t1 t2 t3 = some rr) (hM : jAt g S s H locs) (hl : lv_has ls 17 []) : W p l e (jRm 2 0 0) s m args below meth c H locs 0 0 (MQ below (jQl g rr S) args s 0 0 (jA0 g)) (F0 m 241 ls [.int t3, .long t2, .int t1, .long t0]) := by
  obtain ⟨hx, hb, hml, -, hts, hown, hK, -, hstr⟩ := id E
  unfold f_X5_over_241 at hf
  refine lv_i2l hx hb dX5_over_241 rfl ?_
  refine lv_lor hx hb dX5_over_242 ?_
  obtain ⟨x1, hc2, hf⟩ := jb hf
  refine jbackL hM (jrunS E hM ci_X5_rounded (C_X5_rounded hc2) lk_4_93 hl.1 rfl rfl (Nat.le_of_ble_eq_true rfl) ⟨Nat.le_of_ble_eq_true rfl, Nat.le_of_ble_eq_true rfl⟩ ⟨Nat.le_refl _, Nat.le_refl _⟩ dX5_over_243) (fun H locs hM => ?_)
  exact jlret (jr1 hf) E hM dX5_over_246
set_option maxRecDepth 100000 in
set_option maxHeartbeats 4000000 in
theorem B_X5_over_201 {p : Program} {l : Launch} {e : Env} {s : State} {m : MethodId} {args : Array Value} {below : List Frame} {meth : Method} {c : Code} {g : jG} {rr : Int64} {S : jM} {v0 : Int64} {v2 : Int64} {v4 : Int64} {v10 : Int64} {v12 : Int64} {v14 : Int64} {v16 : Int32} {k167 : Int64 → Int64 → Int64 → Int64 → Int64 → Int64 → Int32 → Option Int64} (E : jEnv p s m args meth c cX5_over "PensionHouse$Real" (some .long) 17 g) (hk167 : ∀ (v0 : Int64) (v2 : Int64) (v4 : Int64) (v10 : Int64) (v12 : Int64) (v14 : Int64) (v16 : Int32) (H : Heap) (locs : List Loc) (ls : Array Slot), k167 v0 v2 v4 v10 v12 v14 v16 = some rr → jAt g S s H locs → lv_has ls 17 [(0, .long v0), (2, .long v2), (4, .long v4), (10, .long v10), (12, .long v12), (14, .long v14), (16, .int v16)] → W p l e (jRm 2 0 0) s m args below meth c H locs 0 0 (MQ below (jQl g rr S) args s 0 0 (jA0 g)) (F0 m 167 ls [])) {H : Heap} {locs : List Loc} {ls : Array Slot} (hf : f_X5_over_201 k167 v0 v2 v4 v10 v12 v14 v16 = some rr) (hM : jAt g S s H locs) (hl : lv_has ls 17 [(0, .long v0), (2, .long v2), (4, .long v4), (10, .long v10), (12, .long v12), (14, .long v14), (16, .int v16)]) : W p l e (jRm 2 0 0) s m args below meth c H locs 0 0 (MQ below (jQl g rr S) args s 0 0 (jA0 g)) (F0 m 201 ls []) := by
  obtain ⟨hx, hb, hml, -, hts, hown, hK, -, hstr⟩ := id E
  unfold f_X5_over_201 at hf
  refine lv_lload hx hb dX5_over_201 (lv_at hl 3 rfl) ?_
  refine lv_iconst (v := (1 : Int32)) hx hb dX5_over_203 (by decide) ?_
  refine lv_lshl hx hb dX5_over_204 rfl ?_
  refine lv_topl (fun x3 ex3 => ?_)
  have hf := jlet_y ex3 hf
  refine lv_lstore (lv' := [(10, .long x3), (0, .long v0), (2, .long v2), (4, .long v4), (12, .long v12), (14, .long v14), (16, .int v16)]) hx hb dX5_over_205 hl (by decide) rfl (fun ls hl => ?_)
  obtain ⟨x4, ex4⟩ : ∃ z, z = v16 + (1 : Int32) := ⟨_, rfl⟩
  have hf := jlet_y ex4 hf
  refine lv_iinc (v := x4) (lv' := [(16, .int x4), (10, .long x3), (0, .long v0), (2, .long v2), (4, .long v4), (12, .long v12), (14, .long v14)]) hx hb dX5_over_207 hl (k := 6) rfl (by rw [ex4]; rfl) (by decide) rfl (fun ls hl => ?_)
  refine lv_goto (tgt := 167) hx hb dX5_over_210 (by decide) ?_
  exact hk167 v0 v2 v4 x3 v12 v14 x4 _ _ _ hf hM (lv_sub hl [2, 3, 4, 1, 5, 6, 0] rfl)
set_option maxRecDepth 100000 in
set_option maxHeartbeats 4000000 in
theorem B_X5_over_167 {p : Program} {l : Launch} {e : Env} {s : State} {m : MethodId} {args : Array Value} {below : List Frame} {meth : Method} {c : Code} {g : jG} {rr : Int64} {S : jM} (E : jEnv p s m args meth c cX5_over "PensionHouse$Real" (some .long) 17 g)  : ∀ (n : Nat) (v0 : Int64) (v2 : Int64) (v4 : Int64) (v10 : Int64) (v12 : Int64) (v14 : Int64) (v16 : Int32) (H : Heap) (locs : List Loc) (ls : Array Slot), f_X5_over_167 n v0 v2 v4 v10 v12 v14 v16 = some rr → jAt g S s H locs → lv_has ls 17 [(0, .long v0), (2, .long v2), (4, .long v4), (10, .long v10), (12, .long v12), (14, .long v14), (16, .int v16)] → W p l e (jRm 2 0 0) s m args below meth c H locs 0 0 (MQ below (jQl g rr S) args s 0 0 (jA0 g)) (F0 m 167 ls []) := by
  obtain ⟨hx, hb, hml, -, hts, hown, hK, -, hstr⟩ := id E
  intro n
  induction n with
  | zero => intro v0 v2 v4 v10 v12 v14 v16 H locs ls hf hM hl; rw [f_X5_over_167] at hf; cases hf
  | succ n ih =>
    intro v0 v2 v4 v10 v12 v14 v16 H locs ls hf hM hl
    rw [f_X5_over_167] at hf
    refine lv_iload hx hb dX5_over_167 (lv_at hl 6 rfl) ?_
    refine lv_bipush (v := (60 : Int32)) hx hb dX5_over_169 (by decide) ?_
    refine lv_icmp_gt (tgt := 213) hx hb dX5_over_171 (by decide) (fun c5 => ?_) (fun c5 => ?_)
    · have hf := jt c5 hf
      refine lv_lload hx hb dX5_over_213 (lv_at hl 2 rfl) ?_
      refine lv_lload_n hx hb dX5_over_215 rfl (lv_at hl 0 rfl) ?_
      obtain ⟨x6, hc7, hf⟩ := jb hf
      refine jbackI hM (jrunS E hM ci_X5_exponent (C_X5_exponent hc7) lk_4_106 hl.1 rfl rfl (Nat.le_of_ble_eq_true rfl) ⟨Nat.le_of_ble_eq_true rfl, Nat.le_of_ble_eq_true rfl⟩ ⟨Nat.le_refl _, Nat.le_refl _⟩ dX5_over_216) (fun H locs hM => ?_)
      refine lv_lload_n hx hb dX5_over_219 rfl (lv_at hl 1 rfl) ?_
      obtain ⟨x8, hc9, hf⟩ := jb hf
      refine jbackI hM (jrunS E hM ci_X5_exponent (C_X5_exponent hc9) lk_4_106 hl.1 rfl rfl (Nat.le_of_ble_eq_true rfl) ⟨Nat.le_of_ble_eq_true rfl, Nat.le_of_ble_eq_true rfl⟩ ⟨Nat.le_refl _, Nat.le_refl _⟩ dX5_over_220) (fun H locs hM => ?_)
      refine lv_isub hx hb dX5_over_223 ?_
      refine lv_bipush (v := (60 : Int32)) hx hb dX5_over_224 (by decide) ?_
      refine lv_isub hx hb dX5_over_226 ?_
      refine lv_lload hx hb dX5_over_227 (lv_at hl 5 rfl) ?_
      refine lv_lload hx hb dX5_over_229 (lv_at hl 3 rfl) ?_
      refine lv_lconst (v := (0 : Int64)) hx hb dX5_over_231 (by decide) ?_
      refine jl_eq (tgt := 240) hx hb dX5_over_232 dX5_over_233 (by decide) (fun c10 => ?_) (fun c10 => ?_)
      · have hf := jt c10 hf
        refine lv_iconst (v := (0 : Int32)) hx hb dX5_over_240 (by decide) ?_
        exact B_X5_over_241 E  hf hM (lv_sub hl [] rfl)
      · have hf := jf c10 hf
        refine lv_iconst (v := (1 : Int32)) hx hb dX5_over_236 (by decide) ?_
        refine lv_goto (tgt := 241) hx hb dX5_over_237 (by decide) ?_
        exact B_X5_over_241 E  hf hM (lv_sub hl [] rfl)
    · have hf := jf c5 hf
      refine lv_lload hx hb dX5_over_174 (lv_at hl 5 rfl) ?_
      refine lv_iconst (v := (1 : Int32)) hx hb dX5_over_176 (by decide) ?_
      refine lv_lshl hx hb dX5_over_177 rfl ?_
      refine lv_topl (fun x11 ex11 => ?_)
      have hf := jlet_y ex11 hf
      refine lv_lstore (lv' := [(14, .long x11), (0, .long v0), (2, .long v2), (4, .long v4), (10, .long v10), (12, .long v12), (16, .int v16)]) hx hb dX5_over_178 hl (by decide) rfl (fun ls hl => ?_)
      refine lv_lload hx hb dX5_over_180 (lv_at hl 4 rfl) ?_
      refine lv_lload hx hb dX5_over_182 (lv_at hl 5 rfl) ?_
      refine jl_lt (tgt := 201) hx hb dX5_over_184 dX5_over_185 (by decide) (fun c12 => ?_) (fun c12 => ?_)
      · have hf := jt c12 hf
        exact B_X5_over_201 E ih hf hM (lv_sub hl [1, 2, 3, 4, 5, 0, 6] rfl)
      · have hf := jf c12 hf
        refine lv_lload hx hb dX5_over_188 (lv_at hl 4 rfl) ?_
        refine lv_lload hx hb dX5_over_190 (lv_at hl 5 rfl) ?_
        refine lv_lsub hx hb dX5_over_192 ?_
        refine lv_topl (fun x13 ex13 => ?_)
        have hf := jlet_y ex13 hf
        refine lv_lstore (lv' := [(10, .long x13), (14, .long x11), (0, .long v0), (2, .long v2), (4, .long v4), (12, .long v12), (16, .int v16)]) hx hb dX5_over_193 hl (by decide) rfl (fun ls hl => ?_)
        refine lv_lload hx hb dX5_over_195 (lv_at hl 1 rfl) ?_
        refine lv_lconst (v := (1 : Int64)) hx hb dX5_over_197 (by decide) ?_
        refine lv_lor hx hb dX5_over_198 ?_
        refine lv_topl (fun x14 ex14 => ?_)
        have hf := jlet_y ex14 hf
        refine lv_lstore (lv' := [(14, .long x14), (10, .long x13), (0, .long v0), (2, .long v2), (4, .long v4), (12, .long v12), (16, .int v16)]) hx hb dX5_over_199 hl (by decide) rfl (fun ls hl => ?_)
        exact B_X5_over_201 E ih hf hM (lv_sub hl [2, 3, 4, 1, 5, 0, 6] rfl)
set_option maxRecDepth 100000 in
set_option maxHeartbeats 4000000 in
theorem B_X5_over_142 {p : Program} {l : Launch} {e : Env} {s : State} {m : MethodId} {args : Array Value} {below : List Frame} {meth : Method} {c : Code} {g : jG} {rr : Int64} {S : jM} {v4 : Int64} (E : jEnv p s m args meth c cX5_over "PensionHouse$Real" (some .long) 17 g)  {H : Heap} {locs : List Loc} {ls : Array Slot} (hf : f_X5_over_142 v4 = some rr) (hM : jAt g S s H locs) (hl : lv_has ls 17 [(4, .long v4)]) : W p l e (jRm 2 0 0) s m args below meth c H locs 0 0 (MQ below (jQl g rr S) args s 0 0 (jA0 g)) (F0 m 142 ls []) := by
  obtain ⟨hx, hb, hml, -, hts, hown, hK, -, hstr⟩ := id E
  unfold f_X5_over_142 at hf
  refine lv_lload hx hb dX5_over_142 (lv_at hl 0 rfl) ?_
  refine lv_ldc2 (v := (9218868437227405312 : Int64)) hx hb hown (hts _ lk_3_24) dX5_over_144 ?_
  refine lv_lor hx hb dX5_over_147 ?_
  exact jlret (jr1 hf) E hM dX5_over_148
set_option maxRecDepth 100000 in
set_option maxHeartbeats 4000000 in
theorem B_X5_over_119 {p : Program} {l : Launch} {e : Env} {s : State} {m : MethodId} {args : Array Value} {below : List Frame} {meth : Method} {c : Code} {g : jG} {rr : Int64} {S : jM} {v0 : Int64} {v2 : Int64} {v4 : Int64} {v6 : Int32} {v7 : Int32} {v8 : Int32} {v9 : Int32} (E : jEnv p s m args meth c cX5_over "PensionHouse$Real" (some .long) 17 g)  {H : Heap} {locs : List Loc} {ls : Array Slot} (hf : f_X5_over_119 v0 v2 v4 v6 v7 v8 v9 = some rr) (hM : jAt g S s H locs) (hl : lv_has ls 17 [(0, .long v0), (2, .long v2), (4, .long v4), (6, .int v6), (7, .int v7), (8, .int v8), (9, .int v9)]) : W p l e (jRm 2 0 0) s m args below meth c H locs 0 0 (MQ below (jQl g rr S) args s 0 0 (jA0 g)) (F0 m 119 ls []) := by
  obtain ⟨hx, hb, hml, -, hts, hown, hK, -, hstr⟩ := id E
  unfold f_X5_over_119 at hf
  refine lv_iload hx hb dX5_over_119 (lv_at hl 3 rfl) ?_
  refine lv_if_ne (tgt := 129) hx hb dX5_over_121 (by decide) (fun c15 => ?_) (fun c15 => ?_)
  · have hf := jf c15 hf
    refine lv_lload hx hb dX5_over_129 (lv_at hl 2 rfl) ?_
    exact jlret (jr1 hf) E hM dX5_over_131
  · have hf := jt c15 hf
    refine lv_iload hx hb dX5_over_124 (lv_at hl 6 rfl) ?_
    refine lv_if_eq (tgt := 132) hx hb dX5_over_126 (by decide) (fun c16 => ?_) (fun c16 => ?_)
    · have hf := jt c16 hf
      refine lv_iload hx hb dX5_over_132 (lv_at hl 5 rfl) ?_
      refine lv_if_ne (tgt := 142) hx hb dX5_over_134 (by decide) (fun c17 => ?_) (fun c17 => ?_)
      · have hf := jf c17 hf
        exact B_X5_over_142 E  hf hM (lv_sub hl [2] rfl)
      · have hf := jt c17 hf
        refine lv_iload hx hb dX5_over_137 (lv_at hl 4 rfl) ?_
        refine lv_if_eq (tgt := 149) hx hb dX5_over_139 (by decide) (fun c18 => ?_) (fun c18 => ?_)
        · have hf := jt c18 hf
          refine lv_lload_n hx hb dX5_over_149 rfl (lv_at hl 0 rfl) ?_
          obtain ⟨x19, hc20, hf⟩ := jb hf
          refine jbackL hM (jrunS E hM ci_X5_mantissa (C_X5_mantissa hc20) lk_4_101 hl.1 rfl rfl (Nat.le_of_ble_eq_true rfl) ⟨Nat.le_of_ble_eq_true rfl, Nat.le_of_ble_eq_true rfl⟩ ⟨Nat.le_refl _, Nat.le_refl _⟩ dX5_over_150) (fun H locs hM => ?_)
          refine lv_lstore (lv' := [(10, .long x19), (0, .long v0), (2, .long v2), (4, .long v4), (6, .int v6), (7, .int v7), (8, .int v8), (9, .int v9)]) hx hb dX5_over_153 hl (by decide) rfl (fun ls hl => ?_)
          refine lv_lload_n hx hb dX5_over_155 rfl (lv_at hl 2 rfl) ?_
          obtain ⟨x21, hc22, hf⟩ := jb hf
          refine jbackL hM (jrunS E hM ci_X5_mantissa (C_X5_mantissa hc22) lk_4_101 hl.1 rfl rfl (Nat.le_of_ble_eq_true rfl) ⟨Nat.le_of_ble_eq_true rfl, Nat.le_of_ble_eq_true rfl⟩ ⟨Nat.le_refl _, Nat.le_refl _⟩ dX5_over_156) (fun H locs hM => ?_)
          refine lv_lstore (lv' := [(12, .long x21), (10, .long x19), (0, .long v0), (2, .long v2), (4, .long v4), (6, .int v6), (7, .int v7), (8, .int v8), (9, .int v9)]) hx hb dX5_over_159 hl (by decide) rfl (fun ls hl => ?_)
          refine lv_lconst (v := (0 : Int64)) hx hb dX5_over_161 (by decide) ?_
          refine lv_lstore (lv' := [(14, .long (0 : Int64)), (12, .long x21), (10, .long x19), (0, .long v0), (2, .long v2), (4, .long v4), (6, .int v6), (7, .int v7), (8, .int v8), (9, .int v9)]) hx hb dX5_over_162 hl (by decide) rfl (fun ls hl => ?_)
          refine lv_iconst (v := (0 : Int32)) hx hb dX5_over_164 (by decide) ?_
          refine lv_istore (lv' := [(16, .int (0 : Int32)), (14, .long (0 : Int64)), (12, .long x21), (10, .long x19), (0, .long v0), (2, .long v2), (4, .long v4), (6, .int v6), (7, .int v7), (8, .int v8), (9, .int v9)]) hx hb dX5_over_165 hl (by decide) rfl (fun ls hl => ?_)
          exact B_X5_over_167 E  1100000 v0 v2 v4 x19 x21 (0 : Int64) (0 : Int32) _ _ _ hf hM (lv_sub hl [4, 5, 6, 3, 2, 1, 0] rfl)
        · have hf := jf c18 hf
          exact B_X5_over_142 E  hf hM (lv_sub hl [2] rfl)
    · have hf := jf c16 hf
      refine lv_lload hx hb dX5_over_129 (lv_at hl 2 rfl) ?_
      exact jlret (jr1 hf) E hM dX5_over_131
set_option maxRecDepth 100000 in
set_option maxHeartbeats 4000000 in
theorem B_X5_over_105 {p : Program} {l : Launch} {e : Env} {s : State} {m : MethodId} {args : Array Value} {below : List Frame} {meth : Method} {c : Code} {g : jG} {rr : Int64} {S : jM} {v0 : Int64} {v2 : Int64} {v4 : Int64} {v6 : Int32} {v7 : Int32} {v8 : Int32} {v9 : Int32} (E : jEnv p s m args meth c cX5_over "PensionHouse$Real" (some .long) 17 g)  {H : Heap} {locs : List Loc} {ls : Array Slot} (hf : f_X5_over_105 v0 v2 v4 v6 v7 v8 v9 = some rr) (hM : jAt g S s H locs) (hl : lv_has ls 17 [(0, .long v0), (2, .long v2), (4, .long v4), (6, .int v6), (7, .int v7), (8, .int v8), (9, .int v9)]) : W p l e (jRm 2 0 0) s m args below meth c H locs 0 0 (MQ below (jQl g rr S) args s 0 0 (jA0 g)) (F0 m 105 ls []) := by
  obtain ⟨hx, hb, hml, -, hts, hown, hK, -, hstr⟩ := id E
  unfold f_X5_over_105 at hf
  refine lv_iload hx hb dX5_over_105 (lv_at hl 5 rfl) ?_
  refine lv_if_eq (tgt := 119) hx hb dX5_over_107 (by decide) (fun c23 => ?_) (fun c23 => ?_)
  · have hf := jt c23 hf
    exact B_X5_over_119 E  hf hM (lv_sub hl [0, 1, 2, 3, 4, 5, 6] rfl)
  · have hf := jf c23 hf
    refine lv_iload hx hb dX5_over_110 (lv_at hl 6 rfl) ?_
    refine lv_if_eq (tgt := 119) hx hb dX5_over_112 (by decide) (fun c24 => ?_) (fun c24 => ?_)
    · have hf := jt c24 hf
      exact B_X5_over_119 E  hf hM (lv_sub hl [0, 1, 2, 3, 4, 5, 6] rfl)
    · have hf := jf c24 hf
      refine lv_ldc2 (v := (9221120237041090560 : Int64)) hx hb hown (hts _ lk_4_100) dX5_over_115 ?_
      exact jlret (jr1 hf) E hM dX5_over_118
set_option maxRecDepth 100000 in
set_option maxHeartbeats 4000000 in
theorem B_X5_over_79 {p : Program} {l : Launch} {e : Env} {s : State} {m : MethodId} {args : Array Value} {below : List Frame} {meth : Method} {c : Code} {g : jG} {rr : Int64} {S : jM} {v0 : Int64} {v2 : Int64} {v4 : Int64} {v6 : Int32} {v7 : Int32} {v8 : Int32} {t0 : Int32} (E : jEnv p s m args meth c cX5_over "PensionHouse$Real" (some .long) 17 g)  {H : Heap} {locs : List Loc} {ls : Array Slot} (hf : f_X5_over_79 v0 v2 v4 v6 v7 v8 t0 = some rr) (hM : jAt g S s H locs) (hl : lv_has ls 17 [(0, .long v0), (2, .long v2), (4, .long v4), (6, .int v6), (7, .int v7), (8, .int v8)]) : W p l e (jRm 2 0 0) s m args below meth c H locs 0 0 (MQ below (jQl g rr S) args s 0 0 (jA0 g)) (F0 m 79 ls [.int t0]) := by
  obtain ⟨hx, hb, hml, -, hts, hown, hK, -, hstr⟩ := id E
  unfold f_X5_over_79 at hf
  refine lv_istore (lv' := [(9, .int t0), (0, .long v0), (2, .long v2), (4, .long v4), (6, .int v6), (7, .int v7), (8, .int v8)]) hx hb dX5_over_79 hl (by decide) rfl (fun ls hl => ?_)
  refine lv_lload_n hx hb dX5_over_81 rfl (lv_at hl 1 rfl) ?_
  refine jbackI hM (jrunS E hM ci_X5_isNot (C_X5_isNot rfl) lk_4_99 hl.1 rfl rfl (Nat.le_of_ble_eq_true rfl) ⟨Nat.le_of_ble_eq_true rfl, Nat.le_of_ble_eq_true rfl⟩ ⟨Nat.le_refl _, Nat.le_refl _⟩ dX5_over_82) (fun H locs hM => ?_)
  refine lv_if_ne (tgt := 115) hx hb dX5_over_85 (by decide) (fun c25 => ?_) (fun c25 => ?_)
  · have hf := jf c25 hf
    refine lv_ldc2 (v := (9221120237041090560 : Int64)) hx hb hown (hts _ lk_4_100) dX5_over_115 ?_
    exact jlret (jr1 hf) E hM dX5_over_118
  · have hf := jt c25 hf
    refine lv_lload_n hx hb dX5_over_88 rfl (lv_at hl 2 rfl) ?_
    refine jbackI hM (jrunS E hM ci_X5_isNot (C_X5_isNot rfl) lk_4_99 hl.1 rfl rfl (Nat.le_of_ble_eq_true rfl) ⟨Nat.le_of_ble_eq_true rfl, Nat.le_of_ble_eq_true rfl⟩ ⟨Nat.le_refl _, Nat.le_refl _⟩ dX5_over_89) (fun H locs hM => ?_)
    refine lv_if_ne (tgt := 115) hx hb dX5_over_92 (by decide) (fun c26 => ?_) (fun c26 => ?_)
    · have hf := jf c26 hf
      refine lv_ldc2 (v := (9221120237041090560 : Int64)) hx hb hown (hts _ lk_4_100) dX5_over_115 ?_
      exact jlret (jr1 hf) E hM dX5_over_118
    · have hf := jt c26 hf
      refine lv_iload hx hb dX5_over_95 (lv_at hl 4 rfl) ?_
      refine lv_if_eq (tgt := 105) hx hb dX5_over_97 (by decide) (fun c27 => ?_) (fun c27 => ?_)
      · have hf := jt c27 hf
        exact B_X5_over_105 E  hf hM (lv_sub hl [1, 2, 3, 4, 5, 6, 0] rfl)
      · have hf := jf c27 hf
        refine lv_iload hx hb dX5_over_100 (lv_at hl 5 rfl) ?_
        refine lv_if_ne (tgt := 115) hx hb dX5_over_102 (by decide) (fun c28 => ?_) (fun c28 => ?_)
        · have hf := jf c28 hf
          refine lv_ldc2 (v := (9221120237041090560 : Int64)) hx hb hown (hts _ lk_4_100) dX5_over_115 ?_
          exact jlret (jr1 hf) E hM dX5_over_118
        · have hf := jt c28 hf
          exact B_X5_over_105 E  hf hM (lv_sub hl [1, 2, 3, 4, 5, 6, 0] rfl)
set_option maxRecDepth 100000 in
set_option maxHeartbeats 4000000 in
theorem B_X5_over_60 {p : Program} {l : Launch} {e : Env} {s : State} {m : MethodId} {args : Array Value} {below : List Frame} {meth : Method} {c : Code} {g : jG} {rr : Int64} {S : jM} {v0 : Int64} {v2 : Int64} {v4 : Int64} {v6 : Int32} {v7 : Int32} {t0 : Int32} (E : jEnv p s m args meth c cX5_over "PensionHouse$Real" (some .long) 17 g)  {H : Heap} {locs : List Loc} {ls : Array Slot} (hf : f_X5_over_60 v0 v2 v4 v6 v7 t0 = some rr) (hM : jAt g S s H locs) (hl : lv_has ls 17 [(0, .long v0), (2, .long v2), (4, .long v4), (6, .int v6), (7, .int v7)]) : W p l e (jRm 2 0 0) s m args below meth c H locs 0 0 (MQ below (jQl g rr S) args s 0 0 (jA0 g)) (F0 m 60 ls [.int t0]) := by
  obtain ⟨hx, hb, hml, -, hts, hown, hK, -, hstr⟩ := id E
  unfold f_X5_over_60 at hf
  refine lv_istore (lv' := [(8, .int t0), (0, .long v0), (2, .long v2), (4, .long v4), (6, .int v6), (7, .int v7)]) hx hb dX5_over_60 hl (by decide) rfl (fun ls hl => ?_)
  refine lv_lload_n hx hb dX5_over_62 rfl (lv_at hl 2 rfl) ?_
  refine lv_ldc2 (v := (9223372036854775807 : Int64)) hx hb hown (hts _ lk_3_23) dX5_over_63 ?_
  refine lv_land hx hb dX5_over_66 ?_
  refine lv_ldc2 (v := (9218868437227405312 : Int64)) hx hb hown (hts _ lk_3_24) dX5_over_67 ?_
  refine jl_ne (tgt := 78) hx hb dX5_over_70 dX5_over_71 (by decide) (fun c29 => ?_) (fun c29 => ?_)
  · have hf := jf c29 hf
    refine lv_iconst (v := (0 : Int32)) hx hb dX5_over_78 (by decide) ?_
    exact B_X5_over_79 E  hf hM (lv_sub hl [1, 2, 3, 4, 5, 0] rfl)
  · have hf := jt c29 hf
    refine lv_iconst (v := (1 : Int32)) hx hb dX5_over_74 (by decide) ?_
    refine lv_goto (tgt := 79) hx hb dX5_over_75 (by decide) ?_
    exact B_X5_over_79 E  hf hM (lv_sub hl [1, 2, 3, 4, 5, 0] rfl)
set_option maxRecDepth 100000 in
set_option maxHeartbeats 4000000 in
theorem B_X5_over_41 {p : Program} {l : Launch} {e : Env} {s : State} {m : MethodId} {args : Array Value} {below : List Frame} {meth : Method} {c : Code} {g : jG} {rr : Int64} {S : jM} {v0 : Int64} {v2 : Int64} {v4 : Int64} {v6 : Int32} {t0 : Int32} (E : jEnv p s m args meth c cX5_over "PensionHouse$Real" (some .long) 17 g)  {H : Heap} {locs : List Loc} {ls : Array Slot} (hf : f_X5_over_41 v0 v2 v4 v6 t0 = some rr) (hM : jAt g S s H locs) (hl : lv_has ls 17 [(0, .long v0), (2, .long v2), (4, .long v4), (6, .int v6)]) : W p l e (jRm 2 0 0) s m args below meth c H locs 0 0 (MQ below (jQl g rr S) args s 0 0 (jA0 g)) (F0 m 41 ls [.int t0]) := by
  obtain ⟨hx, hb, hml, -, hts, hown, hK, -, hstr⟩ := id E
  unfold f_X5_over_41 at hf
  refine lv_istore (lv' := [(7, .int t0), (0, .long v0), (2, .long v2), (4, .long v4), (6, .int v6)]) hx hb dX5_over_41 hl (by decide) rfl (fun ls hl => ?_)
  refine lv_lload_n hx hb dX5_over_43 rfl (lv_at hl 1 rfl) ?_
  refine lv_ldc2 (v := (9223372036854775807 : Int64)) hx hb hown (hts _ lk_3_23) dX5_over_44 ?_
  refine lv_land hx hb dX5_over_47 ?_
  refine lv_ldc2 (v := (9218868437227405312 : Int64)) hx hb hown (hts _ lk_3_24) dX5_over_48 ?_
  refine jl_ne (tgt := 59) hx hb dX5_over_51 dX5_over_52 (by decide) (fun c30 => ?_) (fun c30 => ?_)
  · have hf := jf c30 hf
    refine lv_iconst (v := (0 : Int32)) hx hb dX5_over_59 (by decide) ?_
    exact B_X5_over_60 E  hf hM (lv_sub hl [1, 2, 3, 4, 0] rfl)
  · have hf := jt c30 hf
    refine lv_iconst (v := (1 : Int32)) hx hb dX5_over_55 (by decide) ?_
    refine lv_goto (tgt := 60) hx hb dX5_over_56 (by decide) ?_
    exact B_X5_over_60 E  hf hM (lv_sub hl [1, 2, 3, 4, 0] rfl)
set_option maxRecDepth 100000 in
set_option maxHeartbeats 4000000 in
theorem B_X5_over_24 {p : Program} {l : Launch} {e : Env} {s : State} {m : MethodId} {args : Array Value} {below : List Frame} {meth : Method} {c : Code} {g : jG} {rr : Int64} {S : jM} {v0 : Int64} {v2 : Int64} {v4 : Int64} {t0 : Int32} (E : jEnv p s m args meth c cX5_over "PensionHouse$Real" (some .long) 17 g)  {H : Heap} {locs : List Loc} {ls : Array Slot} (hf : f_X5_over_24 v0 v2 v4 t0 = some rr) (hM : jAt g S s H locs) (hl : lv_has ls 17 [(0, .long v0), (2, .long v2), (4, .long v4)]) : W p l e (jRm 2 0 0) s m args below meth c H locs 0 0 (MQ below (jQl g rr S) args s 0 0 (jA0 g)) (F0 m 24 ls [.int t0]) := by
  obtain ⟨hx, hb, hml, -, hts, hown, hK, -, hstr⟩ := id E
  unfold f_X5_over_24 at hf
  refine lv_istore (lv' := [(6, .int t0), (0, .long v0), (2, .long v2), (4, .long v4)]) hx hb dX5_over_24 hl (by decide) rfl (fun ls hl => ?_)
  refine lv_lload_n hx hb dX5_over_26 rfl (lv_at hl 2 rfl) ?_
  refine lv_ldc2 (v := (9223372036854775807 : Int64)) hx hb hown (hts _ lk_3_23) dX5_over_27 ?_
  refine lv_land hx hb dX5_over_30 ?_
  refine lv_lconst (v := (0 : Int64)) hx hb dX5_over_31 (by decide) ?_
  refine jl_ne (tgt := 40) hx hb dX5_over_32 dX5_over_33 (by decide) (fun c31 => ?_) (fun c31 => ?_)
  · have hf := jf c31 hf
    refine lv_iconst (v := (0 : Int32)) hx hb dX5_over_40 (by decide) ?_
    exact B_X5_over_41 E  hf hM (lv_sub hl [1, 2, 3, 0] rfl)
  · have hf := jt c31 hf
    refine lv_iconst (v := (1 : Int32)) hx hb dX5_over_36 (by decide) ?_
    refine lv_goto (tgt := 41) hx hb dX5_over_37 (by decide) ?_
    exact B_X5_over_41 E  hf hM (lv_sub hl [1, 2, 3, 0] rfl)
set_option maxRecDepth 100000 in
set_option maxHeartbeats 4000000 in
theorem B_X5_over_0 {p : Program} {l : Launch} {e : Env} {s : State} {m : MethodId} {args : Array Value} {below : List Frame} {meth : Method} {c : Code} {g : jG} {rr : Int64} {S : jM} {v0 : Int64} {v2 : Int64} (E : jEnv p s m args meth c cX5_over "PensionHouse$Real" (some .long) 17 g)  {H : Heap} {locs : List Loc} {ls : Array Slot} (hf : f_X5_over v0 v2 = some rr) (hM : jAt g S s H locs) (hl : lv_has ls 17 [(0, .long v0), (2, .long v2)]) : W p l e (jRm 2 0 0) s m args below meth c H locs 0 0 (MQ below (jQl g rr S) args s 0 0 (jA0 g)) (F0 m 0 ls []) := by
  obtain ⟨hx, hb, hml, -, hts, hown, hK, -, hstr⟩ := id E
  unfold f_X5_over at hf
  refine lv_lload_n hx hb dX5_over_0 rfl (lv_at hl 0 rfl) ?_
  refine lv_lload_n hx hb dX5_over_1 rfl (lv_at hl 1 rfl) ?_
  refine lv_lxor hx hb dX5_over_2 ?_
  refine lv_ldc2 (v := (-9223372036854775808 : Int64)) hx hb hown (hts _ lk_4_91) dX5_over_3 ?_
  refine lv_land hx hb dX5_over_6 ?_
  refine lv_topl (fun x32 ex32 => ?_)
  have hf := jlet_y ex32 hf
  refine lv_lstore (lv' := [(4, .long x32), (0, .long v0), (2, .long v2)]) hx hb dX5_over_7 hl (by decide) rfl (fun ls hl => ?_)
  refine lv_lload_n hx hb dX5_over_9 rfl (lv_at hl 1 rfl) ?_
  refine lv_ldc2 (v := (9223372036854775807 : Int64)) hx hb hown (hts _ lk_3_23) dX5_over_10 ?_
  refine lv_land hx hb dX5_over_13 ?_
  refine lv_lconst (v := (0 : Int64)) hx hb dX5_over_14 (by decide) ?_
  refine jl_ne (tgt := 23) hx hb dX5_over_15 dX5_over_16 (by decide) (fun c33 => ?_) (fun c33 => ?_)
  · have hf := jf c33 hf
    refine lv_iconst (v := (0 : Int32)) hx hb dX5_over_23 (by decide) ?_
    exact B_X5_over_24 E  hf hM (lv_sub hl [1, 2, 0] rfl)
  · have hf := jt c33 hf
    refine lv_iconst (v := (1 : Int32)) hx hb dX5_over_19 (by decide) ?_
    refine lv_goto (tgt := 24) hx hb dX5_over_20 (by decide) ?_
    exact B_X5_over_24 E  hf hM (lv_sub hl [1, 2, 0] rfl)
set_option maxRecDepth 100000 in
theorem C_X5_over {l : Launch} {g : jG} {a0 : Int64} {a2 : Int64} {S : jM} {rr : Int64} (hf : f_X5_over a0 a2 = some rr) : jMet l g yX5_over cX5_over 17 (some .long) 2 0 0 [.long a0, .long a2] S (jQl g rr S) := by
  refine jof (by decide +kernel) (Nat.le_of_ble_eq_true rfl) ?_
  intro p e s m below meth c E hM ls hl
  have hl : lv_has ls 17 [(0, .long a0),(2, .long a2)] := hl
  exact B_X5_over_0 E hf hM hl
-- PensionHouse$Real.remainder(JJ)J  mode P
noncomputable def f_X5_remainder_93 : Nat → Int64 → Int64 → Int64 → Int64 → Int32 → Option Int64
  | 0, _, _, _, _, _ => none
  | n + 1, v0, v2, v4, v6, v8 => if v8 ≤ 0 then if v6 = (0 : Int64) then some (v0 &&& (-9223372036854775808 : Int64)) else (f_X5_exponent v2).bind (fun x3 => (f_X5_rounded (v0 &&& (-9223372036854775808 : Int64)) x3 v6).bind (fun x5 => some x5)) else if ¬ v4 = 0 then jlet ((v6 <<< ((if (10 : Int32) < v8 then (10 : Int32) else v8).toInt64 &&& 63)) - (v6 <<< ((if (10 : Int32) < v8 then (10 : Int32) else v8).toInt64 &&& 63)) / v4 * v4) (fun x8 => jlet (v8 + (-10 : Int32)) (fun x9 => (f_X5_remainder_93 n) v0 v2 v4 x8 x9)) else none
noncomputable def f_X5_remainder (v0 : Int64) (v2 : Int64) : Option Int64 := if (f_X5_isNot v0) = 0 then if (f_X5_isNot v2) = 0 then if (v0 &&& (9223372036854775807 : Int64)) = (9218868437227405312 : Int64) then some (9221120237041090560 : Int64) else if (v2 &&& (9223372036854775807 : Int64)) = (0 : Int64) then some (9221120237041090560 : Int64) else if (v2 &&& (9223372036854775807 : Int64)) ≤ (v0 &&& (9223372036854775807 : Int64)) then (f_X5_mantissa v2).bind (fun x15 => if x15 = (0 : Int64) then some (9221120237041090560 : Int64) else (f_X5_mantissa v0).bind (fun x18 => if ¬ x15 = 0 then jlet (x18 - x18 / x15 * x15) (fun x21 => (f_X5_exponent v0).bind (fun x22 => (f_X5_exponent v2).bind (fun x24 => jlet (x22 - x24) (fun x26 => f_X5_remainder_93 1100000 v0 v2 x15 x21 x26)))) else none)) else some v0 else some (9221120237041090560 : Int64) else some (9221120237041090560 : Int64)
set_option maxRecDepth 100000 in
set_option maxHeartbeats 4000000 in
theorem B_X5_remainder_93 {p : Program} {l : Launch} {e : Env} {s : State} {m : MethodId} {args : Array Value} {below : List Frame} {meth : Method} {c : Code} {g : jG} {rr : Int64} {S : jM} (E : jEnv p s m args meth c cX5_remainder "PensionHouse$Real" (some .long) 9 g)  : ∀ (n : Nat) (v0 : Int64) (v2 : Int64) (v4 : Int64) (v6 : Int64) (v8 : Int32) (H : Heap) (locs : List Loc) (ls : Array Slot), f_X5_remainder_93 n v0 v2 v4 v6 v8 = some rr → jAt g S s H locs → lv_has ls 9 [(0, .long v0), (2, .long v2), (4, .long v4), (6, .long v6), (8, .int v8)] → W p l e (jRm 2 0 0) s m args below meth c H locs 0 0 (MQ below (jQl g rr S) args s 0 0 (jA0 g)) (F0 m 93 ls []) := by
  obtain ⟨hx, hb, hml, -, hts, hown, hK, -, hstr⟩ := id E
  intro n
  induction n with
  | zero => intro v0 v2 v4 v6 v8 H locs ls hf hM hl; rw [f_X5_remainder_93] at hf; cases hf
  | succ n ih =>
    intro v0 v2 v4 v6 v8 H locs ls hf hM hl
    rw [f_X5_remainder_93] at hf
    refine lv_iload hx hb dX5_remainder_93 (lv_at hl 4 rfl) ?_
    refine lv_if_le (tgt := 119) hx hb dX5_remainder_95 (by decide) (fun c1 => ?_) (fun c1 => ?_)
    · have hf := jt c1 hf
      refine lv_lload hx hb dX5_remainder_119 (lv_at hl 3 rfl) ?_
      refine lv_lconst (v := (0 : Int64)) hx hb dX5_remainder_121 (by decide) ?_
      refine jl_ne (tgt := 134) hx hb dX5_remainder_122 dX5_remainder_123 (by decide) (fun c2 => ?_) (fun c2 => ?_)
      · have hf := jf c2 hf
        refine lv_lload_n hx hb dX5_remainder_134 rfl (lv_at hl 0 rfl) ?_
        refine lv_ldc2 (v := (-9223372036854775808 : Int64)) hx hb hown (hts _ lk_4_91) dX5_remainder_135 ?_
        refine lv_land hx hb dX5_remainder_138 ?_
        refine lv_lload_n hx hb dX5_remainder_139 rfl (lv_at hl 1 rfl) ?_
        obtain ⟨x3, hc4, hf⟩ := jb hf
        refine jbackI hM (jrunS E hM ci_X5_exponent (C_X5_exponent hc4) lk_4_106 hl.1 rfl rfl (Nat.le_of_ble_eq_true rfl) ⟨Nat.le_of_ble_eq_true rfl, Nat.le_of_ble_eq_true rfl⟩ ⟨Nat.le_refl _, Nat.le_refl _⟩ dX5_remainder_140) (fun H locs hM => ?_)
        refine lv_lload hx hb dX5_remainder_143 (lv_at hl 3 rfl) ?_
        obtain ⟨x5, hc6, hf⟩ := jb hf
        refine jbackL hM (jrunS E hM ci_X5_rounded (C_X5_rounded hc6) lk_4_93 hl.1 rfl rfl (Nat.le_of_ble_eq_true rfl) ⟨Nat.le_of_ble_eq_true rfl, Nat.le_of_ble_eq_true rfl⟩ ⟨Nat.le_refl _, Nat.le_refl _⟩ dX5_remainder_145) (fun H locs hM => ?_)
        exact jlret (jr1 hf) E hM dX5_remainder_148
      · have hf := jt c2 hf
        refine lv_lload_n hx hb dX5_remainder_126 rfl (lv_at hl 0 rfl) ?_
        refine lv_ldc2 (v := (-9223372036854775808 : Int64)) hx hb hown (hts _ lk_4_91) dX5_remainder_127 ?_
        refine lv_land hx hb dX5_remainder_130 ?_
        refine lv_goto (tgt := 148) hx hb dX5_remainder_131 (by decide) ?_
        exact jlret (jr1 hf) E hM dX5_remainder_148
    · have hf := jf c1 hf
      refine lv_lload hx hb dX5_remainder_98 (lv_at hl 3 rfl) ?_
      refine lv_iload hx hb dX5_remainder_100 (lv_at hl 4 rfl) ?_
      refine lv_bipush (v := (10 : Int32)) hx hb dX5_remainder_102 (by decide) ?_
      refine va_mmin hx hb (by rw [hml, hl.1]) hown (hts _ lk_5_22) (hts _ lk_3_170) (hts _ lk_1_18) (hts _ lk_3_171) (Nat.le_of_ble_eq_true rfl) (Nat.le_of_ble_eq_true rfl) (Nat.le_refl _) (Nat.le_refl _) dX5_remainder_104 ?_
      refine lv_lshl hx hb dX5_remainder_107 rfl ?_
      refine lv_lload hx hb dX5_remainder_108 (lv_at hl 2 rfl) ?_
      obtain ⟨hn7, hf⟩ := jif hf
      refine lv_lrem hx hb dX5_remainder_110 hn7 ?_
      refine lv_topl (fun x8 ex8 => ?_)
      have hf := jlet_y ex8 hf
      refine lv_lstore (lv' := [(6, .long x8), (0, .long v0), (2, .long v2), (4, .long v4), (8, .int v8)]) hx hb dX5_remainder_111 hl (by decide) rfl (fun ls hl => ?_)
      obtain ⟨x9, ex9⟩ : ∃ z, z = v8 + (-10 : Int32) := ⟨_, rfl⟩
      have hf := jlet_y ex9 hf
      refine lv_iinc (v := x9) (lv' := [(8, .int x9), (6, .long x8), (0, .long v0), (2, .long v2), (4, .long v4)]) hx hb dX5_remainder_113 hl (k := 4) rfl (by rw [ex9]; rfl) (by decide) rfl (fun ls hl => ?_)
      refine lv_goto (tgt := 93) hx hb dX5_remainder_116 (by decide) ?_
      exact ih v0 v2 v4 x8 x9 _ _ _ hf hM (lv_sub hl [2, 3, 4, 1, 0] rfl)
set_option maxRecDepth 100000 in
set_option maxHeartbeats 4000000 in
theorem B_X5_remainder_0 {p : Program} {l : Launch} {e : Env} {s : State} {m : MethodId} {args : Array Value} {below : List Frame} {meth : Method} {c : Code} {g : jG} {rr : Int64} {S : jM} {v0 : Int64} {v2 : Int64} (E : jEnv p s m args meth c cX5_remainder "PensionHouse$Real" (some .long) 9 g)  {H : Heap} {locs : List Loc} {ls : Array Slot} (hf : f_X5_remainder v0 v2 = some rr) (hM : jAt g S s H locs) (hl : lv_has ls 9 [(0, .long v0), (2, .long v2)]) : W p l e (jRm 2 0 0) s m args below meth c H locs 0 0 (MQ below (jQl g rr S) args s 0 0 (jA0 g)) (F0 m 0 ls []) := by
  obtain ⟨hx, hb, hml, -, hts, hown, hK, -, hstr⟩ := id E
  unfold f_X5_remainder at hf
  refine lv_lload_n hx hb dX5_remainder_0 rfl (lv_at hl 0 rfl) ?_
  refine jbackI hM (jrunS E hM ci_X5_isNot (C_X5_isNot rfl) lk_4_99 hl.1 rfl rfl (Nat.le_of_ble_eq_true rfl) ⟨Nat.le_of_ble_eq_true rfl, Nat.le_of_ble_eq_true rfl⟩ ⟨Nat.le_refl _, Nat.le_refl _⟩ dX5_remainder_1) (fun H locs hM => ?_)
  refine lv_if_ne (tgt := 36) hx hb dX5_remainder_4 (by decide) (fun c10 => ?_) (fun c10 => ?_)
  · have hf := jf c10 hf
    refine lv_ldc2 (v := (9221120237041090560 : Int64)) hx hb hown (hts _ lk_4_100) dX5_remainder_36 ?_
    exact jlret (jr1 hf) E hM dX5_remainder_39
  · have hf := jt c10 hf
    refine lv_lload_n hx hb dX5_remainder_7 rfl (lv_at hl 1 rfl) ?_
    refine jbackI hM (jrunS E hM ci_X5_isNot (C_X5_isNot rfl) lk_4_99 hl.1 rfl rfl (Nat.le_of_ble_eq_true rfl) ⟨Nat.le_of_ble_eq_true rfl, Nat.le_of_ble_eq_true rfl⟩ ⟨Nat.le_refl _, Nat.le_refl _⟩ dX5_remainder_8) (fun H locs hM => ?_)
    refine lv_if_ne (tgt := 36) hx hb dX5_remainder_11 (by decide) (fun c11 => ?_) (fun c11 => ?_)
    · have hf := jf c11 hf
      refine lv_ldc2 (v := (9221120237041090560 : Int64)) hx hb hown (hts _ lk_4_100) dX5_remainder_36 ?_
      exact jlret (jr1 hf) E hM dX5_remainder_39
    · have hf := jt c11 hf
      refine lv_lload_n hx hb dX5_remainder_14 rfl (lv_at hl 0 rfl) ?_
      refine lv_ldc2 (v := (9223372036854775807 : Int64)) hx hb hown (hts _ lk_3_23) dX5_remainder_15 ?_
      refine lv_land hx hb dX5_remainder_18 ?_
      refine lv_ldc2 (v := (9218868437227405312 : Int64)) hx hb hown (hts _ lk_3_24) dX5_remainder_19 ?_
      refine jl_eq (tgt := 36) hx hb dX5_remainder_22 dX5_remainder_23 (by decide) (fun c12 => ?_) (fun c12 => ?_)
      · have hf := jt c12 hf
        refine lv_ldc2 (v := (9221120237041090560 : Int64)) hx hb hown (hts _ lk_4_100) dX5_remainder_36 ?_
        exact jlret (jr1 hf) E hM dX5_remainder_39
      · have hf := jf c12 hf
        refine lv_lload_n hx hb dX5_remainder_26 rfl (lv_at hl 1 rfl) ?_
        refine lv_ldc2 (v := (9223372036854775807 : Int64)) hx hb hown (hts _ lk_3_23) dX5_remainder_27 ?_
        refine lv_land hx hb dX5_remainder_30 ?_
        refine lv_lconst (v := (0 : Int64)) hx hb dX5_remainder_31 (by decide) ?_
        refine jl_ne (tgt := 40) hx hb dX5_remainder_32 dX5_remainder_33 (by decide) (fun c13 => ?_) (fun c13 => ?_)
        · have hf := jf c13 hf
          refine lv_lload_n hx hb dX5_remainder_40 rfl (lv_at hl 0 rfl) ?_
          refine lv_ldc2 (v := (9223372036854775807 : Int64)) hx hb hown (hts _ lk_3_23) dX5_remainder_41 ?_
          refine lv_land hx hb dX5_remainder_44 ?_
          refine lv_lload_n hx hb dX5_remainder_45 rfl (lv_at hl 1 rfl) ?_
          refine lv_ldc2 (v := (9223372036854775807 : Int64)) hx hb hown (hts _ lk_3_23) dX5_remainder_46 ?_
          refine lv_land hx hb dX5_remainder_49 ?_
          refine jl_ge (tgt := 56) hx hb dX5_remainder_50 dX5_remainder_51 (by decide) (fun c14 => ?_) (fun c14 => ?_)
          · have hf := jt c14 hf
            refine lv_lload_n hx hb dX5_remainder_56 rfl (lv_at hl 1 rfl) ?_
            obtain ⟨x15, hc16, hf⟩ := jb hf
            refine jbackL hM (jrunS E hM ci_X5_mantissa (C_X5_mantissa hc16) lk_4_101 hl.1 rfl rfl (Nat.le_of_ble_eq_true rfl) ⟨Nat.le_of_ble_eq_true rfl, Nat.le_of_ble_eq_true rfl⟩ ⟨Nat.le_refl _, Nat.le_refl _⟩ dX5_remainder_57) (fun H locs hM => ?_)
            refine lv_lstore (lv' := [(4, .long x15), (0, .long v0), (2, .long v2)]) hx hb dX5_remainder_60 hl (by decide) rfl (fun ls hl => ?_)
            refine lv_lload hx hb dX5_remainder_62 (lv_at hl 0 rfl) ?_
            refine lv_lconst (v := (0 : Int64)) hx hb dX5_remainder_64 (by decide) ?_
            refine jl_ne (tgt := 73) hx hb dX5_remainder_65 dX5_remainder_66 (by decide) (fun c17 => ?_) (fun c17 => ?_)
            · have hf := jf c17 hf
              refine lv_lload_n hx hb dX5_remainder_73 rfl (lv_at hl 1 rfl) ?_
              obtain ⟨x18, hc19, hf⟩ := jb hf
              refine jbackL hM (jrunS E hM ci_X5_mantissa (C_X5_mantissa hc19) lk_4_101 hl.1 rfl rfl (Nat.le_of_ble_eq_true rfl) ⟨Nat.le_of_ble_eq_true rfl, Nat.le_of_ble_eq_true rfl⟩ ⟨Nat.le_refl _, Nat.le_refl _⟩ dX5_remainder_74) (fun H locs hM => ?_)
              refine lv_lload hx hb dX5_remainder_77 (lv_at hl 0 rfl) ?_
              obtain ⟨hn20, hf⟩ := jif hf
              refine lv_lrem hx hb dX5_remainder_79 hn20 ?_
              refine lv_topl (fun x21 ex21 => ?_)
              have hf := jlet_y ex21 hf
              refine lv_lstore (lv' := [(6, .long x21), (4, .long x15), (0, .long v0), (2, .long v2)]) hx hb dX5_remainder_80 hl (by decide) rfl (fun ls hl => ?_)
              refine lv_lload_n hx hb dX5_remainder_82 rfl (lv_at hl 2 rfl) ?_
              obtain ⟨x22, hc23, hf⟩ := jb hf
              refine jbackI hM (jrunS E hM ci_X5_exponent (C_X5_exponent hc23) lk_4_106 hl.1 rfl rfl (Nat.le_of_ble_eq_true rfl) ⟨Nat.le_of_ble_eq_true rfl, Nat.le_of_ble_eq_true rfl⟩ ⟨Nat.le_refl _, Nat.le_refl _⟩ dX5_remainder_83) (fun H locs hM => ?_)
              refine lv_lload_n hx hb dX5_remainder_86 rfl (lv_at hl 3 rfl) ?_
              obtain ⟨x24, hc25, hf⟩ := jb hf
              refine jbackI hM (jrunS E hM ci_X5_exponent (C_X5_exponent hc25) lk_4_106 hl.1 rfl rfl (Nat.le_of_ble_eq_true rfl) ⟨Nat.le_of_ble_eq_true rfl, Nat.le_of_ble_eq_true rfl⟩ ⟨Nat.le_refl _, Nat.le_refl _⟩ dX5_remainder_87) (fun H locs hM => ?_)
              refine lv_isub hx hb dX5_remainder_90 ?_
              refine lv_topi (fun x26 ex26 => ?_)
              have hf := jlet_y ex26 hf
              refine lv_istore (lv' := [(8, .int x26), (6, .long x21), (4, .long x15), (0, .long v0), (2, .long v2)]) hx hb dX5_remainder_91 hl (by decide) rfl (fun ls hl => ?_)
              exact B_X5_remainder_93 E  1100000 v0 v2 x15 x21 x26 _ _ _ hf hM (lv_sub hl [3, 4, 2, 1, 0] rfl)
            · have hf := jt c17 hf
              refine lv_ldc2 (v := (9221120237041090560 : Int64)) hx hb hown (hts _ lk_4_100) dX5_remainder_69 ?_
              exact jlret (jr1 hf) E hM dX5_remainder_72
          · have hf := jf c14 hf
            refine lv_lload_n hx hb dX5_remainder_54 rfl (lv_at hl 0 rfl) ?_
            exact jlret (jr1 hf) E hM dX5_remainder_55
        · have hf := jt c13 hf
          refine lv_ldc2 (v := (9221120237041090560 : Int64)) hx hb hown (hts _ lk_4_100) dX5_remainder_36 ?_
          exact jlret (jr1 hf) E hM dX5_remainder_39
set_option maxRecDepth 100000 in
theorem C_X5_remainder {l : Launch} {g : jG} {a0 : Int64} {a2 : Int64} {S : jM} {rr : Int64} (hf : f_X5_remainder a0 a2 = some rr) : jMet l g yX5_remainder cX5_remainder 9 (some .long) 2 0 0 [.long a0, .long a2] S (jQl g rr S) := by
  refine jof (by decide +kernel) (Nat.le_of_ble_eq_true rfl) ?_
  intro p e s m below meth c E hM ls hl
  have hl : lv_has ls 9 [(0, .long a0),(2, .long a2)] := hl
  exact B_X5_remainder_0 E hf hM hl
-- PensionHouse$Real.power(J)I  mode T
noncomputable def f_X5_power (v0 : Int64) : Int32 := ((((v0 &&& (9218868437227405312 : Int64)).toUInt64 >>> ((52 : Int32).toInt64.toUInt64 &&& Int64.toUInt64 63)).toInt64).toInt32) - (1023 : Int32)
set_option maxRecDepth 100000 in
set_option maxHeartbeats 4000000 in
theorem B_X5_power_0 {p : Program} {l : Launch} {e : Env} {s : State} {m : MethodId} {args : Array Value} {below : List Frame} {meth : Method} {c : Code} {g : jG} {rr : Int32} {S : jM} {v0 : Int64} (E : jEnv p s m args meth c cX5_power "PensionHouse$Real" (some .int) 2 g)  {H : Heap} {locs : List Loc} {ls : Array Slot} (hf : f_X5_power v0 = rr) (hM : jAt g S s H locs) (hl : lv_has ls 2 [(0, .long v0)]) : W p l e (jRm 1 0 0) s m args below meth c H locs 0 0 (MQ below (jQi g rr S) args s 0 0 (jA0 g)) (F0 m 0 ls []) := by
  obtain ⟨hx, hb, hml, -, hts, hown, hK, -, hstr⟩ := id E
  unfold f_X5_power at hf
  refine lv_lload_n hx hb dX5_power_0 rfl (lv_at hl 0 rfl) ?_
  refine lv_ldc2 (v := (9218868437227405312 : Int64)) hx hb hown (hts _ lk_3_24) dX5_power_1 ?_
  refine lv_land hx hb dX5_power_4 ?_
  refine lv_bipush (v := (52 : Int32)) hx hb dX5_power_5 (by decide) ?_
  refine lv_lushr hx hb dX5_power_7 rfl ?_
  refine lv_l2i hx hb dX5_power_8 rfl ?_
  refine lv_sipush (v := (1023 : Int32)) hx hb dX5_power_9 (by decide) ?_
  refine lv_isub hx hb dX5_power_12 ?_
  exact jireti (jr0 hf) E hM dX5_power_13
set_option maxRecDepth 100000 in
theorem C_X5_power {l : Launch} {g : jG} {a0 : Int64} {S : jM} {rr : Int32} (hf : f_X5_power a0 = rr) : jMet l g yX5_power cX5_power 2 (some .int) 1 0 0 [.long a0] S (jQi g rr S) := by
  refine jof (by decide +kernel) (Nat.le_of_ble_eq_true rfl) ?_
  intro p e s m below meth c E hM ls hl
  have hl : lv_has ls 2 [(0, .long a0)] := hl
  exact B_X5_power_0 E hf hM hl
-- PensionHouse$Real.cutOff(J)J  mode T
noncomputable def f_X5_cutOff_71 (v0 : Int64) (t0 : Int64) : Int64 := if (0 : Int64) ≤ v0 then t0 else -t0
noncomputable def f_X5_cutOff (v0 : Int64) : Int64 := jlet (f_X5_power v0) (fun x2 => if (f_X5_isNot v0) = 0 then if 0 ≤ x2 then if x2 < (63 : Int32) then jlet ((v0 &&& (4503599627370495 : Int64)) ||| (4503599627370496 : Int64)) (fun x6 => if x2 ≤ (52 : Int32) then f_X5_cutOff_71 v0 ((x6.toUInt64 >>> (((52 : Int32) - x2).toInt64.toUInt64 &&& Int64.toUInt64 63)).toInt64) else f_X5_cutOff_71 v0 (x6 <<< ((x2 - (52 : Int32)).toInt64 &&& 63))) else if (0 : Int64) ≤ v0 then (9223372036854775807 : Int64) else (-9223372036854775808 : Int64) else (0 : Int64) else (0 : Int64))
set_option maxRecDepth 100000 in
set_option maxHeartbeats 4000000 in
theorem B_X5_cutOff_71 {p : Program} {l : Launch} {e : Env} {s : State} {m : MethodId} {args : Array Value} {below : List Frame} {meth : Method} {c : Code} {g : jG} {rr : Int64} {S : jM} {v0 : Int64} {t0 : Int64} (E : jEnv p s m args meth c cX5_cutOff "PensionHouse$Real" (some .long) 7 g)  {H : Heap} {locs : List Loc} {ls : Array Slot} (hf : f_X5_cutOff_71 v0 t0 = rr) (hM : jAt g S s H locs) (hl : lv_has ls 7 [(0, .long v0)]) : W p l e (jRm 2 0 0) s m args below meth c H locs 0 0 (MQ below (jQl g rr S) args s 0 0 (jA0 g)) (F0 m 71 ls [.long t0]) := by
  obtain ⟨hx, hb, hml, -, hts, hown, hK, -, hstr⟩ := id E
  unfold f_X5_cutOff_71 at hf
  refine lv_lstore (lv' := [(5, .long t0), (0, .long v0)]) hx hb dX5_cutOff_71 hl (by decide) rfl (fun ls hl => ?_)
  refine lv_lload_n hx hb dX5_cutOff_73 rfl (lv_at hl 1 rfl) ?_
  refine lv_lconst (v := (0 : Int64)) hx hb dX5_cutOff_74 (by decide) ?_
  refine jl_ge (tgt := 85) hx hb dX5_cutOff_75 dX5_cutOff_76 (by decide) (fun c1 => ?_) (fun c1 => ?_)
  · have hf := jt c1 hf
    refine lv_lload hx hb dX5_cutOff_85 (lv_at hl 0 rfl) ?_
    exact jlret (jr0 hf) E hM dX5_cutOff_87
  · have hf := jf c1 hf
    refine lv_lload hx hb dX5_cutOff_79 (lv_at hl 0 rfl) ?_
    refine lv_lneg hx hb dX5_cutOff_81 ?_
    refine lv_goto (tgt := 87) hx hb dX5_cutOff_82 (by decide) ?_
    exact jlret (jr0 hf) E hM dX5_cutOff_87
set_option maxRecDepth 100000 in
set_option maxHeartbeats 4000000 in
theorem B_X5_cutOff_0 {p : Program} {l : Launch} {e : Env} {s : State} {m : MethodId} {args : Array Value} {below : List Frame} {meth : Method} {c : Code} {g : jG} {rr : Int64} {S : jM} {v0 : Int64} (E : jEnv p s m args meth c cX5_cutOff "PensionHouse$Real" (some .long) 7 g)  {H : Heap} {locs : List Loc} {ls : Array Slot} (hf : f_X5_cutOff v0 = rr) (hM : jAt g S s H locs) (hl : lv_has ls 7 [(0, .long v0)]) : W p l e (jRm 2 0 0) s m args below meth c H locs 0 0 (MQ below (jQl g rr S) args s 0 0 (jA0 g)) (F0 m 0 ls []) := by
  obtain ⟨hx, hb, hml, -, hts, hown, hK, -, hstr⟩ := id E
  unfold f_X5_cutOff at hf
  refine lv_lload_n hx hb dX5_cutOff_0 rfl (lv_at hl 0 rfl) ?_
  refine jbackI hM (jrunS E hM ci_X5_power (C_X5_power rfl) lk_5_54 hl.1 rfl rfl (Nat.le_of_ble_eq_true rfl) ⟨Nat.le_of_ble_eq_true rfl, Nat.le_of_ble_eq_true rfl⟩ ⟨Nat.le_refl _, Nat.le_refl _⟩ dX5_cutOff_1) (fun H locs hM => ?_)
  refine lv_topi (fun x2 ex2 => ?_)
  have hf := jlet_y ex2 hf
  refine lv_istore_n (lv' := [(2, .int x2), (0, .long v0)]) hx hb dX5_cutOff_4 rfl hl (by decide) rfl (fun ls hl => ?_)
  refine lv_lload_n hx hb dX5_cutOff_5 rfl (lv_at hl 1 rfl) ?_
  refine jbackI hM (jrunS E hM ci_X5_isNot (C_X5_isNot rfl) lk_4_99 hl.1 rfl rfl (Nat.le_of_ble_eq_true rfl) ⟨Nat.le_of_ble_eq_true rfl, Nat.le_of_ble_eq_true rfl⟩ ⟨Nat.le_refl _, Nat.le_refl _⟩ dX5_cutOff_6) (fun H locs hM => ?_)
  refine lv_if_ne (tgt := 16) hx hb dX5_cutOff_9 (by decide) (fun c3 => ?_) (fun c3 => ?_)
  · have hf := jf c3 hf
    refine lv_lconst (v := (0 : Int64)) hx hb dX5_cutOff_16 (by decide) ?_
    exact jlret (jr0 hf) E hM dX5_cutOff_17
  · have hf := jt c3 hf
    refine lv_iload_n hx hb dX5_cutOff_12 rfl (lv_at hl 0 rfl) ?_
    refine lv_if_ge (tgt := 18) hx hb dX5_cutOff_13 (by decide) (fun c4 => ?_) (fun c4 => ?_)
    · have hf := jt c4 hf
      refine lv_iload_n hx hb dX5_cutOff_18 rfl (lv_at hl 0 rfl) ?_
      refine lv_bipush (v := (63 : Int32)) hx hb dX5_cutOff_19 (by decide) ?_
      refine lv_icmp_lt (tgt := 40) hx hb dX5_cutOff_21 (by decide) (fun c5 => ?_) (fun c5 => ?_)
      · have hf := jt c5 hf
        refine lv_lload_n hx hb dX5_cutOff_40 rfl (lv_at hl 1 rfl) ?_
        refine lv_ldc2 (v := (4503599627370495 : Int64)) hx hb hown (hts _ lk_4_104) dX5_cutOff_41 ?_
        refine lv_land hx hb dX5_cutOff_44 ?_
        refine lv_ldc2 (v := (4503599627370496 : Int64)) hx hb hown (hts _ lk_4_105) dX5_cutOff_45 ?_
        refine lv_lor hx hb dX5_cutOff_48 ?_
        refine lv_topl (fun x6 ex6 => ?_)
        have hf := jlet_y ex6 hf
        refine lv_lstore_n (lv' := [(3, .long x6), (2, .int x2), (0, .long v0)]) hx hb dX5_cutOff_49 rfl hl (by decide) rfl (fun ls hl => ?_)
        refine lv_iload_n hx hb dX5_cutOff_50 rfl (lv_at hl 1 rfl) ?_
        refine lv_bipush (v := (52 : Int32)) hx hb dX5_cutOff_51 (by decide) ?_
        refine lv_icmp_le (tgt := 65) hx hb dX5_cutOff_53 (by decide) (fun c7 => ?_) (fun c7 => ?_)
        · have hf := jt c7 hf
          refine lv_lload_n hx hb dX5_cutOff_65 rfl (lv_at hl 0 rfl) ?_
          refine lv_bipush (v := (52 : Int32)) hx hb dX5_cutOff_66 (by decide) ?_
          refine lv_iload_n hx hb dX5_cutOff_68 rfl (lv_at hl 1 rfl) ?_
          refine lv_isub hx hb dX5_cutOff_69 ?_
          refine lv_lushr hx hb dX5_cutOff_70 rfl ?_
          exact B_X5_cutOff_71 E  hf hM (lv_sub hl [2] rfl)
        · have hf := jf c7 hf
          refine lv_lload_n hx hb dX5_cutOff_56 rfl (lv_at hl 0 rfl) ?_
          refine lv_iload_n hx hb dX5_cutOff_57 rfl (lv_at hl 1 rfl) ?_
          refine lv_bipush (v := (52 : Int32)) hx hb dX5_cutOff_58 (by decide) ?_
          refine lv_isub hx hb dX5_cutOff_60 ?_
          refine lv_lshl hx hb dX5_cutOff_61 rfl ?_
          refine lv_goto (tgt := 71) hx hb dX5_cutOff_62 (by decide) ?_
          exact B_X5_cutOff_71 E  hf hM (lv_sub hl [2] rfl)
      · have hf := jf c5 hf
        refine lv_lload_n hx hb dX5_cutOff_24 rfl (lv_at hl 1 rfl) ?_
        refine lv_lconst (v := (0 : Int64)) hx hb dX5_cutOff_25 (by decide) ?_
        refine jl_ge (tgt := 36) hx hb dX5_cutOff_26 dX5_cutOff_27 (by decide) (fun c8 => ?_) (fun c8 => ?_)
        · have hf := jt c8 hf
          refine lv_ldc2 (v := (9223372036854775807 : Int64)) hx hb hown (hts _ lk_3_23) dX5_cutOff_36 ?_
          exact jlret (jr0 hf) E hM dX5_cutOff_39
        · have hf := jf c8 hf
          refine lv_ldc2 (v := (-9223372036854775808 : Int64)) hx hb hown (hts _ lk_4_91) dX5_cutOff_30 ?_
          refine lv_goto (tgt := 39) hx hb dX5_cutOff_33 (by decide) ?_
          exact jlret (jr0 hf) E hM dX5_cutOff_39
    · have hf := jf c4 hf
      refine lv_lconst (v := (0 : Int64)) hx hb dX5_cutOff_16 (by decide) ?_
      exact jlret (jr0 hf) E hM dX5_cutOff_17
set_option maxRecDepth 100000 in
theorem C_X5_cutOff {l : Launch} {g : jG} {a0 : Int64} {S : jM} {rr : Int64} (hf : f_X5_cutOff a0 = rr) : jMet l g yX5_cutOff cX5_cutOff 7 (some .long) 2 0 0 [.long a0] S (jQl g rr S) := by
  refine jof (by decide +kernel) (Nat.le_of_ble_eq_true rfl) ?_
  intro p e s m below meth c E hM ls hl
  have hl : lv_has ls 7 [(0, .long a0)] := hl
  exact B_X5_cutOff_0 E hf hM hl
-- PensionHouse$Real.below(J)J  mode T
noncomputable def f_X5_below_31 (v0 : Int64) : Int64 := v0 &&& (-9223372036854775808 : Int64)
noncomputable def f_X5_below (v0 : Int64) : Int64 := jlet (f_X5_power v0) (fun x1 => if x1 < (52 : Int32) then if 0 ≤ x1 then jlet (((4503599627370495 : Int64).toUInt64 >>> (x1.toInt64.toUInt64 &&& Int64.toUInt64 63)).toInt64) (fun x4 => if (0 : Int64) ≤ v0 then v0 &&& (x4 ^^^ (-1 : Int64)) else (v0 + x4) &&& (x4 ^^^ (-1 : Int64))) else if (0 : Int64) ≤ v0 then f_X5_below_31 v0 else if v0 = (-9223372036854775808 : Int64) then f_X5_below_31 v0 else (-4616189618054758400 : Int64) else v0)
set_option maxRecDepth 100000 in
set_option maxHeartbeats 4000000 in
theorem B_X5_below_31 {p : Program} {l : Launch} {e : Env} {s : State} {m : MethodId} {args : Array Value} {below : List Frame} {meth : Method} {c : Code} {g : jG} {rr : Int64} {S : jM} {v0 : Int64} (E : jEnv p s m args meth c cX5_below "PensionHouse$Real" (some .long) 5 g)  {H : Heap} {locs : List Loc} {ls : Array Slot} (hf : f_X5_below_31 v0 = rr) (hM : jAt g S s H locs) (hl : lv_has ls 5 [(0, .long v0)]) : W p l e (jRm 2 0 0) s m args below meth c H locs 0 0 (MQ below (jQl g rr S) args s 0 0 (jA0 g)) (F0 m 31 ls []) := by
  obtain ⟨hx, hb, hml, -, hts, hown, hK, -, hstr⟩ := id E
  unfold f_X5_below_31 at hf
  refine lv_lload_n hx hb dX5_below_31 rfl (lv_at hl 0 rfl) ?_
  refine lv_ldc2 (v := (-9223372036854775808 : Int64)) hx hb hown (hts _ lk_4_91) dX5_below_32 ?_
  refine lv_land hx hb dX5_below_35 ?_
  refine lv_goto (tgt := 42) hx hb dX5_below_36 (by decide) ?_
  exact jlret (jr0 hf) E hM dX5_below_42
set_option maxRecDepth 100000 in
set_option maxHeartbeats 4000000 in
theorem B_X5_below_0 {p : Program} {l : Launch} {e : Env} {s : State} {m : MethodId} {args : Array Value} {below : List Frame} {meth : Method} {c : Code} {g : jG} {rr : Int64} {S : jM} {v0 : Int64} (E : jEnv p s m args meth c cX5_below "PensionHouse$Real" (some .long) 5 g)  {H : Heap} {locs : List Loc} {ls : Array Slot} (hf : f_X5_below v0 = rr) (hM : jAt g S s H locs) (hl : lv_has ls 5 [(0, .long v0)]) : W p l e (jRm 2 0 0) s m args below meth c H locs 0 0 (MQ below (jQl g rr S) args s 0 0 (jA0 g)) (F0 m 0 ls []) := by
  obtain ⟨hx, hb, hml, -, hts, hown, hK, -, hstr⟩ := id E
  unfold f_X5_below at hf
  refine lv_lload_n hx hb dX5_below_0 rfl (lv_at hl 0 rfl) ?_
  refine jbackI hM (jrunS E hM ci_X5_power (C_X5_power rfl) lk_5_54 hl.1 rfl rfl (Nat.le_of_ble_eq_true rfl) ⟨Nat.le_of_ble_eq_true rfl, Nat.le_of_ble_eq_true rfl⟩ ⟨Nat.le_refl _, Nat.le_refl _⟩ dX5_below_1) (fun H locs hM => ?_)
  refine lv_topi (fun x1 ex1 => ?_)
  have hf := jlet_y ex1 hf
  refine lv_istore_n (lv' := [(2, .int x1), (0, .long v0)]) hx hb dX5_below_4 rfl hl (by decide) rfl (fun ls hl => ?_)
  refine lv_iload_n hx hb dX5_below_5 rfl (lv_at hl 0 rfl) ?_
  refine lv_bipush (v := (52 : Int32)) hx hb dX5_below_6 (by decide) ?_
  refine lv_icmp_lt (tgt := 13) hx hb dX5_below_8 (by decide) (fun c2 => ?_) (fun c2 => ?_)
  · have hf := jt c2 hf
    refine lv_iload_n hx hb dX5_below_13 rfl (lv_at hl 0 rfl) ?_
    refine lv_if_ge (tgt := 43) hx hb dX5_below_14 (by decide) (fun c3 => ?_) (fun c3 => ?_)
    · have hf := jt c3 hf
      refine lv_ldc2 (v := (4503599627370495 : Int64)) hx hb hown (hts _ lk_4_104) dX5_below_43 ?_
      refine lv_iload_n hx hb dX5_below_46 rfl (lv_at hl 0 rfl) ?_
      refine lv_lushr hx hb dX5_below_47 rfl ?_
      refine lv_topl (fun x4 ex4 => ?_)
      have hf := jlet_y ex4 hf
      refine lv_lstore_n (lv' := [(3, .long x4), (2, .int x1), (0, .long v0)]) hx hb dX5_below_48 rfl hl (by decide) rfl (fun ls hl => ?_)
      refine lv_lload_n hx hb dX5_below_49 rfl (lv_at hl 2 rfl) ?_
      refine lv_lconst (v := (0 : Int64)) hx hb dX5_below_50 (by decide) ?_
      refine jl_ge (tgt := 67) hx hb dX5_below_51 dX5_below_52 (by decide) (fun c5 => ?_) (fun c5 => ?_)
      · have hf := jt c5 hf
        refine lv_lload_n hx hb dX5_below_67 rfl (lv_at hl 2 rfl) ?_
        refine lv_lload_n hx hb dX5_below_68 rfl (lv_at hl 0 rfl) ?_
        refine lv_ldc2 (v := (-1 : Int64)) hx hb hown (hts _ lk_5_64) dX5_below_69 ?_
        refine lv_lxor hx hb dX5_below_72 ?_
        refine lv_land hx hb dX5_below_73 ?_
        exact jlret (jr0 hf) E hM dX5_below_74
      · have hf := jf c5 hf
        refine lv_lload_n hx hb dX5_below_55 rfl (lv_at hl 2 rfl) ?_
        refine lv_lload_n hx hb dX5_below_56 rfl (lv_at hl 0 rfl) ?_
        refine lv_ladd hx hb dX5_below_57 ?_
        refine lv_lload_n hx hb dX5_below_58 rfl (lv_at hl 0 rfl) ?_
        refine lv_ldc2 (v := (-1 : Int64)) hx hb hown (hts _ lk_5_64) dX5_below_59 ?_
        refine lv_lxor hx hb dX5_below_62 ?_
        refine lv_land hx hb dX5_below_63 ?_
        refine lv_goto (tgt := 74) hx hb dX5_below_64 (by decide) ?_
        exact jlret (jr0 hf) E hM dX5_below_74
    · have hf := jf c3 hf
      refine lv_lload_n hx hb dX5_below_17 rfl (lv_at hl 1 rfl) ?_
      refine lv_lconst (v := (0 : Int64)) hx hb dX5_below_18 (by decide) ?_
      refine jl_ge (tgt := 31) hx hb dX5_below_19 dX5_below_20 (by decide) (fun c6 => ?_) (fun c6 => ?_)
      · have hf := jt c6 hf
        exact B_X5_below_31 E  hf hM (lv_sub hl [1] rfl)
      · have hf := jf c6 hf
        refine lv_lload_n hx hb dX5_below_23 rfl (lv_at hl 1 rfl) ?_
        refine lv_ldc2 (v := (-9223372036854775808 : Int64)) hx hb hown (hts _ lk_4_91) dX5_below_24 ?_
        refine jl_ne (tgt := 39) hx hb dX5_below_27 dX5_below_28 (by decide) (fun c7 => ?_) (fun c7 => ?_)
        · have hf := jf c7 hf
          refine lv_ldc2 (v := (-4616189618054758400 : Int64)) hx hb hown (hts _ lk_5_63) dX5_below_39 ?_
          exact jlret (jr0 hf) E hM dX5_below_42
        · have hf := jt c7 hf
          exact B_X5_below_31 E  hf hM (lv_sub hl [1] rfl)
  · have hf := jf c2 hf
    refine lv_lload_n hx hb dX5_below_11 rfl (lv_at hl 1 rfl) ?_
    exact jlret (jr0 hf) E hM dX5_below_12
set_option maxRecDepth 100000 in
theorem C_X5_below {l : Launch} {g : jG} {a0 : Int64} {S : jM} {rr : Int64} (hf : f_X5_below a0 = rr) : jMet l g yX5_below cX5_below 5 (some .long) 2 0 0 [.long a0] S (jQl g rr S) := by
  refine jof (by decide +kernel) (Nat.le_of_ble_eq_true rfl) ?_
  intro p e s m below meth c E hM ls hl
  have hl : lv_has ls 5 [(0, .long a0)] := hl
  exact B_X5_below_0 E hf hM hl
-- PensionHouse$Real.near(J)J  mode T
noncomputable def f_X5_near_119 (t0 : Int64) (t1 : Int64) : Int64 := t0 + t1
noncomputable def f_X5_near_118 (t0 : Int64) : Int64 := f_X5_near_119 t0 (0 : Int64)
noncomputable def f_X5_near_113 (v5 : Int64) (t0 : Int64) : Int64 := f_X5_near_119 t0 v5
noncomputable def f_X5_near_83 (v0 : Int64) (v3 : Int64) (v5 : Int64) (v7 : Int64) (v9 : Int64) (t0 : Int32) : Int64 := if v7 < v9 then f_X5_near_113 v5 (v0 &&& (v3 ^^^ (-1 : Int64))) else if v9 = v7 then if t0 = 0 then f_X5_near_118 (v0 &&& (v3 ^^^ (-1 : Int64))) else f_X5_near_113 v5 (v0 &&& (v3 ^^^ (-1 : Int64))) else f_X5_near_118 (v0 &&& (v3 ^^^ (-1 : Int64)))
noncomputable def f_X5_near (v0 : Int64) : Int64 := jlet (f_X5_power v0) (fun x4 => if x4 < (52 : Int32) then if 0 ≤ x4 then jlet (((4503599627370495 : Int64).toUInt64 >>> (x4.toInt64.toUInt64 &&& Int64.toUInt64 63)).toInt64) (fun x7 => jlet (x7 + (1 : Int64)) (fun x8 => jlet ((x8.toUInt64 >>> ((1 : Int32).toInt64.toUInt64 &&& Int64.toUInt64 63)).toInt64) (fun x9 => jlet (v0 &&& x7) (fun x10 => if (v0 &&& x8) = (0 : Int64) then f_X5_near_83 v0 x7 x8 x9 x10 (0 : Int32) else f_X5_near_83 v0 x7 x8 x9 x10 (1 : Int32))))) else if (v0 &&& (9223372036854775807 : Int64)) ≤ (4602678819172646912 : Int64) then v0 &&& (-9223372036854775808 : Int64) else (v0 &&& (-9223372036854775808 : Int64)) ||| (4607182418800017408 : Int64) else v0)
set_option maxRecDepth 100000 in
set_option maxHeartbeats 4000000 in
theorem B_X5_near_119 {p : Program} {l : Launch} {e : Env} {s : State} {m : MethodId} {args : Array Value} {below : List Frame} {meth : Method} {c : Code} {g : jG} {rr : Int64} {S : jM} {t0 : Int64} {t1 : Int64} (E : jEnv p s m args meth c cX5_near "PensionHouse$Real" (some .long) 12 g)  {H : Heap} {locs : List Loc} {ls : Array Slot} (hf : f_X5_near_119 t0 t1 = rr) (hM : jAt g S s H locs) (hl : lv_has ls 12 []) : W p l e (jRm 2 0 0) s m args below meth c H locs 0 0 (MQ below (jQl g rr S) args s 0 0 (jA0 g)) (F0 m 119 ls [.long t1, .long t0]) := by
  obtain ⟨hx, hb, hml, -, hts, hown, hK, -, hstr⟩ := id E
  unfold f_X5_near_119 at hf
  refine lv_ladd hx hb dX5_near_119 ?_
  exact jlret (jr0 hf) E hM dX5_near_120
set_option maxRecDepth 100000 in
set_option maxHeartbeats 4000000 in
theorem B_X5_near_118 {p : Program} {l : Launch} {e : Env} {s : State} {m : MethodId} {args : Array Value} {below : List Frame} {meth : Method} {c : Code} {g : jG} {rr : Int64} {S : jM} {t0 : Int64} (E : jEnv p s m args meth c cX5_near "PensionHouse$Real" (some .long) 12 g)  {H : Heap} {locs : List Loc} {ls : Array Slot} (hf : f_X5_near_118 t0 = rr) (hM : jAt g S s H locs) (hl : lv_has ls 12 []) : W p l e (jRm 2 0 0) s m args below meth c H locs 0 0 (MQ below (jQl g rr S) args s 0 0 (jA0 g)) (F0 m 118 ls [.long t0]) := by
  obtain ⟨hx, hb, hml, -, hts, hown, hK, -, hstr⟩ := id E
  unfold f_X5_near_118 at hf
  refine lv_lconst (v := (0 : Int64)) hx hb dX5_near_118 (by decide) ?_
  exact B_X5_near_119 E  hf hM (lv_sub hl [] rfl)
set_option maxRecDepth 100000 in
set_option maxHeartbeats 4000000 in
theorem B_X5_near_113 {p : Program} {l : Launch} {e : Env} {s : State} {m : MethodId} {args : Array Value} {below : List Frame} {meth : Method} {c : Code} {g : jG} {rr : Int64} {S : jM} {v5 : Int64} {t0 : Int64} (E : jEnv p s m args meth c cX5_near "PensionHouse$Real" (some .long) 12 g)  {H : Heap} {locs : List Loc} {ls : Array Slot} (hf : f_X5_near_113 v5 t0 = rr) (hM : jAt g S s H locs) (hl : lv_has ls 12 [(5, .long v5)]) : W p l e (jRm 2 0 0) s m args below meth c H locs 0 0 (MQ below (jQl g rr S) args s 0 0 (jA0 g)) (F0 m 113 ls [.long t0]) := by
  obtain ⟨hx, hb, hml, -, hts, hown, hK, -, hstr⟩ := id E
  unfold f_X5_near_113 at hf
  refine lv_lload hx hb dX5_near_113 (lv_at hl 0 rfl) ?_
  refine lv_goto (tgt := 119) hx hb dX5_near_115 (by decide) ?_
  exact B_X5_near_119 E  hf hM (lv_sub hl [] rfl)
set_option maxRecDepth 100000 in
set_option maxHeartbeats 4000000 in
theorem B_X5_near_83 {p : Program} {l : Launch} {e : Env} {s : State} {m : MethodId} {args : Array Value} {below : List Frame} {meth : Method} {c : Code} {g : jG} {rr : Int64} {S : jM} {v0 : Int64} {v3 : Int64} {v5 : Int64} {v7 : Int64} {v9 : Int64} {t0 : Int32} (E : jEnv p s m args meth c cX5_near "PensionHouse$Real" (some .long) 12 g)  {H : Heap} {locs : List Loc} {ls : Array Slot} (hf : f_X5_near_83 v0 v3 v5 v7 v9 t0 = rr) (hM : jAt g S s H locs) (hl : lv_has ls 12 [(0, .long v0), (3, .long v3), (5, .long v5), (7, .long v7), (9, .long v9)]) : W p l e (jRm 2 0 0) s m args below meth c H locs 0 0 (MQ below (jQl g rr S) args s 0 0 (jA0 g)) (F0 m 83 ls [.int t0]) := by
  obtain ⟨hx, hb, hml, -, hts, hown, hK, -, hstr⟩ := id E
  unfold f_X5_near_83 at hf
  refine lv_istore (lv' := [(11, .int t0), (0, .long v0), (3, .long v3), (5, .long v5), (7, .long v7), (9, .long v9)]) hx hb dX5_near_83 hl (by decide) rfl (fun ls hl => ?_)
  refine lv_lload_n hx hb dX5_near_85 rfl (lv_at hl 1 rfl) ?_
  refine lv_lload_n hx hb dX5_near_86 rfl (lv_at hl 2 rfl) ?_
  refine lv_ldc2 (v := (-1 : Int64)) hx hb hown (hts _ lk_5_64) dX5_near_87 ?_
  refine lv_lxor hx hb dX5_near_90 ?_
  refine lv_land hx hb dX5_near_91 ?_
  refine lv_lload hx hb dX5_near_92 (lv_at hl 5 rfl) ?_
  refine lv_lload hx hb dX5_near_94 (lv_at hl 4 rfl) ?_
  refine jl_gt (tgt := 113) hx hb dX5_near_96 dX5_near_97 (by decide) (fun c1 => ?_) (fun c1 => ?_)
  · have hf := jt c1 hf
    exact B_X5_near_113 E  hf hM (lv_sub hl [3] rfl)
  · have hf := jf c1 hf
    refine lv_lload hx hb dX5_near_100 (lv_at hl 5 rfl) ?_
    refine lv_lload hx hb dX5_near_102 (lv_at hl 4 rfl) ?_
    refine jl_ne (tgt := 118) hx hb dX5_near_104 dX5_near_105 (by decide) (fun c2 => ?_) (fun c2 => ?_)
    · have hf := jf c2 hf
      exact B_X5_near_118 E  hf hM (lv_sub hl [] rfl)
    · have hf := jt c2 hf
      refine lv_iload hx hb dX5_near_108 (lv_at hl 0 rfl) ?_
      refine lv_if_eq (tgt := 118) hx hb dX5_near_110 (by decide) (fun c3 => ?_) (fun c3 => ?_)
      · have hf := jt c3 hf
        exact B_X5_near_118 E  hf hM (lv_sub hl [] rfl)
      · have hf := jf c3 hf
        exact B_X5_near_113 E  hf hM (lv_sub hl [3] rfl)
set_option maxRecDepth 100000 in
set_option maxHeartbeats 4000000 in
theorem B_X5_near_0 {p : Program} {l : Launch} {e : Env} {s : State} {m : MethodId} {args : Array Value} {below : List Frame} {meth : Method} {c : Code} {g : jG} {rr : Int64} {S : jM} {v0 : Int64} (E : jEnv p s m args meth c cX5_near "PensionHouse$Real" (some .long) 12 g)  {H : Heap} {locs : List Loc} {ls : Array Slot} (hf : f_X5_near v0 = rr) (hM : jAt g S s H locs) (hl : lv_has ls 12 [(0, .long v0)]) : W p l e (jRm 2 0 0) s m args below meth c H locs 0 0 (MQ below (jQl g rr S) args s 0 0 (jA0 g)) (F0 m 0 ls []) := by
  obtain ⟨hx, hb, hml, -, hts, hown, hK, -, hstr⟩ := id E
  unfold f_X5_near at hf
  refine lv_lload_n hx hb dX5_near_0 rfl (lv_at hl 0 rfl) ?_
  refine jbackI hM (jrunS E hM ci_X5_power (C_X5_power rfl) lk_5_54 hl.1 rfl rfl (Nat.le_of_ble_eq_true rfl) ⟨Nat.le_of_ble_eq_true rfl, Nat.le_of_ble_eq_true rfl⟩ ⟨Nat.le_refl _, Nat.le_refl _⟩ dX5_near_1) (fun H locs hM => ?_)
  refine lv_topi (fun x4 ex4 => ?_)
  have hf := jlet_y ex4 hf
  refine lv_istore_n (lv' := [(2, .int x4), (0, .long v0)]) hx hb dX5_near_4 rfl hl (by decide) rfl (fun ls hl => ?_)
  refine lv_iload_n hx hb dX5_near_5 rfl (lv_at hl 0 rfl) ?_
  refine lv_bipush (v := (52 : Int32)) hx hb dX5_near_6 (by decide) ?_
  refine lv_icmp_lt (tgt := 13) hx hb dX5_near_8 (by decide) (fun c5 => ?_) (fun c5 => ?_)
  · have hf := jt c5 hf
    refine lv_iload_n hx hb dX5_near_13 rfl (lv_at hl 0 rfl) ?_
    refine lv_if_ge (tgt := 47) hx hb dX5_near_14 (by decide) (fun c6 => ?_) (fun c6 => ?_)
    · have hf := jt c6 hf
      refine lv_ldc2 (v := (4503599627370495 : Int64)) hx hb hown (hts _ lk_4_104) dX5_near_47 ?_
      refine lv_iload_n hx hb dX5_near_50 rfl (lv_at hl 0 rfl) ?_
      refine lv_lushr hx hb dX5_near_51 rfl ?_
      refine lv_topl (fun x7 ex7 => ?_)
      have hf := jlet_y ex7 hf
      refine lv_lstore_n (lv' := [(3, .long x7), (2, .int x4), (0, .long v0)]) hx hb dX5_near_52 rfl hl (by decide) rfl (fun ls hl => ?_)
      refine lv_lload_n hx hb dX5_near_53 rfl (lv_at hl 0 rfl) ?_
      refine lv_lconst (v := (1 : Int64)) hx hb dX5_near_54 (by decide) ?_
      refine lv_ladd hx hb dX5_near_55 ?_
      refine lv_topl (fun x8 ex8 => ?_)
      have hf := jlet_y ex8 hf
      refine lv_lstore (lv' := [(5, .long x8), (3, .long x7), (2, .int x4), (0, .long v0)]) hx hb dX5_near_56 hl (by decide) rfl (fun ls hl => ?_)
      refine lv_lload hx hb dX5_near_58 (lv_at hl 0 rfl) ?_
      refine lv_iconst (v := (1 : Int32)) hx hb dX5_near_60 (by decide) ?_
      refine lv_lushr hx hb dX5_near_61 rfl ?_
      refine lv_topl (fun x9 ex9 => ?_)
      have hf := jlet_y ex9 hf
      refine lv_lstore (lv' := [(7, .long x9), (5, .long x8), (3, .long x7), (2, .int x4), (0, .long v0)]) hx hb dX5_near_62 hl (by decide) rfl (fun ls hl => ?_)
      refine lv_lload_n hx hb dX5_near_64 rfl (lv_at hl 4 rfl) ?_
      refine lv_lload_n hx hb dX5_near_65 rfl (lv_at hl 2 rfl) ?_
      refine lv_land hx hb dX5_near_66 ?_
      refine lv_topl (fun x10 ex10 => ?_)
      have hf := jlet_y ex10 hf
      refine lv_lstore (lv' := [(9, .long x10), (7, .long x9), (5, .long x8), (3, .long x7), (2, .int x4), (0, .long v0)]) hx hb dX5_near_67 hl (by decide) rfl (fun ls hl => ?_)
      refine lv_lload_n hx hb dX5_near_69 rfl (lv_at hl 5 rfl) ?_
      refine lv_lload hx hb dX5_near_70 (lv_at hl 2 rfl) ?_
      refine lv_land hx hb dX5_near_72 ?_
      refine lv_lconst (v := (0 : Int64)) hx hb dX5_near_73 (by decide) ?_
      refine jl_eq (tgt := 82) hx hb dX5_near_74 dX5_near_75 (by decide) (fun c11 => ?_) (fun c11 => ?_)
      · have hf := jt c11 hf
        refine lv_iconst (v := (0 : Int32)) hx hb dX5_near_82 (by decide) ?_
        exact B_X5_near_83 E  hf hM (lv_sub hl [5, 3, 2, 1, 0] rfl)
      · have hf := jf c11 hf
        refine lv_iconst (v := (1 : Int32)) hx hb dX5_near_78 (by decide) ?_
        refine lv_goto (tgt := 83) hx hb dX5_near_79 (by decide) ?_
        exact B_X5_near_83 E  hf hM (lv_sub hl [5, 3, 2, 1, 0] rfl)
    · have hf := jf c6 hf
      refine lv_lload_n hx hb dX5_near_17 rfl (lv_at hl 1 rfl) ?_
      refine lv_ldc2 (v := (9223372036854775807 : Int64)) hx hb hown (hts _ lk_3_23) dX5_near_18 ?_
      refine lv_land hx hb dX5_near_21 ?_
      refine lv_ldc2 (v := (4602678819172646912 : Int64)) hx hb hown (hts _ lk_5_68) dX5_near_22 ?_
      refine jl_le (tgt := 41) hx hb dX5_near_25 dX5_near_26 (by decide) (fun c12 => ?_) (fun c12 => ?_)
      · have hf := jt c12 hf
        refine lv_lload_n hx hb dX5_near_41 rfl (lv_at hl 1 rfl) ?_
        refine lv_ldc2 (v := (-9223372036854775808 : Int64)) hx hb hown (hts _ lk_4_91) dX5_near_42 ?_
        refine lv_land hx hb dX5_near_45 ?_
        exact jlret (jr0 hf) E hM dX5_near_46
      · have hf := jf c12 hf
        refine lv_lload_n hx hb dX5_near_29 rfl (lv_at hl 1 rfl) ?_
        refine lv_ldc2 (v := (-9223372036854775808 : Int64)) hx hb hown (hts _ lk_4_91) dX5_near_30 ?_
        refine lv_land hx hb dX5_near_33 ?_
        refine lv_ldc2 (v := (4607182418800017408 : Int64)) hx hb hown (hts _ lk_5_69) dX5_near_34 ?_
        refine lv_lor hx hb dX5_near_37 ?_
        refine lv_goto (tgt := 46) hx hb dX5_near_38 (by decide) ?_
        exact jlret (jr0 hf) E hM dX5_near_46
  · have hf := jf c5 hf
    refine lv_lload_n hx hb dX5_near_11 rfl (lv_at hl 1 rfl) ?_
    exact jlret (jr0 hf) E hM dX5_near_12
set_option maxRecDepth 100000 in
theorem C_X5_near {l : Launch} {g : jG} {a0 : Int64} {S : jM} {rr : Int64} (hf : f_X5_near a0 = rr) : jMet l g yX5_near cX5_near 12 (some .long) 2 0 0 [.long a0] S (jQl g rr S) := by
  refine jof (by decide +kernel) (Nat.le_of_ble_eq_true rfl) ?_
  intro p e s m below meth c E hM ls hl
  have hl : lv_has ls 12 [(0, .long a0)] := hl
  exact B_X5_near_0 E hf hM hl
-- PensionHouse$Real.root(J)J  mode P
noncomputable def f_X5_root_207 (t0 : Int64) (t1 : Int32) (t2 : Int64) (t3 : Int32) : Option Int64 := (f_X5_rounded t0 t1 (t2 ||| (t3.toInt64))).bind (fun x1 => some x1)
noncomputable def f_X5_root_175 (k98 : Int64 → Int32 → Int64 → Int64 → Int32 → Option Int64) (v3 : Int64) (v5 : Int32) (v6 : Int64) (v8 : Int64) (v10 : Int32) : Option Int64 := jlet (v10 + (1 : Int32)) (fun x3 => k98 v3 v5 v6 v8 x3)
noncomputable def f_X5_root_129 (k98 : Int64 → Int32 → Int64 → Int64 → Int32 → Option Int64) (v3 : Int64) (v5 : Int32) (v6 : Int64) (v8 : Int64) (v10 : Int32) (t0 : Int64) : Option Int64 := jlet ((v8 <<< ((2 : Int32).toInt64 &&& 63)) ||| t0) (fun x4 => jlet ((v6 <<< ((2 : Int32).toInt64 &&& 63)) ||| (1 : Int64)) (fun x5 => jlet (v6 <<< ((1 : Int32).toInt64 &&& 63)) (fun x6 => if x4 < x5 then f_X5_root_175 k98 v3 v5 x6 x4 v10 else jlet (x4 - x5) (fun x8 => jlet (x6 ||| (1 : Int64)) (fun x9 => f_X5_root_175 k98 v3 v5 x9 x8 v10)))))
noncomputable def f_X5_root_98 : Nat → Int64 → Int32 → Int64 → Int64 → Int32 → Option Int64
  | 0, _, _, _, _, _ => none
  | n + 1, v3, v5, v6, v8, v10 => if (57 : Int32) ≤ v10 then if v8 = (0 : Int64) then f_X5_root_207 (0 : Int64) (((v5 - (60 : Int32)) / (2 : Int32)) - (1 : Int32)) (v6 <<< ((1 : Int32).toInt64 &&& 63)) (0 : Int32) else f_X5_root_207 (0 : Int64) (((v5 - (60 : Int32)) / (2 : Int32)) - (1 : Int32)) (v6 <<< ((1 : Int32).toInt64 &&& 63)) (1 : Int32) else if (27 : Int32) ≤ v10 then f_X5_root_129 (f_X5_root_98 n) v3 v5 v6 v8 v10 (0 : Int64) else f_X5_root_129 (f_X5_root_98 n) v3 v5 v6 v8 v10 (((v3.toUInt64 >>> (((52 : Int32) - ((2 : Int32) * v10)).toInt64.toUInt64 &&& Int64.toUInt64 63)).toInt64) &&& (3 : Int64))
noncomputable def f_X5_root_87 (v3 : Int64) (t0 : Int32) : Option Int64 := f_X5_root_98 1100000 v3 t0 (0 : Int64) (0 : Int64) (0 : Int32)
noncomputable def f_X5_root_69 (v0 : Int64) (v2 : Int32) (t0 : Int64) : Option Int64 := if v2 = 0 then (f_X5_exponent v0).bind (fun x14 => f_X5_root_87 t0 x14) else (f_X5_exponent v0).bind (fun x16 => f_X5_root_87 t0 (x16 - (1 : Int32)))
noncomputable def f_X5_root_51 (v0 : Int64) (t0 : Int32) : Option Int64 := if t0 = 0 then (f_X5_mantissa v0).bind (fun x19 => f_X5_root_69 v0 t0 x19) else (f_X5_mantissa v0).bind (fun x21 => f_X5_root_69 v0 t0 (x21 <<< ((1 : Int32).toInt64 &&& 63)))
noncomputable def f_X5_root (v0 : Int64) : Option Int64 := if (f_X5_isNot v0) = 0 then if (v0 &&& (9223372036854775807 : Int64)) = (0 : Int64) then some v0 else if v0 = (9218868437227405312 : Int64) then some v0 else if (0 : Int64) ≤ v0 then (f_X5_exponent v0).bind (fun x27 => if (x27 &&& (1 : Int32)) = 0 then f_X5_root_51 v0 (0 : Int32) else f_X5_root_51 v0 (1 : Int32)) else some (9221120237041090560 : Int64) else some v0
set_option maxRecDepth 100000 in
set_option maxHeartbeats 4000000 in
theorem B_X5_root_207 {p : Program} {l : Launch} {e : Env} {s : State} {m : MethodId} {args : Array Value} {below : List Frame} {meth : Method} {c : Code} {g : jG} {rr : Int64} {S : jM} {t0 : Int64} {t1 : Int32} {t2 : Int64} {t3 : Int32} (E : jEnv p s m args meth c cX5_root "PensionHouse$Real" (some .long) 15 g)  {H : Heap} {locs : List Loc} {ls : Array Slot} (hf : f_X5_root_207 t0 t1 t2 t3 = some rr) (hM : jAt g S s H locs) (hl : lv_has ls 15 []) : W p l e (jRm 2 0 0) s m args below meth c H locs 0 0 (MQ below (jQl g rr S) args s 0 0 (jA0 g)) (F0 m 207 ls [.int t3, .long t2, .int t1, .long t0]) := by
  obtain ⟨hx, hb, hml, -, hts, hown, hK, -, hstr⟩ := id E
  unfold f_X5_root_207 at hf
  refine lv_i2l hx hb dX5_root_207 rfl ?_
  refine lv_lor hx hb dX5_root_208 ?_
  obtain ⟨x1, hc2, hf⟩ := jb hf
  refine jbackL hM (jrunS E hM ci_X5_rounded (C_X5_rounded hc2) lk_4_93 hl.1 rfl rfl (Nat.le_of_ble_eq_true rfl) ⟨Nat.le_of_ble_eq_true rfl, Nat.le_of_ble_eq_true rfl⟩ ⟨Nat.le_refl _, Nat.le_refl _⟩ dX5_root_209) (fun H locs hM => ?_)
  exact jlret (jr1 hf) E hM dX5_root_212
set_option maxRecDepth 100000 in
set_option maxHeartbeats 4000000 in
theorem B_X5_root_175 {p : Program} {l : Launch} {e : Env} {s : State} {m : MethodId} {args : Array Value} {below : List Frame} {meth : Method} {c : Code} {g : jG} {rr : Int64} {S : jM} {v3 : Int64} {v5 : Int32} {v6 : Int64} {v8 : Int64} {v10 : Int32} {k98 : Int64 → Int32 → Int64 → Int64 → Int32 → Option Int64} (E : jEnv p s m args meth c cX5_root "PensionHouse$Real" (some .long) 15 g) (hk98 : ∀ (v3 : Int64) (v5 : Int32) (v6 : Int64) (v8 : Int64) (v10 : Int32) (H : Heap) (locs : List Loc) (ls : Array Slot), k98 v3 v5 v6 v8 v10 = some rr → jAt g S s H locs → lv_has ls 15 [(3, .long v3), (5, .int v5), (6, .long v6), (8, .long v8), (10, .int v10)] → W p l e (jRm 2 0 0) s m args below meth c H locs 0 0 (MQ below (jQl g rr S) args s 0 0 (jA0 g)) (F0 m 98 ls [])) {H : Heap} {locs : List Loc} {ls : Array Slot} (hf : f_X5_root_175 k98 v3 v5 v6 v8 v10 = some rr) (hM : jAt g S s H locs) (hl : lv_has ls 15 [(3, .long v3), (5, .int v5), (6, .long v6), (8, .long v8), (10, .int v10)]) : W p l e (jRm 2 0 0) s m args below meth c H locs 0 0 (MQ below (jQl g rr S) args s 0 0 (jA0 g)) (F0 m 175 ls []) := by
  obtain ⟨hx, hb, hml, -, hts, hown, hK, -, hstr⟩ := id E
  unfold f_X5_root_175 at hf
  obtain ⟨x3, ex3⟩ : ∃ z, z = v10 + (1 : Int32) := ⟨_, rfl⟩
  have hf := jlet_y ex3 hf
  refine lv_iinc (v := x3) (lv' := [(10, .int x3), (3, .long v3), (5, .int v5), (6, .long v6), (8, .long v8)]) hx hb dX5_root_175 hl (k := 4) rfl (by rw [ex3]; rfl) (by decide) rfl (fun ls hl => ?_)
  refine lv_goto (tgt := 98) hx hb dX5_root_178 (by decide) ?_
  exact hk98 v3 v5 v6 v8 x3 _ _ _ hf hM (lv_sub hl [1, 2, 3, 4, 0] rfl)
set_option maxRecDepth 100000 in
set_option maxHeartbeats 4000000 in
theorem B_X5_root_129 {p : Program} {l : Launch} {e : Env} {s : State} {m : MethodId} {args : Array Value} {below : List Frame} {meth : Method} {c : Code} {g : jG} {rr : Int64} {S : jM} {v3 : Int64} {v5 : Int32} {v6 : Int64} {v8 : Int64} {v10 : Int32} {t0 : Int64} {k98 : Int64 → Int32 → Int64 → Int64 → Int32 → Option Int64} (E : jEnv p s m args meth c cX5_root "PensionHouse$Real" (some .long) 15 g) (hk98 : ∀ (v3 : Int64) (v5 : Int32) (v6 : Int64) (v8 : Int64) (v10 : Int32) (H : Heap) (locs : List Loc) (ls : Array Slot), k98 v3 v5 v6 v8 v10 = some rr → jAt g S s H locs → lv_has ls 15 [(3, .long v3), (5, .int v5), (6, .long v6), (8, .long v8), (10, .int v10)] → W p l e (jRm 2 0 0) s m args below meth c H locs 0 0 (MQ below (jQl g rr S) args s 0 0 (jA0 g)) (F0 m 98 ls [])) {H : Heap} {locs : List Loc} {ls : Array Slot} (hf : f_X5_root_129 k98 v3 v5 v6 v8 v10 t0 = some rr) (hM : jAt g S s H locs) (hl : lv_has ls 15 [(3, .long v3), (5, .int v5), (6, .long v6), (8, .long v8), (10, .int v10)]) : W p l e (jRm 2 0 0) s m args below meth c H locs 0 0 (MQ below (jQl g rr S) args s 0 0 (jA0 g)) (F0 m 129 ls [.long t0]) := by
  obtain ⟨hx, hb, hml, -, hts, hown, hK, -, hstr⟩ := id E
  unfold f_X5_root_129 at hf
  refine lv_lstore (lv' := [(11, .long t0), (3, .long v3), (5, .int v5), (6, .long v6), (8, .long v8), (10, .int v10)]) hx hb dX5_root_129 hl (by decide) rfl (fun ls hl => ?_)
  refine lv_lload hx hb dX5_root_131 (lv_at hl 4 rfl) ?_
  refine lv_iconst (v := (2 : Int32)) hx hb dX5_root_133 (by decide) ?_
  refine lv_lshl hx hb dX5_root_134 rfl ?_
  refine lv_lload hx hb dX5_root_135 (lv_at hl 0 rfl) ?_
  refine lv_lor hx hb dX5_root_137 ?_
  refine lv_topl (fun x4 ex4 => ?_)
  have hf := jlet_y ex4 hf
  refine lv_lstore (lv' := [(8, .long x4), (11, .long t0), (3, .long v3), (5, .int v5), (6, .long v6), (10, .int v10)]) hx hb dX5_root_138 hl (by decide) rfl (fun ls hl => ?_)
  refine lv_lload hx hb dX5_root_140 (lv_at hl 4 rfl) ?_
  refine lv_iconst (v := (2 : Int32)) hx hb dX5_root_142 (by decide) ?_
  refine lv_lshl hx hb dX5_root_143 rfl ?_
  refine lv_lconst (v := (1 : Int64)) hx hb dX5_root_144 (by decide) ?_
  refine lv_lor hx hb dX5_root_145 ?_
  refine lv_topl (fun x5 ex5 => ?_)
  have hf := jlet_y ex5 hf
  refine lv_lstore (lv' := [(13, .long x5), (8, .long x4), (11, .long t0), (3, .long v3), (5, .int v5), (6, .long v6), (10, .int v10)]) hx hb dX5_root_146 hl (by decide) rfl (fun ls hl => ?_)
  refine lv_lload hx hb dX5_root_148 (lv_at hl 5 rfl) ?_
  refine lv_iconst (v := (1 : Int32)) hx hb dX5_root_150 (by decide) ?_
  refine lv_lshl hx hb dX5_root_151 rfl ?_
  refine lv_topl (fun x6 ex6 => ?_)
  have hf := jlet_y ex6 hf
  refine lv_lstore (lv' := [(6, .long x6), (13, .long x5), (8, .long x4), (11, .long t0), (3, .long v3), (5, .int v5), (10, .int v10)]) hx hb dX5_root_152 hl (by decide) rfl (fun ls hl => ?_)
  refine lv_lload hx hb dX5_root_154 (lv_at hl 2 rfl) ?_
  refine lv_lload hx hb dX5_root_156 (lv_at hl 1 rfl) ?_
  refine jl_lt (tgt := 175) hx hb dX5_root_158 dX5_root_159 (by decide) (fun c7 => ?_) (fun c7 => ?_)
  · have hf := jt c7 hf
    exact B_X5_root_175 E hk98 hf hM (lv_sub hl [4, 5, 0, 2, 6] rfl)
  · have hf := jf c7 hf
    refine lv_lload hx hb dX5_root_162 (lv_at hl 2 rfl) ?_
    refine lv_lload hx hb dX5_root_164 (lv_at hl 1 rfl) ?_
    refine lv_lsub hx hb dX5_root_166 ?_
    refine lv_topl (fun x8 ex8 => ?_)
    have hf := jlet_y ex8 hf
    refine lv_lstore (lv' := [(8, .long x8), (6, .long x6), (13, .long x5), (11, .long t0), (3, .long v3), (5, .int v5), (10, .int v10)]) hx hb dX5_root_167 hl (by decide) rfl (fun ls hl => ?_)
    refine lv_lload hx hb dX5_root_169 (lv_at hl 1 rfl) ?_
    refine lv_lconst (v := (1 : Int64)) hx hb dX5_root_171 (by decide) ?_
    refine lv_lor hx hb dX5_root_172 ?_
    refine lv_topl (fun x9 ex9 => ?_)
    have hf := jlet_y ex9 hf
    refine lv_lstore (lv' := [(6, .long x9), (8, .long x8), (13, .long x5), (11, .long t0), (3, .long v3), (5, .int v5), (10, .int v10)]) hx hb dX5_root_173 hl (by decide) rfl (fun ls hl => ?_)
    exact B_X5_root_175 E hk98 hf hM (lv_sub hl [4, 5, 0, 1, 6] rfl)
set_option maxRecDepth 100000 in
set_option maxHeartbeats 4000000 in
theorem B_X5_root_98 {p : Program} {l : Launch} {e : Env} {s : State} {m : MethodId} {args : Array Value} {below : List Frame} {meth : Method} {c : Code} {g : jG} {rr : Int64} {S : jM} (E : jEnv p s m args meth c cX5_root "PensionHouse$Real" (some .long) 15 g)  : ∀ (n : Nat) (v3 : Int64) (v5 : Int32) (v6 : Int64) (v8 : Int64) (v10 : Int32) (H : Heap) (locs : List Loc) (ls : Array Slot), f_X5_root_98 n v3 v5 v6 v8 v10 = some rr → jAt g S s H locs → lv_has ls 15 [(3, .long v3), (5, .int v5), (6, .long v6), (8, .long v8), (10, .int v10)] → W p l e (jRm 2 0 0) s m args below meth c H locs 0 0 (MQ below (jQl g rr S) args s 0 0 (jA0 g)) (F0 m 98 ls []) := by
  obtain ⟨hx, hb, hml, -, hts, hown, hK, -, hstr⟩ := id E
  intro n
  induction n with
  | zero => intro v3 v5 v6 v8 v10 H locs ls hf hM hl; rw [f_X5_root_98] at hf; cases hf
  | succ n ih =>
    intro v3 v5 v6 v8 v10 H locs ls hf hM hl
    rw [f_X5_root_98] at hf
    refine lv_iload hx hb dX5_root_98 (lv_at hl 4 rfl) ?_
    refine lv_bipush (v := (57 : Int32)) hx hb dX5_root_100 (by decide) ?_
    refine lv_icmp_ge (tgt := 181) hx hb dX5_root_102 (by decide) (fun c10 => ?_) (fun c10 => ?_)
    · have hf := jt c10 hf
      refine lv_lconst (v := (0 : Int64)) hx hb dX5_root_181 (by decide) ?_
      refine lv_iload hx hb dX5_root_182 (lv_at hl 1 rfl) ?_
      refine lv_bipush (v := (60 : Int32)) hx hb dX5_root_184 (by decide) ?_
      refine lv_isub hx hb dX5_root_186 ?_
      refine lv_iconst (v := (2 : Int32)) hx hb dX5_root_187 (by decide) ?_
      refine lv_idiv hx hb dX5_root_188 (by decide) ?_
      refine lv_iconst (v := (1 : Int32)) hx hb dX5_root_189 (by decide) ?_
      refine lv_isub hx hb dX5_root_190 ?_
      refine lv_lload hx hb dX5_root_191 (lv_at hl 2 rfl) ?_
      refine lv_iconst (v := (1 : Int32)) hx hb dX5_root_193 (by decide) ?_
      refine lv_lshl hx hb dX5_root_194 rfl ?_
      refine lv_lload hx hb dX5_root_195 (lv_at hl 3 rfl) ?_
      refine lv_lconst (v := (0 : Int64)) hx hb dX5_root_197 (by decide) ?_
      refine jl_eq (tgt := 206) hx hb dX5_root_198 dX5_root_199 (by decide) (fun c11 => ?_) (fun c11 => ?_)
      · have hf := jt c11 hf
        refine lv_iconst (v := (0 : Int32)) hx hb dX5_root_206 (by decide) ?_
        exact B_X5_root_207 E  hf hM (lv_sub hl [] rfl)
      · have hf := jf c11 hf
        refine lv_iconst (v := (1 : Int32)) hx hb dX5_root_202 (by decide) ?_
        refine lv_goto (tgt := 207) hx hb dX5_root_203 (by decide) ?_
        exact B_X5_root_207 E  hf hM (lv_sub hl [] rfl)
    · have hf := jf c10 hf
      refine lv_iload hx hb dX5_root_105 (lv_at hl 4 rfl) ?_
      refine lv_bipush (v := (27 : Int32)) hx hb dX5_root_107 (by decide) ?_
      refine lv_icmp_ge (tgt := 128) hx hb dX5_root_109 (by decide) (fun c12 => ?_) (fun c12 => ?_)
      · have hf := jt c12 hf
        refine lv_lconst (v := (0 : Int64)) hx hb dX5_root_128 (by decide) ?_
        exact B_X5_root_129 E ih hf hM (lv_sub hl [0, 1, 2, 3, 4] rfl)
      · have hf := jf c12 hf
        refine lv_lload_n hx hb dX5_root_112 rfl (lv_at hl 0 rfl) ?_
        refine lv_bipush (v := (52 : Int32)) hx hb dX5_root_113 (by decide) ?_
        refine lv_iconst (v := (2 : Int32)) hx hb dX5_root_115 (by decide) ?_
        refine lv_iload hx hb dX5_root_116 (lv_at hl 4 rfl) ?_
        refine lv_imul hx hb dX5_root_118 ?_
        refine lv_isub hx hb dX5_root_119 ?_
        refine lv_lushr hx hb dX5_root_120 rfl ?_
        refine lv_ldc2 (v := (3 : Int64)) hx hb hown (hts _ lk_5_73) dX5_root_121 ?_
        refine lv_land hx hb dX5_root_124 ?_
        refine lv_goto (tgt := 129) hx hb dX5_root_125 (by decide) ?_
        exact B_X5_root_129 E ih hf hM (lv_sub hl [0, 1, 2, 3, 4] rfl)
set_option maxRecDepth 100000 in
set_option maxHeartbeats 4000000 in
theorem B_X5_root_87 {p : Program} {l : Launch} {e : Env} {s : State} {m : MethodId} {args : Array Value} {below : List Frame} {meth : Method} {c : Code} {g : jG} {rr : Int64} {S : jM} {v3 : Int64} {t0 : Int32} (E : jEnv p s m args meth c cX5_root "PensionHouse$Real" (some .long) 15 g)  {H : Heap} {locs : List Loc} {ls : Array Slot} (hf : f_X5_root_87 v3 t0 = some rr) (hM : jAt g S s H locs) (hl : lv_has ls 15 [(3, .long v3)]) : W p l e (jRm 2 0 0) s m args below meth c H locs 0 0 (MQ below (jQl g rr S) args s 0 0 (jA0 g)) (F0 m 87 ls [.int t0]) := by
  obtain ⟨hx, hb, hml, -, hts, hown, hK, -, hstr⟩ := id E
  unfold f_X5_root_87 at hf
  refine lv_istore (lv' := [(5, .int t0), (3, .long v3)]) hx hb dX5_root_87 hl (by decide) rfl (fun ls hl => ?_)
  refine lv_lconst (v := (0 : Int64)) hx hb dX5_root_89 (by decide) ?_
  refine lv_lstore (lv' := [(6, .long (0 : Int64)), (5, .int t0), (3, .long v3)]) hx hb dX5_root_90 hl (by decide) rfl (fun ls hl => ?_)
  refine lv_lconst (v := (0 : Int64)) hx hb dX5_root_92 (by decide) ?_
  refine lv_lstore (lv' := [(8, .long (0 : Int64)), (6, .long (0 : Int64)), (5, .int t0), (3, .long v3)]) hx hb dX5_root_93 hl (by decide) rfl (fun ls hl => ?_)
  refine lv_iconst (v := (0 : Int32)) hx hb dX5_root_95 (by decide) ?_
  refine lv_istore (lv' := [(10, .int (0 : Int32)), (8, .long (0 : Int64)), (6, .long (0 : Int64)), (5, .int t0), (3, .long v3)]) hx hb dX5_root_96 hl (by decide) rfl (fun ls hl => ?_)
  exact B_X5_root_98 E  1100000 v3 t0 (0 : Int64) (0 : Int64) (0 : Int32) _ _ _ hf hM (lv_sub hl [4, 3, 2, 1, 0] rfl)
set_option maxRecDepth 100000 in
set_option maxHeartbeats 4000000 in
theorem B_X5_root_69 {p : Program} {l : Launch} {e : Env} {s : State} {m : MethodId} {args : Array Value} {below : List Frame} {meth : Method} {c : Code} {g : jG} {rr : Int64} {S : jM} {v0 : Int64} {v2 : Int32} {t0 : Int64} (E : jEnv p s m args meth c cX5_root "PensionHouse$Real" (some .long) 15 g)  {H : Heap} {locs : List Loc} {ls : Array Slot} (hf : f_X5_root_69 v0 v2 t0 = some rr) (hM : jAt g S s H locs) (hl : lv_has ls 15 [(0, .long v0), (2, .int v2)]) : W p l e (jRm 2 0 0) s m args below meth c H locs 0 0 (MQ below (jQl g rr S) args s 0 0 (jA0 g)) (F0 m 69 ls [.long t0]) := by
  obtain ⟨hx, hb, hml, -, hts, hown, hK, -, hstr⟩ := id E
  unfold f_X5_root_69 at hf
  refine lv_lstore_n (lv' := [(3, .long t0), (0, .long v0), (2, .int v2)]) hx hb dX5_root_69 rfl hl (by decide) rfl (fun ls hl => ?_)
  refine lv_iload_n hx hb dX5_root_70 rfl (lv_at hl 2 rfl) ?_
  refine lv_if_eq (tgt := 83) hx hb dX5_root_71 (by decide) (fun c13 => ?_) (fun c13 => ?_)
  · have hf := jt c13 hf
    refine lv_lload_n hx hb dX5_root_83 rfl (lv_at hl 1 rfl) ?_
    obtain ⟨x14, hc15, hf⟩ := jb hf
    refine jbackI hM (jrunS E hM ci_X5_exponent (C_X5_exponent hc15) lk_4_106 hl.1 rfl rfl (Nat.le_of_ble_eq_true rfl) ⟨Nat.le_of_ble_eq_true rfl, Nat.le_of_ble_eq_true rfl⟩ ⟨Nat.le_refl _, Nat.le_refl _⟩ dX5_root_84) (fun H locs hM => ?_)
    exact B_X5_root_87 E  hf hM (lv_sub hl [0] rfl)
  · have hf := jf c13 hf
    refine lv_lload_n hx hb dX5_root_74 rfl (lv_at hl 1 rfl) ?_
    obtain ⟨x16, hc17, hf⟩ := jb hf
    refine jbackI hM (jrunS E hM ci_X5_exponent (C_X5_exponent hc17) lk_4_106 hl.1 rfl rfl (Nat.le_of_ble_eq_true rfl) ⟨Nat.le_of_ble_eq_true rfl, Nat.le_of_ble_eq_true rfl⟩ ⟨Nat.le_refl _, Nat.le_refl _⟩ dX5_root_75) (fun H locs hM => ?_)
    refine lv_iconst (v := (1 : Int32)) hx hb dX5_root_78 (by decide) ?_
    refine lv_isub hx hb dX5_root_79 ?_
    refine lv_goto (tgt := 87) hx hb dX5_root_80 (by decide) ?_
    exact B_X5_root_87 E  hf hM (lv_sub hl [0] rfl)
set_option maxRecDepth 100000 in
set_option maxHeartbeats 4000000 in
theorem B_X5_root_51 {p : Program} {l : Launch} {e : Env} {s : State} {m : MethodId} {args : Array Value} {below : List Frame} {meth : Method} {c : Code} {g : jG} {rr : Int64} {S : jM} {v0 : Int64} {t0 : Int32} (E : jEnv p s m args meth c cX5_root "PensionHouse$Real" (some .long) 15 g)  {H : Heap} {locs : List Loc} {ls : Array Slot} (hf : f_X5_root_51 v0 t0 = some rr) (hM : jAt g S s H locs) (hl : lv_has ls 15 [(0, .long v0)]) : W p l e (jRm 2 0 0) s m args below meth c H locs 0 0 (MQ below (jQl g rr S) args s 0 0 (jA0 g)) (F0 m 51 ls [.int t0]) := by
  obtain ⟨hx, hb, hml, -, hts, hown, hK, -, hstr⟩ := id E
  unfold f_X5_root_51 at hf
  refine lv_istore_n (lv' := [(2, .int t0), (0, .long v0)]) hx hb dX5_root_51 rfl hl (by decide) rfl (fun ls hl => ?_)
  refine lv_iload_n hx hb dX5_root_52 rfl (lv_at hl 0 rfl) ?_
  refine lv_if_eq (tgt := 65) hx hb dX5_root_53 (by decide) (fun c18 => ?_) (fun c18 => ?_)
  · have hf := jt c18 hf
    refine lv_lload_n hx hb dX5_root_65 rfl (lv_at hl 1 rfl) ?_
    obtain ⟨x19, hc20, hf⟩ := jb hf
    refine jbackL hM (jrunS E hM ci_X5_mantissa (C_X5_mantissa hc20) lk_4_101 hl.1 rfl rfl (Nat.le_of_ble_eq_true rfl) ⟨Nat.le_of_ble_eq_true rfl, Nat.le_of_ble_eq_true rfl⟩ ⟨Nat.le_refl _, Nat.le_refl _⟩ dX5_root_66) (fun H locs hM => ?_)
    exact B_X5_root_69 E  hf hM (lv_sub hl [1, 0] rfl)
  · have hf := jf c18 hf
    refine lv_lload_n hx hb dX5_root_56 rfl (lv_at hl 1 rfl) ?_
    obtain ⟨x21, hc22, hf⟩ := jb hf
    refine jbackL hM (jrunS E hM ci_X5_mantissa (C_X5_mantissa hc22) lk_4_101 hl.1 rfl rfl (Nat.le_of_ble_eq_true rfl) ⟨Nat.le_of_ble_eq_true rfl, Nat.le_of_ble_eq_true rfl⟩ ⟨Nat.le_refl _, Nat.le_refl _⟩ dX5_root_57) (fun H locs hM => ?_)
    refine lv_iconst (v := (1 : Int32)) hx hb dX5_root_60 (by decide) ?_
    refine lv_lshl hx hb dX5_root_61 rfl ?_
    refine lv_goto (tgt := 69) hx hb dX5_root_62 (by decide) ?_
    exact B_X5_root_69 E  hf hM (lv_sub hl [1, 0] rfl)
set_option maxRecDepth 100000 in
set_option maxHeartbeats 4000000 in
theorem B_X5_root_0 {p : Program} {l : Launch} {e : Env} {s : State} {m : MethodId} {args : Array Value} {below : List Frame} {meth : Method} {c : Code} {g : jG} {rr : Int64} {S : jM} {v0 : Int64} (E : jEnv p s m args meth c cX5_root "PensionHouse$Real" (some .long) 15 g)  {H : Heap} {locs : List Loc} {ls : Array Slot} (hf : f_X5_root v0 = some rr) (hM : jAt g S s H locs) (hl : lv_has ls 15 [(0, .long v0)]) : W p l e (jRm 2 0 0) s m args below meth c H locs 0 0 (MQ below (jQl g rr S) args s 0 0 (jA0 g)) (F0 m 0 ls []) := by
  obtain ⟨hx, hb, hml, -, hts, hown, hK, -, hstr⟩ := id E
  unfold f_X5_root at hf
  refine lv_lload_n hx hb dX5_root_0 rfl (lv_at hl 0 rfl) ?_
  refine jbackI hM (jrunS E hM ci_X5_isNot (C_X5_isNot rfl) lk_4_99 hl.1 rfl rfl (Nat.le_of_ble_eq_true rfl) ⟨Nat.le_of_ble_eq_true rfl, Nat.le_of_ble_eq_true rfl⟩ ⟨Nat.le_refl _, Nat.le_refl _⟩ dX5_root_1) (fun H locs hM => ?_)
  refine lv_if_ne (tgt := 25) hx hb dX5_root_4 (by decide) (fun c23 => ?_) (fun c23 => ?_)
  · have hf := jf c23 hf
    refine lv_lload_n hx hb dX5_root_25 rfl (lv_at hl 0 rfl) ?_
    exact jlret (jr1 hf) E hM dX5_root_26
  · have hf := jt c23 hf
    refine lv_lload_n hx hb dX5_root_7 rfl (lv_at hl 0 rfl) ?_
    refine lv_ldc2 (v := (9223372036854775807 : Int64)) hx hb hown (hts _ lk_3_23) dX5_root_8 ?_
    refine lv_land hx hb dX5_root_11 ?_
    refine lv_lconst (v := (0 : Int64)) hx hb dX5_root_12 (by decide) ?_
    refine jl_eq (tgt := 25) hx hb dX5_root_13 dX5_root_14 (by decide) (fun c24 => ?_) (fun c24 => ?_)
    · have hf := jt c24 hf
      refine lv_lload_n hx hb dX5_root_25 rfl (lv_at hl 0 rfl) ?_
      exact jlret (jr1 hf) E hM dX5_root_26
    · have hf := jf c24 hf
      refine lv_lload_n hx hb dX5_root_17 rfl (lv_at hl 0 rfl) ?_
      refine lv_ldc2 (v := (9218868437227405312 : Int64)) hx hb hown (hts _ lk_3_24) dX5_root_18 ?_
      refine jl_ne (tgt := 27) hx hb dX5_root_21 dX5_root_22 (by decide) (fun c25 => ?_) (fun c25 => ?_)
      · have hf := jf c25 hf
        refine lv_lload_n hx hb dX5_root_27 rfl (lv_at hl 0 rfl) ?_
        refine lv_lconst (v := (0 : Int64)) hx hb dX5_root_28 (by decide) ?_
        refine jl_ge (tgt := 37) hx hb dX5_root_29 dX5_root_30 (by decide) (fun c26 => ?_) (fun c26 => ?_)
        · have hf := jt c26 hf
          refine lv_lload_n hx hb dX5_root_37 rfl (lv_at hl 0 rfl) ?_
          obtain ⟨x27, hc28, hf⟩ := jb hf
          refine jbackI hM (jrunS E hM ci_X5_exponent (C_X5_exponent hc28) lk_4_106 hl.1 rfl rfl (Nat.le_of_ble_eq_true rfl) ⟨Nat.le_of_ble_eq_true rfl, Nat.le_of_ble_eq_true rfl⟩ ⟨Nat.le_refl _, Nat.le_refl _⟩ dX5_root_38) (fun H locs hM => ?_)
          refine lv_iconst (v := (1 : Int32)) hx hb dX5_root_41 (by decide) ?_
          refine lv_iand hx hb dX5_root_42 ?_
          refine lv_if_eq (tgt := 50) hx hb dX5_root_43 (by decide) (fun c29 => ?_) (fun c29 => ?_)
          · have hf := jt c29 hf
            refine lv_iconst (v := (0 : Int32)) hx hb dX5_root_50 (by decide) ?_
            exact B_X5_root_51 E  hf hM (lv_sub hl [0] rfl)
          · have hf := jf c29 hf
            refine lv_iconst (v := (1 : Int32)) hx hb dX5_root_46 (by decide) ?_
            refine lv_goto (tgt := 51) hx hb dX5_root_47 (by decide) ?_
            exact B_X5_root_51 E  hf hM (lv_sub hl [0] rfl)
        · have hf := jf c26 hf
          refine lv_ldc2 (v := (9221120237041090560 : Int64)) hx hb hown (hts _ lk_4_100) dX5_root_33 ?_
          exact jlret (jr1 hf) E hM dX5_root_36
      · have hf := jt c25 hf
        refine lv_lload_n hx hb dX5_root_25 rfl (lv_at hl 0 rfl) ?_
        exact jlret (jr1 hf) E hM dX5_root_26
set_option maxRecDepth 100000 in
theorem C_X5_root {l : Launch} {g : jG} {a0 : Int64} {S : jM} {rr : Int64} (hf : f_X5_root a0 = some rr) : jMet l g yX5_root cX5_root 15 (some .long) 2 0 0 [.long a0] S (jQl g rr S) := by
  refine jof (by decide +kernel) (Nat.le_of_ble_eq_true rfl) ?_
  intro p e s m below meth c E hM ls hl
  have hl : lv_has ls 15 [(0, .long a0)] := hl
  exact B_X5_root_0 E hf hM hl
-- PensionHouse$Real.order(J)J  mode T
noncomputable def f_X5_order (v0 : Int64) : Int64 := if (0 : Int64) ≤ v0 then v0 else v0 ^^^ (9223372036854775807 : Int64)
set_option maxRecDepth 100000 in
set_option maxHeartbeats 4000000 in
theorem B_X5_order_0 {p : Program} {l : Launch} {e : Env} {s : State} {m : MethodId} {args : Array Value} {below : List Frame} {meth : Method} {c : Code} {g : jG} {rr : Int64} {S : jM} {v0 : Int64} (E : jEnv p s m args meth c cX5_order "PensionHouse$Real" (some .long) 2 g)  {H : Heap} {locs : List Loc} {ls : Array Slot} (hf : f_X5_order v0 = rr) (hM : jAt g S s H locs) (hl : lv_has ls 2 [(0, .long v0)]) : W p l e (jRm 1 0 0) s m args below meth c H locs 0 0 (MQ below (jQl g rr S) args s 0 0 (jA0 g)) (F0 m 0 ls []) := by
  obtain ⟨hx, hb, hml, -, hts, hown, hK, -, hstr⟩ := id E
  unfold f_X5_order at hf
  refine lv_lload_n hx hb dX5_order_0 rfl (lv_at hl 0 rfl) ?_
  refine lv_lconst (v := (0 : Int64)) hx hb dX5_order_1 (by decide) ?_
  refine jl_ge (tgt := 14) hx hb dX5_order_2 dX5_order_3 (by decide) (fun c1 => ?_) (fun c1 => ?_)
  · have hf := jt c1 hf
    refine lv_lload_n hx hb dX5_order_14 rfl (lv_at hl 0 rfl) ?_
    exact jlret (jr0 hf) E hM dX5_order_15
  · have hf := jf c1 hf
    refine lv_lload_n hx hb dX5_order_6 rfl (lv_at hl 0 rfl) ?_
    refine lv_ldc2 (v := (9223372036854775807 : Int64)) hx hb hown (hts _ lk_3_23) dX5_order_7 ?_
    refine lv_lxor hx hb dX5_order_10 ?_
    refine lv_goto (tgt := 15) hx hb dX5_order_11 (by decide) ?_
    exact jlret (jr0 hf) E hM dX5_order_15
set_option maxRecDepth 100000 in
theorem C_X5_order {l : Launch} {g : jG} {a0 : Int64} {S : jM} {rr : Int64} (hf : f_X5_order a0 = rr) : jMet l g yX5_order cX5_order 2 (some .long) 1 0 0 [.long a0] S (jQl g rr S) := by
  refine jof (by decide +kernel) (Nat.le_of_ble_eq_true rfl) ?_
  intro p e s m below meth c E hM ls hl
  have hl : lv_has ls 2 [(0, .long a0)] := hl
  exact B_X5_order_0 E hf hM hl
-- PensionHouse$Real.orderWithoutSignOfZero(J)J  mode T
noncomputable def f_X5_orderWithoutSignOfZero (v0 : Int64) : Int64 := if v0 = (-9223372036854775808 : Int64) then (0 : Int64) else f_X5_order v0
set_option maxRecDepth 100000 in
set_option maxHeartbeats 4000000 in
theorem B_X5_orderWithoutSignOfZero_0 {p : Program} {l : Launch} {e : Env} {s : State} {m : MethodId} {args : Array Value} {below : List Frame} {meth : Method} {c : Code} {g : jG} {rr : Int64} {S : jM} {v0 : Int64} (E : jEnv p s m args meth c cX5_orderWithoutSignOfZero "PensionHouse$Real" (some .long) 2 g)  {H : Heap} {locs : List Loc} {ls : Array Slot} (hf : f_X5_orderWithoutSignOfZero v0 = rr) (hM : jAt g S s H locs) (hl : lv_has ls 2 [(0, .long v0)]) : W p l e (jRm 2 0 0) s m args below meth c H locs 0 0 (MQ below (jQl g rr S) args s 0 0 (jA0 g)) (F0 m 0 ls []) := by
  obtain ⟨hx, hb, hml, -, hts, hown, hK, -, hstr⟩ := id E
  unfold f_X5_orderWithoutSignOfZero at hf
  refine lv_lload_n hx hb dX5_orderWithoutSignOfZero_0 rfl (lv_at hl 0 rfl) ?_
  refine lv_ldc2 (v := (-9223372036854775808 : Int64)) hx hb hown (hts _ lk_4_91) dX5_orderWithoutSignOfZero_1 ?_
  refine jl_ne (tgt := 12) hx hb dX5_orderWithoutSignOfZero_4 dX5_orderWithoutSignOfZero_5 (by decide) (fun c1 => ?_) (fun c1 => ?_)
  · have hf := jf c1 hf
    refine lv_lload_n hx hb dX5_orderWithoutSignOfZero_12 rfl (lv_at hl 0 rfl) ?_
    refine jbackL hM (jrunS E hM ci_X5_order (C_X5_order rfl) lk_5_122 hl.1 rfl rfl (Nat.le_of_ble_eq_true rfl) ⟨Nat.le_of_ble_eq_true rfl, Nat.le_of_ble_eq_true rfl⟩ ⟨Nat.le_refl _, Nat.le_refl _⟩ dX5_orderWithoutSignOfZero_13) (fun H locs hM => ?_)
    exact jlret (jr0 hf) E hM dX5_orderWithoutSignOfZero_16
  · have hf := jt c1 hf
    refine lv_lconst (v := (0 : Int64)) hx hb dX5_orderWithoutSignOfZero_8 (by decide) ?_
    refine lv_goto (tgt := 16) hx hb dX5_orderWithoutSignOfZero_9 (by decide) ?_
    exact jlret (jr0 hf) E hM dX5_orderWithoutSignOfZero_16
set_option maxRecDepth 100000 in
theorem C_X5_orderWithoutSignOfZero {l : Launch} {g : jG} {a0 : Int64} {S : jM} {rr : Int64} (hf : f_X5_orderWithoutSignOfZero a0 = rr) : jMet l g yX5_orderWithoutSignOfZero cX5_orderWithoutSignOfZero 2 (some .long) 2 0 0 [.long a0] S (jQl g rr S) := by
  refine jof (by decide +kernel) (Nat.le_of_ble_eq_true rfl) ?_
  intro p e s m below meth c E hM ls hl
  have hl : lv_has ls 2 [(0, .long a0)] := hl
  exact B_X5_orderWithoutSignOfZero_0 E hf hM hl
-- PensionHouse$Real.decimal(JI)J  mode P
noncomputable def f_X5_decimal_5 : Nat → Int64 → Int32 → Int64 → Int32 → Option Int64
  | 0, _, _, _, _ => none
  | n + 1, v0, v2, v3, v5 => if v2 ≤ v5 then (f_X5_nearest v0).bind (fun x2 => (f_X5_nearest v3).bind (fun x4 => (f_X5_over x2 x4).bind (fun x6 => some x6))) else jlet (v3 * (10 : Int64)) (fun x8 => jlet (v5 + (1 : Int32)) (fun x9 => (f_X5_decimal_5 n) v0 v2 x8 x9))
noncomputable def f_X5_decimal (v0 : Int64) (v2 : Int32) : Option Int64 := f_X5_decimal_5 1100000 v0 v2 (1 : Int64) (0 : Int32)
set_option maxRecDepth 100000 in
set_option maxHeartbeats 4000000 in
theorem B_X5_decimal_5 {p : Program} {l : Launch} {e : Env} {s : State} {m : MethodId} {args : Array Value} {below : List Frame} {meth : Method} {c : Code} {g : jG} {rr : Int64} {S : jM} (E : jEnv p s m args meth c cX5_decimal "PensionHouse$Real" (some .long) 6 g)  : ∀ (n : Nat) (v0 : Int64) (v2 : Int32) (v3 : Int64) (v5 : Int32) (H : Heap) (locs : List Loc) (ls : Array Slot), f_X5_decimal_5 n v0 v2 v3 v5 = some rr → jAt g S s H locs → lv_has ls 6 [(0, .long v0), (2, .int v2), (3, .long v3), (5, .int v5)] → W p l e (jRm 3 0 0) s m args below meth c H locs 0 0 (MQ below (jQl g rr S) args s 0 0 (jA0 g)) (F0 m 5 ls []) := by
  obtain ⟨hx, hb, hml, -, hts, hown, hK, -, hstr⟩ := id E
  intro n
  induction n with
  | zero => intro v0 v2 v3 v5 H locs ls hf hM hl; rw [f_X5_decimal_5] at hf; cases hf
  | succ n ih =>
    intro v0 v2 v3 v5 H locs ls hf hM hl
    rw [f_X5_decimal_5] at hf
    refine lv_iload hx hb dX5_decimal_5 (lv_at hl 3 rfl) ?_
    refine lv_iload_n hx hb dX5_decimal_7 rfl (lv_at hl 1 rfl) ?_
    refine lv_icmp_ge (tgt := 23) hx hb dX5_decimal_8 (by decide) (fun c1 => ?_) (fun c1 => ?_)
    · have hf := jt c1 hf
      refine lv_lload_n hx hb dX5_decimal_23 rfl (lv_at hl 0 rfl) ?_
      obtain ⟨x2, hc3, hf⟩ := jb hf
      refine jbackL hM (jrunS E hM ci_X5_nearest (C_X5_nearest hc3) lk_4_88 hl.1 rfl rfl (Nat.le_of_ble_eq_true rfl) ⟨Nat.le_of_ble_eq_true rfl, Nat.le_of_ble_eq_true rfl⟩ ⟨Nat.le_refl _, Nat.le_refl _⟩ dX5_decimal_24) (fun H locs hM => ?_)
      refine lv_lload_n hx hb dX5_decimal_27 rfl (lv_at hl 2 rfl) ?_
      obtain ⟨x4, hc5, hf⟩ := jb hf
      refine jbackL hM (jrunS E hM ci_X5_nearest (C_X5_nearest hc5) lk_4_88 hl.1 rfl rfl (Nat.le_of_ble_eq_true rfl) ⟨Nat.le_of_ble_eq_true rfl, Nat.le_of_ble_eq_true rfl⟩ ⟨Nat.le_refl _, Nat.le_refl _⟩ dX5_decimal_28) (fun H locs hM => ?_)
      obtain ⟨x6, hc7, hf⟩ := jb hf
      refine jbackL hM (jrunS E hM ci_X5_over (C_X5_over hc7) lk_4_96 hl.1 rfl rfl (Nat.le_of_ble_eq_true rfl) ⟨Nat.le_of_ble_eq_true rfl, Nat.le_of_ble_eq_true rfl⟩ ⟨Nat.le_refl _, Nat.le_refl _⟩ dX5_decimal_31) (fun H locs hM => ?_)
      exact jlret (jr1 hf) E hM dX5_decimal_34
    · have hf := jf c1 hf
      refine lv_lload_n hx hb dX5_decimal_11 rfl (lv_at hl 2 rfl) ?_
      refine lv_ldc2 (v := (10 : Int64)) hx hb hown (hts _ lk_4_87) dX5_decimal_12 ?_
      refine lv_lmul hx hb dX5_decimal_15 ?_
      refine lv_topl (fun x8 ex8 => ?_)
      have hf := jlet_y ex8 hf
      refine lv_lstore_n (lv' := [(3, .long x8), (0, .long v0), (2, .int v2), (5, .int v5)]) hx hb dX5_decimal_16 rfl hl (by decide) rfl (fun ls hl => ?_)
      obtain ⟨x9, ex9⟩ : ∃ z, z = v5 + (1 : Int32) := ⟨_, rfl⟩
      have hf := jlet_y ex9 hf
      refine lv_iinc (v := x9) (lv' := [(5, .int x9), (3, .long x8), (0, .long v0), (2, .int v2)]) hx hb dX5_decimal_17 hl (k := 3) rfl (by rw [ex9]; rfl) (by decide) rfl (fun ls hl => ?_)
      refine lv_goto (tgt := 5) hx hb dX5_decimal_20 (by decide) ?_
      exact ih v0 v2 x8 x9 _ _ _ hf hM (lv_sub hl [2, 3, 1, 0] rfl)
set_option maxRecDepth 100000 in
set_option maxHeartbeats 4000000 in
theorem B_X5_decimal_0 {p : Program} {l : Launch} {e : Env} {s : State} {m : MethodId} {args : Array Value} {below : List Frame} {meth : Method} {c : Code} {g : jG} {rr : Int64} {S : jM} {v0 : Int64} {v2 : Int32} (E : jEnv p s m args meth c cX5_decimal "PensionHouse$Real" (some .long) 6 g)  {H : Heap} {locs : List Loc} {ls : Array Slot} (hf : f_X5_decimal v0 v2 = some rr) (hM : jAt g S s H locs) (hl : lv_has ls 6 [(0, .long v0), (2, .int v2)]) : W p l e (jRm 3 0 0) s m args below meth c H locs 0 0 (MQ below (jQl g rr S) args s 0 0 (jA0 g)) (F0 m 0 ls []) := by
  obtain ⟨hx, hb, hml, -, hts, hown, hK, -, hstr⟩ := id E
  unfold f_X5_decimal at hf
  refine lv_lconst (v := (1 : Int64)) hx hb dX5_decimal_0 (by decide) ?_
  refine lv_lstore_n (lv' := [(3, .long (1 : Int64)), (0, .long v0), (2, .int v2)]) hx hb dX5_decimal_1 rfl hl (by decide) rfl (fun ls hl => ?_)
  refine lv_iconst (v := (0 : Int32)) hx hb dX5_decimal_2 (by decide) ?_
  refine lv_istore (lv' := [(5, .int (0 : Int32)), (3, .long (1 : Int64)), (0, .long v0), (2, .int v2)]) hx hb dX5_decimal_3 hl (by decide) rfl (fun ls hl => ?_)
  exact B_X5_decimal_5 E  1100000 v0 v2 (1 : Int64) (0 : Int32) _ _ _ hf hM (lv_sub hl [2, 3, 1, 0] rfl)
set_option maxRecDepth 100000 in
theorem C_X5_decimal {l : Launch} {g : jG} {a0 : Int64} {a2 : Int32} {S : jM} {rr : Int64} (hf : f_X5_decimal a0 a2 = some rr) : jMet l g yX5_decimal cX5_decimal 6 (some .long) 3 0 0 [.long a0, .int a2] S (jQl g rr S) := by
  refine jof (by decide +kernel) (Nat.le_of_ble_eq_true rfl) ?_
  intro p e s m below meth c E hM ls hl
  have hl : lv_has ls 6 [(0, .long a0),(2, .int a2)] := hl
  exact B_X5_decimal_0 E hf hM hl
