-- PensionHouse$Ops.isBeyond(IJJ)Z  mode P
noncomputable def f_X3_isBeyond_106 : Option Int32 := some (1 : Int32)
noncomputable def f_X3_isBeyond (v0 : Int32) (v1 : Int64) (v3 : Int64) : Option Int32 := if v0 = (42 : Int32) then if v3 = (0 : Int64) then some (0 : Int32) else if ¬ v3 = 0 then if ((v1 * v3) / v3) = v1 then if v1 = (-9223372036854775808 : Int64) then if v3 = (-1 : Int64) then f_X3_isBeyond_106  else some (0 : Int32) else some (0 : Int32) else f_X3_isBeyond_106  else none else if v0 = (43 : Int32) then if (0 : Int64) ≤ ((v1 ^^^ (v1 + v3)) &&& (v3 ^^^ (v1 + v3))) then some (0 : Int32) else some (1 : Int32) else if v0 = (45 : Int32) then if (0 : Int64) ≤ ((v1 ^^^ v3) &&& (v1 ^^^ (v1 - v3))) then some (0 : Int32) else some (1 : Int32) else if v3 = (0 : Int64) then some (1 : Int32) else some (0 : Int32)
set_option maxRecDepth 100000 in
set_option maxHeartbeats 4000000 in
theorem B_X3_isBeyond_106 {p : Program} {l : Launch} {e : Env} {s : State} {m : MethodId} {args : Array Value} {below : List Frame} {meth : Method} {c : Code} {g : jG} {rr : Int32} {S : jM} (E : jEnv p s m args meth c cX3_isBeyond "PensionHouse$Ops" (some .boolean) 5 g)  {H : Heap} {locs : List Loc} {ls : Array Slot} (hf : f_X3_isBeyond_106  = some rr) (hM : jAt g S s H locs) (hl : lv_has ls 5 []) : W p l e (jRm 1 0 0) s m args below meth c H locs 0 0 (MQ below (jQi g rr S) args s 0 0 (jA0 g)) (F0 m 106 ls []) := by
  obtain ⟨hx, hb, hml, -, hts, hown, hK, -, hstr⟩ := id E
  unfold f_X3_isBeyond_106 at hf
  refine lv_iconst (v := (1 : Int32)) hx hb dX3_isBeyond_106 (by decide) ?_
  refine lv_goto (tgt := 111) hx hb dX3_isBeyond_107 (by decide) ?_
  exact jiretz (jr1 hf) E hM (by decide) dX3_isBeyond_111
set_option maxRecDepth 100000 in
set_option maxHeartbeats 4000000 in
theorem B_X3_isBeyond_0 {p : Program} {l : Launch} {e : Env} {s : State} {m : MethodId} {args : Array Value} {below : List Frame} {meth : Method} {c : Code} {g : jG} {rr : Int32} {S : jM} {v0 : Int32} {v1 : Int64} {v3 : Int64} (E : jEnv p s m args meth c cX3_isBeyond "PensionHouse$Ops" (some .boolean) 5 g)  {H : Heap} {locs : List Loc} {ls : Array Slot} (hf : f_X3_isBeyond v0 v1 v3 = some rr) (hM : jAt g S s H locs) (hl : lv_has ls 5 [(0, .int v0), (1, .long v1), (3, .long v3)]) : W p l e (jRm 1 0 0) s m args below meth c H locs 0 0 (MQ below (jQi g rr S) args s 0 0 (jA0 g)) (F0 m 0 ls []) := by
  obtain ⟨hx, hb, hml, -, hts, hown, hK, -, hstr⟩ := id E
  unfold f_X3_isBeyond at hf
  refine lv_iload_n hx hb dX3_isBeyond_0 rfl (lv_at hl 0 rfl) ?_
  by_cases c6 : v0 = (42 : Int32)
  · have hf := jt c6 hf
    refine lv_tableIn (off := 73) (tgt := 74) hx hb dX3_isBeyond_1 (by rw [c6]; decide) (by rw [c6]; decide) (by rw [c6]; rfl) (by decide) ?_
    refine lv_lload_n hx hb dX3_isBeyond_74 rfl (lv_at hl 2 rfl) ?_
    refine lv_lconst (v := (0 : Int64)) hx hb dX3_isBeyond_75 (by decide) ?_
    refine jl_eq (tgt := 110) hx hb dX3_isBeyond_76 dX3_isBeyond_77 (by decide) (fun c1 => ?_) (fun c1 => ?_)
    · have hf := jt c1 hf
      refine lv_iconst (v := (0 : Int32)) hx hb dX3_isBeyond_110 (by decide) ?_
      exact jiretz (jr1 hf) E hM (by decide) dX3_isBeyond_111
    · have hf := jf c1 hf
      refine lv_lload_n hx hb dX3_isBeyond_80 rfl (lv_at hl 1 rfl) ?_
      refine lv_lload_n hx hb dX3_isBeyond_81 rfl (lv_at hl 2 rfl) ?_
      refine lv_lmul hx hb dX3_isBeyond_82 ?_
      refine lv_lload_n hx hb dX3_isBeyond_83 rfl (lv_at hl 2 rfl) ?_
      obtain ⟨hn2, hf⟩ := jif hf
      refine lv_ldiv hx hb dX3_isBeyond_84 hn2 ?_
      refine lv_lload_n hx hb dX3_isBeyond_85 rfl (lv_at hl 1 rfl) ?_
      refine jl_ne (tgt := 106) hx hb dX3_isBeyond_86 dX3_isBeyond_87 (by decide) (fun c3 => ?_) (fun c3 => ?_)
      · have hf := jf c3 hf
        exact B_X3_isBeyond_106 E  hf hM (lv_sub hl [] rfl)
      · have hf := jt c3 hf
        refine lv_lload_n hx hb dX3_isBeyond_90 rfl (lv_at hl 1 rfl) ?_
        refine lv_ldc2 (v := (-9223372036854775808 : Int64)) hx hb hown (hts _ lk_5_3) dX3_isBeyond_91 ?_
        refine jl_ne (tgt := 110) hx hb dX3_isBeyond_94 dX3_isBeyond_95 (by decide) (fun c4 => ?_) (fun c4 => ?_)
        · have hf := jf c4 hf
          refine lv_iconst (v := (0 : Int32)) hx hb dX3_isBeyond_110 (by decide) ?_
          exact jiretz (jr1 hf) E hM (by decide) dX3_isBeyond_111
        · have hf := jt c4 hf
          refine lv_lload_n hx hb dX3_isBeyond_98 rfl (lv_at hl 2 rfl) ?_
          refine lv_ldc2 (v := (-1 : Int64)) hx hb hown (hts _ lk_5_4) dX3_isBeyond_99 ?_
          refine jl_ne (tgt := 110) hx hb dX3_isBeyond_102 dX3_isBeyond_103 (by decide) (fun c5 => ?_) (fun c5 => ?_)
          · have hf := jf c5 hf
            refine lv_iconst (v := (0 : Int32)) hx hb dX3_isBeyond_110 (by decide) ?_
            exact jiretz (jr1 hf) E hM (by decide) dX3_isBeyond_111
          · have hf := jt c5 hf
            exact B_X3_isBeyond_106 E  hf hM (lv_sub hl [] rfl)
  have hf := jf c6 hf
  by_cases c8 : v0 = (43 : Int32)
  · have hf := jt c8 hf
    refine lv_tableIn (off := 31) (tgt := 32) hx hb dX3_isBeyond_1 (by rw [c8]; decide) (by rw [c8]; decide) (by rw [c8]; rfl) (by decide) ?_
    refine lv_lload_n hx hb dX3_isBeyond_32 rfl (lv_at hl 1 rfl) ?_
    refine lv_lload_n hx hb dX3_isBeyond_33 rfl (lv_at hl 1 rfl) ?_
    refine lv_lload_n hx hb dX3_isBeyond_34 rfl (lv_at hl 2 rfl) ?_
    refine lv_ladd hx hb dX3_isBeyond_35 ?_
    refine lv_lxor hx hb dX3_isBeyond_36 ?_
    refine lv_lload_n hx hb dX3_isBeyond_37 rfl (lv_at hl 2 rfl) ?_
    refine lv_lload_n hx hb dX3_isBeyond_38 rfl (lv_at hl 1 rfl) ?_
    refine lv_lload_n hx hb dX3_isBeyond_39 rfl (lv_at hl 2 rfl) ?_
    refine lv_ladd hx hb dX3_isBeyond_40 ?_
    refine lv_lxor hx hb dX3_isBeyond_41 ?_
    refine lv_land hx hb dX3_isBeyond_42 ?_
    refine lv_lconst (v := (0 : Int64)) hx hb dX3_isBeyond_43 (by decide) ?_
    refine jl_ge (tgt := 52) hx hb dX3_isBeyond_44 dX3_isBeyond_45 (by decide) (fun c7 => ?_) (fun c7 => ?_)
    · have hf := jt c7 hf
      refine lv_iconst (v := (0 : Int32)) hx hb dX3_isBeyond_52 (by decide) ?_
      exact jiretz (jr1 hf) E hM (by decide) dX3_isBeyond_53
    · have hf := jf c7 hf
      refine lv_iconst (v := (1 : Int32)) hx hb dX3_isBeyond_48 (by decide) ?_
      refine lv_goto (tgt := 53) hx hb dX3_isBeyond_49 (by decide) ?_
      exact jiretz (jr1 hf) E hM (by decide) dX3_isBeyond_53
  have hf := jf c8 hf
  by_cases c10 : v0 = (45 : Int32)
  · have hf := jt c10 hf
    refine lv_tableIn (off := 53) (tgt := 54) hx hb dX3_isBeyond_1 (by rw [c10]; decide) (by rw [c10]; decide) (by rw [c10]; rfl) (by decide) ?_
    refine lv_lload_n hx hb dX3_isBeyond_54 rfl (lv_at hl 1 rfl) ?_
    refine lv_lload_n hx hb dX3_isBeyond_55 rfl (lv_at hl 2 rfl) ?_
    refine lv_lxor hx hb dX3_isBeyond_56 ?_
    refine lv_lload_n hx hb dX3_isBeyond_57 rfl (lv_at hl 1 rfl) ?_
    refine lv_lload_n hx hb dX3_isBeyond_58 rfl (lv_at hl 1 rfl) ?_
    refine lv_lload_n hx hb dX3_isBeyond_59 rfl (lv_at hl 2 rfl) ?_
    refine lv_lsub hx hb dX3_isBeyond_60 ?_
    refine lv_lxor hx hb dX3_isBeyond_61 ?_
    refine lv_land hx hb dX3_isBeyond_62 ?_
    refine lv_lconst (v := (0 : Int64)) hx hb dX3_isBeyond_63 (by decide) ?_
    refine jl_ge (tgt := 72) hx hb dX3_isBeyond_64 dX3_isBeyond_65 (by decide) (fun c9 => ?_) (fun c9 => ?_)
    · have hf := jt c9 hf
      refine lv_iconst (v := (0 : Int32)) hx hb dX3_isBeyond_72 (by decide) ?_
      exact jiretz (jr1 hf) E hM (by decide) dX3_isBeyond_73
    · have hf := jf c9 hf
      refine lv_iconst (v := (1 : Int32)) hx hb dX3_isBeyond_68 (by decide) ?_
      refine lv_goto (tgt := 73) hx hb dX3_isBeyond_69 (by decide) ?_
      exact jiretz (jr1 hf) E hM (by decide) dX3_isBeyond_73
  have hf := jf c10 hf
  refine jtabD (tgt := 112) (nd := [42, 43, 45]) hx hb dX3_isBeyond_1 (by decide) (by decide) (by decide) (List.forall_mem_cons.mpr ⟨jne (k := 42) c6 rfl, List.forall_mem_cons.mpr ⟨jne (k := 43) c8 rfl, List.forall_mem_cons.mpr ⟨jne (k := 45) c10 rfl, fun _ h => absurd h List.not_mem_nil⟩⟩⟩) ?_
  refine lv_lload_n hx hb dX3_isBeyond_112 rfl (lv_at hl 2 rfl) ?_
  refine lv_lconst (v := (0 : Int64)) hx hb dX3_isBeyond_113 (by decide) ?_
  refine jl_ne (tgt := 122) hx hb dX3_isBeyond_114 dX3_isBeyond_115 (by decide) (fun c11 => ?_) (fun c11 => ?_)
  · have hf := jf c11 hf
    refine lv_iconst (v := (0 : Int32)) hx hb dX3_isBeyond_122 (by decide) ?_
    exact jiretz (jr1 hf) E hM (by decide) dX3_isBeyond_123
  · have hf := jt c11 hf
    refine lv_iconst (v := (1 : Int32)) hx hb dX3_isBeyond_118 (by decide) ?_
    refine lv_goto (tgt := 123) hx hb dX3_isBeyond_119 (by decide) ?_
    exact jiretz (jr1 hf) E hM (by decide) dX3_isBeyond_123
set_option maxRecDepth 100000 in
theorem C_X3_isBeyond {l : Launch} {g : jG} {a0 : Int32} {a1 : Int64} {a3 : Int64} {S : jM} {rr : Int32} (hf : f_X3_isBeyond a0 a1 a3 = some rr) : jMet l g yX3_isBeyond cX3_isBeyond 5 (some .boolean) 1 0 0 [.int a0, .long a1, .long a3] S (jQi g rr S) := by
  refine jof (by decide +kernel) (Nat.le_of_ble_eq_true rfl) ?_
  intro p e s m below meth c E hM ls hl
  have hl : lv_has ls 5 [(0, .int a0),(1, .long a1),(3, .long a3)] := hl
  exact B_X3_isBeyond_0 E hf hM hl
-- PensionHouse$Ops.wholeArithmetic(IJJ)J  mode P
noncomputable def f_X3_wholeArithmetic (v0 : Int32) (v1 : Int64) (v3 : Int64) : Option Int64 := if v0 = (42 : Int32) then some (v1 * v3) else if v0 = (43 : Int32) then some (v1 + v3) else if v0 = (45 : Int32) then some (v1 - v3) else if v0 = (47 : Int32) then if v3 = (0 : Int64) then some (0 : Int64) else if ¬ v3 = 0 then some (v1 / v3) else none else if v3 = (0 : Int64) then some (0 : Int64) else if ¬ v3 = 0 then some (v1 - v1 / v3 * v3) else none
set_option maxRecDepth 100000 in
set_option maxHeartbeats 4000000 in
theorem B_X3_wholeArithmetic_0 {p : Program} {l : Launch} {e : Env} {s : State} {m : MethodId} {args : Array Value} {below : List Frame} {meth : Method} {c : Code} {g : jG} {rr : Int64} {S : jM} {v0 : Int32} {v1 : Int64} {v3 : Int64} (E : jEnv p s m args meth c cX3_wholeArithmetic "PensionHouse$Ops" (some .long) 5 g)  {H : Heap} {locs : List Loc} {ls : Array Slot} (hf : f_X3_wholeArithmetic v0 v1 v3 = some rr) (hM : jAt g S s H locs) (hl : lv_has ls 5 [(0, .int v0), (1, .long v1), (3, .long v3)]) : W p l e (jRm 1 0 0) s m args below meth c H locs 0 0 (MQ below (jQl g rr S) args s 0 0 (jA0 g)) (F0 m 0 ls []) := by
  obtain ⟨hx, hb, hml, -, hts, hown, hK, -, hstr⟩ := id E
  unfold f_X3_wholeArithmetic at hf
  refine lv_iload_n hx hb dX3_wholeArithmetic_0 rfl (lv_at hl 0 rfl) ?_
  by_cases c1 : v0 = (42 : Int32)
  · have hf := jt c1 hf
    refine lv_tableIn (off := 47) (tgt := 48) hx hb dX3_wholeArithmetic_1 (by rw [c1]; decide) (by rw [c1]; decide) (by rw [c1]; rfl) (by decide) ?_
    refine lv_lload_n hx hb dX3_wholeArithmetic_48 rfl (lv_at hl 1 rfl) ?_
    refine lv_lload_n hx hb dX3_wholeArithmetic_49 rfl (lv_at hl 2 rfl) ?_
    refine lv_lmul hx hb dX3_wholeArithmetic_50 ?_
    exact jlret (jr1 hf) E hM dX3_wholeArithmetic_51
  have hf := jf c1 hf
  by_cases c2 : v0 = (43 : Int32)
  · have hf := jt c2 hf
    refine lv_tableIn (off := 39) (tgt := 40) hx hb dX3_wholeArithmetic_1 (by rw [c2]; decide) (by rw [c2]; decide) (by rw [c2]; rfl) (by decide) ?_
    refine lv_lload_n hx hb dX3_wholeArithmetic_40 rfl (lv_at hl 1 rfl) ?_
    refine lv_lload_n hx hb dX3_wholeArithmetic_41 rfl (lv_at hl 2 rfl) ?_
    refine lv_ladd hx hb dX3_wholeArithmetic_42 ?_
    exact jlret (jr1 hf) E hM dX3_wholeArithmetic_43
  have hf := jf c2 hf
  by_cases c3 : v0 = (45 : Int32)
  · have hf := jt c3 hf
    refine lv_tableIn (off := 43) (tgt := 44) hx hb dX3_wholeArithmetic_1 (by rw [c3]; decide) (by rw [c3]; decide) (by rw [c3]; rfl) (by decide) ?_
    refine lv_lload_n hx hb dX3_wholeArithmetic_44 rfl (lv_at hl 1 rfl) ?_
    refine lv_lload_n hx hb dX3_wholeArithmetic_45 rfl (lv_at hl 2 rfl) ?_
    refine lv_lsub hx hb dX3_wholeArithmetic_46 ?_
    exact jlret (jr1 hf) E hM dX3_wholeArithmetic_47
  have hf := jf c3 hf
  by_cases c6 : v0 = (47 : Int32)
  · have hf := jt c6 hf
    refine lv_tableIn (off := 51) (tgt := 52) hx hb dX3_wholeArithmetic_1 (by rw [c6]; decide) (by rw [c6]; decide) (by rw [c6]; rfl) (by decide) ?_
    refine lv_lload_n hx hb dX3_wholeArithmetic_52 rfl (lv_at hl 2 rfl) ?_
    refine lv_lconst (v := (0 : Int64)) hx hb dX3_wholeArithmetic_53 (by decide) ?_
    refine jl_ne (tgt := 62) hx hb dX3_wholeArithmetic_54 dX3_wholeArithmetic_55 (by decide) (fun c4 => ?_) (fun c4 => ?_)
    · have hf := jf c4 hf
      refine lv_lload_n hx hb dX3_wholeArithmetic_62 rfl (lv_at hl 1 rfl) ?_
      refine lv_lload_n hx hb dX3_wholeArithmetic_63 rfl (lv_at hl 2 rfl) ?_
      obtain ⟨hn5, hf⟩ := jif hf
      refine lv_ldiv hx hb dX3_wholeArithmetic_64 hn5 ?_
      exact jlret (jr1 hf) E hM dX3_wholeArithmetic_65
    · have hf := jt c4 hf
      refine lv_lconst (v := (0 : Int64)) hx hb dX3_wholeArithmetic_58 (by decide) ?_
      refine lv_goto (tgt := 65) hx hb dX3_wholeArithmetic_59 (by decide) ?_
      exact jlret (jr1 hf) E hM dX3_wholeArithmetic_65
  have hf := jf c6 hf
  refine jtabD (tgt := 66) (nd := [42, 43, 45, 47]) hx hb dX3_wholeArithmetic_1 (by decide) (by decide) (by decide) (List.forall_mem_cons.mpr ⟨jne (k := 42) c1 rfl, List.forall_mem_cons.mpr ⟨jne (k := 43) c2 rfl, List.forall_mem_cons.mpr ⟨jne (k := 45) c3 rfl, List.forall_mem_cons.mpr ⟨jne (k := 47) c6 rfl, fun _ h => absurd h List.not_mem_nil⟩⟩⟩⟩) ?_
  refine lv_lload_n hx hb dX3_wholeArithmetic_66 rfl (lv_at hl 2 rfl) ?_
  refine lv_lconst (v := (0 : Int64)) hx hb dX3_wholeArithmetic_67 (by decide) ?_
  refine jl_ne (tgt := 76) hx hb dX3_wholeArithmetic_68 dX3_wholeArithmetic_69 (by decide) (fun c7 => ?_) (fun c7 => ?_)
  · have hf := jf c7 hf
    refine lv_lload_n hx hb dX3_wholeArithmetic_76 rfl (lv_at hl 1 rfl) ?_
    refine lv_lload_n hx hb dX3_wholeArithmetic_77 rfl (lv_at hl 2 rfl) ?_
    obtain ⟨hn8, hf⟩ := jif hf
    refine lv_lrem hx hb dX3_wholeArithmetic_78 hn8 ?_
    exact jlret (jr1 hf) E hM dX3_wholeArithmetic_79
  · have hf := jt c7 hf
    refine lv_lconst (v := (0 : Int64)) hx hb dX3_wholeArithmetic_72 (by decide) ?_
    refine lv_goto (tgt := 79) hx hb dX3_wholeArithmetic_73 (by decide) ?_
    exact jlret (jr1 hf) E hM dX3_wholeArithmetic_79
set_option maxRecDepth 100000 in
theorem C_X3_wholeArithmetic {l : Launch} {g : jG} {a0 : Int32} {a1 : Int64} {a3 : Int64} {S : jM} {rr : Int64} (hf : f_X3_wholeArithmetic a0 a1 a3 = some rr) : jMet l g yX3_wholeArithmetic cX3_wholeArithmetic 5 (some .long) 1 0 0 [.int a0, .long a1, .long a3] S (jQl g rr S) := by
  refine jof (by decide +kernel) (Nat.le_of_ble_eq_true rfl) ?_
  intro p e s m below meth c E hM ls hl
  have hl : lv_has ls 5 [(0, .int a0),(1, .long a1),(3, .long a3)] := hl
  exact B_X3_wholeArithmetic_0 E hf hM hl
-- PensionHouse$Ops.arithmetic(ILPensionHouse$Value;LPensionHouse$Value;)I  mode M
noncomputable def f_X3_arithmetic_108 (v0 : Int32) (v1 : Nat) (v3 : Int64) (t0 : Int64) (S : jM) : Option (Int32 × jM) := if v0 = (42 : Int32) then (f_X5_times v3 t0).bind (fun x1 => if jK v1 = 7 then (f_X9_setNumber v1 (1 : Int32) x1 S).bind (fun S3 => some ((0 : Int32), S3)) else none) else if v0 = (43 : Int32) then (f_X5_plus v3 t0).bind (fun x7 => if jK v1 = 7 then (f_X9_setNumber v1 (1 : Int32) x7 S).bind (fun S9 => some ((0 : Int32), S9)) else none) else if v0 = (45 : Int32) then (f_X5_plus v3 (t0 ^^^ (-9223372036854775808 : Int64))).bind (fun x13 => if jK v1 = 7 then (f_X9_setNumber v1 (1 : Int32) x13 S).bind (fun S15 => some ((0 : Int32), S15)) else none) else if v0 = (47 : Int32) then (f_X5_over v3 t0).bind (fun x19 => if jK v1 = 7 then (f_X9_setNumber v1 (1 : Int32) x19 S).bind (fun S21 => some ((0 : Int32), S21)) else none) else (f_X5_remainder v3 t0).bind (fun x25 => if jK v1 = 7 then (f_X9_setNumber v1 (1 : Int32) x25 S).bind (fun S27 => some ((0 : Int32), S27)) else none)
noncomputable def f_X3_arithmetic_89 (v0 : Int32) (v1 : Nat) (v2 : Nat) (v5 : Int64) (t0 : Int64) (S : jM) : Option (Int32 × jM) := if jK v2 = 7 then if (jI S 52 v2) = (1 : Int32) then f_X3_arithmetic_108 v0 v1 t0 v5 S else (f_X5_nearest v5).bind (fun x32 => f_X3_arithmetic_108 v0 v1 t0 x32 S) else none
noncomputable def f_X3_arithmetic_73 (v0 : Int32) (v1 : Nat) (v2 : Nat) (v3 : Int64) (v5 : Int64) (S : jM) : Option (Int32 × jM) := if jK v1 = 7 then if (jI S 52 v1) = (1 : Int32) then f_X3_arithmetic_89 v0 v1 v2 v5 v3 S else (f_X5_nearest v3).bind (fun x36 => f_X3_arithmetic_89 v0 v1 v2 v5 x36 S) else none
noncomputable def f_X3_arithmetic (v0 : Int32) (v1 : Nat) (v2 : Nat) (S : jM) : Option (Int32 × jM) := if jK v1 = 7 then (f_X9_isNumber v1 S).bind (fun x38 => if x38 = 0 then some ((2 : Int32), S) else if jK v2 = 7 then (f_X9_isNumber v2 S).bind (fun x42 => if x42 = 0 then some ((2 : Int32), S) else (jR S 54 v1).bind (fun r46 => if jA r46 14 (0 : Int32) = true then jlet (jAL S r46 ((0 : Int32)).toNatClampNeg) (fun x49 => (jR S 54 v2).bind (fun r50 => if jA r50 14 (0 : Int32) = true then jlet (jAL S r50 ((0 : Int32)).toNatClampNeg) (fun x53 => if (jI S 52 v1) = 0 then if (jI S 52 v2) = 0 then (f_X3_isBeyond v0 x49 x53).bind (fun x56 => if x56 = 0 then (jR S 54 v1).bind (fun r59 => (f_X3_wholeArithmetic v0 x49 x53).bind (fun x61 => if jA r59 14 (0 : Int32) = true then jlet (jrL S r59 (vp_updL (jAL S r59) ((0 : Int32)).toNatClampNeg x61)) (fun S64 => some ((0 : Int32), S64)) else none)) else some ((6 : Int32), S)) else f_X3_arithmetic_73 v0 v1 v2 x49 x53 S else f_X3_arithmetic_73 v0 v1 v2 x49 x53 S) else none)) else none)) else none) else none
set_option maxRecDepth 100000 in
set_option maxHeartbeats 4000000 in
theorem B_X3_arithmetic_108 {p : Program} {l : Launch} {e : Env} {s : State} {m : MethodId} {args : Array Value} {below : List Frame} {meth : Method} {c : Code} {g : jG} {rr : Int32} {SS : jM} {v0 : Int32} {v1 : Nat} {v3 : Int64} {t0 : Int64} {S : jM} (E : jEnv p s m args meth c cX3_arithmetic "PensionHouse$Ops" (some .int) 7 g)  {H : Heap} {locs : List Loc} {ls : Array Slot} (hf : f_X3_arithmetic_108 v0 v1 v3 t0 S = some (rr, SS)) (hM : jAt g S s H locs) (hl : lv_has ls 7 [(0, .int v0), (1, .ref (g.2.2 + v1)), (3, .long v3)]) : W p l e (jRm 3 0 0) s m args below meth c H locs 0 0 (MQ below (jQi g rr SS) args s 0 0 (jA0 g)) (F0 m 108 ls [.long t0]) := by
  obtain ⟨hx, hb, hml, -, hts, hown, hK, -, hstr⟩ := id E
  unfold f_X3_arithmetic_108 at hf
  refine lv_lstore (lv' := [(5, .long t0), (0, .int v0), (1, .ref (g.2.2 + v1)), (3, .long v3)]) hx hb dX3_arithmetic_108 hl (by decide) rfl (fun ls hl => ?_)
  refine lv_iload_n hx hb dX3_arithmetic_110 rfl (lv_at hl 1 rfl) ?_
  by_cases c6 : v0 = (42 : Int32)
  · have hf := jt c6 hf
    refine lv_tableIn (off := 69) (tgt := 180) hx hb dX3_arithmetic_111 (by rw [c6]; decide) (by rw [c6]; decide) (by rw [c6]; rfl) (by decide) ?_
    refine lv_aload_n hx hb dX3_arithmetic_180 rfl (lv_at hl 2 rfl) ?_
    refine lv_iconst (v := (1 : Int32)) hx hb dX3_arithmetic_181 (by decide) ?_
    refine lv_lload_n hx hb dX3_arithmetic_182 rfl (lv_at hl 3 rfl) ?_
    refine lv_lload hx hb dX3_arithmetic_183 (lv_at hl 0 rfl) ?_
    obtain ⟨x1, hc2, hf⟩ := jb hf
    refine jbackL hM (jrunS E hM ci_X5_times (C_X5_times hc2) lk_5_13 hl.1 rfl rfl (Nat.le_of_ble_eq_true rfl) ⟨Nat.le_of_ble_eq_true rfl, Nat.le_of_ble_eq_true rfl⟩ ⟨Nat.le_refl _, Nat.le_refl _⟩ dX3_arithmetic_185) (fun H locs hM => ?_)
    obtain ⟨hq5, hf⟩ := jif hf
    obtain ⟨S3, hc4, hf⟩ := jb hf
    refine jbackV hM (jrunV E hM ci_X9_setNumber (C_X9_setNumber hc4) lk_5_12 hq5 (by decide) rfl hl.1 rfl rfl (Nat.le_of_ble_eq_true rfl) ⟨Nat.le_of_ble_eq_true rfl, Nat.le_of_ble_eq_true rfl⟩ ⟨Nat.le_refl _, Nat.le_refl _⟩ dX3_arithmetic_188) (fun H locs hM => ?_)
    refine lv_goto (tgt := 219) hx hb dX3_arithmetic_191 (by decide) ?_
    refine lv_iconst (v := (0 : Int32)) hx hb dX3_arithmetic_219 (by decide) ?_
    exact jireti (jr2 hf) E hM dX3_arithmetic_220
  have hf := jf c6 hf
  by_cases c12 : v0 = (43 : Int32)
  · have hf := jt c12 hf
    refine lv_tableIn (off := 37) (tgt := 148) hx hb dX3_arithmetic_111 (by rw [c12]; decide) (by rw [c12]; decide) (by rw [c12]; rfl) (by decide) ?_
    refine lv_aload_n hx hb dX3_arithmetic_148 rfl (lv_at hl 2 rfl) ?_
    refine lv_iconst (v := (1 : Int32)) hx hb dX3_arithmetic_149 (by decide) ?_
    refine lv_lload_n hx hb dX3_arithmetic_150 rfl (lv_at hl 3 rfl) ?_
    refine lv_lload hx hb dX3_arithmetic_151 (lv_at hl 0 rfl) ?_
    obtain ⟨x7, hc8, hf⟩ := jb hf
    refine jbackL hM (jrunS E hM ci_X5_plus (C_X5_plus hc8) lk_5_9 hl.1 rfl rfl (Nat.le_of_ble_eq_true rfl) ⟨Nat.le_of_ble_eq_true rfl, Nat.le_of_ble_eq_true rfl⟩ ⟨Nat.le_refl _, Nat.le_refl _⟩ dX3_arithmetic_153) (fun H locs hM => ?_)
    obtain ⟨hq11, hf⟩ := jif hf
    obtain ⟨S9, hc10, hf⟩ := jb hf
    refine jbackV hM (jrunV E hM ci_X9_setNumber (C_X9_setNumber hc10) lk_5_12 hq11 (by decide) rfl hl.1 rfl rfl (Nat.le_of_ble_eq_true rfl) ⟨Nat.le_of_ble_eq_true rfl, Nat.le_of_ble_eq_true rfl⟩ ⟨Nat.le_refl _, Nat.le_refl _⟩ dX3_arithmetic_156) (fun H locs hM => ?_)
    refine lv_goto (tgt := 219) hx hb dX3_arithmetic_159 (by decide) ?_
    refine lv_iconst (v := (0 : Int32)) hx hb dX3_arithmetic_219 (by decide) ?_
    exact jireti (jr2 hf) E hM dX3_arithmetic_220
  have hf := jf c12 hf
  by_cases c18 : v0 = (45 : Int32)
  · have hf := jt c18 hf
    refine lv_tableIn (off := 51) (tgt := 162) hx hb dX3_arithmetic_111 (by rw [c18]; decide) (by rw [c18]; decide) (by rw [c18]; rfl) (by decide) ?_
    refine lv_aload_n hx hb dX3_arithmetic_162 rfl (lv_at hl 2 rfl) ?_
    refine lv_iconst (v := (1 : Int32)) hx hb dX3_arithmetic_163 (by decide) ?_
    refine lv_lload_n hx hb dX3_arithmetic_164 rfl (lv_at hl 3 rfl) ?_
    refine lv_lload hx hb dX3_arithmetic_165 (lv_at hl 0 rfl) ?_
    refine lv_ldc2 (v := (-9223372036854775808 : Int64)) hx hb hown (hts _ lk_5_3) dX3_arithmetic_167 ?_
    refine lv_lxor hx hb dX3_arithmetic_170 ?_
    obtain ⟨x13, hc14, hf⟩ := jb hf
    refine jbackL hM (jrunS E hM ci_X5_plus (C_X5_plus hc14) lk_5_9 hl.1 rfl rfl (Nat.le_of_ble_eq_true rfl) ⟨Nat.le_of_ble_eq_true rfl, Nat.le_of_ble_eq_true rfl⟩ ⟨Nat.le_refl _, Nat.le_refl _⟩ dX3_arithmetic_171) (fun H locs hM => ?_)
    obtain ⟨hq17, hf⟩ := jif hf
    obtain ⟨S15, hc16, hf⟩ := jb hf
    refine jbackV hM (jrunV E hM ci_X9_setNumber (C_X9_setNumber hc16) lk_5_12 hq17 (by decide) rfl hl.1 rfl rfl (Nat.le_of_ble_eq_true rfl) ⟨Nat.le_of_ble_eq_true rfl, Nat.le_of_ble_eq_true rfl⟩ ⟨Nat.le_refl _, Nat.le_refl _⟩ dX3_arithmetic_174) (fun H locs hM => ?_)
    refine lv_goto (tgt := 219) hx hb dX3_arithmetic_177 (by decide) ?_
    refine lv_iconst (v := (0 : Int32)) hx hb dX3_arithmetic_219 (by decide) ?_
    exact jireti (jr2 hf) E hM dX3_arithmetic_220
  have hf := jf c18 hf
  by_cases c24 : v0 = (47 : Int32)
  · have hf := jt c24 hf
    refine lv_tableIn (off := 83) (tgt := 194) hx hb dX3_arithmetic_111 (by rw [c24]; decide) (by rw [c24]; decide) (by rw [c24]; rfl) (by decide) ?_
    refine lv_aload_n hx hb dX3_arithmetic_194 rfl (lv_at hl 2 rfl) ?_
    refine lv_iconst (v := (1 : Int32)) hx hb dX3_arithmetic_195 (by decide) ?_
    refine lv_lload_n hx hb dX3_arithmetic_196 rfl (lv_at hl 3 rfl) ?_
    refine lv_lload hx hb dX3_arithmetic_197 (lv_at hl 0 rfl) ?_
    obtain ⟨x19, hc20, hf⟩ := jb hf
    refine jbackL hM (jrunS E hM ci_X5_over (C_X5_over hc20) lk_5_18 hl.1 rfl rfl (Nat.le_of_ble_eq_true rfl) ⟨Nat.le_of_ble_eq_true rfl, Nat.le_of_ble_eq_true rfl⟩ ⟨Nat.le_refl _, Nat.le_refl _⟩ dX3_arithmetic_199) (fun H locs hM => ?_)
    obtain ⟨hq23, hf⟩ := jif hf
    obtain ⟨S21, hc22, hf⟩ := jb hf
    refine jbackV hM (jrunV E hM ci_X9_setNumber (C_X9_setNumber hc22) lk_5_12 hq23 (by decide) rfl hl.1 rfl rfl (Nat.le_of_ble_eq_true rfl) ⟨Nat.le_of_ble_eq_true rfl, Nat.le_of_ble_eq_true rfl⟩ ⟨Nat.le_refl _, Nat.le_refl _⟩ dX3_arithmetic_202) (fun H locs hM => ?_)
    refine lv_goto (tgt := 219) hx hb dX3_arithmetic_205 (by decide) ?_
    refine lv_iconst (v := (0 : Int32)) hx hb dX3_arithmetic_219 (by decide) ?_
    exact jireti (jr2 hf) E hM dX3_arithmetic_220
  have hf := jf c24 hf
  refine jtabD (tgt := 208) (nd := [42, 43, 45, 47]) hx hb dX3_arithmetic_111 (by decide) (by decide) (by decide) (List.forall_mem_cons.mpr ⟨jne (k := 42) c6 rfl, List.forall_mem_cons.mpr ⟨jne (k := 43) c12 rfl, List.forall_mem_cons.mpr ⟨jne (k := 45) c18 rfl, List.forall_mem_cons.mpr ⟨jne (k := 47) c24 rfl, fun _ h => absurd h List.not_mem_nil⟩⟩⟩⟩) ?_
  refine lv_aload_n hx hb dX3_arithmetic_208 rfl (lv_at hl 2 rfl) ?_
  refine lv_iconst (v := (1 : Int32)) hx hb dX3_arithmetic_209 (by decide) ?_
  refine lv_lload_n hx hb dX3_arithmetic_210 rfl (lv_at hl 3 rfl) ?_
  refine lv_lload hx hb dX3_arithmetic_211 (lv_at hl 0 rfl) ?_
  obtain ⟨x25, hc26, hf⟩ := jb hf
  refine jbackL hM (jrunS E hM ci_X5_remainder (C_X5_remainder hc26) lk_5_19 hl.1 rfl rfl (Nat.le_of_ble_eq_true rfl) ⟨Nat.le_of_ble_eq_true rfl, Nat.le_of_ble_eq_true rfl⟩ ⟨Nat.le_refl _, Nat.le_refl _⟩ dX3_arithmetic_213) (fun H locs hM => ?_)
  obtain ⟨hq29, hf⟩ := jif hf
  obtain ⟨S27, hc28, hf⟩ := jb hf
  refine jbackV hM (jrunV E hM ci_X9_setNumber (C_X9_setNumber hc28) lk_5_12 hq29 (by decide) rfl hl.1 rfl rfl (Nat.le_of_ble_eq_true rfl) ⟨Nat.le_of_ble_eq_true rfl, Nat.le_of_ble_eq_true rfl⟩ ⟨Nat.le_refl _, Nat.le_refl _⟩ dX3_arithmetic_216) (fun H locs hM => ?_)
  refine lv_iconst (v := (0 : Int32)) hx hb dX3_arithmetic_219 (by decide) ?_
  exact jireti (jr2 hf) E hM dX3_arithmetic_220
set_option maxRecDepth 100000 in
set_option maxHeartbeats 4000000 in
theorem B_X3_arithmetic_89 {p : Program} {l : Launch} {e : Env} {s : State} {m : MethodId} {args : Array Value} {below : List Frame} {meth : Method} {c : Code} {g : jG} {rr : Int32} {SS : jM} {v0 : Int32} {v1 : Nat} {v2 : Nat} {v5 : Int64} {t0 : Int64} {S : jM} (E : jEnv p s m args meth c cX3_arithmetic "PensionHouse$Ops" (some .int) 7 g)  {H : Heap} {locs : List Loc} {ls : Array Slot} (hf : f_X3_arithmetic_89 v0 v1 v2 v5 t0 S = some (rr, SS)) (hM : jAt g S s H locs) (hl : lv_has ls 7 [(0, .int v0), (1, .ref (g.2.2 + v1)), (2, .ref (g.2.2 + v2)), (5, .long v5)]) : W p l e (jRm 3 0 0) s m args below meth c H locs 0 0 (MQ below (jQi g rr SS) args s 0 0 (jA0 g)) (F0 m 89 ls [.long t0]) := by
  obtain ⟨hx, hb, hml, -, hts, hown, hK, -, hstr⟩ := id E
  unfold f_X3_arithmetic_89 at hf
  refine lv_lstore_n (lv' := [(3, .long t0), (0, .int v0), (1, .ref (g.2.2 + v1)), (2, .ref (g.2.2 + v2)), (5, .long v5)]) hx hb dX3_arithmetic_89 rfl hl (by decide) rfl (fun ls hl => ?_)
  refine lv_aload_n hx hb dX3_arithmetic_90 rfl (lv_at hl 3 rfl) ?_
  obtain ⟨hq30, hf⟩ := jif hf
  refine gt_52 E hM hq30 lk_1_50 dX3_arithmetic_91 ?_
  refine lv_iconst (v := (1 : Int32)) hx hb dX3_arithmetic_94 (by decide) ?_
  refine lv_icmp_ne (tgt := 103) hx hb dX3_arithmetic_95 (by decide) (fun c31 => ?_) (fun c31 => ?_)
  · have hf := jf c31 hf
    refine lv_lload hx hb dX3_arithmetic_103 (lv_at hl 4 rfl) ?_
    obtain ⟨x32, hc33, hf⟩ := jb hf
    refine jbackL hM (jrunS E hM ci_X5_nearest (C_X5_nearest hc33) lk_5_8 hl.1 rfl rfl (Nat.le_of_ble_eq_true rfl) ⟨Nat.le_of_ble_eq_true rfl, Nat.le_of_ble_eq_true rfl⟩ ⟨Nat.le_refl _, Nat.le_refl _⟩ dX3_arithmetic_105) (fun H locs hM => ?_)
    exact B_X3_arithmetic_108 E  hf hM (lv_sub hl [1, 2, 0] rfl)
  · have hf := jt c31 hf
    refine lv_lload hx hb dX3_arithmetic_98 (lv_at hl 4 rfl) ?_
    refine lv_goto (tgt := 108) hx hb dX3_arithmetic_100 (by decide) ?_
    exact B_X3_arithmetic_108 E  hf hM (lv_sub hl [1, 2, 0] rfl)
set_option maxRecDepth 100000 in
set_option maxHeartbeats 4000000 in
theorem B_X3_arithmetic_73 {p : Program} {l : Launch} {e : Env} {s : State} {m : MethodId} {args : Array Value} {below : List Frame} {meth : Method} {c : Code} {g : jG} {rr : Int32} {SS : jM} {v0 : Int32} {v1 : Nat} {v2 : Nat} {v3 : Int64} {v5 : Int64} {S : jM} (E : jEnv p s m args meth c cX3_arithmetic "PensionHouse$Ops" (some .int) 7 g)  {H : Heap} {locs : List Loc} {ls : Array Slot} (hf : f_X3_arithmetic_73 v0 v1 v2 v3 v5 S = some (rr, SS)) (hM : jAt g S s H locs) (hl : lv_has ls 7 [(0, .int v0), (1, .ref (g.2.2 + v1)), (2, .ref (g.2.2 + v2)), (3, .long v3), (5, .long v5)]) : W p l e (jRm 3 0 0) s m args below meth c H locs 0 0 (MQ below (jQi g rr SS) args s 0 0 (jA0 g)) (F0 m 73 ls []) := by
  obtain ⟨hx, hb, hml, -, hts, hown, hK, -, hstr⟩ := id E
  unfold f_X3_arithmetic_73 at hf
  refine lv_aload_n hx hb dX3_arithmetic_73 rfl (lv_at hl 1 rfl) ?_
  obtain ⟨hq34, hf⟩ := jif hf
  refine gt_52 E hM hq34 lk_1_50 dX3_arithmetic_74 ?_
  refine lv_iconst (v := (1 : Int32)) hx hb dX3_arithmetic_77 (by decide) ?_
  refine lv_icmp_ne (tgt := 85) hx hb dX3_arithmetic_78 (by decide) (fun c35 => ?_) (fun c35 => ?_)
  · have hf := jf c35 hf
    refine lv_lload_n hx hb dX3_arithmetic_85 rfl (lv_at hl 3 rfl) ?_
    obtain ⟨x36, hc37, hf⟩ := jb hf
    refine jbackL hM (jrunS E hM ci_X5_nearest (C_X5_nearest hc37) lk_5_8 hl.1 rfl rfl (Nat.le_of_ble_eq_true rfl) ⟨Nat.le_of_ble_eq_true rfl, Nat.le_of_ble_eq_true rfl⟩ ⟨Nat.le_refl _, Nat.le_refl _⟩ dX3_arithmetic_86) (fun H locs hM => ?_)
    exact B_X3_arithmetic_89 E  hf hM (lv_sub hl [0, 1, 2, 4] rfl)
  · have hf := jt c35 hf
    refine lv_lload_n hx hb dX3_arithmetic_81 rfl (lv_at hl 3 rfl) ?_
    refine lv_goto (tgt := 89) hx hb dX3_arithmetic_82 (by decide) ?_
    exact B_X3_arithmetic_89 E  hf hM (lv_sub hl [0, 1, 2, 4] rfl)
set_option maxRecDepth 100000 in
set_option maxHeartbeats 4000000 in
theorem B_X3_arithmetic_0 {p : Program} {l : Launch} {e : Env} {s : State} {m : MethodId} {args : Array Value} {below : List Frame} {meth : Method} {c : Code} {g : jG} {rr : Int32} {SS : jM} {v0 : Int32} {v1 : Nat} {v2 : Nat} {S : jM} (E : jEnv p s m args meth c cX3_arithmetic "PensionHouse$Ops" (some .int) 7 g)  {H : Heap} {locs : List Loc} {ls : Array Slot} (hf : f_X3_arithmetic v0 v1 v2 S = some (rr, SS)) (hM : jAt g S s H locs) (hl : lv_has ls 7 [(0, .int v0), (1, .ref (g.2.2 + v1)), (2, .ref (g.2.2 + v2))]) : W p l e (jRm 3 0 0) s m args below meth c H locs 0 0 (MQ below (jQi g rr SS) args s 0 0 (jA0 g)) (F0 m 0 ls []) := by
  obtain ⟨hx, hb, hml, -, hts, hown, hK, -, hstr⟩ := id E
  unfold f_X3_arithmetic at hf
  refine lv_aload_n hx hb dX3_arithmetic_0 rfl (lv_at hl 1 rfl) ?_
  obtain ⟨hq40, hf⟩ := jif hf
  obtain ⟨x38, hc39, hf⟩ := jb hf
  refine jbackI hM (jrunV E hM ci_X9_isNumber (C_X9_isNumber hc39) lk_4_239 hq40 (by decide) rfl hl.1 rfl rfl (Nat.le_of_ble_eq_true rfl) ⟨Nat.le_of_ble_eq_true rfl, Nat.le_of_ble_eq_true rfl⟩ ⟨Nat.le_refl _, Nat.le_refl _⟩ dX3_arithmetic_1) (fun H locs hM => ?_)
  refine lv_if_eq (tgt := 14) hx hb dX3_arithmetic_4 (by decide) (fun c41 => ?_) (fun c41 => ?_)
  · have hf := jt c41 hf
    refine lv_iconst (v := (2 : Int32)) hx hb dX3_arithmetic_14 (by decide) ?_
    exact jireti (jr2 hf) E hM dX3_arithmetic_15
  · have hf := jf c41 hf
    refine lv_aload_n hx hb dX3_arithmetic_7 rfl (lv_at hl 2 rfl) ?_
    obtain ⟨hq44, hf⟩ := jif hf
    obtain ⟨x42, hc43, hf⟩ := jb hf
    refine jbackI hM (jrunV E hM ci_X9_isNumber (C_X9_isNumber hc43) lk_4_239 hq44 (by decide) rfl hl.1 rfl rfl (Nat.le_of_ble_eq_true rfl) ⟨Nat.le_of_ble_eq_true rfl, Nat.le_of_ble_eq_true rfl⟩ ⟨Nat.le_refl _, Nat.le_refl _⟩ dX3_arithmetic_8) (fun H locs hM => ?_)
    refine lv_if_ne (tgt := 16) hx hb dX3_arithmetic_11 (by decide) (fun c45 => ?_) (fun c45 => ?_)
    · have hf := jf c45 hf
      refine lv_aload_n hx hb dX3_arithmetic_16 rfl (lv_at hl 1 rfl) ?_
      refine gt_54 E hM hq40 lk_1_58 dX3_arithmetic_17 ?_
      obtain ⟨r46, hr47, hf⟩ := jb hf
      rw [hr47]
      show W p l e _ s m args below meth c H locs 0 0 _ (F0 m _ ls (.ref (g.2.2 + r46) :: _))
      refine lv_iconst (v := (0 : Int32)) hx hb dX3_arithmetic_20 (by decide) ?_
      obtain ⟨ha48, hf⟩ := jif hf
      refine jlald E hM ha48 dX3_arithmetic_21 ?_
      refine lv_topl (fun x49 ex49 => ?_)
      have hf := jlet_y ex49 hf
      refine lv_lstore_n (lv' := [(3, .long x49), (0, .int v0), (1, .ref (g.2.2 + v1)), (2, .ref (g.2.2 + v2))]) hx hb dX3_arithmetic_22 rfl hl (by decide) rfl (fun ls hl => ?_)
      refine lv_aload_n hx hb dX3_arithmetic_23 rfl (lv_at hl 3 rfl) ?_
      refine gt_54 E hM hq44 lk_1_58 dX3_arithmetic_24 ?_
      obtain ⟨r50, hr51, hf⟩ := jb hf
      rw [hr51]
      show W p l e _ s m args below meth c H locs 0 0 _ (F0 m _ ls (.ref (g.2.2 + r50) :: _))
      refine lv_iconst (v := (0 : Int32)) hx hb dX3_arithmetic_27 (by decide) ?_
      obtain ⟨ha52, hf⟩ := jif hf
      refine jlald E hM ha52 dX3_arithmetic_28 ?_
      refine lv_topl (fun x53 ex53 => ?_)
      have hf := jlet_y ex53 hf
      refine lv_lstore (lv' := [(5, .long x53), (3, .long x49), (0, .int v0), (1, .ref (g.2.2 + v1)), (2, .ref (g.2.2 + v2))]) hx hb dX3_arithmetic_29 hl (by decide) rfl (fun ls hl => ?_)
      refine lv_aload_n hx hb dX3_arithmetic_31 rfl (lv_at hl 3 rfl) ?_
      refine gt_52 E hM hq40 lk_1_50 dX3_arithmetic_32 ?_
      refine lv_if_ne (tgt := 73) hx hb dX3_arithmetic_35 (by decide) (fun c54 => ?_) (fun c54 => ?_)
      · have hf := jf c54 hf
        exact B_X3_arithmetic_73 E  hf hM (lv_sub hl [2, 3, 4, 1, 0] rfl)
      · have hf := jt c54 hf
        refine lv_aload_n hx hb dX3_arithmetic_38 rfl (lv_at hl 4 rfl) ?_
        refine gt_52 E hM hq44 lk_1_50 dX3_arithmetic_39 ?_
        refine lv_if_ne (tgt := 73) hx hb dX3_arithmetic_42 (by decide) (fun c55 => ?_) (fun c55 => ?_)
        · have hf := jf c55 hf
          exact B_X3_arithmetic_73 E  hf hM (lv_sub hl [2, 3, 4, 1, 0] rfl)
        · have hf := jt c55 hf
          refine lv_iload_n hx hb dX3_arithmetic_45 rfl (lv_at hl 2 rfl) ?_
          refine lv_lload_n hx hb dX3_arithmetic_46 rfl (lv_at hl 1 rfl) ?_
          refine lv_lload hx hb dX3_arithmetic_47 (lv_at hl 0 rfl) ?_
          obtain ⟨x56, hc57, hf⟩ := jb hf
          refine jbackI hM (jrunS E hM ci_X3_isBeyond (C_X3_isBeyond hc57) lk_5_0 hl.1 rfl rfl (Nat.le_of_ble_eq_true rfl) ⟨Nat.le_of_ble_eq_true rfl, Nat.le_of_ble_eq_true rfl⟩ ⟨Nat.le_refl _, Nat.le_refl _⟩ dX3_arithmetic_49) (fun H locs hM => ?_)
          refine lv_if_eq (tgt := 58) hx hb dX3_arithmetic_52 (by decide) (fun c58 => ?_) (fun c58 => ?_)
          · have hf := jt c58 hf
            refine lv_aload_n hx hb dX3_arithmetic_58 rfl (lv_at hl 3 rfl) ?_
            refine gt_54 E hM hq40 lk_1_58 dX3_arithmetic_59 ?_
            obtain ⟨r59, hr60, hf⟩ := jb hf
            rw [hr60]
            show W p l e _ s m args below meth c H locs 0 0 _ (F0 m _ ls (.ref (g.2.2 + r59) :: _))
            refine lv_iconst (v := (0 : Int32)) hx hb dX3_arithmetic_62 (by decide) ?_
            refine lv_iload_n hx hb dX3_arithmetic_63 rfl (lv_at hl 2 rfl) ?_
            refine lv_lload_n hx hb dX3_arithmetic_64 rfl (lv_at hl 1 rfl) ?_
            refine lv_lload hx hb dX3_arithmetic_65 (lv_at hl 0 rfl) ?_
            obtain ⟨x61, hc62, hf⟩ := jb hf
            refine jbackL hM (jrunS E hM ci_X3_wholeArithmetic (C_X3_wholeArithmetic hc62) lk_5_5 hl.1 rfl rfl (Nat.le_of_ble_eq_true rfl) ⟨Nat.le_of_ble_eq_true rfl, Nat.le_of_ble_eq_true rfl⟩ ⟨Nat.le_refl _, Nat.le_refl _⟩ dX3_arithmetic_67) (fun H locs hM => ?_)
            obtain ⟨ha63, hf⟩ := jif hf
            refine jlast E hM ha63 dX3_arithmetic_70 (fun H locs S64 eS64 hM => ?_)
            have hf := jlet_y eS64 hf
            refine lv_iconst (v := (0 : Int32)) hx hb dX3_arithmetic_71 (by decide) ?_
            exact jireti (jr2 hf) E hM dX3_arithmetic_72
          · have hf := jf c58 hf
            refine lv_bipush (v := (6 : Int32)) hx hb dX3_arithmetic_55 (by decide) ?_
            exact jireti (jr2 hf) E hM dX3_arithmetic_57
    · have hf := jt c45 hf
      refine lv_iconst (v := (2 : Int32)) hx hb dX3_arithmetic_14 (by decide) ?_
      exact jireti (jr2 hf) E hM dX3_arithmetic_15
set_option maxRecDepth 100000 in
theorem C_X3_arithmetic {l : Launch} {g : jG} {a0 : Int32} {a1 : Nat} {a2 : Nat} {S : jM} {rr : Int32} {SS : jM} (hf : f_X3_arithmetic a0 a1 a2 S = some (rr, SS)) : jMet l g yX3_arithmetic cX3_arithmetic 7 (some .int) 3 0 0 [.int a0, .ref (g.2.2 + a1), .ref (g.2.2 + a2)] S (jQi g rr SS) := by
  refine jof (by decide +kernel) (Nat.le_of_ble_eq_true rfl) ?_
  intro p e s m below meth c E hM ls hl
  have hl : lv_has ls 7 [(0, .int a0),(1, .ref (g.2.2 + a1)),(2, .ref (g.2.2 + a2))] := hl
  exact B_X3_arithmetic_0 E hf hM hl
-- PensionHouse$Ops.item(LPensionHouse$Value;LPensionHouse$Value;)I  mode M
noncomputable def f_X3_item_91 (v2 : Int64) (t0 : Nat) (t1 : Int32) (S : jM) : Option (Int32 × jM) := if jK t0 = 7 then (f_X9_setNumber t0 t1 v2 S).bind (fun S1 => some ((0 : Int32), S1)) else none
noncomputable def f_X3_item_74 (v0 : Nat) (v2 : Int64) (t0 : Int32) (S : jM) : Option (Int32 × jM) := if jK v0 = 7 then (f_X9_isKin v0 S).bind (fun x4 => if x4 = 0 then f_X3_item_91 v2 v0 t0 S else f_X3_item_91 v2 v0 (8 : Int32) S) else none
noncomputable def f_X3_item_61 (v0 : Nat) (v2 : Int64) (S : jM) : Option (Int32 × jM) := if jK v0 = 7 then if (jI S 52 v0) = (4 : Int32) then f_X3_item_74 v0 v2 (1 : Int32) S else f_X3_item_74 v0 v2 (0 : Int32) S else none
noncomputable def f_X3_item (v0 : Nat) (v1 : Nat) (S : jM) : Option (Int32 × jM) := if jK v0 = 7 then (f_X9_isRow v0 S).bind (fun x10 => if x10 = 0 then some ((2 : Int32), S) else if jK v1 = 7 then if (jI S 52 v1) = 0 then (jR S 54 v1).bind (fun r16 => if jA r16 14 (0 : Int32) = true then (f_X9_hasItem v0 (jAL S r16 ((0 : Int32)).toNatClampNeg) S).bind (fun x19 => if x19 = 0 then some ((3 : Int32), S) else (jR S 54 v0).bind (fun r22 => (jR S 54 v1).bind (fun r24 => if jA r24 14 (0 : Int32) = true then if jA r22 14 ((jAL S r24 ((0 : Int32)).toNatClampNeg).toInt32) = true then jlet (jAL S r22 ((jAL S r24 ((0 : Int32)).toNatClampNeg).toInt32).toNatClampNeg) (fun x28 => (f_X9_isKin v0 S).bind (fun x29 => if x29 = 0 then f_X3_item_61 v0 x28 S else if x28 = (-1 : Int64) then some ((1 : Int32), S) else f_X3_item_61 v0 x28 S)) else none else none))) else none) else some ((2 : Int32), S) else none) else none
set_option maxRecDepth 100000 in
set_option maxHeartbeats 4000000 in
theorem B_X3_item_91 {p : Program} {l : Launch} {e : Env} {s : State} {m : MethodId} {args : Array Value} {below : List Frame} {meth : Method} {c : Code} {g : jG} {rr : Int32} {SS : jM} {v2 : Int64} {t0 : Nat} {t1 : Int32} {S : jM} (E : jEnv p s m args meth c cX3_item "PensionHouse$Ops" (some .int) 5 g)  {H : Heap} {locs : List Loc} {ls : Array Slot} (hf : f_X3_item_91 v2 t0 t1 S = some (rr, SS)) (hM : jAt g S s H locs) (hl : lv_has ls 5 [(2, .long v2)]) : W p l e (jRm 2 0 0) s m args below meth c H locs 0 0 (MQ below (jQi g rr SS) args s 0 0 (jA0 g)) (F0 m 91 ls [.int t1, .ref (g.2.2 + t0)]) := by
  obtain ⟨hx, hb, hml, -, hts, hown, hK, -, hstr⟩ := id E
  unfold f_X3_item_91 at hf
  refine lv_lload_n hx hb dX3_item_91 rfl (lv_at hl 0 rfl) ?_
  obtain ⟨hq3, hf⟩ := jif hf
  obtain ⟨S1, hc2, hf⟩ := jb hf
  refine jbackV hM (jrunV E hM ci_X9_setNumber (C_X9_setNumber hc2) lk_5_12 hq3 (by decide) rfl hl.1 rfl rfl (Nat.le_of_ble_eq_true rfl) ⟨Nat.le_of_ble_eq_true rfl, Nat.le_of_ble_eq_true rfl⟩ ⟨Nat.le_refl _, Nat.le_refl _⟩ dX3_item_92) (fun H locs hM => ?_)
  refine lv_iconst (v := (0 : Int32)) hx hb dX3_item_95 (by decide) ?_
  exact jireti (jr2 hf) E hM dX3_item_96
set_option maxRecDepth 100000 in
set_option maxHeartbeats 4000000 in
theorem B_X3_item_74 {p : Program} {l : Launch} {e : Env} {s : State} {m : MethodId} {args : Array Value} {below : List Frame} {meth : Method} {c : Code} {g : jG} {rr : Int32} {SS : jM} {v0 : Nat} {v2 : Int64} {t0 : Int32} {S : jM} (E : jEnv p s m args meth c cX3_item "PensionHouse$Ops" (some .int) 5 g)  {H : Heap} {locs : List Loc} {ls : Array Slot} (hf : f_X3_item_74 v0 v2 t0 S = some (rr, SS)) (hM : jAt g S s H locs) (hl : lv_has ls 5 [(0, .ref (g.2.2 + v0)), (2, .long v2)]) : W p l e (jRm 2 0 0) s m args below meth c H locs 0 0 (MQ below (jQi g rr SS) args s 0 0 (jA0 g)) (F0 m 74 ls [.int t0]) := by
  obtain ⟨hx, hb, hml, -, hts, hown, hK, -, hstr⟩ := id E
  unfold f_X3_item_74 at hf
  refine lv_istore (lv' := [(4, .int t0), (0, .ref (g.2.2 + v0)), (2, .long v2)]) hx hb dX3_item_74 hl (by decide) rfl (fun ls hl => ?_)
  refine lv_aload_n hx hb dX3_item_76 rfl (lv_at hl 1 rfl) ?_
  refine lv_aload_n hx hb dX3_item_77 rfl (lv_at hl 1 rfl) ?_
  obtain ⟨hq6, hf⟩ := jif hf
  obtain ⟨x4, hc5, hf⟩ := jb hf
  refine jbackI hM (jrunV E hM ci_X9_isKin (C_X9_isKin hc5) lk_5_36 hq6 (by decide) rfl hl.1 rfl rfl (Nat.le_of_ble_eq_true rfl) ⟨Nat.le_of_ble_eq_true rfl, Nat.le_of_ble_eq_true rfl⟩ ⟨Nat.le_refl _, Nat.le_refl _⟩ dX3_item_78) (fun H locs hM => ?_)
  refine lv_if_eq (tgt := 89) hx hb dX3_item_81 (by decide) (fun c7 => ?_) (fun c7 => ?_)
  · have hf := jt c7 hf
    refine lv_iload hx hb dX3_item_89 (lv_at hl 0 rfl) ?_
    exact B_X3_item_91 E  hf hM (lv_sub hl [2] rfl)
  · have hf := jf c7 hf
    refine lv_bipush (v := (8 : Int32)) hx hb dX3_item_84 (by decide) ?_
    refine lv_goto (tgt := 91) hx hb dX3_item_86 (by decide) ?_
    exact B_X3_item_91 E  hf hM (lv_sub hl [2] rfl)
set_option maxRecDepth 100000 in
set_option maxHeartbeats 4000000 in
theorem B_X3_item_61 {p : Program} {l : Launch} {e : Env} {s : State} {m : MethodId} {args : Array Value} {below : List Frame} {meth : Method} {c : Code} {g : jG} {rr : Int32} {SS : jM} {v0 : Nat} {v2 : Int64} {S : jM} (E : jEnv p s m args meth c cX3_item "PensionHouse$Ops" (some .int) 5 g)  {H : Heap} {locs : List Loc} {ls : Array Slot} (hf : f_X3_item_61 v0 v2 S = some (rr, SS)) (hM : jAt g S s H locs) (hl : lv_has ls 5 [(0, .ref (g.2.2 + v0)), (2, .long v2)]) : W p l e (jRm 2 0 0) s m args below meth c H locs 0 0 (MQ below (jQi g rr SS) args s 0 0 (jA0 g)) (F0 m 61 ls []) := by
  obtain ⟨hx, hb, hml, -, hts, hown, hK, -, hstr⟩ := id E
  unfold f_X3_item_61 at hf
  refine lv_aload_n hx hb dX3_item_61 rfl (lv_at hl 0 rfl) ?_
  obtain ⟨hq8, hf⟩ := jif hf
  refine gt_52 E hM hq8 lk_1_50 dX3_item_62 ?_
  refine lv_iconst (v := (4 : Int32)) hx hb dX3_item_65 (by decide) ?_
  refine lv_icmp_ne (tgt := 73) hx hb dX3_item_66 (by decide) (fun c9 => ?_) (fun c9 => ?_)
  · have hf := jf c9 hf
    refine lv_iconst (v := (0 : Int32)) hx hb dX3_item_73 (by decide) ?_
    exact B_X3_item_74 E  hf hM (lv_sub hl [0, 1] rfl)
  · have hf := jt c9 hf
    refine lv_iconst (v := (1 : Int32)) hx hb dX3_item_69 (by decide) ?_
    refine lv_goto (tgt := 74) hx hb dX3_item_70 (by decide) ?_
    exact B_X3_item_74 E  hf hM (lv_sub hl [0, 1] rfl)
set_option maxRecDepth 100000 in
set_option maxHeartbeats 4000000 in
theorem B_X3_item_0 {p : Program} {l : Launch} {e : Env} {s : State} {m : MethodId} {args : Array Value} {below : List Frame} {meth : Method} {c : Code} {g : jG} {rr : Int32} {SS : jM} {v0 : Nat} {v1 : Nat} {S : jM} (E : jEnv p s m args meth c cX3_item "PensionHouse$Ops" (some .int) 5 g)  {H : Heap} {locs : List Loc} {ls : Array Slot} (hf : f_X3_item v0 v1 S = some (rr, SS)) (hM : jAt g S s H locs) (hl : lv_has ls 5 [(0, .ref (g.2.2 + v0)), (1, .ref (g.2.2 + v1))]) : W p l e (jRm 2 0 0) s m args below meth c H locs 0 0 (MQ below (jQi g rr SS) args s 0 0 (jA0 g)) (F0 m 0 ls []) := by
  obtain ⟨hx, hb, hml, -, hts, hown, hK, -, hstr⟩ := id E
  unfold f_X3_item at hf
  refine lv_aload_n hx hb dX3_item_0 rfl (lv_at hl 0 rfl) ?_
  obtain ⟨hq12, hf⟩ := jif hf
  obtain ⟨x10, hc11, hf⟩ := jb hf
  refine jbackI hM (jrunV E hM ci_X9_isRow (C_X9_isRow hc11) lk_5_34 hq12 (by decide) rfl hl.1 rfl rfl (Nat.le_of_ble_eq_true rfl) ⟨Nat.le_of_ble_eq_true rfl, Nat.le_of_ble_eq_true rfl⟩ ⟨Nat.le_refl _, Nat.le_refl _⟩ dX3_item_1) (fun H locs hM => ?_)
  refine lv_if_eq (tgt := 14) hx hb dX3_item_4 (by decide) (fun c13 => ?_) (fun c13 => ?_)
  · have hf := jt c13 hf
    refine lv_iconst (v := (2 : Int32)) hx hb dX3_item_14 (by decide) ?_
    exact jireti (jr2 hf) E hM dX3_item_15
  · have hf := jf c13 hf
    refine lv_aload_n hx hb dX3_item_7 rfl (lv_at hl 1 rfl) ?_
    obtain ⟨hq14, hf⟩ := jif hf
    refine gt_52 E hM hq14 lk_1_50 dX3_item_8 ?_
    refine lv_if_eq (tgt := 16) hx hb dX3_item_11 (by decide) (fun c15 => ?_) (fun c15 => ?_)
    · have hf := jt c15 hf
      refine lv_aload_n hx hb dX3_item_16 rfl (lv_at hl 0 rfl) ?_
      refine lv_aload_n hx hb dX3_item_17 rfl (lv_at hl 1 rfl) ?_
      refine gt_54 E hM hq14 lk_1_58 dX3_item_18 ?_
      obtain ⟨r16, hr17, hf⟩ := jb hf
      rw [hr17]
      show W p l e _ s m args below meth c H locs 0 0 _ (F0 m _ ls (.ref (g.2.2 + r16) :: _))
      refine lv_iconst (v := (0 : Int32)) hx hb dX3_item_21 (by decide) ?_
      obtain ⟨ha18, hf⟩ := jif hf
      refine jlald E hM ha18 dX3_item_22 ?_
      obtain ⟨x19, hc20, hf⟩ := jb hf
      refine jbackI hM (jrunV E hM ci_X9_hasItem (C_X9_hasItem hc20) lk_5_35 hq12 (by decide) rfl hl.1 rfl rfl (Nat.le_of_ble_eq_true rfl) ⟨Nat.le_of_ble_eq_true rfl, Nat.le_of_ble_eq_true rfl⟩ ⟨Nat.le_refl _, Nat.le_refl _⟩ dX3_item_23) (fun H locs hM => ?_)
      refine lv_if_ne (tgt := 31) hx hb dX3_item_26 (by decide) (fun c21 => ?_) (fun c21 => ?_)
      · have hf := jf c21 hf
        refine lv_aload_n hx hb dX3_item_31 rfl (lv_at hl 0 rfl) ?_
        refine gt_54 E hM hq12 lk_1_58 dX3_item_32 ?_
        obtain ⟨r22, hr23, hf⟩ := jb hf
        rw [hr23]
        show W p l e _ s m args below meth c H locs 0 0 _ (F0 m _ ls (.ref (g.2.2 + r22) :: _))
        refine lv_aload_n hx hb dX3_item_35 rfl (lv_at hl 1 rfl) ?_
        refine gt_54 E hM hq14 lk_1_58 dX3_item_36 ?_
        obtain ⟨r24, hr25, hf⟩ := jb hf
        rw [hr25]
        show W p l e _ s m args below meth c H locs 0 0 _ (F0 m _ ls (.ref (g.2.2 + r24) :: _))
        refine lv_iconst (v := (0 : Int32)) hx hb dX3_item_39 (by decide) ?_
        obtain ⟨ha26, hf⟩ := jif hf
        refine jlald E hM ha26 dX3_item_40 ?_
        refine lv_l2i hx hb dX3_item_41 rfl ?_
        obtain ⟨ha27, hf⟩ := jif hf
        refine jlald E hM ha27 dX3_item_42 ?_
        refine lv_topl (fun x28 ex28 => ?_)
        have hf := jlet_y ex28 hf
        refine lv_lstore_n (lv' := [(2, .long x28), (0, .ref (g.2.2 + v0)), (1, .ref (g.2.2 + v1))]) hx hb dX3_item_43 rfl hl (by decide) rfl (fun ls hl => ?_)
        refine lv_aload_n hx hb dX3_item_44 rfl (lv_at hl 1 rfl) ?_
        obtain ⟨x29, hc30, hf⟩ := jb hf
        refine jbackI hM (jrunV E hM ci_X9_isKin (C_X9_isKin hc30) lk_5_36 hq12 (by decide) rfl hl.1 rfl rfl (Nat.le_of_ble_eq_true rfl) ⟨Nat.le_of_ble_eq_true rfl, Nat.le_of_ble_eq_true rfl⟩ ⟨Nat.le_refl _, Nat.le_refl _⟩ dX3_item_45) (fun H locs hM => ?_)
        refine lv_if_eq (tgt := 61) hx hb dX3_item_48 (by decide) (fun c31 => ?_) (fun c31 => ?_)
        · have hf := jt c31 hf
          exact B_X3_item_61 E  hf hM (lv_sub hl [1, 0] rfl)
        · have hf := jf c31 hf
          refine lv_lload_n hx hb dX3_item_51 rfl (lv_at hl 0 rfl) ?_
          refine lv_ldc2 (v := (-1 : Int64)) hx hb hown (hts _ lk_5_4) dX3_item_52 ?_
          refine jl_ne (tgt := 61) hx hb dX3_item_55 dX3_item_56 (by decide) (fun c32 => ?_) (fun c32 => ?_)
          · have hf := jf c32 hf
            exact B_X3_item_61 E  hf hM (lv_sub hl [1, 0] rfl)
          · have hf := jt c32 hf
            refine lv_iconst (v := (1 : Int32)) hx hb dX3_item_59 (by decide) ?_
            exact jireti (jr2 hf) E hM dX3_item_60
      · have hf := jt c21 hf
        refine lv_iconst (v := (3 : Int32)) hx hb dX3_item_29 (by decide) ?_
        exact jireti (jr2 hf) E hM dX3_item_30
    · have hf := jf c15 hf
      refine lv_iconst (v := (2 : Int32)) hx hb dX3_item_14 (by decide) ?_
      exact jireti (jr2 hf) E hM dX3_item_15
set_option maxRecDepth 100000 in
theorem C_X3_item {l : Launch} {g : jG} {a0 : Nat} {a1 : Nat} {S : jM} {rr : Int32} {SS : jM} (hf : f_X3_item a0 a1 S = some (rr, SS)) : jMet l g yX3_item cX3_item 5 (some .int) 2 0 0 [.ref (g.2.2 + a0), .ref (g.2.2 + a1)] S (jQi g rr SS) := by
  refine jof (by decide +kernel) (Nat.le_of_ble_eq_true rfl) ?_
  intro p e s m below meth c E hM ls hl
  have hl : lv_has ls 5 [(0, .ref (g.2.2 + a0)),(1, .ref (g.2.2 + a1))] := hl
  exact B_X3_item_0 E hf hM hl
-- PensionHouse$Ops.negative(LPensionHouse$Value;)I  mode M
noncomputable def f_X3_negative (v0 : Nat) (S : jM) : Option (Int32 × jM) := if jK v0 = 7 then (f_X9_isNumber v0 S).bind (fun x1 => if x1 = 0 then some ((2 : Int32), S) else if (jI S 52 v0) = (1 : Int32) then (jR S 54 v0).bind (fun r17 => if jA r17 14 (0 : Int32) = true then (f_X9_setBits v0 (0 : Int32) ((jAL S r17 ((0 : Int32)).toNatClampNeg) ^^^ (-9223372036854775808 : Int64)) S).bind (fun S20 => some ((0 : Int32), S20)) else none) else (jR S 54 v0).bind (fun r6 => if jA r6 14 (0 : Int32) = true then if (jAL S r6 ((0 : Int32)).toNatClampNeg) = (-9223372036854775808 : Int64) then some ((6 : Int32), S) else (jR S 54 v0).bind (fun r10 => (jR S 54 v0).bind (fun r12 => if jA r12 14 (0 : Int32) = true then if jA r10 14 (0 : Int32) = true then jlet (jrL S r10 (vp_updL (jAL S r10) ((0 : Int32)).toNatClampNeg (-(jAL S r12 ((0 : Int32)).toNatClampNeg)))) (fun S16 => some ((0 : Int32), S16)) else none else none)) else none)) else none
set_option maxRecDepth 100000 in
set_option maxHeartbeats 4000000 in
theorem B_X3_negative_0 {p : Program} {l : Launch} {e : Env} {s : State} {m : MethodId} {args : Array Value} {below : List Frame} {meth : Method} {c : Code} {g : jG} {rr : Int32} {SS : jM} {v0 : Nat} {S : jM} (E : jEnv p s m args meth c cX3_negative "PensionHouse$Ops" (some .int) 1 g)  {H : Heap} {locs : List Loc} {ls : Array Slot} (hf : f_X3_negative v0 S = some (rr, SS)) (hM : jAt g S s H locs) (hl : lv_has ls 1 [(0, .ref (g.2.2 + v0))]) : W p l e (jRm 3 0 0) s m args below meth c H locs 0 0 (MQ below (jQi g rr SS) args s 0 0 (jA0 g)) (F0 m 0 ls []) := by
  obtain ⟨hx, hb, hml, -, hts, hown, hK, -, hstr⟩ := id E
  unfold f_X3_negative at hf
  refine lv_aload_n hx hb dX3_negative_0 rfl (lv_at hl 0 rfl) ?_
  obtain ⟨hq3, hf⟩ := jif hf
  obtain ⟨x1, hc2, hf⟩ := jb hf
  refine jbackI hM (jrunV E hM ci_X9_isNumber (C_X9_isNumber hc2) lk_4_239 hq3 (by decide) rfl hl.1 rfl rfl (Nat.le_of_ble_eq_true rfl) ⟨Nat.le_of_ble_eq_true rfl, Nat.le_of_ble_eq_true rfl⟩ ⟨Nat.le_refl _, Nat.le_refl _⟩ dX3_negative_1) (fun H locs hM => ?_)
  refine lv_if_ne (tgt := 9) hx hb dX3_negative_4 (by decide) (fun c4 => ?_) (fun c4 => ?_)
  · have hf := jf c4 hf
    refine lv_aload_n hx hb dX3_negative_9 rfl (lv_at hl 0 rfl) ?_
    refine gt_52 E hM hq3 lk_1_50 dX3_negative_10 ?_
    refine lv_iconst (v := (1 : Int32)) hx hb dX3_negative_13 (by decide) ?_
    refine lv_icmp_ne (tgt := 34) hx hb dX3_negative_14 (by decide) (fun c5 => ?_) (fun c5 => ?_)
    · have hf := jf c5 hf
      refine lv_aload_n hx hb dX3_negative_34 rfl (lv_at hl 0 rfl) ?_
      refine gt_54 E hM hq3 lk_1_58 dX3_negative_35 ?_
      obtain ⟨r6, hr7, hf⟩ := jb hf
      rw [hr7]
      show W p l e _ s m args below meth c H locs 0 0 _ (F0 m _ ls (.ref (g.2.2 + r6) :: _))
      refine lv_iconst (v := (0 : Int32)) hx hb dX3_negative_38 (by decide) ?_
      obtain ⟨ha8, hf⟩ := jif hf
      refine jlald E hM ha8 dX3_negative_39 ?_
      refine lv_ldc2 (v := (-9223372036854775808 : Int64)) hx hb hown (hts _ lk_5_3) dX3_negative_40 ?_
      refine jl_ne (tgt := 50) hx hb dX3_negative_43 dX3_negative_44 (by decide) (fun c9 => ?_) (fun c9 => ?_)
      · have hf := jf c9 hf
        refine lv_aload_n hx hb dX3_negative_50 rfl (lv_at hl 0 rfl) ?_
        refine gt_54 E hM hq3 lk_1_58 dX3_negative_51 ?_
        obtain ⟨r10, hr11, hf⟩ := jb hf
        rw [hr11]
        show W p l e _ s m args below meth c H locs 0 0 _ (F0 m _ ls (.ref (g.2.2 + r10) :: _))
        refine lv_iconst (v := (0 : Int32)) hx hb dX3_negative_54 (by decide) ?_
        refine lv_aload_n hx hb dX3_negative_55 rfl (lv_at hl 0 rfl) ?_
        refine gt_54 E hM hq3 lk_1_58 dX3_negative_56 ?_
        obtain ⟨r12, hr13, hf⟩ := jb hf
        rw [hr13]
        show W p l e _ s m args below meth c H locs 0 0 _ (F0 m _ ls (.ref (g.2.2 + r12) :: _))
        refine lv_iconst (v := (0 : Int32)) hx hb dX3_negative_59 (by decide) ?_
        obtain ⟨ha14, hf⟩ := jif hf
        refine jlald E hM ha14 dX3_negative_60 ?_
        refine lv_lneg hx hb dX3_negative_61 ?_
        obtain ⟨ha15, hf⟩ := jif hf
        refine jlast E hM ha15 dX3_negative_62 (fun H locs S16 eS16 hM => ?_)
        have hf := jlet_y eS16 hf
        refine lv_iconst (v := (0 : Int32)) hx hb dX3_negative_63 (by decide) ?_
        exact jireti (jr2 hf) E hM dX3_negative_64
      · have hf := jt c9 hf
        refine lv_bipush (v := (6 : Int32)) hx hb dX3_negative_47 (by decide) ?_
        exact jireti (jr2 hf) E hM dX3_negative_49
    · have hf := jt c5 hf
      refine lv_aload_n hx hb dX3_negative_17 rfl (lv_at hl 0 rfl) ?_
      refine lv_iconst (v := (0 : Int32)) hx hb dX3_negative_18 (by decide) ?_
      refine lv_aload_n hx hb dX3_negative_19 rfl (lv_at hl 0 rfl) ?_
      refine gt_54 E hM hq3 lk_1_58 dX3_negative_20 ?_
      obtain ⟨r17, hr18, hf⟩ := jb hf
      rw [hr18]
      show W p l e _ s m args below meth c H locs 0 0 _ (F0 m _ ls (.ref (g.2.2 + r17) :: _))
      refine lv_iconst (v := (0 : Int32)) hx hb dX3_negative_23 (by decide) ?_
      obtain ⟨ha19, hf⟩ := jif hf
      refine jlald E hM ha19 dX3_negative_24 ?_
      refine lv_ldc2 (v := (-9223372036854775808 : Int64)) hx hb hown (hts _ lk_5_3) dX3_negative_25 ?_
      refine lv_lxor hx hb dX3_negative_28 ?_
      obtain ⟨S20, hc21, hf⟩ := jb hf
      refine jbackV hM (jrunV E hM ci_X9_setBits (C_X9_setBits hc21) lk_5_40 hq3 (by decide) rfl hl.1 rfl rfl (Nat.le_of_ble_eq_true rfl) ⟨Nat.le_of_ble_eq_true rfl, Nat.le_of_ble_eq_true rfl⟩ ⟨Nat.le_refl _, Nat.le_refl _⟩ dX3_negative_29) (fun H locs hM => ?_)
      refine lv_iconst (v := (0 : Int32)) hx hb dX3_negative_32 (by decide) ?_
      exact jireti (jr2 hf) E hM dX3_negative_33
  · have hf := jt c4 hf
    refine lv_iconst (v := (2 : Int32)) hx hb dX3_negative_7 (by decide) ?_
    exact jireti (jr2 hf) E hM dX3_negative_8
set_option maxRecDepth 100000 in
theorem C_X3_negative {l : Launch} {g : jG} {a0 : Nat} {S : jM} {rr : Int32} {SS : jM} (hf : f_X3_negative a0 S = some (rr, SS)) : jMet l g yX3_negative cX3_negative 1 (some .int) 3 0 0 [.ref (g.2.2 + a0)] S (jQi g rr SS) := by
  refine jof (by decide +kernel) (Nat.le_of_ble_eq_true rfl) ?_
  intro p e s m below meth c E hM ls hl
  have hl : lv_has ls 1 [(0, .ref (g.2.2 + a0))] := hl
  exact B_X3_negative_0 E hf hM hl
-- PensionHouse$Ops.born(LPensionHouse$Register;LPensionHouse$Value;)I  mode M
noncomputable def f_X3_born (v0 : Nat) (v1 : Nat) (S : jM) : Option (Int32 × jM) := if jK v1 = 7 then if (jI S 52 v1) = (8 : Int32) then (jR S 54 v1).bind (fun r3 => if jA r3 14 (0 : Int32) = true then if jK v0 = 4 then (f_X6_hasPerson v0 (jAL S r3 ((0 : Int32)).toNatClampNeg) S).bind (fun x6 => if x6 = 0 then some ((1 : Int32), S) else (jR S 33 v0).bind (fun r10 => (jR S 54 v1).bind (fun r12 => if jA r12 14 (0 : Int32) = true then if jA r10 13 ((jAL S r12 ((0 : Int32)).toNatClampNeg).toInt32) = true then (f_X9_setNumber v1 (0 : Int32) ((jAI S r10 ((jAL S r12 ((0 : Int32)).toNatClampNeg).toInt32).toNatClampNeg).toInt64) S).bind (fun S16 => some ((0 : Int32), S16)) else none else none))) else none else none) else some ((2 : Int32), S) else none
set_option maxRecDepth 100000 in
set_option maxHeartbeats 4000000 in
theorem B_X3_born_0 {p : Program} {l : Launch} {e : Env} {s : State} {m : MethodId} {args : Array Value} {below : List Frame} {meth : Method} {c : Code} {g : jG} {rr : Int32} {SS : jM} {v0 : Nat} {v1 : Nat} {S : jM} (E : jEnv p s m args meth c cX3_born "PensionHouse$Ops" (some .int) 2 g)  {H : Heap} {locs : List Loc} {ls : Array Slot} (hf : f_X3_born v0 v1 S = some (rr, SS)) (hM : jAt g S s H locs) (hl : lv_has ls 2 [(0, .ref (g.2.2 + v0)), (1, .ref (g.2.2 + v1))]) : W p l e (jRm 2 0 0) s m args below meth c H locs 0 0 (MQ below (jQi g rr SS) args s 0 0 (jA0 g)) (F0 m 0 ls []) := by
  obtain ⟨hx, hb, hml, -, hts, hown, hK, -, hstr⟩ := id E
  unfold f_X3_born at hf
  refine lv_aload_n hx hb dX3_born_0 rfl (lv_at hl 1 rfl) ?_
  obtain ⟨hq1, hf⟩ := jif hf
  refine gt_52 E hM hq1 lk_1_50 dX3_born_1 ?_
  refine lv_bipush (v := (8 : Int32)) hx hb dX3_born_4 (by decide) ?_
  refine lv_icmp_eq (tgt := 11) hx hb dX3_born_6 (by decide) (fun c2 => ?_) (fun c2 => ?_)
  · have hf := jt c2 hf
    refine lv_aload_n hx hb dX3_born_11 rfl (lv_at hl 0 rfl) ?_
    refine lv_aload_n hx hb dX3_born_12 rfl (lv_at hl 1 rfl) ?_
    refine gt_54 E hM hq1 lk_1_58 dX3_born_13 ?_
    obtain ⟨r3, hr4, hf⟩ := jb hf
    rw [hr4]
    show W p l e _ s m args below meth c H locs 0 0 _ (F0 m _ ls (.ref (g.2.2 + r3) :: _))
    refine lv_iconst (v := (0 : Int32)) hx hb dX3_born_16 (by decide) ?_
    obtain ⟨ha5, hf⟩ := jif hf
    refine jlald E hM ha5 dX3_born_17 ?_
    obtain ⟨hq8, hf⟩ := jif hf
    obtain ⟨x6, hc7, hf⟩ := jb hf
    refine jbackI hM (jrunV E hM ci_X6_hasPerson (C_X6_hasPerson hc7) lk_5_44 hq8 (by decide) rfl hl.1 rfl rfl (Nat.le_of_ble_eq_true rfl) ⟨Nat.le_of_ble_eq_true rfl, Nat.le_of_ble_eq_true rfl⟩ ⟨Nat.le_refl _, Nat.le_refl _⟩ dX3_born_18) (fun H locs hM => ?_)
    refine lv_if_ne (tgt := 26) hx hb dX3_born_21 (by decide) (fun c9 => ?_) (fun c9 => ?_)
    · have hf := jf c9 hf
      refine lv_aload_n hx hb dX3_born_26 rfl (lv_at hl 1 rfl) ?_
      refine lv_iconst (v := (0 : Int32)) hx hb dX3_born_27 (by decide) ?_
      refine lv_aload_n hx hb dX3_born_28 rfl (lv_at hl 0 rfl) ?_
      refine gt_33 E hM hq8 lk_1_106 dX3_born_29 ?_
      obtain ⟨r10, hr11, hf⟩ := jb hf
      rw [hr11]
      show W p l e _ s m args below meth c H locs 0 0 _ (F0 m _ ls (.ref (g.2.2 + r10) :: _))
      refine lv_aload_n hx hb dX3_born_32 rfl (lv_at hl 1 rfl) ?_
      refine gt_54 E hM hq1 lk_1_58 dX3_born_33 ?_
      obtain ⟨r12, hr13, hf⟩ := jb hf
      rw [hr13]
      show W p l e _ s m args below meth c H locs 0 0 _ (F0 m _ ls (.ref (g.2.2 + r12) :: _))
      refine lv_iconst (v := (0 : Int32)) hx hb dX3_born_36 (by decide) ?_
      obtain ⟨ha14, hf⟩ := jif hf
      refine jlald E hM ha14 dX3_born_37 ?_
      refine lv_l2i hx hb dX3_born_38 rfl ?_
      obtain ⟨ha15, hf⟩ := jif hf
      refine jiald E hM ha15 dX3_born_39 ?_
      refine lv_i2l hx hb dX3_born_40 rfl ?_
      obtain ⟨S16, hc17, hf⟩ := jb hf
      refine jbackV hM (jrunV E hM ci_X9_setNumber (C_X9_setNumber hc17) lk_5_12 hq1 (by decide) rfl hl.1 rfl rfl (Nat.le_of_ble_eq_true rfl) ⟨Nat.le_of_ble_eq_true rfl, Nat.le_of_ble_eq_true rfl⟩ ⟨Nat.le_refl _, Nat.le_refl _⟩ dX3_born_41) (fun H locs hM => ?_)
      refine lv_iconst (v := (0 : Int32)) hx hb dX3_born_44 (by decide) ?_
      exact jireti (jr2 hf) E hM dX3_born_45
    · have hf := jt c9 hf
      refine lv_iconst (v := (1 : Int32)) hx hb dX3_born_24 (by decide) ?_
      exact jireti (jr2 hf) E hM dX3_born_25
  · have hf := jf c2 hf
    refine lv_iconst (v := (2 : Int32)) hx hb dX3_born_9 (by decide) ?_
    exact jireti (jr2 hf) E hM dX3_born_10
set_option maxRecDepth 100000 in
theorem C_X3_born {l : Launch} {g : jG} {a0 : Nat} {a1 : Nat} {S : jM} {rr : Int32} {SS : jM} (hf : f_X3_born a0 a1 S = some (rr, SS)) : jMet l g yX3_born cX3_born 2 (some .int) 2 0 0 [.ref (g.2.2 + a0), .ref (g.2.2 + a1)] S (jQi g rr SS) := by
  refine jof (by decide +kernel) (Nat.le_of_ble_eq_true rfl) ?_
  intro p e s m below meth c E hM ls hl
  have hl : lv_has ls 2 [(0, .ref (g.2.2 + a0)),(1, .ref (g.2.2 + a1))] := hl
  exact B_X3_born_0 E hf hM hl
-- PensionHouse$Ops.len(LPensionHouse$Value;)I  mode M
noncomputable def f_X3_len (v0 : Nat) (S : jM) : Option (Int32 × jM) := if jK v0 = 7 then (f_X9_isRow v0 S).bind (fun x1 => if x1 = 0 then some ((2 : Int32), S) else (f_X9_setNumber v0 (0 : Int32) ((jI S 53 v0).toInt64) S).bind (fun S5 => some ((0 : Int32), S5))) else none
set_option maxRecDepth 100000 in
set_option maxHeartbeats 4000000 in
theorem B_X3_len_0 {p : Program} {l : Launch} {e : Env} {s : State} {m : MethodId} {args : Array Value} {below : List Frame} {meth : Method} {c : Code} {g : jG} {rr : Int32} {SS : jM} {v0 : Nat} {S : jM} (E : jEnv p s m args meth c cX3_len "PensionHouse$Ops" (some .int) 1 g)  {H : Heap} {locs : List Loc} {ls : Array Slot} (hf : f_X3_len v0 S = some (rr, SS)) (hM : jAt g S s H locs) (hl : lv_has ls 1 [(0, .ref (g.2.2 + v0))]) : W p l e (jRm 2 0 0) s m args below meth c H locs 0 0 (MQ below (jQi g rr SS) args s 0 0 (jA0 g)) (F0 m 0 ls []) := by
  obtain ⟨hx, hb, hml, -, hts, hown, hK, -, hstr⟩ := id E
  unfold f_X3_len at hf
  refine lv_aload_n hx hb dX3_len_0 rfl (lv_at hl 0 rfl) ?_
  obtain ⟨hq3, hf⟩ := jif hf
  obtain ⟨x1, hc2, hf⟩ := jb hf
  refine jbackI hM (jrunV E hM ci_X9_isRow (C_X9_isRow hc2) lk_5_34 hq3 (by decide) rfl hl.1 rfl rfl (Nat.le_of_ble_eq_true rfl) ⟨Nat.le_of_ble_eq_true rfl, Nat.le_of_ble_eq_true rfl⟩ ⟨Nat.le_refl _, Nat.le_refl _⟩ dX3_len_1) (fun H locs hM => ?_)
  refine lv_if_ne (tgt := 9) hx hb dX3_len_4 (by decide) (fun c4 => ?_) (fun c4 => ?_)
  · have hf := jf c4 hf
    refine lv_aload_n hx hb dX3_len_9 rfl (lv_at hl 0 rfl) ?_
    refine lv_iconst (v := (0 : Int32)) hx hb dX3_len_10 (by decide) ?_
    refine lv_aload_n hx hb dX3_len_11 rfl (lv_at hl 0 rfl) ?_
    refine gt_53 E hM hq3 lk_1_56 dX3_len_12 ?_
    refine lv_i2l hx hb dX3_len_15 rfl ?_
    obtain ⟨S5, hc6, hf⟩ := jb hf
    refine jbackV hM (jrunV E hM ci_X9_setNumber (C_X9_setNumber hc6) lk_5_12 hq3 (by decide) rfl hl.1 rfl rfl (Nat.le_of_ble_eq_true rfl) ⟨Nat.le_of_ble_eq_true rfl, Nat.le_of_ble_eq_true rfl⟩ ⟨Nat.le_refl _, Nat.le_refl _⟩ dX3_len_16) (fun H locs hM => ?_)
    refine lv_iconst (v := (0 : Int32)) hx hb dX3_len_19 (by decide) ?_
    exact jireti (jr2 hf) E hM dX3_len_20
  · have hf := jt c4 hf
    refine lv_iconst (v := (2 : Int32)) hx hb dX3_len_7 (by decide) ?_
    exact jireti (jr2 hf) E hM dX3_len_8
set_option maxRecDepth 100000 in
theorem C_X3_len {l : Launch} {g : jG} {a0 : Nat} {S : jM} {rr : Int32} {SS : jM} (hf : f_X3_len a0 S = some (rr, SS)) : jMet l g yX3_len cX3_len 1 (some .int) 2 0 0 [.ref (g.2.2 + a0)] S (jQi g rr SS) := by
  refine jof (by decide +kernel) (Nat.le_of_ble_eq_true rfl) ?_
  intro p e s m below meth c E hM ls hl
  have hl : lv_has ls 1 [(0, .ref (g.2.2 + a0))] := hl
  exact B_X3_len_0 E hf hM hl
-- PensionHouse$Ops.whole(LPensionHouse$Value;)I  mode M
noncomputable def f_X3_whole (v0 : Nat) (S : jM) : Option (Int32 × jM) := if jK v0 = 7 then (f_X9_isNumber v0 S).bind (fun x1 => if x1 = 0 then some ((2 : Int32), S) else if (jI S 52 v0) = (1 : Int32) then (jR S 54 v0).bind (fun r6 => if jA r6 14 (0 : Int32) = true then (f_X9_setNumber v0 (0 : Int32) (f_X5_cutOff (jAL S r6 ((0 : Int32)).toNatClampNeg)) S).bind (fun S9 => some ((0 : Int32), S9)) else none) else some ((0 : Int32), S)) else none
set_option maxRecDepth 100000 in
set_option maxHeartbeats 4000000 in
theorem B_X3_whole_0 {p : Program} {l : Launch} {e : Env} {s : State} {m : MethodId} {args : Array Value} {below : List Frame} {meth : Method} {c : Code} {g : jG} {rr : Int32} {SS : jM} {v0 : Nat} {S : jM} (E : jEnv p s m args meth c cX3_whole "PensionHouse$Ops" (some .int) 1 g)  {H : Heap} {locs : List Loc} {ls : Array Slot} (hf : f_X3_whole v0 S = some (rr, SS)) (hM : jAt g S s H locs) (hl : lv_has ls 1 [(0, .ref (g.2.2 + v0))]) : W p l e (jRm 3 0 0) s m args below meth c H locs 0 0 (MQ below (jQi g rr SS) args s 0 0 (jA0 g)) (F0 m 0 ls []) := by
  obtain ⟨hx, hb, hml, -, hts, hown, hK, -, hstr⟩ := id E
  unfold f_X3_whole at hf
  refine lv_aload_n hx hb dX3_whole_0 rfl (lv_at hl 0 rfl) ?_
  obtain ⟨hq3, hf⟩ := jif hf
  obtain ⟨x1, hc2, hf⟩ := jb hf
  refine jbackI hM (jrunV E hM ci_X9_isNumber (C_X9_isNumber hc2) lk_4_239 hq3 (by decide) rfl hl.1 rfl rfl (Nat.le_of_ble_eq_true rfl) ⟨Nat.le_of_ble_eq_true rfl, Nat.le_of_ble_eq_true rfl⟩ ⟨Nat.le_refl _, Nat.le_refl _⟩ dX3_whole_1) (fun H locs hM => ?_)
  refine lv_if_ne (tgt := 9) hx hb dX3_whole_4 (by decide) (fun c4 => ?_) (fun c4 => ?_)
  · have hf := jf c4 hf
    refine lv_aload_n hx hb dX3_whole_9 rfl (lv_at hl 0 rfl) ?_
    refine gt_52 E hM hq3 lk_1_50 dX3_whole_10 ?_
    refine lv_iconst (v := (1 : Int32)) hx hb dX3_whole_13 (by decide) ?_
    refine lv_icmp_ne (tgt := 31) hx hb dX3_whole_14 (by decide) (fun c5 => ?_) (fun c5 => ?_)
    · have hf := jf c5 hf
      refine lv_iconst (v := (0 : Int32)) hx hb dX3_whole_31 (by decide) ?_
      exact jireti (jr2 hf) E hM dX3_whole_32
    · have hf := jt c5 hf
      refine lv_aload_n hx hb dX3_whole_17 rfl (lv_at hl 0 rfl) ?_
      refine lv_iconst (v := (0 : Int32)) hx hb dX3_whole_18 (by decide) ?_
      refine lv_aload_n hx hb dX3_whole_19 rfl (lv_at hl 0 rfl) ?_
      refine gt_54 E hM hq3 lk_1_58 dX3_whole_20 ?_
      obtain ⟨r6, hr7, hf⟩ := jb hf
      rw [hr7]
      show W p l e _ s m args below meth c H locs 0 0 _ (F0 m _ ls (.ref (g.2.2 + r6) :: _))
      refine lv_iconst (v := (0 : Int32)) hx hb dX3_whole_23 (by decide) ?_
      obtain ⟨ha8, hf⟩ := jif hf
      refine jlald E hM ha8 dX3_whole_24 ?_
      refine jbackL hM (jrunS E hM ci_X5_cutOff (C_X5_cutOff rfl) lk_5_51 hl.1 rfl rfl (Nat.le_of_ble_eq_true rfl) ⟨Nat.le_of_ble_eq_true rfl, Nat.le_of_ble_eq_true rfl⟩ ⟨Nat.le_refl _, Nat.le_refl _⟩ dX3_whole_25) (fun H locs hM => ?_)
      obtain ⟨S9, hc10, hf⟩ := jb hf
      refine jbackV hM (jrunV E hM ci_X9_setNumber (C_X9_setNumber hc10) lk_5_12 hq3 (by decide) rfl hl.1 rfl rfl (Nat.le_of_ble_eq_true rfl) ⟨Nat.le_of_ble_eq_true rfl, Nat.le_of_ble_eq_true rfl⟩ ⟨Nat.le_refl _, Nat.le_refl _⟩ dX3_whole_28) (fun H locs hM => ?_)
      refine lv_iconst (v := (0 : Int32)) hx hb dX3_whole_31 (by decide) ?_
      exact jireti (jr2 hf) E hM dX3_whole_32
  · have hf := jt c4 hf
    refine lv_iconst (v := (2 : Int32)) hx hb dX3_whole_7 (by decide) ?_
    exact jireti (jr2 hf) E hM dX3_whole_8
set_option maxRecDepth 100000 in
theorem C_X3_whole {l : Launch} {g : jG} {a0 : Nat} {S : jM} {rr : Int32} {SS : jM} (hf : f_X3_whole a0 S = some (rr, SS)) : jMet l g yX3_whole cX3_whole 1 (some .int) 3 0 0 [.ref (g.2.2 + a0)] S (jQi g rr SS) := by
  refine jof (by decide +kernel) (Nat.le_of_ble_eq_true rfl) ?_
  intro p e s m below meth c E hM ls hl
  have hl : lv_has ls 1 [(0, .ref (g.2.2 + a0))] := hl
  exact B_X3_whole_0 E hf hM hl
-- PensionHouse$Ops.real(ILPensionHouse$Value;)I  mode M
noncomputable def f_X3_real_120 (v1 : Nat) (v2 : Int64) (S : jM) : Option (Int32 × jM) := if jK v1 = 7 then (f_X9_setNumber v1 (1 : Int32) v2 S).bind (fun S1 => some ((0 : Int32), S1)) else none
noncomputable def f_X3_real_35 (v0 : Int32) (v1 : Nat) (t0 : Int64) (S : jM) : Option (Int32 × jM) := if v0 = (130 : Int32) then jlet ((f_X5_below (t0 ^^^ (-9223372036854775808 : Int64))) ^^^ (-9223372036854775808 : Int64)) (fun x4 => f_X3_real_120 v1 x4 S) else if v0 = (133 : Int32) then jlet (f_X5_below t0) (fun x6 => f_X3_real_120 v1 x6 S) else if v0 = (141 : Int32) then jlet (f_X5_near t0) (fun x8 => f_X3_real_120 v1 x8 S) else if v0 = (144 : Int32) then (f_X5_root t0).bind (fun x10 => f_X3_real_120 v1 x10 S) else f_X3_real_120 v1 t0 S
noncomputable def f_X3_real (v0 : Int32) (v1 : Nat) (S : jM) : Option (Int32 × jM) := if jK v1 = 7 then (f_X9_isNumber v1 S).bind (fun x13 => if x13 = 0 then some ((2 : Int32), S) else if (jI S 52 v1) = (1 : Int32) then (jR S 54 v1).bind (fun r23 => if jA r23 14 (0 : Int32) = true then f_X3_real_35 v0 v1 (jAL S r23 ((0 : Int32)).toNatClampNeg) S else none) else (jR S 54 v1).bind (fun r18 => if jA r18 14 (0 : Int32) = true then (f_X5_nearest (jAL S r18 ((0 : Int32)).toNatClampNeg)).bind (fun x21 => f_X3_real_35 v0 v1 x21 S) else none)) else none
set_option maxRecDepth 100000 in
set_option maxHeartbeats 4000000 in
theorem B_X3_real_120 {p : Program} {l : Launch} {e : Env} {s : State} {m : MethodId} {args : Array Value} {below : List Frame} {meth : Method} {c : Code} {g : jG} {rr : Int32} {SS : jM} {v1 : Nat} {v2 : Int64} {S : jM} (E : jEnv p s m args meth c cX3_real "PensionHouse$Ops" (some .int) 4 g)  {H : Heap} {locs : List Loc} {ls : Array Slot} (hf : f_X3_real_120 v1 v2 S = some (rr, SS)) (hM : jAt g S s H locs) (hl : lv_has ls 4 [(1, .ref (g.2.2 + v1)), (2, .long v2)]) : W p l e (jRm 3 0 0) s m args below meth c H locs 0 0 (MQ below (jQi g rr SS) args s 0 0 (jA0 g)) (F0 m 120 ls []) := by
  obtain ⟨hx, hb, hml, -, hts, hown, hK, -, hstr⟩ := id E
  unfold f_X3_real_120 at hf
  refine lv_aload_n hx hb dX3_real_120 rfl (lv_at hl 0 rfl) ?_
  refine lv_iconst (v := (1 : Int32)) hx hb dX3_real_121 (by decide) ?_
  refine lv_lload_n hx hb dX3_real_122 rfl (lv_at hl 1 rfl) ?_
  obtain ⟨hq3, hf⟩ := jif hf
  obtain ⟨S1, hc2, hf⟩ := jb hf
  refine jbackV hM (jrunV E hM ci_X9_setNumber (C_X9_setNumber hc2) lk_5_12 hq3 (by decide) rfl hl.1 rfl rfl (Nat.le_of_ble_eq_true rfl) ⟨Nat.le_of_ble_eq_true rfl, Nat.le_of_ble_eq_true rfl⟩ ⟨Nat.le_refl _, Nat.le_refl _⟩ dX3_real_123) (fun H locs hM => ?_)
  refine lv_iconst (v := (0 : Int32)) hx hb dX3_real_126 (by decide) ?_
  exact jireti (jr2 hf) E hM dX3_real_127
set_option maxRecDepth 100000 in
set_option maxHeartbeats 4000000 in
theorem B_X3_real_35 {p : Program} {l : Launch} {e : Env} {s : State} {m : MethodId} {args : Array Value} {below : List Frame} {meth : Method} {c : Code} {g : jG} {rr : Int32} {SS : jM} {v0 : Int32} {v1 : Nat} {t0 : Int64} {S : jM} (E : jEnv p s m args meth c cX3_real "PensionHouse$Ops" (some .int) 4 g)  {H : Heap} {locs : List Loc} {ls : Array Slot} (hf : f_X3_real_35 v0 v1 t0 S = some (rr, SS)) (hM : jAt g S s H locs) (hl : lv_has ls 4 [(0, .int v0), (1, .ref (g.2.2 + v1))]) : W p l e (jRm 3 0 0) s m args below meth c H locs 0 0 (MQ below (jQi g rr SS) args s 0 0 (jA0 g)) (F0 m 35 ls [.long t0]) := by
  obtain ⟨hx, hb, hml, -, hts, hown, hK, -, hstr⟩ := id E
  unfold f_X3_real_35 at hf
  refine lv_lstore_n (lv' := [(2, .long t0), (0, .int v0), (1, .ref (g.2.2 + v1))]) hx hb dX3_real_35 rfl hl (by decide) rfl (fun ls hl => ?_)
  refine lv_iload_n hx hb dX3_real_36 rfl (lv_at hl 1 rfl) ?_
  by_cases c5 : v0 = (130 : Int32)
  · have hf := jt c5 hf
    refine lv_lookup (off := 51) (tgt := 88) hx hb dX3_real_37 (by decide) (by rw [c5]; rfl) (by decide) ?_
    refine lv_lload_n hx hb dX3_real_88 rfl (lv_at hl 0 rfl) ?_
    refine lv_ldc2 (v := (-9223372036854775808 : Int64)) hx hb hown (hts _ lk_5_3) dX3_real_89 ?_
    refine lv_lxor hx hb dX3_real_92 ?_
    refine jbackL hM (jrunS E hM ci_X5_below (C_X5_below rfl) lk_5_60 hl.1 rfl rfl (Nat.le_of_ble_eq_true rfl) ⟨Nat.le_of_ble_eq_true rfl, Nat.le_of_ble_eq_true rfl⟩ ⟨Nat.le_refl _, Nat.le_refl _⟩ dX3_real_93) (fun H locs hM => ?_)
    refine lv_ldc2 (v := (-9223372036854775808 : Int64)) hx hb hown (hts _ lk_5_3) dX3_real_96 ?_
    refine lv_lxor hx hb dX3_real_99 ?_
    refine lv_topl (fun x4 ex4 => ?_)
    have hf := jlet_y ex4 hf
    refine lv_lstore_n (lv' := [(2, .long x4), (0, .int v0), (1, .ref (g.2.2 + v1))]) hx hb dX3_real_100 rfl hl (by decide) rfl (fun ls hl => ?_)
    refine lv_goto (tgt := 120) hx hb dX3_real_101 (by decide) ?_
    exact B_X3_real_120 E  hf hM (lv_sub hl [2, 0] rfl)
  have hf := jf c5 hf
  by_cases c7 : v0 = (133 : Int32)
  · have hf := jt c7 hf
    refine lv_lookup (off := 43) (tgt := 80) hx hb dX3_real_37 (by decide) (by rw [c7]; rfl) (by decide) ?_
    refine lv_lload_n hx hb dX3_real_80 rfl (lv_at hl 0 rfl) ?_
    refine jbackL hM (jrunS E hM ci_X5_below (C_X5_below rfl) lk_5_60 hl.1 rfl rfl (Nat.le_of_ble_eq_true rfl) ⟨Nat.le_of_ble_eq_true rfl, Nat.le_of_ble_eq_true rfl⟩ ⟨Nat.le_refl _, Nat.le_refl _⟩ dX3_real_81) (fun H locs hM => ?_)
    refine lv_topl (fun x6 ex6 => ?_)
    have hf := jlet_y ex6 hf
    refine lv_lstore_n (lv' := [(2, .long x6), (0, .int v0), (1, .ref (g.2.2 + v1))]) hx hb dX3_real_84 rfl hl (by decide) rfl (fun ls hl => ?_)
    refine lv_goto (tgt := 120) hx hb dX3_real_85 (by decide) ?_
    exact B_X3_real_120 E  hf hM (lv_sub hl [2, 0] rfl)
  have hf := jf c7 hf
  by_cases c9 : v0 = (141 : Int32)
  · have hf := jt c9 hf
    refine lv_lookup (off := 67) (tgt := 104) hx hb dX3_real_37 (by decide) (by rw [c9]; rfl) (by decide) ?_
    refine lv_lload_n hx hb dX3_real_104 rfl (lv_at hl 0 rfl) ?_
    refine jbackL hM (jrunS E hM ci_X5_near (C_X5_near rfl) lk_5_65 hl.1 rfl rfl (Nat.le_of_ble_eq_true rfl) ⟨Nat.le_of_ble_eq_true rfl, Nat.le_of_ble_eq_true rfl⟩ ⟨Nat.le_refl _, Nat.le_refl _⟩ dX3_real_105) (fun H locs hM => ?_)
    refine lv_topl (fun x8 ex8 => ?_)
    have hf := jlet_y ex8 hf
    refine lv_lstore_n (lv' := [(2, .long x8), (0, .int v0), (1, .ref (g.2.2 + v1))]) hx hb dX3_real_108 rfl hl (by decide) rfl (fun ls hl => ?_)
    refine lv_goto (tgt := 120) hx hb dX3_real_109 (by decide) ?_
    exact B_X3_real_120 E  hf hM (lv_sub hl [2, 0] rfl)
  have hf := jf c9 hf
  by_cases c12 : v0 = (144 : Int32)
  · have hf := jt c12 hf
    refine lv_lookup (off := 75) (tgt := 112) hx hb dX3_real_37 (by decide) (by rw [c12]; rfl) (by decide) ?_
    refine lv_lload_n hx hb dX3_real_112 rfl (lv_at hl 0 rfl) ?_
    obtain ⟨x10, hc11, hf⟩ := jb hf
    refine jbackL hM (jrunS E hM ci_X5_root (C_X5_root hc11) lk_5_70 hl.1 rfl rfl (Nat.le_of_ble_eq_true rfl) ⟨Nat.le_of_ble_eq_true rfl, Nat.le_of_ble_eq_true rfl⟩ ⟨Nat.le_refl _, Nat.le_refl _⟩ dX3_real_113) (fun H locs hM => ?_)
    refine lv_lstore_n (lv' := [(2, .long x10), (0, .int v0), (1, .ref (g.2.2 + v1))]) hx hb dX3_real_116 rfl hl (by decide) rfl (fun ls hl => ?_)
    refine lv_goto (tgt := 120) hx hb dX3_real_117 (by decide) ?_
    exact B_X3_real_120 E  hf hM (lv_sub hl [2, 0] rfl)
  have hf := jf c12 hf
  refine jlookD (tgt := 120) hx hb dX3_real_37 (by decide) (by decide) (List.forall_mem_cons.mpr ⟨jne (k := 130) c5 rfl, List.forall_mem_cons.mpr ⟨jne (k := 133) c7 rfl, List.forall_mem_cons.mpr ⟨jne (k := 141) c9 rfl, List.forall_mem_cons.mpr ⟨jne (k := 144) c12 rfl, fun _ h => absurd h List.not_mem_nil⟩⟩⟩⟩) ?_
  exact B_X3_real_120 E  hf hM (lv_sub hl [2, 0] rfl)
set_option maxRecDepth 100000 in
set_option maxHeartbeats 4000000 in
theorem B_X3_real_0 {p : Program} {l : Launch} {e : Env} {s : State} {m : MethodId} {args : Array Value} {below : List Frame} {meth : Method} {c : Code} {g : jG} {rr : Int32} {SS : jM} {v0 : Int32} {v1 : Nat} {S : jM} (E : jEnv p s m args meth c cX3_real "PensionHouse$Ops" (some .int) 4 g)  {H : Heap} {locs : List Loc} {ls : Array Slot} (hf : f_X3_real v0 v1 S = some (rr, SS)) (hM : jAt g S s H locs) (hl : lv_has ls 4 [(0, .int v0), (1, .ref (g.2.2 + v1))]) : W p l e (jRm 3 0 0) s m args below meth c H locs 0 0 (MQ below (jQi g rr SS) args s 0 0 (jA0 g)) (F0 m 0 ls []) := by
  obtain ⟨hx, hb, hml, -, hts, hown, hK, -, hstr⟩ := id E
  unfold f_X3_real at hf
  refine lv_aload_n hx hb dX3_real_0 rfl (lv_at hl 1 rfl) ?_
  obtain ⟨hq15, hf⟩ := jif hf
  obtain ⟨x13, hc14, hf⟩ := jb hf
  refine jbackI hM (jrunV E hM ci_X9_isNumber (C_X9_isNumber hc14) lk_4_239 hq15 (by decide) rfl hl.1 rfl rfl (Nat.le_of_ble_eq_true rfl) ⟨Nat.le_of_ble_eq_true rfl, Nat.le_of_ble_eq_true rfl⟩ ⟨Nat.le_refl _, Nat.le_refl _⟩ dX3_real_1) (fun H locs hM => ?_)
  refine lv_if_ne (tgt := 9) hx hb dX3_real_4 (by decide) (fun c16 => ?_) (fun c16 => ?_)
  · have hf := jf c16 hf
    refine lv_aload_n hx hb dX3_real_9 rfl (lv_at hl 1 rfl) ?_
    refine gt_52 E hM hq15 lk_1_50 dX3_real_10 ?_
    refine lv_iconst (v := (1 : Int32)) hx hb dX3_real_13 (by decide) ?_
    refine lv_icmp_ne (tgt := 26) hx hb dX3_real_14 (by decide) (fun c17 => ?_) (fun c17 => ?_)
    · have hf := jf c17 hf
      refine lv_aload_n hx hb dX3_real_26 rfl (lv_at hl 1 rfl) ?_
      refine gt_54 E hM hq15 lk_1_58 dX3_real_27 ?_
      obtain ⟨r18, hr19, hf⟩ := jb hf
      rw [hr19]
      show W p l e _ s m args below meth c H locs 0 0 _ (F0 m _ ls (.ref (g.2.2 + r18) :: _))
      refine lv_iconst (v := (0 : Int32)) hx hb dX3_real_30 (by decide) ?_
      obtain ⟨ha20, hf⟩ := jif hf
      refine jlald E hM ha20 dX3_real_31 ?_
      obtain ⟨x21, hc22, hf⟩ := jb hf
      refine jbackL hM (jrunS E hM ci_X5_nearest (C_X5_nearest hc22) lk_5_8 hl.1 rfl rfl (Nat.le_of_ble_eq_true rfl) ⟨Nat.le_of_ble_eq_true rfl, Nat.le_of_ble_eq_true rfl⟩ ⟨Nat.le_refl _, Nat.le_refl _⟩ dX3_real_32) (fun H locs hM => ?_)
      exact B_X3_real_35 E  hf hM (lv_sub hl [0, 1] rfl)
    · have hf := jt c17 hf
      refine lv_aload_n hx hb dX3_real_17 rfl (lv_at hl 1 rfl) ?_
      refine gt_54 E hM hq15 lk_1_58 dX3_real_18 ?_
      obtain ⟨r23, hr24, hf⟩ := jb hf
      rw [hr24]
      show W p l e _ s m args below meth c H locs 0 0 _ (F0 m _ ls (.ref (g.2.2 + r23) :: _))
      refine lv_iconst (v := (0 : Int32)) hx hb dX3_real_21 (by decide) ?_
      obtain ⟨ha25, hf⟩ := jif hf
      refine jlald E hM ha25 dX3_real_22 ?_
      refine lv_goto (tgt := 35) hx hb dX3_real_23 (by decide) ?_
      exact B_X3_real_35 E  hf hM (lv_sub hl [0, 1] rfl)
  · have hf := jt c16 hf
    refine lv_iconst (v := (2 : Int32)) hx hb dX3_real_7 (by decide) ?_
    exact jireti (jr2 hf) E hM dX3_real_8
set_option maxRecDepth 100000 in
theorem C_X3_real {l : Launch} {g : jG} {a0 : Int32} {a1 : Nat} {S : jM} {rr : Int32} {SS : jM} (hf : f_X3_real a0 a1 S = some (rr, SS)) : jMet l g yX3_real cX3_real 4 (some .int) 3 0 0 [.int a0, .ref (g.2.2 + a1)] S (jQi g rr SS) := by
  refine jof (by decide +kernel) (Nat.le_of_ble_eq_true rfl) ?_
  intro p e s m below meth c E hM ls hl
  have hl : lv_has ls 4 [(0, .int a0),(1, .ref (g.2.2 + a1))] := hl
  exact B_X3_real_0 E hf hM hl
-- PensionHouse$Ops.zeros(LPensionHouse$Value;)I  mode M
noncomputable def f_X3_zeros (v0 : Nat) (S : jM) : Option (Int32 × jM) := if jK v0 = 7 then if (jI S 52 v0) = 0 then (jR S 54 v0).bind (fun r3 => if jA r3 14 (0 : Int32) = true then if (jAL S r3 ((0 : Int32)).toNatClampNeg) < (0 : Int64) then some ((4 : Int32), S) else (jR S 54 v0).bind (fun r7 => if jA r7 14 (0 : Int32) = true then if (jAL S r7 ((0 : Int32)).toNatClampNeg) ≤ (12 : Int64) then (jR S 54 v0).bind (fun r11 => if jA r11 14 (0 : Int32) = true then (f_X9_setRow v0 (2 : Int32) ((jAL S r11 ((0 : Int32)).toNatClampNeg).toInt32) S).bind (fun S14 => some ((0 : Int32), S14)) else none) else some ((4 : Int32), S) else none) else none) else some ((2 : Int32), S) else none
set_option maxRecDepth 100000 in
set_option maxHeartbeats 4000000 in
theorem B_X3_zeros_0 {p : Program} {l : Launch} {e : Env} {s : State} {m : MethodId} {args : Array Value} {below : List Frame} {meth : Method} {c : Code} {g : jG} {rr : Int32} {SS : jM} {v0 : Nat} {S : jM} (E : jEnv p s m args meth c cX3_zeros "PensionHouse$Ops" (some .int) 1 g)  {H : Heap} {locs : List Loc} {ls : Array Slot} (hf : f_X3_zeros v0 S = some (rr, SS)) (hM : jAt g S s H locs) (hl : lv_has ls 1 [(0, .ref (g.2.2 + v0))]) : W p l e (jRm 3 0 0) s m args below meth c H locs 0 0 (MQ below (jQi g rr SS) args s 0 0 (jA0 g)) (F0 m 0 ls []) := by
  obtain ⟨hx, hb, hml, -, hts, hown, hK, -, hstr⟩ := id E
  unfold f_X3_zeros at hf
  refine lv_aload_n hx hb dX3_zeros_0 rfl (lv_at hl 0 rfl) ?_
  obtain ⟨hq1, hf⟩ := jif hf
  refine gt_52 E hM hq1 lk_1_50 dX3_zeros_1 ?_
  refine lv_if_eq (tgt := 9) hx hb dX3_zeros_4 (by decide) (fun c2 => ?_) (fun c2 => ?_)
  · have hf := jt c2 hf
    refine lv_aload_n hx hb dX3_zeros_9 rfl (lv_at hl 0 rfl) ?_
    refine gt_54 E hM hq1 lk_1_58 dX3_zeros_10 ?_
    obtain ⟨r3, hr4, hf⟩ := jb hf
    rw [hr4]
    show W p l e _ s m args below meth c H locs 0 0 _ (F0 m _ ls (.ref (g.2.2 + r3) :: _))
    refine lv_iconst (v := (0 : Int32)) hx hb dX3_zeros_13 (by decide) ?_
    obtain ⟨ha5, hf⟩ := jif hf
    refine jlald E hM ha5 dX3_zeros_14 ?_
    refine lv_lconst (v := (0 : Int64)) hx hb dX3_zeros_15 (by decide) ?_
    refine jl_lt (tgt := 33) hx hb dX3_zeros_16 dX3_zeros_17 (by decide) (fun c6 => ?_) (fun c6 => ?_)
    · have hf := jt c6 hf
      refine lv_iconst (v := (4 : Int32)) hx hb dX3_zeros_33 (by decide) ?_
      exact jireti (jr2 hf) E hM dX3_zeros_34
    · have hf := jf c6 hf
      refine lv_aload_n hx hb dX3_zeros_20 rfl (lv_at hl 0 rfl) ?_
      refine gt_54 E hM hq1 lk_1_58 dX3_zeros_21 ?_
      obtain ⟨r7, hr8, hf⟩ := jb hf
      rw [hr8]
      show W p l e _ s m args below meth c H locs 0 0 _ (F0 m _ ls (.ref (g.2.2 + r7) :: _))
      refine lv_iconst (v := (0 : Int32)) hx hb dX3_zeros_24 (by decide) ?_
      obtain ⟨ha9, hf⟩ := jif hf
      refine jlald E hM ha9 dX3_zeros_25 ?_
      refine lv_ldc2 (v := (12 : Int64)) hx hb hown (hts _ lk_5_77) dX3_zeros_26 ?_
      refine jl_le (tgt := 35) hx hb dX3_zeros_29 dX3_zeros_30 (by decide) (fun c10 => ?_) (fun c10 => ?_)
      · have hf := jt c10 hf
        refine lv_aload_n hx hb dX3_zeros_35 rfl (lv_at hl 0 rfl) ?_
        refine lv_iconst (v := (2 : Int32)) hx hb dX3_zeros_36 (by decide) ?_
        refine lv_aload_n hx hb dX3_zeros_37 rfl (lv_at hl 0 rfl) ?_
        refine gt_54 E hM hq1 lk_1_58 dX3_zeros_38 ?_
        obtain ⟨r11, hr12, hf⟩ := jb hf
        rw [hr12]
        show W p l e _ s m args below meth c H locs 0 0 _ (F0 m _ ls (.ref (g.2.2 + r11) :: _))
        refine lv_iconst (v := (0 : Int32)) hx hb dX3_zeros_41 (by decide) ?_
        obtain ⟨ha13, hf⟩ := jif hf
        refine jlald E hM ha13 dX3_zeros_42 ?_
        refine lv_l2i hx hb dX3_zeros_43 rfl ?_
        obtain ⟨S14, hc15, hf⟩ := jb hf
        refine jbackV hM (jrunV E hM ci_X9_setRow (C_X9_setRow hc15) lk_5_78 hq1 (by decide) rfl hl.1 rfl rfl (Nat.le_of_ble_eq_true rfl) ⟨Nat.le_of_ble_eq_true rfl, Nat.le_of_ble_eq_true rfl⟩ ⟨Nat.le_refl _, Nat.le_refl _⟩ dX3_zeros_44) (fun H locs hM => ?_)
        refine lv_iconst (v := (0 : Int32)) hx hb dX3_zeros_47 (by decide) ?_
        exact jireti (jr2 hf) E hM dX3_zeros_48
      · have hf := jf c10 hf
        refine lv_iconst (v := (4 : Int32)) hx hb dX3_zeros_33 (by decide) ?_
        exact jireti (jr2 hf) E hM dX3_zeros_34
  · have hf := jf c2 hf
    refine lv_iconst (v := (2 : Int32)) hx hb dX3_zeros_7 (by decide) ?_
    exact jireti (jr2 hf) E hM dX3_zeros_8
set_option maxRecDepth 100000 in
theorem C_X3_zeros {l : Launch} {g : jG} {a0 : Nat} {S : jM} {rr : Int32} {SS : jM} (hf : f_X3_zeros a0 S = some (rr, SS)) : jMet l g yX3_zeros cX3_zeros 1 (some .int) 3 0 0 [.ref (g.2.2 + a0)] S (jQi g rr SS) := by
  refine jof (by decide +kernel) (Nat.le_of_ble_eq_true rfl) ?_
  intro p e s m below meth c E hM ls hl
  have hl : lv_has ls 1 [(0, .ref (g.2.2 + a0))] := hl
  exact B_X3_zeros_0 E hf hM hl
-- PensionHouse$Ops.takeGreatest(LPensionHouse$Value;I)J  mode M
noncomputable def f_X3_takeGreatest_79 (k21 : Nat → Int32 → Int32 → Int32 → Int32 → jM → Option (Int64 × jM)) (v0 : Nat) (v1 : Int32) (v2 : Int32) (v3 : Int32) (v4 : Int32) (S : jM) : Option (Int64 × jM) := jlet (v4 + (1 : Int32)) (fun x1 => k21 v0 v1 v2 v3 x1 S)
noncomputable def f_X3_takeGreatest_76 (k21 : Nat → Int32 → Int32 → Int32 → Int32 → jM → Option (Int64 × jM)) (v0 : Nat) (v1 : Int32) (v2 : Int32) (v4 : Int32) (S : jM) : Option (Int64 × jM) := f_X3_takeGreatest_79 k21 v0 v1 v2 v4 v4 S
noncomputable def f_X3_takeGreatest_21 : Nat → Nat → Int32 → Int32 → Int32 → Int32 → jM → Option (Int64 × jM)
  | 0, _, _, _, _, _, _ => none
  | n + 1, v0, v1, v2, v3, v4, S => if jK v0 = 7 then if (jI S 53 v0) ≤ v4 then (jR S 54 v0).bind (fun r4 => if jA r4 14 v3 = true then jlet (jAL S r4 (v3).toNatClampNeg) (fun x7 => (jR S 54 v0).bind (fun r8 => (jR S 54 v0).bind (fun r10 => if jA r10 14 v1 = true then if jA r8 14 v3 = true then jlet (jrL S r8 (vp_updL (jAL S r8) (v3).toNatClampNeg (jAL S r10 (v1).toNatClampNeg))) (fun S14 => (jR S14 54 v0).bind (fun r15 => if jA r15 14 v1 = true then jlet (jrL S14 r15 (vp_updL (jAL S14 r15) (v1).toNatClampNeg x7)) (fun S18 => some (x7, S18)) else none)) else none else none))) else none) else (jR S 54 v0).bind (fun r19 => if jA r19 14 v3 = true then jlet (jAL S r19 (v3).toNatClampNeg) (fun x22 => (jR S 54 v0).bind (fun r23 => if jA r23 14 v4 = true then jlet (jAL S r23 (v4).toNatClampNeg) (fun x26 => if v2 = 0 then if x26 ≤ x22 then f_X3_takeGreatest_79 (f_X3_takeGreatest_21 n) v0 v1 v2 v3 v4 S else f_X3_takeGreatest_76 (f_X3_takeGreatest_21 n) v0 v1 v2 v4 S else if (f_X5_order x26) ≤ (f_X5_order x22) then f_X3_takeGreatest_79 (f_X3_takeGreatest_21 n) v0 v1 v2 v3 v4 S else f_X3_takeGreatest_76 (f_X3_takeGreatest_21 n) v0 v1 v2 v4 S) else none)) else none) else none
noncomputable def f_X3_takeGreatest_13 (v0 : Nat) (v1 : Int32) (t0 : Int32) (S : jM) : Option (Int64 × jM) := jlet (v1 + (1 : Int32)) (fun x30 => f_X3_takeGreatest_21 1100000 v0 v1 t0 v1 x30 S)
noncomputable def f_X3_takeGreatest (v0 : Nat) (v1 : Int32) (S : jM) : Option (Int64 × jM) := if jK v0 = 7 then if (jI S 52 v0) = (4 : Int32) then f_X3_takeGreatest_13 v0 v1 (1 : Int32) S else f_X3_takeGreatest_13 v0 v1 (0 : Int32) S else none
set_option maxRecDepth 100000 in
set_option maxHeartbeats 4000000 in
theorem B_X3_takeGreatest_79 {p : Program} {l : Launch} {e : Env} {s : State} {m : MethodId} {args : Array Value} {below : List Frame} {meth : Method} {c : Code} {g : jG} {rr : Int64} {SS : jM} {v0 : Nat} {v1 : Int32} {v2 : Int32} {v3 : Int32} {v4 : Int32} {S : jM} {k21 : Nat → Int32 → Int32 → Int32 → Int32 → jM → Option (Int64 × jM)} (E : jEnv p s m args meth c cX3_takeGreatest "PensionHouse$Ops" (some .long) 9 g) (hk21 : ∀ (v0 : Nat) (v1 : Int32) (v2 : Int32) (v3 : Int32) (v4 : Int32) (S : jM) (H : Heap) (locs : List Loc) (ls : Array Slot), k21 v0 v1 v2 v3 v4 S = some (rr, SS) → jAt g S s H locs → lv_has ls 9 [(0, .ref (g.2.2 + v0)), (1, .int v1), (2, .int v2), (3, .int v3), (4, .int v4)] → W p l e (jRm 2 0 0) s m args below meth c H locs 0 0 (MQ below (jQl g rr SS) args s 0 0 (jA0 g)) (F0 m 21 ls [])) {H : Heap} {locs : List Loc} {ls : Array Slot} (hf : f_X3_takeGreatest_79 k21 v0 v1 v2 v3 v4 S = some (rr, SS)) (hM : jAt g S s H locs) (hl : lv_has ls 9 [(0, .ref (g.2.2 + v0)), (1, .int v1), (2, .int v2), (3, .int v3), (4, .int v4)]) : W p l e (jRm 2 0 0) s m args below meth c H locs 0 0 (MQ below (jQl g rr SS) args s 0 0 (jA0 g)) (F0 m 79 ls []) := by
  obtain ⟨hx, hb, hml, -, hts, hown, hK, -, hstr⟩ := id E
  unfold f_X3_takeGreatest_79 at hf
  obtain ⟨x1, ex1⟩ : ∃ z, z = v4 + (1 : Int32) := ⟨_, rfl⟩
  have hf := jlet_y ex1 hf
  refine lv_iinc (v := x1) (lv' := [(4, .int x1), (0, .ref (g.2.2 + v0)), (1, .int v1), (2, .int v2), (3, .int v3)]) hx hb dX3_takeGreatest_79 hl (k := 4) rfl (by rw [ex1]; rfl) (by decide) rfl (fun ls hl => ?_)
  refine lv_goto (tgt := 21) hx hb dX3_takeGreatest_82 (by decide) ?_
  exact hk21 v0 v1 v2 v3 x1 S _ _ _ hf hM (lv_sub hl [1, 2, 3, 4, 0] rfl)
set_option maxRecDepth 100000 in
set_option maxHeartbeats 4000000 in
theorem B_X3_takeGreatest_76 {p : Program} {l : Launch} {e : Env} {s : State} {m : MethodId} {args : Array Value} {below : List Frame} {meth : Method} {c : Code} {g : jG} {rr : Int64} {SS : jM} {v0 : Nat} {v1 : Int32} {v2 : Int32} {v4 : Int32} {S : jM} {k21 : Nat → Int32 → Int32 → Int32 → Int32 → jM → Option (Int64 × jM)} (E : jEnv p s m args meth c cX3_takeGreatest "PensionHouse$Ops" (some .long) 9 g) (hk21 : ∀ (v0 : Nat) (v1 : Int32) (v2 : Int32) (v3 : Int32) (v4 : Int32) (S : jM) (H : Heap) (locs : List Loc) (ls : Array Slot), k21 v0 v1 v2 v3 v4 S = some (rr, SS) → jAt g S s H locs → lv_has ls 9 [(0, .ref (g.2.2 + v0)), (1, .int v1), (2, .int v2), (3, .int v3), (4, .int v4)] → W p l e (jRm 2 0 0) s m args below meth c H locs 0 0 (MQ below (jQl g rr SS) args s 0 0 (jA0 g)) (F0 m 21 ls [])) {H : Heap} {locs : List Loc} {ls : Array Slot} (hf : f_X3_takeGreatest_76 k21 v0 v1 v2 v4 S = some (rr, SS)) (hM : jAt g S s H locs) (hl : lv_has ls 9 [(0, .ref (g.2.2 + v0)), (1, .int v1), (2, .int v2), (4, .int v4)]) : W p l e (jRm 2 0 0) s m args below meth c H locs 0 0 (MQ below (jQl g rr SS) args s 0 0 (jA0 g)) (F0 m 76 ls []) := by
  obtain ⟨hx, hb, hml, -, hts, hown, hK, -, hstr⟩ := id E
  unfold f_X3_takeGreatest_76 at hf
  refine lv_iload hx hb dX3_takeGreatest_76 (lv_at hl 3 rfl) ?_
  refine lv_istore_n (lv' := [(3, .int v4), (0, .ref (g.2.2 + v0)), (1, .int v1), (2, .int v2), (4, .int v4)]) hx hb dX3_takeGreatest_78 rfl hl (by decide) rfl (fun ls hl => ?_)
  exact B_X3_takeGreatest_79 E hk21 hf hM (lv_sub hl [1, 2, 3, 0, 4] rfl)
set_option maxRecDepth 100000 in
set_option maxHeartbeats 4000000 in
theorem B_X3_takeGreatest_21 {p : Program} {l : Launch} {e : Env} {s : State} {m : MethodId} {args : Array Value} {below : List Frame} {meth : Method} {c : Code} {g : jG} {rr : Int64} {SS : jM} (E : jEnv p s m args meth c cX3_takeGreatest "PensionHouse$Ops" (some .long) 9 g)  : ∀ (n : Nat) (v0 : Nat) (v1 : Int32) (v2 : Int32) (v3 : Int32) (v4 : Int32) (S : jM) (H : Heap) (locs : List Loc) (ls : Array Slot), f_X3_takeGreatest_21 n v0 v1 v2 v3 v4 S = some (rr, SS) → jAt g S s H locs → lv_has ls 9 [(0, .ref (g.2.2 + v0)), (1, .int v1), (2, .int v2), (3, .int v3), (4, .int v4)] → W p l e (jRm 2 0 0) s m args below meth c H locs 0 0 (MQ below (jQl g rr SS) args s 0 0 (jA0 g)) (F0 m 21 ls []) := by
  obtain ⟨hx, hb, hml, -, hts, hown, hK, -, hstr⟩ := id E
  intro n
  induction n with
  | zero => intro v0 v1 v2 v3 v4 S H locs ls hf hM hl; rw [f_X3_takeGreatest_21] at hf; cases hf
  | succ n ih =>
    intro v0 v1 v2 v3 v4 S H locs ls hf hM hl
    rw [f_X3_takeGreatest_21] at hf
    refine lv_iload hx hb dX3_takeGreatest_21 (lv_at hl 4 rfl) ?_
    refine lv_aload_n hx hb dX3_takeGreatest_23 rfl (lv_at hl 0 rfl) ?_
    obtain ⟨hq2, hf⟩ := jif hf
    refine gt_53 E hM hq2 lk_1_56 dX3_takeGreatest_24 ?_
    refine lv_icmp_ge (tgt := 85) hx hb dX3_takeGreatest_27 (by decide) (fun c3 => ?_) (fun c3 => ?_)
    · have hf := jt c3 hf
      refine lv_aload_n hx hb dX3_takeGreatest_85 rfl (lv_at hl 0 rfl) ?_
      refine gt_54 E hM hq2 lk_1_58 dX3_takeGreatest_86 ?_
      obtain ⟨r4, hr5, hf⟩ := jb hf
      rw [hr5]
      show W p l e _ s m args below meth c H locs 0 0 _ (F0 m _ ls (.ref (g.2.2 + r4) :: _))
      refine lv_iload_n hx hb dX3_takeGreatest_89 rfl (lv_at hl 3 rfl) ?_
      obtain ⟨ha6, hf⟩ := jif hf
      refine jlald E hM ha6 dX3_takeGreatest_90 ?_
      refine lv_topl (fun x7 ex7 => ?_)
      have hf := jlet_y ex7 hf
      refine lv_lstore (lv' := [(4, .long x7), (0, .ref (g.2.2 + v0)), (1, .int v1), (2, .int v2), (3, .int v3)]) hx hb dX3_takeGreatest_91 hl (by decide) rfl (fun ls hl => ?_)
      refine lv_aload_n hx hb dX3_takeGreatest_93 rfl (lv_at hl 1 rfl) ?_
      refine gt_54 E hM hq2 lk_1_58 dX3_takeGreatest_94 ?_
      obtain ⟨r8, hr9, hf⟩ := jb hf
      rw [hr9]
      show W p l e _ s m args below meth c H locs 0 0 _ (F0 m _ ls (.ref (g.2.2 + r8) :: _))
      refine lv_iload_n hx hb dX3_takeGreatest_97 rfl (lv_at hl 4 rfl) ?_
      refine lv_aload_n hx hb dX3_takeGreatest_98 rfl (lv_at hl 1 rfl) ?_
      refine gt_54 E hM hq2 lk_1_58 dX3_takeGreatest_99 ?_
      obtain ⟨r10, hr11, hf⟩ := jb hf
      rw [hr11]
      show W p l e _ s m args below meth c H locs 0 0 _ (F0 m _ ls (.ref (g.2.2 + r10) :: _))
      refine lv_iload_n hx hb dX3_takeGreatest_102 rfl (lv_at hl 2 rfl) ?_
      obtain ⟨ha12, hf⟩ := jif hf
      refine jlald E hM ha12 dX3_takeGreatest_103 ?_
      obtain ⟨ha13, hf⟩ := jif hf
      refine jlast E hM ha13 dX3_takeGreatest_104 (fun H locs S14 eS14 hM => ?_)
      have hf := jlet_y eS14 hf
      refine lv_aload_n hx hb dX3_takeGreatest_105 rfl (lv_at hl 1 rfl) ?_
      refine gt_54 E hM hq2 lk_1_58 dX3_takeGreatest_106 ?_
      obtain ⟨r15, hr16, hf⟩ := jb hf
      rw [hr16]
      show W p l e _ s m args below meth c H locs 0 0 _ (F0 m _ ls (.ref (g.2.2 + r15) :: _))
      refine lv_iload_n hx hb dX3_takeGreatest_109 rfl (lv_at hl 2 rfl) ?_
      refine lv_lload hx hb dX3_takeGreatest_110 (lv_at hl 0 rfl) ?_
      obtain ⟨ha17, hf⟩ := jif hf
      refine jlast E hM ha17 dX3_takeGreatest_112 (fun H locs S18 eS18 hM => ?_)
      have hf := jlet_y eS18 hf
      refine lv_lload hx hb dX3_takeGreatest_113 (lv_at hl 0 rfl) ?_
      exact jlret (jr2 hf) E hM dX3_takeGreatest_115
    · have hf := jf c3 hf
      refine lv_aload_n hx hb dX3_takeGreatest_30 rfl (lv_at hl 0 rfl) ?_
      refine gt_54 E hM hq2 lk_1_58 dX3_takeGreatest_31 ?_
      obtain ⟨r19, hr20, hf⟩ := jb hf
      rw [hr20]
      show W p l e _ s m args below meth c H locs 0 0 _ (F0 m _ ls (.ref (g.2.2 + r19) :: _))
      refine lv_iload_n hx hb dX3_takeGreatest_34 rfl (lv_at hl 3 rfl) ?_
      obtain ⟨ha21, hf⟩ := jif hf
      refine jlald E hM ha21 dX3_takeGreatest_35 ?_
      refine lv_topl (fun x22 ex22 => ?_)
      have hf := jlet_y ex22 hf
      refine lv_lstore (lv' := [(5, .long x22), (0, .ref (g.2.2 + v0)), (1, .int v1), (2, .int v2), (3, .int v3), (4, .int v4)]) hx hb dX3_takeGreatest_36 hl (by decide) rfl (fun ls hl => ?_)
      refine lv_aload_n hx hb dX3_takeGreatest_38 rfl (lv_at hl 1 rfl) ?_
      refine gt_54 E hM hq2 lk_1_58 dX3_takeGreatest_39 ?_
      obtain ⟨r23, hr24, hf⟩ := jb hf
      rw [hr24]
      show W p l e _ s m args below meth c H locs 0 0 _ (F0 m _ ls (.ref (g.2.2 + r23) :: _))
      refine lv_iload hx hb dX3_takeGreatest_42 (lv_at hl 5 rfl) ?_
      obtain ⟨ha25, hf⟩ := jif hf
      refine jlald E hM ha25 dX3_takeGreatest_44 ?_
      refine lv_topl (fun x26 ex26 => ?_)
      have hf := jlet_y ex26 hf
      refine lv_lstore (lv' := [(7, .long x26), (5, .long x22), (0, .ref (g.2.2 + v0)), (1, .int v1), (2, .int v2), (3, .int v3), (4, .int v4)]) hx hb dX3_takeGreatest_45 hl (by decide) rfl (fun ls hl => ?_)
      refine lv_iload_n hx hb dX3_takeGreatest_47 rfl (lv_at hl 4 rfl) ?_
      refine lv_if_eq (tgt := 68) hx hb dX3_takeGreatest_48 (by decide) (fun c27 => ?_) (fun c27 => ?_)
      · have hf := jt c27 hf
        refine lv_lload hx hb dX3_takeGreatest_68 (lv_at hl 0 rfl) ?_
        refine lv_lload hx hb dX3_takeGreatest_70 (lv_at hl 1 rfl) ?_
        refine jl_le (tgt := 79) hx hb dX3_takeGreatest_72 dX3_takeGreatest_73 (by decide) (fun c28 => ?_) (fun c28 => ?_)
        · have hf := jt c28 hf
          exact B_X3_takeGreatest_79 E ih hf hM (lv_sub hl [2, 3, 4, 5, 6] rfl)
        · have hf := jf c28 hf
          exact B_X3_takeGreatest_76 E ih hf hM (lv_sub hl [2, 3, 4, 6] rfl)
      · have hf := jf c27 hf
        refine lv_lload hx hb dX3_takeGreatest_51 (lv_at hl 0 rfl) ?_
        refine jbackL hM (jrunS E hM ci_X5_order (C_X5_order rfl) lk_5_86 hl.1 rfl rfl (Nat.le_of_ble_eq_true rfl) ⟨Nat.le_of_ble_eq_true rfl, Nat.le_of_ble_eq_true rfl⟩ ⟨Nat.le_refl _, Nat.le_refl _⟩ dX3_takeGreatest_53) (fun H locs hM => ?_)
        refine lv_lload hx hb dX3_takeGreatest_56 (lv_at hl 1 rfl) ?_
        refine jbackL hM (jrunS E hM ci_X5_order (C_X5_order rfl) lk_5_86 hl.1 rfl rfl (Nat.le_of_ble_eq_true rfl) ⟨Nat.le_of_ble_eq_true rfl, Nat.le_of_ble_eq_true rfl⟩ ⟨Nat.le_refl _, Nat.le_refl _⟩ dX3_takeGreatest_58) (fun H locs hM => ?_)
        refine jl_le (tgt := 79) hx hb dX3_takeGreatest_61 dX3_takeGreatest_62 (by decide) (fun c29 => ?_) (fun c29 => ?_)
        · have hf := jt c29 hf
          exact B_X3_takeGreatest_79 E ih hf hM (lv_sub hl [2, 3, 4, 5, 6] rfl)
        · have hf := jf c29 hf
          refine lv_goto (tgt := 76) hx hb dX3_takeGreatest_65 (by decide) ?_
          exact B_X3_takeGreatest_76 E ih hf hM (lv_sub hl [2, 3, 4, 6] rfl)
set_option maxRecDepth 100000 in
set_option maxHeartbeats 4000000 in
theorem B_X3_takeGreatest_13 {p : Program} {l : Launch} {e : Env} {s : State} {m : MethodId} {args : Array Value} {below : List Frame} {meth : Method} {c : Code} {g : jG} {rr : Int64} {SS : jM} {v0 : Nat} {v1 : Int32} {t0 : Int32} {S : jM} (E : jEnv p s m args meth c cX3_takeGreatest "PensionHouse$Ops" (some .long) 9 g)  {H : Heap} {locs : List Loc} {ls : Array Slot} (hf : f_X3_takeGreatest_13 v0 v1 t0 S = some (rr, SS)) (hM : jAt g S s H locs) (hl : lv_has ls 9 [(0, .ref (g.2.2 + v0)), (1, .int v1)]) : W p l e (jRm 2 0 0) s m args below meth c H locs 0 0 (MQ below (jQl g rr SS) args s 0 0 (jA0 g)) (F0 m 13 ls [.int t0]) := by
  obtain ⟨hx, hb, hml, -, hts, hown, hK, -, hstr⟩ := id E
  unfold f_X3_takeGreatest_13 at hf
  refine lv_istore_n (lv' := [(2, .int t0), (0, .ref (g.2.2 + v0)), (1, .int v1)]) hx hb dX3_takeGreatest_13 rfl hl (by decide) rfl (fun ls hl => ?_)
  refine lv_iload_n hx hb dX3_takeGreatest_14 rfl (lv_at hl 2 rfl) ?_
  refine lv_istore_n (lv' := [(3, .int v1), (2, .int t0), (0, .ref (g.2.2 + v0)), (1, .int v1)]) hx hb dX3_takeGreatest_15 rfl hl (by decide) rfl (fun ls hl => ?_)
  refine lv_iload_n hx hb dX3_takeGreatest_16 rfl (lv_at hl 3 rfl) ?_
  refine lv_iconst (v := (1 : Int32)) hx hb dX3_takeGreatest_17 (by decide) ?_
  refine lv_iadd hx hb dX3_takeGreatest_18 ?_
  refine lv_topi (fun x30 ex30 => ?_)
  have hf := jlet_y ex30 hf
  refine lv_istore (lv' := [(4, .int x30), (3, .int v1), (2, .int t0), (0, .ref (g.2.2 + v0)), (1, .int v1)]) hx hb dX3_takeGreatest_19 hl (by decide) rfl (fun ls hl => ?_)
  exact B_X3_takeGreatest_21 E  1100000 v0 v1 t0 v1 x30 S _ _ _ hf hM (lv_sub hl [3, 4, 2, 1, 0] rfl)
set_option maxRecDepth 100000 in
set_option maxHeartbeats 4000000 in
theorem B_X3_takeGreatest_0 {p : Program} {l : Launch} {e : Env} {s : State} {m : MethodId} {args : Array Value} {below : List Frame} {meth : Method} {c : Code} {g : jG} {rr : Int64} {SS : jM} {v0 : Nat} {v1 : Int32} {S : jM} (E : jEnv p s m args meth c cX3_takeGreatest "PensionHouse$Ops" (some .long) 9 g)  {H : Heap} {locs : List Loc} {ls : Array Slot} (hf : f_X3_takeGreatest v0 v1 S = some (rr, SS)) (hM : jAt g S s H locs) (hl : lv_has ls 9 [(0, .ref (g.2.2 + v0)), (1, .int v1)]) : W p l e (jRm 2 0 0) s m args below meth c H locs 0 0 (MQ below (jQl g rr SS) args s 0 0 (jA0 g)) (F0 m 0 ls []) := by
  obtain ⟨hx, hb, hml, -, hts, hown, hK, -, hstr⟩ := id E
  unfold f_X3_takeGreatest at hf
  refine lv_aload_n hx hb dX3_takeGreatest_0 rfl (lv_at hl 0 rfl) ?_
  obtain ⟨hq31, hf⟩ := jif hf
  refine gt_52 E hM hq31 lk_1_50 dX3_takeGreatest_1 ?_
  refine lv_iconst (v := (4 : Int32)) hx hb dX3_takeGreatest_4 (by decide) ?_
  refine lv_icmp_ne (tgt := 12) hx hb dX3_takeGreatest_5 (by decide) (fun c32 => ?_) (fun c32 => ?_)
  · have hf := jf c32 hf
    refine lv_iconst (v := (0 : Int32)) hx hb dX3_takeGreatest_12 (by decide) ?_
    exact B_X3_takeGreatest_13 E  hf hM (lv_sub hl [0, 1] rfl)
  · have hf := jt c32 hf
    refine lv_iconst (v := (1 : Int32)) hx hb dX3_takeGreatest_8 (by decide) ?_
    refine lv_goto (tgt := 13) hx hb dX3_takeGreatest_9 (by decide) ?_
    exact B_X3_takeGreatest_13 E  hf hM (lv_sub hl [0, 1] rfl)
set_option maxRecDepth 100000 in
theorem C_X3_takeGreatest {l : Launch} {g : jG} {a0 : Nat} {a1 : Int32} {S : jM} {rr : Int64} {SS : jM} (hf : f_X3_takeGreatest a0 a1 S = some (rr, SS)) : jMet l g yX3_takeGreatest cX3_takeGreatest 9 (some .long) 2 0 0 [.ref (g.2.2 + a0), .int a1] S (jQl g rr SS) := by
  refine jof (by decide +kernel) (Nat.le_of_ble_eq_true rfl) ?_
  intro p e s m below meth c E hM ls hl
  have hl : lv_has ls 9 [(0, .ref (g.2.2 + a0)),(1, .int a1)] := hl
  exact B_X3_takeGreatest_0 E hf hM hl
-- PensionHouse$Ops.best(LPensionHouse$Value;LPensionHouse$Value;)I  mode M
noncomputable def f_X3_best_145 (v3 : Int64) (t0 : Nat) (t1 : Int32) (S : jM) : Option (Int32 × jM) := if jK t0 = 7 then (f_X9_setNumber t0 t1 v3 S).bind (fun S1 => some ((0 : Int32), S1)) else none
noncomputable def f_X3_best_135 (v0 : Nat) (v2 : Int32) (v3 : Int64) (S : jM) : Option (Int32 × jM) := if v2 = 0 then f_X3_best_145 v3 v0 (0 : Int32) S else f_X3_best_145 v3 v0 (1 : Int32) S
noncomputable def f_X3_best_128 (k65 : Nat → Nat → Int32 → Int64 → Int32 → jM → Option (Int32 × jM)) (v0 : Nat) (v1 : Nat) (v2 : Int32) (v5 : Int32) (t0 : Int64) (S : jM) : Option (Int32 × jM) := jlet (v5 + (1 : Int32)) (fun x5 => k65 v0 v1 v2 t0 x5 S)
noncomputable def f_X3_best_111 (k65 : Nat → Nat → Int32 → Int64 → Int32 → jM → Option (Int32 × jM)) (v0 : Nat) (v1 : Nat) (v2 : Int32) (v3 : Int64) (v5 : Int32) (v6 : Int64) (S : jM) : Option (Int32 × jM) := if v2 = 0 then f_X3_best_128 k65 v0 v1 v2 v5 (v3 + v6) S else (f_X5_plus v3 v6).bind (fun x7 => f_X3_best_128 k65 v0 v1 v2 v5 x7 S)
noncomputable def f_X3_best_65 : Nat → Nat → Nat → Int32 → Int64 → Int32 → jM → Option (Int32 × jM)
  | 0, _, _, _, _, _, _ => none
  | n + 1, v0, v1, v2, v3, v5, S => if jK v1 = 7 then (jR S 54 v1).bind (fun r10 => if jA r10 14 (0 : Int32) = true then if (jAL S r10 ((0 : Int32)).toNatClampNeg) ≤ (v5.toInt64) then f_X3_best_135 v0 v2 v3 S else if (12 : Int32) ≤ v5 then f_X3_best_135 v0 v2 v3 S else jbd (f_X3_takeGreatest v0 v5 S) (fun x15 S16 => if v2 = 0 then (f_X3_isBeyond (43 : Int32) v3 x15).bind (fun x19 => if x19 = 0 then f_X3_best_111 (f_X3_best_65 n) v0 v1 v2 v3 v5 x15 S16 else some ((6 : Int32), S16)) else f_X3_best_111 (f_X3_best_65 n) v0 v1 v2 v3 v5 x15 S16) else none) else none
noncomputable def f_X3_best_59 (v0 : Nat) (v1 : Nat) (t0 : Int32) (S : jM) : Option (Int32 × jM) := f_X3_best_65 1100000 v0 v1 t0 (0 : Int64) (0 : Int32) S
noncomputable def f_X3_best (v0 : Nat) (v1 : Nat) (S : jM) : Option (Int32 × jM) := if jK v0 = 7 then (f_X9_isRowOfNumbers v0 S).bind (fun x22 => if x22 = 0 then some ((2 : Int32), S) else if jK v1 = 7 then if (jI S 52 v1) = 0 then (jR S 54 v1).bind (fun r28 => if jA r28 14 (0 : Int32) = true then if (0 : Int64) ≤ (jAL S r28 ((0 : Int32)).toNatClampNeg) then (jR S 54 v1).bind (fun r32 => if jA r32 14 (0 : Int32) = true then if (jAL S r32 ((0 : Int32)).toNatClampNeg) ≤ ((jI S 53 v0).toInt64) then if (jI S 52 v0) = (4 : Int32) then f_X3_best_59 v0 v1 (1 : Int32) S else f_X3_best_59 v0 v1 (0 : Int32) S else some ((3 : Int32), S) else none) else some ((4 : Int32), S) else none) else some ((2 : Int32), S) else none) else none
set_option maxRecDepth 100000 in
set_option maxHeartbeats 4000000 in
theorem B_X3_best_145 {p : Program} {l : Launch} {e : Env} {s : State} {m : MethodId} {args : Array Value} {below : List Frame} {meth : Method} {c : Code} {g : jG} {rr : Int32} {SS : jM} {v3 : Int64} {t0 : Nat} {t1 : Int32} {S : jM} (E : jEnv p s m args meth c cX3_best "PensionHouse$Ops" (some .int) 8 g)  {H : Heap} {locs : List Loc} {ls : Array Slot} (hf : f_X3_best_145 v3 t0 t1 S = some (rr, SS)) (hM : jAt g S s H locs) (hl : lv_has ls 8 [(3, .long v3)]) : W p l e (jRm 3 0 0) s m args below meth c H locs 0 0 (MQ below (jQi g rr SS) args s 0 0 (jA0 g)) (F0 m 145 ls [.int t1, .ref (g.2.2 + t0)]) := by
  obtain ⟨hx, hb, hml, -, hts, hown, hK, -, hstr⟩ := id E
  unfold f_X3_best_145 at hf
  refine lv_lload_n hx hb dX3_best_145 rfl (lv_at hl 0 rfl) ?_
  obtain ⟨hq3, hf⟩ := jif hf
  obtain ⟨S1, hc2, hf⟩ := jb hf
  refine jbackV hM (jrunV E hM ci_X9_setNumber (C_X9_setNumber hc2) lk_5_12 hq3 (by decide) rfl hl.1 rfl rfl (Nat.le_of_ble_eq_true rfl) ⟨Nat.le_of_ble_eq_true rfl, Nat.le_of_ble_eq_true rfl⟩ ⟨Nat.le_refl _, Nat.le_refl _⟩ dX3_best_146) (fun H locs hM => ?_)
  refine lv_iconst (v := (0 : Int32)) hx hb dX3_best_149 (by decide) ?_
  exact jireti (jr2 hf) E hM dX3_best_150
set_option maxRecDepth 100000 in
set_option maxHeartbeats 4000000 in
theorem B_X3_best_135 {p : Program} {l : Launch} {e : Env} {s : State} {m : MethodId} {args : Array Value} {below : List Frame} {meth : Method} {c : Code} {g : jG} {rr : Int32} {SS : jM} {v0 : Nat} {v2 : Int32} {v3 : Int64} {S : jM} (E : jEnv p s m args meth c cX3_best "PensionHouse$Ops" (some .int) 8 g)  {H : Heap} {locs : List Loc} {ls : Array Slot} (hf : f_X3_best_135 v0 v2 v3 S = some (rr, SS)) (hM : jAt g S s H locs) (hl : lv_has ls 8 [(0, .ref (g.2.2 + v0)), (2, .int v2), (3, .long v3)]) : W p l e (jRm 3 0 0) s m args below meth c H locs 0 0 (MQ below (jQi g rr SS) args s 0 0 (jA0 g)) (F0 m 135 ls []) := by
  obtain ⟨hx, hb, hml, -, hts, hown, hK, -, hstr⟩ := id E
  unfold f_X3_best_135 at hf
  refine lv_aload_n hx hb dX3_best_135 rfl (lv_at hl 0 rfl) ?_
  refine lv_iload_n hx hb dX3_best_136 rfl (lv_at hl 1 rfl) ?_
  refine lv_if_eq (tgt := 144) hx hb dX3_best_137 (by decide) (fun c4 => ?_) (fun c4 => ?_)
  · have hf := jt c4 hf
    refine lv_iconst (v := (0 : Int32)) hx hb dX3_best_144 (by decide) ?_
    exact B_X3_best_145 E  hf hM (lv_sub hl [2] rfl)
  · have hf := jf c4 hf
    refine lv_iconst (v := (1 : Int32)) hx hb dX3_best_140 (by decide) ?_
    refine lv_goto (tgt := 145) hx hb dX3_best_141 (by decide) ?_
    exact B_X3_best_145 E  hf hM (lv_sub hl [2] rfl)
set_option maxRecDepth 100000 in
set_option maxHeartbeats 4000000 in
theorem B_X3_best_128 {p : Program} {l : Launch} {e : Env} {s : State} {m : MethodId} {args : Array Value} {below : List Frame} {meth : Method} {c : Code} {g : jG} {rr : Int32} {SS : jM} {v0 : Nat} {v1 : Nat} {v2 : Int32} {v5 : Int32} {t0 : Int64} {S : jM} {k65 : Nat → Nat → Int32 → Int64 → Int32 → jM → Option (Int32 × jM)} (E : jEnv p s m args meth c cX3_best "PensionHouse$Ops" (some .int) 8 g) (hk65 : ∀ (v0 : Nat) (v1 : Nat) (v2 : Int32) (v3 : Int64) (v5 : Int32) (S : jM) (H : Heap) (locs : List Loc) (ls : Array Slot), k65 v0 v1 v2 v3 v5 S = some (rr, SS) → jAt g S s H locs → lv_has ls 8 [(0, .ref (g.2.2 + v0)), (1, .ref (g.2.2 + v1)), (2, .int v2), (3, .long v3), (5, .int v5)] → W p l e (jRm 3 0 0) s m args below meth c H locs 0 0 (MQ below (jQi g rr SS) args s 0 0 (jA0 g)) (F0 m 65 ls [])) {H : Heap} {locs : List Loc} {ls : Array Slot} (hf : f_X3_best_128 k65 v0 v1 v2 v5 t0 S = some (rr, SS)) (hM : jAt g S s H locs) (hl : lv_has ls 8 [(0, .ref (g.2.2 + v0)), (1, .ref (g.2.2 + v1)), (2, .int v2), (5, .int v5)]) : W p l e (jRm 3 0 0) s m args below meth c H locs 0 0 (MQ below (jQi g rr SS) args s 0 0 (jA0 g)) (F0 m 128 ls [.long t0]) := by
  obtain ⟨hx, hb, hml, -, hts, hown, hK, -, hstr⟩ := id E
  unfold f_X3_best_128 at hf
  refine lv_lstore_n (lv' := [(3, .long t0), (0, .ref (g.2.2 + v0)), (1, .ref (g.2.2 + v1)), (2, .int v2), (5, .int v5)]) hx hb dX3_best_128 rfl hl (by decide) rfl (fun ls hl => ?_)
  obtain ⟨x5, ex5⟩ : ∃ z, z = v5 + (1 : Int32) := ⟨_, rfl⟩
  have hf := jlet_y ex5 hf
  refine lv_iinc (v := x5) (lv' := [(5, .int x5), (3, .long t0), (0, .ref (g.2.2 + v0)), (1, .ref (g.2.2 + v1)), (2, .int v2)]) hx hb dX3_best_129 hl (k := 4) rfl (by rw [ex5]; rfl) (by decide) rfl (fun ls hl => ?_)
  refine lv_goto (tgt := 65) hx hb dX3_best_132 (by decide) ?_
  exact hk65 v0 v1 v2 t0 x5 S _ _ _ hf hM (lv_sub hl [2, 3, 4, 1, 0] rfl)
set_option maxRecDepth 100000 in
set_option maxHeartbeats 4000000 in
theorem B_X3_best_111 {p : Program} {l : Launch} {e : Env} {s : State} {m : MethodId} {args : Array Value} {below : List Frame} {meth : Method} {c : Code} {g : jG} {rr : Int32} {SS : jM} {v0 : Nat} {v1 : Nat} {v2 : Int32} {v3 : Int64} {v5 : Int32} {v6 : Int64} {S : jM} {k65 : Nat → Nat → Int32 → Int64 → Int32 → jM → Option (Int32 × jM)} (E : jEnv p s m args meth c cX3_best "PensionHouse$Ops" (some .int) 8 g) (hk65 : ∀ (v0 : Nat) (v1 : Nat) (v2 : Int32) (v3 : Int64) (v5 : Int32) (S : jM) (H : Heap) (locs : List Loc) (ls : Array Slot), k65 v0 v1 v2 v3 v5 S = some (rr, SS) → jAt g S s H locs → lv_has ls 8 [(0, .ref (g.2.2 + v0)), (1, .ref (g.2.2 + v1)), (2, .int v2), (3, .long v3), (5, .int v5)] → W p l e (jRm 3 0 0) s m args below meth c H locs 0 0 (MQ below (jQi g rr SS) args s 0 0 (jA0 g)) (F0 m 65 ls [])) {H : Heap} {locs : List Loc} {ls : Array Slot} (hf : f_X3_best_111 k65 v0 v1 v2 v3 v5 v6 S = some (rr, SS)) (hM : jAt g S s H locs) (hl : lv_has ls 8 [(0, .ref (g.2.2 + v0)), (1, .ref (g.2.2 + v1)), (2, .int v2), (3, .long v3), (5, .int v5), (6, .long v6)]) : W p l e (jRm 3 0 0) s m args below meth c H locs 0 0 (MQ below (jQi g rr SS) args s 0 0 (jA0 g)) (F0 m 111 ls []) := by
  obtain ⟨hx, hb, hml, -, hts, hown, hK, -, hstr⟩ := id E
  unfold f_X3_best_111 at hf
  refine lv_iload_n hx hb dX3_best_111 rfl (lv_at hl 2 rfl) ?_
  refine lv_if_eq (tgt := 124) hx hb dX3_best_112 (by decide) (fun c6 => ?_) (fun c6 => ?_)
  · have hf := jt c6 hf
    refine lv_lload_n hx hb dX3_best_124 rfl (lv_at hl 3 rfl) ?_
    refine lv_lload hx hb dX3_best_125 (lv_at hl 5 rfl) ?_
    refine lv_ladd hx hb dX3_best_127 ?_
    exact B_X3_best_128 E hk65 hf hM (lv_sub hl [0, 1, 2, 4] rfl)
  · have hf := jf c6 hf
    refine lv_lload_n hx hb dX3_best_115 rfl (lv_at hl 3 rfl) ?_
    refine lv_lload hx hb dX3_best_116 (lv_at hl 5 rfl) ?_
    obtain ⟨x7, hc8, hf⟩ := jb hf
    refine jbackL hM (jrunS E hM ci_X5_plus (C_X5_plus hc8) lk_5_9 hl.1 rfl rfl (Nat.le_of_ble_eq_true rfl) ⟨Nat.le_of_ble_eq_true rfl, Nat.le_of_ble_eq_true rfl⟩ ⟨Nat.le_refl _, Nat.le_refl _⟩ dX3_best_118) (fun H locs hM => ?_)
    refine lv_goto (tgt := 128) hx hb dX3_best_121 (by decide) ?_
    exact B_X3_best_128 E hk65 hf hM (lv_sub hl [0, 1, 2, 4] rfl)
set_option maxRecDepth 100000 in
set_option maxHeartbeats 4000000 in
theorem B_X3_best_65 {p : Program} {l : Launch} {e : Env} {s : State} {m : MethodId} {args : Array Value} {below : List Frame} {meth : Method} {c : Code} {g : jG} {rr : Int32} {SS : jM} (E : jEnv p s m args meth c cX3_best "PensionHouse$Ops" (some .int) 8 g)  : ∀ (n : Nat) (v0 : Nat) (v1 : Nat) (v2 : Int32) (v3 : Int64) (v5 : Int32) (S : jM) (H : Heap) (locs : List Loc) (ls : Array Slot), f_X3_best_65 n v0 v1 v2 v3 v5 S = some (rr, SS) → jAt g S s H locs → lv_has ls 8 [(0, .ref (g.2.2 + v0)), (1, .ref (g.2.2 + v1)), (2, .int v2), (3, .long v3), (5, .int v5)] → W p l e (jRm 3 0 0) s m args below meth c H locs 0 0 (MQ below (jQi g rr SS) args s 0 0 (jA0 g)) (F0 m 65 ls []) := by
  obtain ⟨hx, hb, hml, -, hts, hown, hK, -, hstr⟩ := id E
  intro n
  induction n with
  | zero => intro v0 v1 v2 v3 v5 S H locs ls hf hM hl; rw [f_X3_best_65] at hf; cases hf
  | succ n ih =>
    intro v0 v1 v2 v3 v5 S H locs ls hf hM hl
    rw [f_X3_best_65] at hf
    refine lv_iload hx hb dX3_best_65 (lv_at hl 4 rfl) ?_
    refine lv_i2l hx hb dX3_best_67 rfl ?_
    refine lv_aload_n hx hb dX3_best_68 rfl (lv_at hl 1 rfl) ?_
    obtain ⟨hq9, hf⟩ := jif hf
    refine gt_54 E hM hq9 lk_1_58 dX3_best_69 ?_
    obtain ⟨r10, hr11, hf⟩ := jb hf
    rw [hr11]
    show W p l e _ s m args below meth c H locs 0 0 _ (F0 m _ ls (.ref (g.2.2 + r10) :: _))
    refine lv_iconst (v := (0 : Int32)) hx hb dX3_best_72 (by decide) ?_
    obtain ⟨ha12, hf⟩ := jif hf
    refine jlald E hM ha12 dX3_best_73 ?_
    refine jl_ge (tgt := 135) hx hb dX3_best_74 dX3_best_75 (by decide) (fun c13 => ?_) (fun c13 => ?_)
    · have hf := jt c13 hf
      exact B_X3_best_135 E  hf hM (lv_sub hl [0, 2, 3] rfl)
    · have hf := jf c13 hf
      refine lv_iload hx hb dX3_best_78 (lv_at hl 4 rfl) ?_
      refine lv_bipush (v := (12 : Int32)) hx hb dX3_best_80 (by decide) ?_
      refine lv_icmp_ge (tgt := 135) hx hb dX3_best_82 (by decide) (fun c14 => ?_) (fun c14 => ?_)
      · have hf := jt c14 hf
        exact B_X3_best_135 E  hf hM (lv_sub hl [0, 2, 3] rfl)
      · have hf := jf c14 hf
        refine lv_aload_n hx hb dX3_best_85 rfl (lv_at hl 0 rfl) ?_
        refine lv_iload hx hb dX3_best_86 (lv_at hl 4 rfl) ?_
        obtain ⟨x15, S16, hc17, hf⟩ := jbd_e hf
        refine jbackL hM (jrunS E hM ci_X3_takeGreatest (C_X3_takeGreatest hc17) lk_5_83 hl.1 rfl rfl (Nat.le_of_ble_eq_true rfl) ⟨Nat.le_of_ble_eq_true rfl, Nat.le_of_ble_eq_true rfl⟩ ⟨Nat.le_refl _, Nat.le_refl _⟩ dX3_best_88) (fun H locs hM => ?_)
        refine lv_lstore (lv' := [(6, .long x15), (0, .ref (g.2.2 + v0)), (1, .ref (g.2.2 + v1)), (2, .int v2), (3, .long v3), (5, .int v5)]) hx hb dX3_best_91 hl (by decide) rfl (fun ls hl => ?_)
        refine lv_iload_n hx hb dX3_best_93 rfl (lv_at hl 3 rfl) ?_
        refine lv_if_ne (tgt := 111) hx hb dX3_best_94 (by decide) (fun c18 => ?_) (fun c18 => ?_)
        · have hf := jf c18 hf
          exact B_X3_best_111 E ih hf hM (lv_sub hl [1, 2, 3, 4, 5, 0] rfl)
        · have hf := jt c18 hf
          refine lv_bipush (v := (43 : Int32)) hx hb dX3_best_97 (by decide) ?_
          refine lv_lload_n hx hb dX3_best_99 rfl (lv_at hl 4 rfl) ?_
          refine lv_lload hx hb dX3_best_100 (lv_at hl 0 rfl) ?_
          obtain ⟨x19, hc20, hf⟩ := jb hf
          refine jbackI hM (jrunS E hM ci_X3_isBeyond (C_X3_isBeyond hc20) lk_5_0 hl.1 rfl rfl (Nat.le_of_ble_eq_true rfl) ⟨Nat.le_of_ble_eq_true rfl, Nat.le_of_ble_eq_true rfl⟩ ⟨Nat.le_refl _, Nat.le_refl _⟩ dX3_best_102) (fun H locs hM => ?_)
          refine lv_if_eq (tgt := 111) hx hb dX3_best_105 (by decide) (fun c21 => ?_) (fun c21 => ?_)
          · have hf := jt c21 hf
            exact B_X3_best_111 E ih hf hM (lv_sub hl [1, 2, 3, 4, 5, 0] rfl)
          · have hf := jf c21 hf
            refine lv_bipush (v := (6 : Int32)) hx hb dX3_best_108 (by decide) ?_
            exact jireti (jr2 hf) E hM dX3_best_110
set_option maxRecDepth 100000 in
set_option maxHeartbeats 4000000 in
theorem B_X3_best_59 {p : Program} {l : Launch} {e : Env} {s : State} {m : MethodId} {args : Array Value} {below : List Frame} {meth : Method} {c : Code} {g : jG} {rr : Int32} {SS : jM} {v0 : Nat} {v1 : Nat} {t0 : Int32} {S : jM} (E : jEnv p s m args meth c cX3_best "PensionHouse$Ops" (some .int) 8 g)  {H : Heap} {locs : List Loc} {ls : Array Slot} (hf : f_X3_best_59 v0 v1 t0 S = some (rr, SS)) (hM : jAt g S s H locs) (hl : lv_has ls 8 [(0, .ref (g.2.2 + v0)), (1, .ref (g.2.2 + v1))]) : W p l e (jRm 3 0 0) s m args below meth c H locs 0 0 (MQ below (jQi g rr SS) args s 0 0 (jA0 g)) (F0 m 59 ls [.int t0]) := by
  obtain ⟨hx, hb, hml, -, hts, hown, hK, -, hstr⟩ := id E
  unfold f_X3_best_59 at hf
  refine lv_istore_n (lv' := [(2, .int t0), (0, .ref (g.2.2 + v0)), (1, .ref (g.2.2 + v1))]) hx hb dX3_best_59 rfl hl (by decide) rfl (fun ls hl => ?_)
  refine lv_lconst (v := (0 : Int64)) hx hb dX3_best_60 (by decide) ?_
  refine lv_lstore_n (lv' := [(3, .long (0 : Int64)), (2, .int t0), (0, .ref (g.2.2 + v0)), (1, .ref (g.2.2 + v1))]) hx hb dX3_best_61 rfl hl (by decide) rfl (fun ls hl => ?_)
  refine lv_iconst (v := (0 : Int32)) hx hb dX3_best_62 (by decide) ?_
  refine lv_istore (lv' := [(5, .int (0 : Int32)), (3, .long (0 : Int64)), (2, .int t0), (0, .ref (g.2.2 + v0)), (1, .ref (g.2.2 + v1))]) hx hb dX3_best_63 hl (by decide) rfl (fun ls hl => ?_)
  exact B_X3_best_65 E  1100000 v0 v1 t0 (0 : Int64) (0 : Int32) S _ _ _ hf hM (lv_sub hl [3, 4, 2, 1, 0] rfl)
set_option maxRecDepth 100000 in
set_option maxHeartbeats 4000000 in
theorem B_X3_best_0 {p : Program} {l : Launch} {e : Env} {s : State} {m : MethodId} {args : Array Value} {below : List Frame} {meth : Method} {c : Code} {g : jG} {rr : Int32} {SS : jM} {v0 : Nat} {v1 : Nat} {S : jM} (E : jEnv p s m args meth c cX3_best "PensionHouse$Ops" (some .int) 8 g)  {H : Heap} {locs : List Loc} {ls : Array Slot} (hf : f_X3_best v0 v1 S = some (rr, SS)) (hM : jAt g S s H locs) (hl : lv_has ls 8 [(0, .ref (g.2.2 + v0)), (1, .ref (g.2.2 + v1))]) : W p l e (jRm 3 0 0) s m args below meth c H locs 0 0 (MQ below (jQi g rr SS) args s 0 0 (jA0 g)) (F0 m 0 ls []) := by
  obtain ⟨hx, hb, hml, -, hts, hown, hK, -, hstr⟩ := id E
  unfold f_X3_best at hf
  refine lv_aload_n hx hb dX3_best_0 rfl (lv_at hl 0 rfl) ?_
  obtain ⟨hq24, hf⟩ := jif hf
  obtain ⟨x22, hc23, hf⟩ := jb hf
  refine jbackI hM (jrunV E hM ci_X9_isRowOfNumbers (C_X9_isRowOfNumbers hc23) lk_5_82 hq24 (by decide) rfl hl.1 rfl rfl (Nat.le_of_ble_eq_true rfl) ⟨Nat.le_of_ble_eq_true rfl, Nat.le_of_ble_eq_true rfl⟩ ⟨Nat.le_refl _, Nat.le_refl _⟩ dX3_best_1) (fun H locs hM => ?_)
  refine lv_if_eq (tgt := 14) hx hb dX3_best_4 (by decide) (fun c25 => ?_) (fun c25 => ?_)
  · have hf := jt c25 hf
    refine lv_iconst (v := (2 : Int32)) hx hb dX3_best_14 (by decide) ?_
    exact jireti (jr2 hf) E hM dX3_best_15
  · have hf := jf c25 hf
    refine lv_aload_n hx hb dX3_best_7 rfl (lv_at hl 1 rfl) ?_
    obtain ⟨hq26, hf⟩ := jif hf
    refine gt_52 E hM hq26 lk_1_50 dX3_best_8 ?_
    refine lv_if_eq (tgt := 16) hx hb dX3_best_11 (by decide) (fun c27 => ?_) (fun c27 => ?_)
    · have hf := jt c27 hf
      refine lv_aload_n hx hb dX3_best_16 rfl (lv_at hl 1 rfl) ?_
      refine gt_54 E hM hq26 lk_1_58 dX3_best_17 ?_
      obtain ⟨r28, hr29, hf⟩ := jb hf
      rw [hr29]
      show W p l e _ s m args below meth c H locs 0 0 _ (F0 m _ ls (.ref (g.2.2 + r28) :: _))
      refine lv_iconst (v := (0 : Int32)) hx hb dX3_best_20 (by decide) ?_
      obtain ⟨ha30, hf⟩ := jif hf
      refine jlald E hM ha30 dX3_best_21 ?_
      refine lv_lconst (v := (0 : Int64)) hx hb dX3_best_22 (by decide) ?_
      refine jl_ge (tgt := 29) hx hb dX3_best_23 dX3_best_24 (by decide) (fun c31 => ?_) (fun c31 => ?_)
      · have hf := jt c31 hf
        refine lv_aload_n hx hb dX3_best_29 rfl (lv_at hl 1 rfl) ?_
        refine gt_54 E hM hq26 lk_1_58 dX3_best_30 ?_
        obtain ⟨r32, hr33, hf⟩ := jb hf
        rw [hr33]
        show W p l e _ s m args below meth c H locs 0 0 _ (F0 m _ ls (.ref (g.2.2 + r32) :: _))
        refine lv_iconst (v := (0 : Int32)) hx hb dX3_best_33 (by decide) ?_
        obtain ⟨ha34, hf⟩ := jif hf
        refine jlald E hM ha34 dX3_best_34 ?_
        refine lv_aload_n hx hb dX3_best_35 rfl (lv_at hl 0 rfl) ?_
        refine gt_53 E hM hq24 lk_1_56 dX3_best_36 ?_
        refine lv_i2l hx hb dX3_best_39 rfl ?_
        refine jl_le (tgt := 46) hx hb dX3_best_40 dX3_best_41 (by decide) (fun c35 => ?_) (fun c35 => ?_)
        · have hf := jt c35 hf
          refine lv_aload_n hx hb dX3_best_46 rfl (lv_at hl 0 rfl) ?_
          refine gt_52 E hM hq24 lk_1_50 dX3_best_47 ?_
          refine lv_iconst (v := (4 : Int32)) hx hb dX3_best_50 (by decide) ?_
          refine lv_icmp_ne (tgt := 58) hx hb dX3_best_51 (by decide) (fun c36 => ?_) (fun c36 => ?_)
          · have hf := jf c36 hf
            refine lv_iconst (v := (0 : Int32)) hx hb dX3_best_58 (by decide) ?_
            exact B_X3_best_59 E  hf hM (lv_sub hl [0, 1] rfl)
          · have hf := jt c36 hf
            refine lv_iconst (v := (1 : Int32)) hx hb dX3_best_54 (by decide) ?_
            refine lv_goto (tgt := 59) hx hb dX3_best_55 (by decide) ?_
            exact B_X3_best_59 E  hf hM (lv_sub hl [0, 1] rfl)
        · have hf := jf c35 hf
          refine lv_iconst (v := (3 : Int32)) hx hb dX3_best_44 (by decide) ?_
          exact jireti (jr2 hf) E hM dX3_best_45
      · have hf := jf c31 hf
        refine lv_iconst (v := (4 : Int32)) hx hb dX3_best_27 (by decide) ?_
        exact jireti (jr2 hf) E hM dX3_best_28
    · have hf := jf c27 hf
      refine lv_iconst (v := (2 : Int32)) hx hb dX3_best_14 (by decide) ?_
      exact jireti (jr2 hf) E hM dX3_best_15
set_option maxRecDepth 100000 in
theorem C_X3_best {l : Launch} {g : jG} {a0 : Nat} {a1 : Nat} {S : jM} {rr : Int32} {SS : jM} (hf : f_X3_best a0 a1 S = some (rr, SS)) : jMet l g yX3_best cX3_best 8 (some .int) 3 0 0 [.ref (g.2.2 + a0), .ref (g.2.2 + a1)] S (jQi g rr SS) := by
  refine jof (by decide +kernel) (Nat.le_of_ble_eq_true rfl) ?_
  intro p e s m below meth c E hM ls hl
  have hl : lv_has ls 8 [(0, .ref (g.2.2 + a0)),(1, .ref (g.2.2 + a1))] := hl
  exact B_X3_best_0 E hf hM hl
-- PensionHouse$Ops.join(LPensionHouse$Register;LPensionHouse$Value;LPensionHouse$Value;)I  mode M
noncomputable def f_X3_join_95 (k61 : Nat → Nat → Nat → Int32 → jM → Option (Int32 × jM)) (v0 : Nat) (v1 : Nat) (v2 : Nat) (v3 : Int32) (S : jM) : Option (Int32 × jM) := jlet (v3 + (1 : Int32)) (fun x1 => k61 v0 v1 v2 x1 S)
noncomputable def f_X3_join_61 : Nat → Nat → Nat → Nat → Int32 → jM → Option (Int32 × jM)
  | 0, _, _, _, _, _ => none
  | n + 1, v0, v1, v2, v3, S => if jK v2 = 7 then if (jI S 53 v2) ≤ v3 then (jR S 54 v2).bind (fun r4 => if jK v1 = 7 then (jR S 54 v1).bind (fun r7 => if jK r4 = 14 then if jK r7 = 14 then if jcp (0 : Int32) (jI S 53 v1) (jI S 53 v2) (jLen r4) (jLen r7) = true then jlet (jrL S r7 (va_cpy (jAL S r4) (jAL S r7) ((0 : Int32)).toNatClampNeg (jI S 53 v1).toNatClampNeg (jI S 53 v2).toNatClampNeg)) (fun S12 => jlet (jsI S12 53 v1 ((jI S12 53 v1) + (jI S12 53 v2))) (fun S13 => some ((0 : Int32), S13))) else none else none else none) else none) else if jK v1 = 7 then (f_X9_isKin v1 S).bind (fun x14 => if x14 = 0 then f_X3_join_95 (f_X3_join_61 n) v0 v1 v2 v3 S else (jR S 54 v2).bind (fun r18 => if jA r18 14 v3 = true then if jK v0 = 4 then (f_X6_belongs v0 (jI S 52 v1) (jAL S r18 (v3).toNatClampNeg) S).bind (fun x21 => if x21 = 0 then some ((5 : Int32), S) else f_X3_join_95 (f_X3_join_61 n) v0 v1 v2 v3 S) else none else none)) else none else none
noncomputable def f_X3_join_59 (v0 : Nat) (v1 : Nat) (v2 : Nat) (S : jM) : Option (Int32 × jM) := f_X3_join_61 1100000 v0 v1 v2 (0 : Int32) S
noncomputable def f_X3_join (v0 : Nat) (v1 : Nat) (v2 : Nat) (S : jM) : Option (Int32 × jM) := if jK v1 = 7 then (f_X9_isRow v1 S).bind (fun x25 => if x25 = 0 then some ((2 : Int32), S) else if jK v2 = 7 then (f_X9_isRow v2 S).bind (fun x29 => if x29 = 0 then some ((2 : Int32), S) else if ((jI S 53 v1) + (jI S 53 v2)) ≤ (12 : Int32) then if (jI S 52 v1) = (jI S 52 v2) then f_X3_join_59 v0 v1 v2 S else (f_X9_isKin v1 S).bind (fun x35 => if x35 = 0 then some ((5 : Int32), S) else (f_X9_isKin v2 S).bind (fun x38 => if x38 = 0 then some ((5 : Int32), S) else f_X3_join_59 v0 v1 v2 S)) else some ((4 : Int32), S)) else none) else none
set_option maxRecDepth 100000 in
set_option maxHeartbeats 4000000 in
theorem B_X3_join_95 {p : Program} {l : Launch} {e : Env} {s : State} {m : MethodId} {args : Array Value} {below : List Frame} {meth : Method} {c : Code} {g : jG} {rr : Int32} {SS : jM} {v0 : Nat} {v1 : Nat} {v2 : Nat} {v3 : Int32} {S : jM} {k61 : Nat → Nat → Nat → Int32 → jM → Option (Int32 × jM)} (E : jEnv p s m args meth c cX3_join "PensionHouse$Ops" (some .int) 4 g) (hk61 : ∀ (v0 : Nat) (v1 : Nat) (v2 : Nat) (v3 : Int32) (S : jM) (H : Heap) (locs : List Loc) (ls : Array Slot), k61 v0 v1 v2 v3 S = some (rr, SS) → jAt g S s H locs → lv_has ls 4 [(0, .ref (g.2.2 + v0)), (1, .ref (g.2.2 + v1)), (2, .ref (g.2.2 + v2)), (3, .int v3)] → W p l e (jRm 3 0 0) s m args below meth c H locs 0 0 (MQ below (jQi g rr SS) args s 0 0 (jA0 g)) (F0 m 61 ls [])) {H : Heap} {locs : List Loc} {ls : Array Slot} (hf : f_X3_join_95 k61 v0 v1 v2 v3 S = some (rr, SS)) (hM : jAt g S s H locs) (hl : lv_has ls 4 [(0, .ref (g.2.2 + v0)), (1, .ref (g.2.2 + v1)), (2, .ref (g.2.2 + v2)), (3, .int v3)]) : W p l e (jRm 3 0 0) s m args below meth c H locs 0 0 (MQ below (jQi g rr SS) args s 0 0 (jA0 g)) (F0 m 95 ls []) := by
  obtain ⟨hx, hb, hml, -, hts, hown, hK, -, hstr⟩ := id E
  unfold f_X3_join_95 at hf
  obtain ⟨x1, ex1⟩ : ∃ z, z = v3 + (1 : Int32) := ⟨_, rfl⟩
  have hf := jlet_y ex1 hf
  refine lv_iinc (v := x1) (lv' := [(3, .int x1), (0, .ref (g.2.2 + v0)), (1, .ref (g.2.2 + v1)), (2, .ref (g.2.2 + v2))]) hx hb dX3_join_95 hl (k := 3) rfl (by rw [ex1]; rfl) (by decide) rfl (fun ls hl => ?_)
  refine lv_goto (tgt := 61) hx hb dX3_join_98 (by decide) ?_
  exact hk61 v0 v1 v2 x1 S _ _ _ hf hM (lv_sub hl [1, 2, 3, 0] rfl)
set_option maxRecDepth 100000 in
set_option maxHeartbeats 4000000 in
theorem B_X3_join_61 {p : Program} {l : Launch} {e : Env} {s : State} {m : MethodId} {args : Array Value} {below : List Frame} {meth : Method} {c : Code} {g : jG} {rr : Int32} {SS : jM} (E : jEnv p s m args meth c cX3_join "PensionHouse$Ops" (some .int) 4 g)  : ∀ (n : Nat) (v0 : Nat) (v1 : Nat) (v2 : Nat) (v3 : Int32) (S : jM) (H : Heap) (locs : List Loc) (ls : Array Slot), f_X3_join_61 n v0 v1 v2 v3 S = some (rr, SS) → jAt g S s H locs → lv_has ls 4 [(0, .ref (g.2.2 + v0)), (1, .ref (g.2.2 + v1)), (2, .ref (g.2.2 + v2)), (3, .int v3)] → W p l e (jRm 3 0 0) s m args below meth c H locs 0 0 (MQ below (jQi g rr SS) args s 0 0 (jA0 g)) (F0 m 61 ls []) := by
  obtain ⟨hx, hb, hml, -, hts, hown, hK, -, hstr⟩ := id E
  intro n
  induction n with
  | zero => intro v0 v1 v2 v3 S H locs ls hf hM hl; rw [f_X3_join_61] at hf; cases hf
  | succ n ih =>
    intro v0 v1 v2 v3 S H locs ls hf hM hl
    rw [f_X3_join_61] at hf
    refine lv_iload_n hx hb dX3_join_61 rfl (lv_at hl 3 rfl) ?_
    refine lv_aload_n hx hb dX3_join_62 rfl (lv_at hl 2 rfl) ?_
    obtain ⟨hq2, hf⟩ := jif hf
    refine gt_53 E hM hq2 lk_1_56 dX3_join_63 ?_
    refine lv_icmp_ge (tgt := 101) hx hb dX3_join_66 (by decide) (fun c3 => ?_) (fun c3 => ?_)
    · have hf := jt c3 hf
      refine lv_aload_n hx hb dX3_join_101 rfl (lv_at hl 2 rfl) ?_
      refine gt_54 E hM hq2 lk_1_58 dX3_join_102 ?_
      obtain ⟨r4, hr5, hf⟩ := jb hf
      rw [hr5]
      show W p l e _ s m args below meth c H locs 0 0 _ (F0 m _ ls (.ref (g.2.2 + r4) :: _))
      refine lv_iconst (v := (0 : Int32)) hx hb dX3_join_105 (by decide) ?_
      refine lv_aload_n hx hb dX3_join_106 rfl (lv_at hl 1 rfl) ?_
      obtain ⟨hq6, hf⟩ := jif hf
      refine gt_54 E hM hq6 lk_1_58 dX3_join_107 ?_
      obtain ⟨r7, hr8, hf⟩ := jb hf
      rw [hr8]
      show W p l e _ s m args below meth c H locs 0 0 _ (F0 m _ ls (.ref (g.2.2 + r7) :: _))
      refine lv_aload_n hx hb dX3_join_110 rfl (lv_at hl 1 rfl) ?_
      refine gt_53 E hM hq6 lk_1_56 dX3_join_111 ?_
      refine lv_aload_n hx hb dX3_join_114 rfl (lv_at hl 2 rfl) ?_
      refine gt_53 E hM hq2 lk_1_56 dX3_join_115 ?_
      obtain ⟨hq9, hf⟩ := jif hf
      obtain ⟨hq10, hf⟩ := jif hf
      obtain ⟨hc11, hf⟩ := jif hf
      refine jcopy E hM hl.1 hq9 hq10 hc11 lk_5_93 (Nat.le_of_ble_eq_true rfl) (Nat.le_of_ble_eq_true rfl) dX3_join_118 (fun H locs S12 eS12 hM => ?_)
      have hf := jlet_y eS12 hf
      refine lv_aload_n hx hb dX3_join_121 rfl (lv_at hl 1 rfl) ?_
      refine lv_dup hx hb dX3_join_122 rfl ?_
      refine gt_53 E hM hq6 lk_1_56 dX3_join_123 ?_
      refine lv_aload_n hx hb dX3_join_126 rfl (lv_at hl 2 rfl) ?_
      refine gt_53 E hM hq2 lk_1_56 dX3_join_127 ?_
      refine lv_iadd hx hb dX3_join_130 ?_
      refine pt_53 E hM hq6 lk_1_56 dX3_join_131 (fun H locs S13 eS13 hM => ?_)
      have hf := jlet_y eS13 hf
      refine lv_iconst (v := (0 : Int32)) hx hb dX3_join_134 (by decide) ?_
      exact jireti (jr2 hf) E hM dX3_join_135
    · have hf := jf c3 hf
      refine lv_aload_n hx hb dX3_join_69 rfl (lv_at hl 1 rfl) ?_
      obtain ⟨hq16, hf⟩ := jif hf
      obtain ⟨x14, hc15, hf⟩ := jb hf
      refine jbackI hM (jrunV E hM ci_X9_isKin (C_X9_isKin hc15) lk_5_36 hq16 (by decide) rfl hl.1 rfl rfl (Nat.le_of_ble_eq_true rfl) ⟨Nat.le_of_ble_eq_true rfl, Nat.le_of_ble_eq_true rfl⟩ ⟨Nat.le_refl _, Nat.le_refl _⟩ dX3_join_70) (fun H locs hM => ?_)
      refine lv_if_eq (tgt := 95) hx hb dX3_join_73 (by decide) (fun c17 => ?_) (fun c17 => ?_)
      · have hf := jt c17 hf
        exact B_X3_join_95 E ih hf hM (lv_sub hl [0, 1, 2, 3] rfl)
      · have hf := jf c17 hf
        refine lv_aload_n hx hb dX3_join_76 rfl (lv_at hl 0 rfl) ?_
        refine lv_aload_n hx hb dX3_join_77 rfl (lv_at hl 1 rfl) ?_
        refine gt_52 E hM hq16 lk_1_50 dX3_join_78 ?_
        refine lv_aload_n hx hb dX3_join_81 rfl (lv_at hl 2 rfl) ?_
        refine gt_54 E hM hq2 lk_1_58 dX3_join_82 ?_
        obtain ⟨r18, hr19, hf⟩ := jb hf
        rw [hr19]
        show W p l e _ s m args below meth c H locs 0 0 _ (F0 m _ ls (.ref (g.2.2 + r18) :: _))
        refine lv_iload_n hx hb dX3_join_85 rfl (lv_at hl 3 rfl) ?_
        obtain ⟨ha20, hf⟩ := jif hf
        refine jlald E hM ha20 dX3_join_86 ?_
        obtain ⟨hq23, hf⟩ := jif hf
        obtain ⟨x21, hc22, hf⟩ := jb hf
        refine jbackI hM (jrunV E hM ci_X6_belongs (C_X6_belongs hc22) lk_5_92 hq23 (by decide) rfl hl.1 rfl rfl (Nat.le_of_ble_eq_true rfl) ⟨Nat.le_of_ble_eq_true rfl, Nat.le_of_ble_eq_true rfl⟩ ⟨Nat.le_refl _, Nat.le_refl _⟩ dX3_join_87) (fun H locs hM => ?_)
        refine lv_if_ne (tgt := 95) hx hb dX3_join_90 (by decide) (fun c24 => ?_) (fun c24 => ?_)
        · have hf := jf c24 hf
          exact B_X3_join_95 E ih hf hM (lv_sub hl [0, 1, 2, 3] rfl)
        · have hf := jt c24 hf
          refine lv_iconst (v := (5 : Int32)) hx hb dX3_join_93 (by decide) ?_
          exact jireti (jr2 hf) E hM dX3_join_94
set_option maxRecDepth 100000 in
set_option maxHeartbeats 4000000 in
theorem B_X3_join_59 {p : Program} {l : Launch} {e : Env} {s : State} {m : MethodId} {args : Array Value} {below : List Frame} {meth : Method} {c : Code} {g : jG} {rr : Int32} {SS : jM} {v0 : Nat} {v1 : Nat} {v2 : Nat} {S : jM} (E : jEnv p s m args meth c cX3_join "PensionHouse$Ops" (some .int) 4 g)  {H : Heap} {locs : List Loc} {ls : Array Slot} (hf : f_X3_join_59 v0 v1 v2 S = some (rr, SS)) (hM : jAt g S s H locs) (hl : lv_has ls 4 [(0, .ref (g.2.2 + v0)), (1, .ref (g.2.2 + v1)), (2, .ref (g.2.2 + v2))]) : W p l e (jRm 3 0 0) s m args below meth c H locs 0 0 (MQ below (jQi g rr SS) args s 0 0 (jA0 g)) (F0 m 59 ls []) := by
  obtain ⟨hx, hb, hml, -, hts, hown, hK, -, hstr⟩ := id E
  unfold f_X3_join_59 at hf
  refine lv_iconst (v := (0 : Int32)) hx hb dX3_join_59 (by decide) ?_
  refine lv_istore_n (lv' := [(3, .int (0 : Int32)), (0, .ref (g.2.2 + v0)), (1, .ref (g.2.2 + v1)), (2, .ref (g.2.2 + v2))]) hx hb dX3_join_60 rfl hl (by decide) rfl (fun ls hl => ?_)
  exact B_X3_join_61 E  1100000 v0 v1 v2 (0 : Int32) S _ _ _ hf hM (lv_sub hl [1, 2, 3, 0] rfl)
set_option maxRecDepth 100000 in
set_option maxHeartbeats 4000000 in
theorem B_X3_join_0 {p : Program} {l : Launch} {e : Env} {s : State} {m : MethodId} {args : Array Value} {below : List Frame} {meth : Method} {c : Code} {g : jG} {rr : Int32} {SS : jM} {v0 : Nat} {v1 : Nat} {v2 : Nat} {S : jM} (E : jEnv p s m args meth c cX3_join "PensionHouse$Ops" (some .int) 4 g)  {H : Heap} {locs : List Loc} {ls : Array Slot} (hf : f_X3_join v0 v1 v2 S = some (rr, SS)) (hM : jAt g S s H locs) (hl : lv_has ls 4 [(0, .ref (g.2.2 + v0)), (1, .ref (g.2.2 + v1)), (2, .ref (g.2.2 + v2))]) : W p l e (jRm 3 0 0) s m args below meth c H locs 0 0 (MQ below (jQi g rr SS) args s 0 0 (jA0 g)) (F0 m 0 ls []) := by
  obtain ⟨hx, hb, hml, -, hts, hown, hK, -, hstr⟩ := id E
  unfold f_X3_join at hf
  refine lv_aload_n hx hb dX3_join_0 rfl (lv_at hl 1 rfl) ?_
  obtain ⟨hq27, hf⟩ := jif hf
  obtain ⟨x25, hc26, hf⟩ := jb hf
  refine jbackI hM (jrunV E hM ci_X9_isRow (C_X9_isRow hc26) lk_5_34 hq27 (by decide) rfl hl.1 rfl rfl (Nat.le_of_ble_eq_true rfl) ⟨Nat.le_of_ble_eq_true rfl, Nat.le_of_ble_eq_true rfl⟩ ⟨Nat.le_refl _, Nat.le_refl _⟩ dX3_join_1) (fun H locs hM => ?_)
  refine lv_if_eq (tgt := 14) hx hb dX3_join_4 (by decide) (fun c28 => ?_) (fun c28 => ?_)
  · have hf := jt c28 hf
    refine lv_iconst (v := (2 : Int32)) hx hb dX3_join_14 (by decide) ?_
    exact jireti (jr2 hf) E hM dX3_join_15
  · have hf := jf c28 hf
    refine lv_aload_n hx hb dX3_join_7 rfl (lv_at hl 2 rfl) ?_
    obtain ⟨hq31, hf⟩ := jif hf
    obtain ⟨x29, hc30, hf⟩ := jb hf
    refine jbackI hM (jrunV E hM ci_X9_isRow (C_X9_isRow hc30) lk_5_34 hq31 (by decide) rfl hl.1 rfl rfl (Nat.le_of_ble_eq_true rfl) ⟨Nat.le_of_ble_eq_true rfl, Nat.le_of_ble_eq_true rfl⟩ ⟨Nat.le_refl _, Nat.le_refl _⟩ dX3_join_8) (fun H locs hM => ?_)
    refine lv_if_ne (tgt := 16) hx hb dX3_join_11 (by decide) (fun c32 => ?_) (fun c32 => ?_)
    · have hf := jf c32 hf
      refine lv_aload_n hx hb dX3_join_16 rfl (lv_at hl 1 rfl) ?_
      refine gt_53 E hM hq27 lk_1_56 dX3_join_17 ?_
      refine lv_aload_n hx hb dX3_join_20 rfl (lv_at hl 2 rfl) ?_
      refine gt_53 E hM hq31 lk_1_56 dX3_join_21 ?_
      refine lv_iadd hx hb dX3_join_24 ?_
      refine lv_bipush (v := (12 : Int32)) hx hb dX3_join_25 (by decide) ?_
      refine lv_icmp_le (tgt := 32) hx hb dX3_join_27 (by decide) (fun c33 => ?_) (fun c33 => ?_)
      · have hf := jt c33 hf
        refine lv_aload_n hx hb dX3_join_32 rfl (lv_at hl 1 rfl) ?_
        refine gt_52 E hM hq27 lk_1_50 dX3_join_33 ?_
        refine lv_aload_n hx hb dX3_join_36 rfl (lv_at hl 2 rfl) ?_
        refine gt_52 E hM hq31 lk_1_50 dX3_join_37 ?_
        refine lv_icmp_eq (tgt := 59) hx hb dX3_join_40 (by decide) (fun c34 => ?_) (fun c34 => ?_)
        · have hf := jt c34 hf
          exact B_X3_join_59 E  hf hM (lv_sub hl [0, 1, 2] rfl)
        · have hf := jf c34 hf
          refine lv_aload_n hx hb dX3_join_43 rfl (lv_at hl 1 rfl) ?_
          obtain ⟨x35, hc36, hf⟩ := jb hf
          refine jbackI hM (jrunV E hM ci_X9_isKin (C_X9_isKin hc36) lk_5_36 hq27 (by decide) rfl hl.1 rfl rfl (Nat.le_of_ble_eq_true rfl) ⟨Nat.le_of_ble_eq_true rfl, Nat.le_of_ble_eq_true rfl⟩ ⟨Nat.le_refl _, Nat.le_refl _⟩ dX3_join_44) (fun H locs hM => ?_)
          refine lv_if_eq (tgt := 57) hx hb dX3_join_47 (by decide) (fun c37 => ?_) (fun c37 => ?_)
          · have hf := jt c37 hf
            refine lv_iconst (v := (5 : Int32)) hx hb dX3_join_57 (by decide) ?_
            exact jireti (jr2 hf) E hM dX3_join_58
          · have hf := jf c37 hf
            refine lv_aload_n hx hb dX3_join_50 rfl (lv_at hl 2 rfl) ?_
            obtain ⟨x38, hc39, hf⟩ := jb hf
            refine jbackI hM (jrunV E hM ci_X9_isKin (C_X9_isKin hc39) lk_5_36 hq31 (by decide) rfl hl.1 rfl rfl (Nat.le_of_ble_eq_true rfl) ⟨Nat.le_of_ble_eq_true rfl, Nat.le_of_ble_eq_true rfl⟩ ⟨Nat.le_refl _, Nat.le_refl _⟩ dX3_join_51) (fun H locs hM => ?_)
            refine lv_if_ne (tgt := 59) hx hb dX3_join_54 (by decide) (fun c40 => ?_) (fun c40 => ?_)
            · have hf := jf c40 hf
              exact B_X3_join_59 E  hf hM (lv_sub hl [0, 1, 2] rfl)
            · have hf := jt c40 hf
              refine lv_iconst (v := (5 : Int32)) hx hb dX3_join_57 (by decide) ?_
              exact jireti (jr2 hf) E hM dX3_join_58
      · have hf := jf c33 hf
        refine lv_iconst (v := (4 : Int32)) hx hb dX3_join_30 (by decide) ?_
        exact jireti (jr2 hf) E hM dX3_join_31
    · have hf := jt c32 hf
      refine lv_iconst (v := (2 : Int32)) hx hb dX3_join_14 (by decide) ?_
      exact jireti (jr2 hf) E hM dX3_join_15
set_option maxRecDepth 100000 in
theorem C_X3_join {l : Launch} {g : jG} {a0 : Nat} {a1 : Nat} {a2 : Nat} {S : jM} {rr : Int32} {SS : jM} (hf : f_X3_join a0 a1 a2 S = some (rr, SS)) : jMet l g yX3_join cX3_join 4 (some .int) 3 0 0 [.ref (g.2.2 + a0), .ref (g.2.2 + a1), .ref (g.2.2 + a2)] S (jQi g rr SS) := by
  refine jof (by decide +kernel) (Nat.le_of_ble_eq_true rfl) ?_
  intro p e s m below meth c E hM ls hl
  have hl : lv_has ls 4 [(0, .ref (g.2.2 + a0)),(1, .ref (g.2.2 + a1)),(2, .ref (g.2.2 + a2))] := hl
  exact B_X3_join_0 E hf hM hl
-- PensionHouse$Ops.last(LPensionHouse$Value;LPensionHouse$Value;)I  mode M
noncomputable def f_X3_last_56 : Nat → Nat → Int32 → Int32 → jM → Option (Int32 × jM)
  | 0, _, _, _, _ => none
  | n + 1, v0, v2, v3, S => if v2 ≤ v3 then if jK v0 = 7 then jlet (jsI S 53 v0 v2) (fun S3 => some ((0 : Int32), S3)) else none else if jK v0 = 7 then (jR S 54 v0).bind (fun r5 => (jR S 54 v0).bind (fun r7 => if jA r7 14 (((jI S 53 v0) - v2) + v3) = true then if jA r5 14 v3 = true then jlet (jrL S r5 (vp_updL (jAL S r5) (v3).toNatClampNeg (jAL S r7 (((jI S 53 v0) - v2) + v3).toNatClampNeg))) (fun S11 => jlet (v3 + (1 : Int32)) (fun x12 => (f_X3_last_56 n) v0 v2 x12 S11)) else none else none)) else none
noncomputable def f_X3_last (v0 : Nat) (v1 : Nat) (S : jM) : Option (Int32 × jM) := if jK v0 = 7 then (f_X9_isRow v0 S).bind (fun x13 => if x13 = 0 then some ((2 : Int32), S) else if jK v1 = 7 then if (jI S 52 v1) = 0 then (jR S 54 v1).bind (fun r19 => if jA r19 14 (0 : Int32) = true then if (0 : Int64) ≤ (jAL S r19 ((0 : Int32)).toNatClampNeg) then (jR S 54 v1).bind (fun r23 => if jA r23 14 (0 : Int32) = true then if (jAL S r23 ((0 : Int32)).toNatClampNeg) ≤ ((jI S 53 v0).toInt64) then (jR S 54 v1).bind (fun r27 => if jA r27 14 (0 : Int32) = true then jlet ((jAL S r27 ((0 : Int32)).toNatClampNeg).toInt32) (fun x30 => f_X3_last_56 1100000 v0 x30 (0 : Int32) S) else none) else some ((3 : Int32), S) else none) else some ((4 : Int32), S) else none) else some ((2 : Int32), S) else none) else none
set_option maxRecDepth 100000 in
set_option maxHeartbeats 4000000 in
theorem B_X3_last_56 {p : Program} {l : Launch} {e : Env} {s : State} {m : MethodId} {args : Array Value} {below : List Frame} {meth : Method} {c : Code} {g : jG} {rr : Int32} {SS : jM} (E : jEnv p s m args meth c cX3_last "PensionHouse$Ops" (some .int) 4 g)  : ∀ (n : Nat) (v0 : Nat) (v2 : Int32) (v3 : Int32) (S : jM) (H : Heap) (locs : List Loc) (ls : Array Slot), f_X3_last_56 n v0 v2 v3 S = some (rr, SS) → jAt g S s H locs → lv_has ls 4 [(0, .ref (g.2.2 + v0)), (2, .int v2), (3, .int v3)] → W p l e (jRm 2 0 0) s m args below meth c H locs 0 0 (MQ below (jQi g rr SS) args s 0 0 (jA0 g)) (F0 m 56 ls []) := by
  obtain ⟨hx, hb, hml, -, hts, hown, hK, -, hstr⟩ := id E
  intro n
  induction n with
  | zero => intro v0 v2 v3 S H locs ls hf hM hl; rw [f_X3_last_56] at hf; cases hf
  | succ n ih =>
    intro v0 v2 v3 S H locs ls hf hM hl
    rw [f_X3_last_56] at hf
    refine lv_iload_n hx hb dX3_last_56 rfl (lv_at hl 2 rfl) ?_
    refine lv_iload_n hx hb dX3_last_57 rfl (lv_at hl 1 rfl) ?_
    refine lv_icmp_ge (tgt := 86) hx hb dX3_last_58 (by decide) (fun c1 => ?_) (fun c1 => ?_)
    · have hf := jt c1 hf
      refine lv_aload_n hx hb dX3_last_86 rfl (lv_at hl 0 rfl) ?_
      refine lv_iload_n hx hb dX3_last_87 rfl (lv_at hl 1 rfl) ?_
      obtain ⟨hq2, hf⟩ := jif hf
      refine pt_53 E hM hq2 lk_1_56 dX3_last_88 (fun H locs S3 eS3 hM => ?_)
      have hf := jlet_y eS3 hf
      refine lv_iconst (v := (0 : Int32)) hx hb dX3_last_91 (by decide) ?_
      exact jireti (jr2 hf) E hM dX3_last_92
    · have hf := jf c1 hf
      refine lv_aload_n hx hb dX3_last_61 rfl (lv_at hl 0 rfl) ?_
      obtain ⟨hq4, hf⟩ := jif hf
      refine gt_54 E hM hq4 lk_1_58 dX3_last_62 ?_
      obtain ⟨r5, hr6, hf⟩ := jb hf
      rw [hr6]
      show W p l e _ s m args below meth c H locs 0 0 _ (F0 m _ ls (.ref (g.2.2 + r5) :: _))
      refine lv_iload_n hx hb dX3_last_65 rfl (lv_at hl 2 rfl) ?_
      refine lv_aload_n hx hb dX3_last_66 rfl (lv_at hl 0 rfl) ?_
      refine gt_54 E hM hq4 lk_1_58 dX3_last_67 ?_
      obtain ⟨r7, hr8, hf⟩ := jb hf
      rw [hr8]
      show W p l e _ s m args below meth c H locs 0 0 _ (F0 m _ ls (.ref (g.2.2 + r7) :: _))
      refine lv_aload_n hx hb dX3_last_70 rfl (lv_at hl 0 rfl) ?_
      refine gt_53 E hM hq4 lk_1_56 dX3_last_71 ?_
      refine lv_iload_n hx hb dX3_last_74 rfl (lv_at hl 1 rfl) ?_
      refine lv_isub hx hb dX3_last_75 ?_
      refine lv_iload_n hx hb dX3_last_76 rfl (lv_at hl 2 rfl) ?_
      refine lv_iadd hx hb dX3_last_77 ?_
      obtain ⟨ha9, hf⟩ := jif hf
      refine jlald E hM ha9 dX3_last_78 ?_
      obtain ⟨ha10, hf⟩ := jif hf
      refine jlast E hM ha10 dX3_last_79 (fun H locs S11 eS11 hM => ?_)
      have hf := jlet_y eS11 hf
      obtain ⟨x12, ex12⟩ : ∃ z, z = v3 + (1 : Int32) := ⟨_, rfl⟩
      have hf := jlet_y ex12 hf
      refine lv_iinc (v := x12) (lv' := [(3, .int x12), (0, .ref (g.2.2 + v0)), (2, .int v2)]) hx hb dX3_last_80 hl (k := 2) rfl (by rw [ex12]; rfl) (by decide) rfl (fun ls hl => ?_)
      refine lv_goto (tgt := 56) hx hb dX3_last_83 (by decide) ?_
      exact ih v0 v2 x12 S11 _ _ _ hf hM (lv_sub hl [1, 2, 0] rfl)
set_option maxRecDepth 100000 in
set_option maxHeartbeats 4000000 in
theorem B_X3_last_0 {p : Program} {l : Launch} {e : Env} {s : State} {m : MethodId} {args : Array Value} {below : List Frame} {meth : Method} {c : Code} {g : jG} {rr : Int32} {SS : jM} {v0 : Nat} {v1 : Nat} {S : jM} (E : jEnv p s m args meth c cX3_last "PensionHouse$Ops" (some .int) 4 g)  {H : Heap} {locs : List Loc} {ls : Array Slot} (hf : f_X3_last v0 v1 S = some (rr, SS)) (hM : jAt g S s H locs) (hl : lv_has ls 4 [(0, .ref (g.2.2 + v0)), (1, .ref (g.2.2 + v1))]) : W p l e (jRm 2 0 0) s m args below meth c H locs 0 0 (MQ below (jQi g rr SS) args s 0 0 (jA0 g)) (F0 m 0 ls []) := by
  obtain ⟨hx, hb, hml, -, hts, hown, hK, -, hstr⟩ := id E
  unfold f_X3_last at hf
  refine lv_aload_n hx hb dX3_last_0 rfl (lv_at hl 0 rfl) ?_
  obtain ⟨hq15, hf⟩ := jif hf
  obtain ⟨x13, hc14, hf⟩ := jb hf
  refine jbackI hM (jrunV E hM ci_X9_isRow (C_X9_isRow hc14) lk_5_34 hq15 (by decide) rfl hl.1 rfl rfl (Nat.le_of_ble_eq_true rfl) ⟨Nat.le_of_ble_eq_true rfl, Nat.le_of_ble_eq_true rfl⟩ ⟨Nat.le_refl _, Nat.le_refl _⟩ dX3_last_1) (fun H locs hM => ?_)
  refine lv_if_eq (tgt := 14) hx hb dX3_last_4 (by decide) (fun c16 => ?_) (fun c16 => ?_)
  · have hf := jt c16 hf
    refine lv_iconst (v := (2 : Int32)) hx hb dX3_last_14 (by decide) ?_
    exact jireti (jr2 hf) E hM dX3_last_15
  · have hf := jf c16 hf
    refine lv_aload_n hx hb dX3_last_7 rfl (lv_at hl 1 rfl) ?_
    obtain ⟨hq17, hf⟩ := jif hf
    refine gt_52 E hM hq17 lk_1_50 dX3_last_8 ?_
    refine lv_if_eq (tgt := 16) hx hb dX3_last_11 (by decide) (fun c18 => ?_) (fun c18 => ?_)
    · have hf := jt c18 hf
      refine lv_aload_n hx hb dX3_last_16 rfl (lv_at hl 1 rfl) ?_
      refine gt_54 E hM hq17 lk_1_58 dX3_last_17 ?_
      obtain ⟨r19, hr20, hf⟩ := jb hf
      rw [hr20]
      show W p l e _ s m args below meth c H locs 0 0 _ (F0 m _ ls (.ref (g.2.2 + r19) :: _))
      refine lv_iconst (v := (0 : Int32)) hx hb dX3_last_20 (by decide) ?_
      obtain ⟨ha21, hf⟩ := jif hf
      refine jlald E hM ha21 dX3_last_21 ?_
      refine lv_lconst (v := (0 : Int64)) hx hb dX3_last_22 (by decide) ?_
      refine jl_ge (tgt := 29) hx hb dX3_last_23 dX3_last_24 (by decide) (fun c22 => ?_) (fun c22 => ?_)
      · have hf := jt c22 hf
        refine lv_aload_n hx hb dX3_last_29 rfl (lv_at hl 1 rfl) ?_
        refine gt_54 E hM hq17 lk_1_58 dX3_last_30 ?_
        obtain ⟨r23, hr24, hf⟩ := jb hf
        rw [hr24]
        show W p l e _ s m args below meth c H locs 0 0 _ (F0 m _ ls (.ref (g.2.2 + r23) :: _))
        refine lv_iconst (v := (0 : Int32)) hx hb dX3_last_33 (by decide) ?_
        obtain ⟨ha25, hf⟩ := jif hf
        refine jlald E hM ha25 dX3_last_34 ?_
        refine lv_aload_n hx hb dX3_last_35 rfl (lv_at hl 0 rfl) ?_
        refine gt_53 E hM hq15 lk_1_56 dX3_last_36 ?_
        refine lv_i2l hx hb dX3_last_39 rfl ?_
        refine jl_le (tgt := 46) hx hb dX3_last_40 dX3_last_41 (by decide) (fun c26 => ?_) (fun c26 => ?_)
        · have hf := jt c26 hf
          refine lv_aload_n hx hb dX3_last_46 rfl (lv_at hl 1 rfl) ?_
          refine gt_54 E hM hq17 lk_1_58 dX3_last_47 ?_
          obtain ⟨r27, hr28, hf⟩ := jb hf
          rw [hr28]
          show W p l e _ s m args below meth c H locs 0 0 _ (F0 m _ ls (.ref (g.2.2 + r27) :: _))
          refine lv_iconst (v := (0 : Int32)) hx hb dX3_last_50 (by decide) ?_
          obtain ⟨ha29, hf⟩ := jif hf
          refine jlald E hM ha29 dX3_last_51 ?_
          refine lv_l2i hx hb dX3_last_52 rfl ?_
          refine lv_topi (fun x30 ex30 => ?_)
          have hf := jlet_y ex30 hf
          refine lv_istore_n (lv' := [(2, .int x30), (0, .ref (g.2.2 + v0)), (1, .ref (g.2.2 + v1))]) hx hb dX3_last_53 rfl hl (by decide) rfl (fun ls hl => ?_)
          refine lv_iconst (v := (0 : Int32)) hx hb dX3_last_54 (by decide) ?_
          refine lv_istore_n (lv' := [(3, .int (0 : Int32)), (2, .int x30), (0, .ref (g.2.2 + v0)), (1, .ref (g.2.2 + v1))]) hx hb dX3_last_55 rfl hl (by decide) rfl (fun ls hl => ?_)
          exact B_X3_last_56 E  1100000 v0 x30 (0 : Int32) S _ _ _ hf hM (lv_sub hl [2, 1, 0] rfl)
        · have hf := jf c26 hf
          refine lv_iconst (v := (3 : Int32)) hx hb dX3_last_44 (by decide) ?_
          exact jireti (jr2 hf) E hM dX3_last_45
      · have hf := jf c22 hf
        refine lv_iconst (v := (4 : Int32)) hx hb dX3_last_27 (by decide) ?_
        exact jireti (jr2 hf) E hM dX3_last_28
    · have hf := jf c18 hf
      refine lv_iconst (v := (2 : Int32)) hx hb dX3_last_14 (by decide) ?_
      exact jireti (jr2 hf) E hM dX3_last_15
set_option maxRecDepth 100000 in
theorem C_X3_last {l : Launch} {g : jG} {a0 : Nat} {a1 : Nat} {S : jM} {rr : Int32} {SS : jM} (hf : f_X3_last a0 a1 S = some (rr, SS)) : jMet l g yX3_last cX3_last 4 (some .int) 2 0 0 [.ref (g.2.2 + a0), .ref (g.2.2 + a1)] S (jQi g rr SS) := by
  refine jof (by decide +kernel) (Nat.le_of_ble_eq_true rfl) ?_
  intro p e s m below meth c E hM ls hl
  have hl : lv_has ls 4 [(0, .ref (g.2.2 + a0)),(1, .ref (g.2.2 + a1))] := hl
  exact B_X3_last_0 E hf hM hl
-- PensionHouse$Ops.fitsSort(LPensionHouse$Value;LPensionHouse$Value;)Z  mode R
noncomputable def f_X3_fitsSort_45 (S : jM) : Option Int32 := some (1 : Int32)
noncomputable def f_X3_fitsSort (v0 : Nat) (v1 : Nat) (S : jM) : Option Int32 := if jK v0 = 7 then (f_X9_isKin v0 S).bind (fun x1 => if x1 = 0 then if jK v1 = 7 then if (jI S 52 v1) = 0 then f_X3_fitsSort_45 S else if (jI S 52 v1) = (1 : Int32) then if (jI S 52 v0) = (4 : Int32) then f_X3_fitsSort_45 S else some (0 : Int32) else some (0 : Int32) else none else if jK v1 = 7 then if (jI S 52 v1) = (8 : Int32) then some (1 : Int32) else some (0 : Int32) else none) else none
set_option maxRecDepth 100000 in
set_option maxHeartbeats 4000000 in
theorem B_X3_fitsSort_45 {p : Program} {l : Launch} {e : Env} {s : State} {m : MethodId} {args : Array Value} {below : List Frame} {meth : Method} {c : Code} {g : jG} {rr : Int32} {S : jM} (E : jEnv p s m args meth c cX3_fitsSort "PensionHouse$Ops" (some .boolean) 2 g)  {H : Heap} {locs : List Loc} {ls : Array Slot} (hf : f_X3_fitsSort_45 S = some rr) (hM : jAt g S s H locs) (hl : lv_has ls 2 []) : W p l e (jRm 2 0 0) s m args below meth c H locs 0 0 (MQ below (jQi g rr S) args s 0 0 (jA0 g)) (F0 m 45 ls []) := by
  obtain ⟨hx, hb, hml, -, hts, hown, hK, -, hstr⟩ := id E
  unfold f_X3_fitsSort_45 at hf
  refine lv_iconst (v := (1 : Int32)) hx hb dX3_fitsSort_45 (by decide) ?_
  refine lv_goto (tgt := 50) hx hb dX3_fitsSort_46 (by decide) ?_
  exact jiretz (jr1 hf) E hM (by decide) dX3_fitsSort_50
set_option maxRecDepth 100000 in
set_option maxHeartbeats 4000000 in
theorem B_X3_fitsSort_0 {p : Program} {l : Launch} {e : Env} {s : State} {m : MethodId} {args : Array Value} {below : List Frame} {meth : Method} {c : Code} {g : jG} {rr : Int32} {S : jM} {v0 : Nat} {v1 : Nat} (E : jEnv p s m args meth c cX3_fitsSort "PensionHouse$Ops" (some .boolean) 2 g)  {H : Heap} {locs : List Loc} {ls : Array Slot} (hf : f_X3_fitsSort v0 v1 S = some rr) (hM : jAt g S s H locs) (hl : lv_has ls 2 [(0, .ref (g.2.2 + v0)), (1, .ref (g.2.2 + v1))]) : W p l e (jRm 2 0 0) s m args below meth c H locs 0 0 (MQ below (jQi g rr S) args s 0 0 (jA0 g)) (F0 m 0 ls []) := by
  obtain ⟨hx, hb, hml, -, hts, hown, hK, -, hstr⟩ := id E
  unfold f_X3_fitsSort at hf
  refine lv_aload_n hx hb dX3_fitsSort_0 rfl (lv_at hl 0 rfl) ?_
  obtain ⟨hq3, hf⟩ := jif hf
  obtain ⟨x1, hc2, hf⟩ := jb hf
  refine jbackI hM (jrunV E hM ci_X9_isKin (C_X9_isKin hc2) lk_5_36 hq3 (by decide) rfl hl.1 rfl rfl (Nat.le_of_ble_eq_true rfl) ⟨Nat.le_of_ble_eq_true rfl, Nat.le_of_ble_eq_true rfl⟩ ⟨Nat.le_refl _, Nat.le_refl _⟩ dX3_fitsSort_1) (fun H locs hM => ?_)
  refine lv_if_eq (tgt := 22) hx hb dX3_fitsSort_4 (by decide) (fun c4 => ?_) (fun c4 => ?_)
  · have hf := jt c4 hf
    refine lv_aload_n hx hb dX3_fitsSort_22 rfl (lv_at hl 1 rfl) ?_
    obtain ⟨hq5, hf⟩ := jif hf
    refine gt_52 E hM hq5 lk_1_50 dX3_fitsSort_23 ?_
    refine lv_if_eq (tgt := 45) hx hb dX3_fitsSort_26 (by decide) (fun c6 => ?_) (fun c6 => ?_)
    · have hf := jt c6 hf
      exact B_X3_fitsSort_45 E  hf hM (lv_sub hl [] rfl)
    · have hf := jf c6 hf
      refine lv_aload_n hx hb dX3_fitsSort_29 rfl (lv_at hl 1 rfl) ?_
      refine gt_52 E hM hq5 lk_1_50 dX3_fitsSort_30 ?_
      refine lv_iconst (v := (1 : Int32)) hx hb dX3_fitsSort_33 (by decide) ?_
      refine lv_icmp_ne (tgt := 49) hx hb dX3_fitsSort_34 (by decide) (fun c7 => ?_) (fun c7 => ?_)
      · have hf := jf c7 hf
        refine lv_iconst (v := (0 : Int32)) hx hb dX3_fitsSort_49 (by decide) ?_
        exact jiretz (jr1 hf) E hM (by decide) dX3_fitsSort_50
      · have hf := jt c7 hf
        refine lv_aload_n hx hb dX3_fitsSort_37 rfl (lv_at hl 0 rfl) ?_
        refine gt_52 E hM hq3 lk_1_50 dX3_fitsSort_38 ?_
        refine lv_iconst (v := (4 : Int32)) hx hb dX3_fitsSort_41 (by decide) ?_
        refine lv_icmp_ne (tgt := 49) hx hb dX3_fitsSort_42 (by decide) (fun c8 => ?_) (fun c8 => ?_)
        · have hf := jf c8 hf
          refine lv_iconst (v := (0 : Int32)) hx hb dX3_fitsSort_49 (by decide) ?_
          exact jiretz (jr1 hf) E hM (by decide) dX3_fitsSort_50
        · have hf := jt c8 hf
          exact B_X3_fitsSort_45 E  hf hM (lv_sub hl [] rfl)
  · have hf := jf c4 hf
    refine lv_aload_n hx hb dX3_fitsSort_7 rfl (lv_at hl 1 rfl) ?_
    obtain ⟨hq9, hf⟩ := jif hf
    refine gt_52 E hM hq9 lk_1_50 dX3_fitsSort_8 ?_
    refine lv_bipush (v := (8 : Int32)) hx hb dX3_fitsSort_11 (by decide) ?_
    refine lv_icmp_ne (tgt := 20) hx hb dX3_fitsSort_13 (by decide) (fun c10 => ?_) (fun c10 => ?_)
    · have hf := jf c10 hf
      refine lv_iconst (v := (0 : Int32)) hx hb dX3_fitsSort_20 (by decide) ?_
      exact jiretz (jr1 hf) E hM (by decide) dX3_fitsSort_21
    · have hf := jt c10 hf
      refine lv_iconst (v := (1 : Int32)) hx hb dX3_fitsSort_16 (by decide) ?_
      refine lv_goto (tgt := 21) hx hb dX3_fitsSort_17 (by decide) ?_
      exact jiretz (jr1 hf) E hM (by decide) dX3_fitsSort_21
set_option maxRecDepth 100000 in
theorem C_X3_fitsSort {l : Launch} {g : jG} {a0 : Nat} {a1 : Nat} {S : jM} {rr : Int32} (hf : f_X3_fitsSort a0 a1 S = some rr) : jMet l g yX3_fitsSort cX3_fitsSort 2 (some .boolean) 2 0 0 [.ref (g.2.2 + a0), .ref (g.2.2 + a1)] S (jQi g rr S) := by
  refine jof (by decide +kernel) (Nat.le_of_ble_eq_true rfl) ?_
  intro p e s m below meth c E hM ls hl
  have hl : lv_has ls 2 [(0, .ref (g.2.2 + a0)),(1, .ref (g.2.2 + a1))] := hl
  exact B_X3_fitsSort_0 E hf hM hl
-- PensionHouse$Ops.with(LPensionHouse$Register;LPensionHouse$Value;LPensionHouse$Value;LPensionHouse$Value;)I  mode M
noncomputable def f_X3_with_110 (v1 : Nat) (v2 : Nat) (t0 : Int64) (S : jM) : Option (Int32 × jM) := if jK v2 = 7 then (jR S 54 v2).bind (fun r2 => if jA r2 14 (0 : Int32) = true then if jK v1 = 7 then (f_X9_setBits v1 ((jAL S r2 ((0 : Int32)).toNatClampNeg).toInt32) t0 S).bind (fun S5 => some ((0 : Int32), S5)) else none else none) else none
noncomputable def f_X3_with_85 (v1 : Nat) (v2 : Nat) (v3 : Nat) (t0 : Int32) (S : jM) : Option (Int32 × jM) := if t0 = 0 then if jK v3 = 7 then (jR S 54 v3).bind (fun r10 => if jA r10 14 (0 : Int32) = true then f_X3_with_110 v1 v2 (jAL S r10 ((0 : Int32)).toNatClampNeg) S else none) else none else if jK v3 = 7 then (jR S 54 v3).bind (fun r14 => if jA r14 14 (0 : Int32) = true then (f_X5_nearest (jAL S r14 ((0 : Int32)).toNatClampNeg)).bind (fun x17 => f_X3_with_110 v1 v2 x17 S) else none) else none
noncomputable def f_X3_with_84 (v1 : Nat) (v2 : Nat) (v3 : Nat) (S : jM) : Option (Int32 × jM) := f_X3_with_85 v1 v2 v3 (0 : Int32) S
noncomputable def f_X3_with_65 (v1 : Nat) (v2 : Nat) (v3 : Nat) (S : jM) : Option (Int32 × jM) := if jK v1 = 7 then if (jI S 52 v1) = (4 : Int32) then if jK v3 = 7 then if (jI S 52 v3) = 0 then f_X3_with_85 v1 v2 v3 (1 : Int32) S else f_X3_with_84 v1 v2 v3 S else none else f_X3_with_84 v1 v2 v3 S else none
noncomputable def f_X3_with (v0 : Nat) (v1 : Nat) (v2 : Nat) (v3 : Nat) (S : jM) : Option (Int32 × jM) := if jK v1 = 7 then (f_X9_isRow v1 S).bind (fun x23 => if x23 = 0 then some ((2 : Int32), S) else if jK v2 = 7 then if (jI S 52 v2) = 0 then (f_X3_fitsSort v1 v3 S).bind (fun x29 => if x29 = 0 then some ((2 : Int32), S) else (jR S 54 v2).bind (fun r32 => if jA r32 14 (0 : Int32) = true then (f_X9_hasItem v1 (jAL S r32 ((0 : Int32)).toNatClampNeg) S).bind (fun x35 => if x35 = 0 then some ((3 : Int32), S) else (f_X9_isKin v1 S).bind (fun x38 => if x38 = 0 then f_X3_with_65 v1 v2 v3 S else if jK v3 = 7 then (jR S 54 v3).bind (fun r42 => if jA r42 14 (0 : Int32) = true then if jK v0 = 4 then (f_X6_belongs v0 (jI S 52 v1) (jAL S r42 ((0 : Int32)).toNatClampNeg) S).bind (fun x45 => if x45 = 0 then some ((5 : Int32), S) else f_X3_with_65 v1 v2 v3 S) else none else none) else none)) else none)) else some ((2 : Int32), S) else none) else none
set_option maxRecDepth 100000 in
set_option maxHeartbeats 4000000 in
theorem B_X3_with_110 {p : Program} {l : Launch} {e : Env} {s : State} {m : MethodId} {args : Array Value} {below : List Frame} {meth : Method} {c : Code} {g : jG} {rr : Int32} {SS : jM} {v1 : Nat} {v2 : Nat} {t0 : Int64} {S : jM} (E : jEnv p s m args meth c cX3_with "PensionHouse$Ops" (some .int) 7 g)  {H : Heap} {locs : List Loc} {ls : Array Slot} (hf : f_X3_with_110 v1 v2 t0 S = some (rr, SS)) (hM : jAt g S s H locs) (hl : lv_has ls 7 [(1, .ref (g.2.2 + v1)), (2, .ref (g.2.2 + v2))]) : W p l e (jRm 3 0 0) s m args below meth c H locs 0 0 (MQ below (jQi g rr SS) args s 0 0 (jA0 g)) (F0 m 110 ls [.long t0]) := by
  obtain ⟨hx, hb, hml, -, hts, hown, hK, -, hstr⟩ := id E
  unfold f_X3_with_110 at hf
  refine lv_lstore (lv' := [(5, .long t0), (1, .ref (g.2.2 + v1)), (2, .ref (g.2.2 + v2))]) hx hb dX3_with_110 hl (by decide) rfl (fun ls hl => ?_)
  refine lv_aload_n hx hb dX3_with_112 rfl (lv_at hl 1 rfl) ?_
  refine lv_aload_n hx hb dX3_with_113 rfl (lv_at hl 2 rfl) ?_
  obtain ⟨hq1, hf⟩ := jif hf
  refine gt_54 E hM hq1 lk_1_58 dX3_with_114 ?_
  obtain ⟨r2, hr3, hf⟩ := jb hf
  rw [hr3]
  show W p l e _ s m args below meth c H locs 0 0 _ (F0 m _ ls (.ref (g.2.2 + r2) :: _))
  refine lv_iconst (v := (0 : Int32)) hx hb dX3_with_117 (by decide) ?_
  obtain ⟨ha4, hf⟩ := jif hf
  refine jlald E hM ha4 dX3_with_118 ?_
  refine lv_l2i hx hb dX3_with_119 rfl ?_
  refine lv_lload hx hb dX3_with_120 (lv_at hl 0 rfl) ?_
  obtain ⟨hq7, hf⟩ := jif hf
  obtain ⟨S5, hc6, hf⟩ := jb hf
  refine jbackV hM (jrunV E hM ci_X9_setBits (C_X9_setBits hc6) lk_5_40 hq7 (by decide) rfl hl.1 rfl rfl (Nat.le_of_ble_eq_true rfl) ⟨Nat.le_of_ble_eq_true rfl, Nat.le_of_ble_eq_true rfl⟩ ⟨Nat.le_refl _, Nat.le_refl _⟩ dX3_with_122) (fun H locs hM => ?_)
  refine lv_iconst (v := (0 : Int32)) hx hb dX3_with_125 (by decide) ?_
  exact jireti (jr2 hf) E hM dX3_with_126
set_option maxRecDepth 100000 in
set_option maxHeartbeats 4000000 in
theorem B_X3_with_85 {p : Program} {l : Launch} {e : Env} {s : State} {m : MethodId} {args : Array Value} {below : List Frame} {meth : Method} {c : Code} {g : jG} {rr : Int32} {SS : jM} {v1 : Nat} {v2 : Nat} {v3 : Nat} {t0 : Int32} {S : jM} (E : jEnv p s m args meth c cX3_with "PensionHouse$Ops" (some .int) 7 g)  {H : Heap} {locs : List Loc} {ls : Array Slot} (hf : f_X3_with_85 v1 v2 v3 t0 S = some (rr, SS)) (hM : jAt g S s H locs) (hl : lv_has ls 7 [(1, .ref (g.2.2 + v1)), (2, .ref (g.2.2 + v2)), (3, .ref (g.2.2 + v3))]) : W p l e (jRm 3 0 0) s m args below meth c H locs 0 0 (MQ below (jQi g rr SS) args s 0 0 (jA0 g)) (F0 m 85 ls [.int t0]) := by
  obtain ⟨hx, hb, hml, -, hts, hown, hK, -, hstr⟩ := id E
  unfold f_X3_with_85 at hf
  refine lv_istore (lv' := [(4, .int t0), (1, .ref (g.2.2 + v1)), (2, .ref (g.2.2 + v2)), (3, .ref (g.2.2 + v3))]) hx hb dX3_with_85 hl (by decide) rfl (fun ls hl => ?_)
  refine lv_iload hx hb dX3_with_87 (lv_at hl 0 rfl) ?_
  refine lv_if_eq (tgt := 104) hx hb dX3_with_89 (by decide) (fun c8 => ?_) (fun c8 => ?_)
  · have hf := jt c8 hf
    refine lv_aload_n hx hb dX3_with_104 rfl (lv_at hl 3 rfl) ?_
    obtain ⟨hq9, hf⟩ := jif hf
    refine gt_54 E hM hq9 lk_1_58 dX3_with_105 ?_
    obtain ⟨r10, hr11, hf⟩ := jb hf
    rw [hr11]
    show W p l e _ s m args below meth c H locs 0 0 _ (F0 m _ ls (.ref (g.2.2 + r10) :: _))
    refine lv_iconst (v := (0 : Int32)) hx hb dX3_with_108 (by decide) ?_
    obtain ⟨ha12, hf⟩ := jif hf
    refine jlald E hM ha12 dX3_with_109 ?_
    exact B_X3_with_110 E  hf hM (lv_sub hl [1, 2] rfl)
  · have hf := jf c8 hf
    refine lv_aload_n hx hb dX3_with_92 rfl (lv_at hl 3 rfl) ?_
    obtain ⟨hq13, hf⟩ := jif hf
    refine gt_54 E hM hq13 lk_1_58 dX3_with_93 ?_
    obtain ⟨r14, hr15, hf⟩ := jb hf
    rw [hr15]
    show W p l e _ s m args below meth c H locs 0 0 _ (F0 m _ ls (.ref (g.2.2 + r14) :: _))
    refine lv_iconst (v := (0 : Int32)) hx hb dX3_with_96 (by decide) ?_
    obtain ⟨ha16, hf⟩ := jif hf
    refine jlald E hM ha16 dX3_with_97 ?_
    obtain ⟨x17, hc18, hf⟩ := jb hf
    refine jbackL hM (jrunS E hM ci_X5_nearest (C_X5_nearest hc18) lk_5_8 hl.1 rfl rfl (Nat.le_of_ble_eq_true rfl) ⟨Nat.le_of_ble_eq_true rfl, Nat.le_of_ble_eq_true rfl⟩ ⟨Nat.le_refl _, Nat.le_refl _⟩ dX3_with_98) (fun H locs hM => ?_)
    refine lv_goto (tgt := 110) hx hb dX3_with_101 (by decide) ?_
    exact B_X3_with_110 E  hf hM (lv_sub hl [1, 2] rfl)
set_option maxRecDepth 100000 in
set_option maxHeartbeats 4000000 in
theorem B_X3_with_84 {p : Program} {l : Launch} {e : Env} {s : State} {m : MethodId} {args : Array Value} {below : List Frame} {meth : Method} {c : Code} {g : jG} {rr : Int32} {SS : jM} {v1 : Nat} {v2 : Nat} {v3 : Nat} {S : jM} (E : jEnv p s m args meth c cX3_with "PensionHouse$Ops" (some .int) 7 g)  {H : Heap} {locs : List Loc} {ls : Array Slot} (hf : f_X3_with_84 v1 v2 v3 S = some (rr, SS)) (hM : jAt g S s H locs) (hl : lv_has ls 7 [(1, .ref (g.2.2 + v1)), (2, .ref (g.2.2 + v2)), (3, .ref (g.2.2 + v3))]) : W p l e (jRm 3 0 0) s m args below meth c H locs 0 0 (MQ below (jQi g rr SS) args s 0 0 (jA0 g)) (F0 m 84 ls []) := by
  obtain ⟨hx, hb, hml, -, hts, hown, hK, -, hstr⟩ := id E
  unfold f_X3_with_84 at hf
  refine lv_iconst (v := (0 : Int32)) hx hb dX3_with_84 (by decide) ?_
  exact B_X3_with_85 E  hf hM (lv_sub hl [0, 1, 2] rfl)
set_option maxRecDepth 100000 in
set_option maxHeartbeats 4000000 in
theorem B_X3_with_65 {p : Program} {l : Launch} {e : Env} {s : State} {m : MethodId} {args : Array Value} {below : List Frame} {meth : Method} {c : Code} {g : jG} {rr : Int32} {SS : jM} {v1 : Nat} {v2 : Nat} {v3 : Nat} {S : jM} (E : jEnv p s m args meth c cX3_with "PensionHouse$Ops" (some .int) 7 g)  {H : Heap} {locs : List Loc} {ls : Array Slot} (hf : f_X3_with_65 v1 v2 v3 S = some (rr, SS)) (hM : jAt g S s H locs) (hl : lv_has ls 7 [(1, .ref (g.2.2 + v1)), (2, .ref (g.2.2 + v2)), (3, .ref (g.2.2 + v3))]) : W p l e (jRm 3 0 0) s m args below meth c H locs 0 0 (MQ below (jQi g rr SS) args s 0 0 (jA0 g)) (F0 m 65 ls []) := by
  obtain ⟨hx, hb, hml, -, hts, hown, hK, -, hstr⟩ := id E
  unfold f_X3_with_65 at hf
  refine lv_aload_n hx hb dX3_with_65 rfl (lv_at hl 0 rfl) ?_
  obtain ⟨hq19, hf⟩ := jif hf
  refine gt_52 E hM hq19 lk_1_50 dX3_with_66 ?_
  refine lv_iconst (v := (4 : Int32)) hx hb dX3_with_69 (by decide) ?_
  refine lv_icmp_ne (tgt := 84) hx hb dX3_with_70 (by decide) (fun c20 => ?_) (fun c20 => ?_)
  · have hf := jf c20 hf
    exact B_X3_with_84 E  hf hM (lv_sub hl [0, 1, 2] rfl)
  · have hf := jt c20 hf
    refine lv_aload_n hx hb dX3_with_73 rfl (lv_at hl 2 rfl) ?_
    obtain ⟨hq21, hf⟩ := jif hf
    refine gt_52 E hM hq21 lk_1_50 dX3_with_74 ?_
    refine lv_if_ne (tgt := 84) hx hb dX3_with_77 (by decide) (fun c22 => ?_) (fun c22 => ?_)
    · have hf := jf c22 hf
      exact B_X3_with_84 E  hf hM (lv_sub hl [0, 1, 2] rfl)
    · have hf := jt c22 hf
      refine lv_iconst (v := (1 : Int32)) hx hb dX3_with_80 (by decide) ?_
      refine lv_goto (tgt := 85) hx hb dX3_with_81 (by decide) ?_
      exact B_X3_with_85 E  hf hM (lv_sub hl [0, 1, 2] rfl)
set_option maxRecDepth 100000 in
set_option maxHeartbeats 4000000 in
theorem B_X3_with_0 {p : Program} {l : Launch} {e : Env} {s : State} {m : MethodId} {args : Array Value} {below : List Frame} {meth : Method} {c : Code} {g : jG} {rr : Int32} {SS : jM} {v0 : Nat} {v1 : Nat} {v2 : Nat} {v3 : Nat} {S : jM} (E : jEnv p s m args meth c cX3_with "PensionHouse$Ops" (some .int) 7 g)  {H : Heap} {locs : List Loc} {ls : Array Slot} (hf : f_X3_with v0 v1 v2 v3 S = some (rr, SS)) (hM : jAt g S s H locs) (hl : lv_has ls 7 [(0, .ref (g.2.2 + v0)), (1, .ref (g.2.2 + v1)), (2, .ref (g.2.2 + v2)), (3, .ref (g.2.2 + v3))]) : W p l e (jRm 3 0 0) s m args below meth c H locs 0 0 (MQ below (jQi g rr SS) args s 0 0 (jA0 g)) (F0 m 0 ls []) := by
  obtain ⟨hx, hb, hml, -, hts, hown, hK, -, hstr⟩ := id E
  unfold f_X3_with at hf
  refine lv_aload_n hx hb dX3_with_0 rfl (lv_at hl 1 rfl) ?_
  obtain ⟨hq25, hf⟩ := jif hf
  obtain ⟨x23, hc24, hf⟩ := jb hf
  refine jbackI hM (jrunV E hM ci_X9_isRow (C_X9_isRow hc24) lk_5_34 hq25 (by decide) rfl hl.1 rfl rfl (Nat.le_of_ble_eq_true rfl) ⟨Nat.le_of_ble_eq_true rfl, Nat.le_of_ble_eq_true rfl⟩ ⟨Nat.le_refl _, Nat.le_refl _⟩ dX3_with_1) (fun H locs hM => ?_)
  refine lv_if_eq (tgt := 22) hx hb dX3_with_4 (by decide) (fun c26 => ?_) (fun c26 => ?_)
  · have hf := jt c26 hf
    refine lv_iconst (v := (2 : Int32)) hx hb dX3_with_22 (by decide) ?_
    exact jireti (jr2 hf) E hM dX3_with_23
  · have hf := jf c26 hf
    refine lv_aload_n hx hb dX3_with_7 rfl (lv_at hl 2 rfl) ?_
    obtain ⟨hq27, hf⟩ := jif hf
    refine gt_52 E hM hq27 lk_1_50 dX3_with_8 ?_
    refine lv_if_ne (tgt := 22) hx hb dX3_with_11 (by decide) (fun c28 => ?_) (fun c28 => ?_)
    · have hf := jf c28 hf
      refine lv_iconst (v := (2 : Int32)) hx hb dX3_with_22 (by decide) ?_
      exact jireti (jr2 hf) E hM dX3_with_23
    · have hf := jt c28 hf
      refine lv_aload_n hx hb dX3_with_14 rfl (lv_at hl 1 rfl) ?_
      refine lv_aload_n hx hb dX3_with_15 rfl (lv_at hl 3 rfl) ?_
      obtain ⟨x29, hc30, hf⟩ := jb hf
      refine jbackI hM (jrunS E hM ci_X3_fitsSort (C_X3_fitsSort hc30) lk_5_100 hl.1 rfl rfl (Nat.le_of_ble_eq_true rfl) ⟨Nat.le_of_ble_eq_true rfl, Nat.le_of_ble_eq_true rfl⟩ ⟨Nat.le_refl _, Nat.le_refl _⟩ dX3_with_16) (fun H locs hM => ?_)
      refine lv_if_ne (tgt := 24) hx hb dX3_with_19 (by decide) (fun c31 => ?_) (fun c31 => ?_)
      · have hf := jf c31 hf
        refine lv_aload_n hx hb dX3_with_24 rfl (lv_at hl 1 rfl) ?_
        refine lv_aload_n hx hb dX3_with_25 rfl (lv_at hl 2 rfl) ?_
        refine gt_54 E hM hq27 lk_1_58 dX3_with_26 ?_
        obtain ⟨r32, hr33, hf⟩ := jb hf
        rw [hr33]
        show W p l e _ s m args below meth c H locs 0 0 _ (F0 m _ ls (.ref (g.2.2 + r32) :: _))
        refine lv_iconst (v := (0 : Int32)) hx hb dX3_with_29 (by decide) ?_
        obtain ⟨ha34, hf⟩ := jif hf
        refine jlald E hM ha34 dX3_with_30 ?_
        obtain ⟨x35, hc36, hf⟩ := jb hf
        refine jbackI hM (jrunV E hM ci_X9_hasItem (C_X9_hasItem hc36) lk_5_35 hq25 (by decide) rfl hl.1 rfl rfl (Nat.le_of_ble_eq_true rfl) ⟨Nat.le_of_ble_eq_true rfl, Nat.le_of_ble_eq_true rfl⟩ ⟨Nat.le_refl _, Nat.le_refl _⟩ dX3_with_31) (fun H locs hM => ?_)
        refine lv_if_ne (tgt := 39) hx hb dX3_with_34 (by decide) (fun c37 => ?_) (fun c37 => ?_)
        · have hf := jf c37 hf
          refine lv_aload_n hx hb dX3_with_39 rfl (lv_at hl 1 rfl) ?_
          obtain ⟨x38, hc39, hf⟩ := jb hf
          refine jbackI hM (jrunV E hM ci_X9_isKin (C_X9_isKin hc39) lk_5_36 hq25 (by decide) rfl hl.1 rfl rfl (Nat.le_of_ble_eq_true rfl) ⟨Nat.le_of_ble_eq_true rfl, Nat.le_of_ble_eq_true rfl⟩ ⟨Nat.le_refl _, Nat.le_refl _⟩ dX3_with_40) (fun H locs hM => ?_)
          refine lv_if_eq (tgt := 65) hx hb dX3_with_43 (by decide) (fun c40 => ?_) (fun c40 => ?_)
          · have hf := jt c40 hf
            exact B_X3_with_65 E  hf hM (lv_sub hl [1, 2, 3] rfl)
          · have hf := jf c40 hf
            refine lv_aload_n hx hb dX3_with_46 rfl (lv_at hl 0 rfl) ?_
            refine lv_aload_n hx hb dX3_with_47 rfl (lv_at hl 1 rfl) ?_
            refine gt_52 E hM hq25 lk_1_50 dX3_with_48 ?_
            refine lv_aload_n hx hb dX3_with_51 rfl (lv_at hl 3 rfl) ?_
            obtain ⟨hq41, hf⟩ := jif hf
            refine gt_54 E hM hq41 lk_1_58 dX3_with_52 ?_
            obtain ⟨r42, hr43, hf⟩ := jb hf
            rw [hr43]
            show W p l e _ s m args below meth c H locs 0 0 _ (F0 m _ ls (.ref (g.2.2 + r42) :: _))
            refine lv_iconst (v := (0 : Int32)) hx hb dX3_with_55 (by decide) ?_
            obtain ⟨ha44, hf⟩ := jif hf
            refine jlald E hM ha44 dX3_with_56 ?_
            obtain ⟨hq47, hf⟩ := jif hf
            obtain ⟨x45, hc46, hf⟩ := jb hf
            refine jbackI hM (jrunV E hM ci_X6_belongs (C_X6_belongs hc46) lk_5_92 hq47 (by decide) rfl hl.1 rfl rfl (Nat.le_of_ble_eq_true rfl) ⟨Nat.le_of_ble_eq_true rfl, Nat.le_of_ble_eq_true rfl⟩ ⟨Nat.le_refl _, Nat.le_refl _⟩ dX3_with_57) (fun H locs hM => ?_)
            refine lv_if_ne (tgt := 65) hx hb dX3_with_60 (by decide) (fun c48 => ?_) (fun c48 => ?_)
            · have hf := jf c48 hf
              exact B_X3_with_65 E  hf hM (lv_sub hl [1, 2, 3] rfl)
            · have hf := jt c48 hf
              refine lv_iconst (v := (5 : Int32)) hx hb dX3_with_63 (by decide) ?_
              exact jireti (jr2 hf) E hM dX3_with_64
        · have hf := jt c37 hf
          refine lv_iconst (v := (3 : Int32)) hx hb dX3_with_37 (by decide) ?_
          exact jireti (jr2 hf) E hM dX3_with_38
      · have hf := jt c31 hf
        refine lv_iconst (v := (2 : Int32)) hx hb dX3_with_22 (by decide) ?_
        exact jireti (jr2 hf) E hM dX3_with_23
set_option maxRecDepth 100000 in
theorem C_X3_with {l : Launch} {g : jG} {a0 : Nat} {a1 : Nat} {a2 : Nat} {a3 : Nat} {S : jM} {rr : Int32} {SS : jM} (hf : f_X3_with a0 a1 a2 a3 S = some (rr, SS)) : jMet l g yX3_with cX3_with 7 (some .int) 3 0 0 [.ref (g.2.2 + a0), .ref (g.2.2 + a1), .ref (g.2.2 + a2), .ref (g.2.2 + a3)] S (jQi g rr SS) := by
  refine jof (by decide +kernel) (Nat.le_of_ble_eq_true rfl) ?_
  intro p e s m below meth c E hM ls hl
  have hl : lv_has ls 7 [(0, .ref (g.2.2 + a0)),(1, .ref (g.2.2 + a1)),(2, .ref (g.2.2 + a2)),(3, .ref (g.2.2 + a3))] := hl
  exact B_X3_with_0 E hf hM hl
-- PensionHouse$Ops.extreme(ZLPensionHouse$Value;LPensionHouse$Value;)I  mode M
noncomputable def f_X3_extreme_172 (t0 : Nat) (t1 : Int32) (t2 : Int64) (S : jM) : Option (Int32 × jM) := if jK t0 = 7 then (f_X9_setNumber t0 t1 t2 S).bind (fun S1 => some ((0 : Int32), S1)) else none
noncomputable def f_X3_extreme_159 (v1 : Nat) (v3 : Int64) (v5 : Int64) (v7 : Int32) (S : jM) : Option (Int32 × jM) := if v7 = 0 then f_X3_extreme_172 v1 (1 : Int32) v5 S else f_X3_extreme_172 v1 (1 : Int32) v3 S
noncomputable def f_X3_extreme_153 (v1 : Nat) (v3 : Int64) (v5 : Int64) (S : jM) : Option (Int32 × jM) := jlet (f_X5_isNot v3) (fun x5 => f_X3_extreme_159 v1 v3 v5 x5 S)
noncomputable def f_X3_extreme_136 (v1 : Nat) (v3 : Int64) (v5 : Int64) (t0 : Int32) (S : jM) : Option (Int32 × jM) := if (f_X5_isNot v3) = 0 then if (f_X5_isNot v5) = 0 then f_X3_extreme_159 v1 v3 v5 t0 S else f_X3_extreme_153 v1 v3 v5 S else f_X3_extreme_153 v1 v3 v5 S
noncomputable def f_X3_extreme_128 (v1 : Nat) (v3 : Int64) (v5 : Int64) (t0 : Int32) (t1 : Int32) (S : jM) : Option (Int32 × jM) := if t0 = t1 then f_X3_extreme_136 v1 v3 v5 (1 : Int32) S else f_X3_extreme_136 v1 v3 v5 (0 : Int32) S
noncomputable def f_X3_extreme_107 (v0 : Int32) (v1 : Nat) (v3 : Int64) (t0 : Int64) (S : jM) : Option (Int32 × jM) := if (f_X5_order t0) < (f_X5_order v3) then f_X3_extreme_128 v1 v3 t0 v0 (0 : Int32) S else f_X3_extreme_128 v1 v3 t0 v0 (1 : Int32) S
noncomputable def f_X3_extreme_88 (v0 : Int32) (v1 : Nat) (v2 : Nat) (v5 : Int64) (t0 : Int64) (S : jM) : Option (Int32 × jM) := if jK v2 = 7 then if (jI S 52 v2) = (1 : Int32) then f_X3_extreme_107 v0 v1 t0 v5 S else (f_X5_nearest v5).bind (fun x12 => f_X3_extreme_107 v0 v1 t0 x12 S) else none
noncomputable def f_X3_extreme_72 (v0 : Int32) (v1 : Nat) (v2 : Nat) (v3 : Int64) (v5 : Int64) (S : jM) : Option (Int32 × jM) := if jK v1 = 7 then if (jI S 52 v1) = (1 : Int32) then f_X3_extreme_88 v0 v1 v2 v5 v3 S else (f_X5_nearest v3).bind (fun x16 => f_X3_extreme_88 v0 v1 v2 v5 x16 S) else none
noncomputable def f_X3_extreme_69 (t0 : Nat) (t1 : Int32) (t2 : Int64) (S : jM) : Option (Int32 × jM) := if jA t0 14 t1 = true then jlet (jrL S t0 (vp_updL (jAL S t0) (t1).toNatClampNeg t2)) (fun S19 => some ((0 : Int32), S19)) else none
noncomputable def f_X3_extreme (v0 : Int32) (v1 : Nat) (v2 : Nat) (S : jM) : Option (Int32 × jM) := if jK v1 = 7 then (f_X9_isNumber v1 S).bind (fun x20 => if x20 = 0 then some ((2 : Int32), S) else if jK v2 = 7 then (f_X9_isNumber v2 S).bind (fun x24 => if x24 = 0 then some ((2 : Int32), S) else (jR S 54 v1).bind (fun r28 => if jA r28 14 (0 : Int32) = true then jlet (jAL S r28 ((0 : Int32)).toNatClampNeg) (fun x31 => (jR S 54 v2).bind (fun r32 => if jA r32 14 (0 : Int32) = true then jlet (jAL S r32 ((0 : Int32)).toNatClampNeg) (fun x35 => if (jI S 52 v1) = 0 then if (jI S 52 v2) = 0 then (jR S 54 v1).bind (fun r38 => if v0 = 0 then f_X3_extreme_69 r38 (0 : Int32) (if x35 < x31 then x31 else x35) S else f_X3_extreme_69 r38 (0 : Int32) (if x35 < x31 then x35 else x31) S) else f_X3_extreme_72 v0 v1 v2 x31 x35 S else f_X3_extreme_72 v0 v1 v2 x31 x35 S) else none)) else none)) else none) else none
set_option maxRecDepth 100000 in
set_option maxHeartbeats 4000000 in
theorem B_X3_extreme_172 {p : Program} {l : Launch} {e : Env} {s : State} {m : MethodId} {args : Array Value} {below : List Frame} {meth : Method} {c : Code} {g : jG} {rr : Int32} {SS : jM} {t0 : Nat} {t1 : Int32} {t2 : Int64} {S : jM} (E : jEnv p s m args meth c cX3_extreme "PensionHouse$Ops" (some .int) 8 g)  {H : Heap} {locs : List Loc} {ls : Array Slot} (hf : f_X3_extreme_172 t0 t1 t2 S = some (rr, SS)) (hM : jAt g S s H locs) (hl : lv_has ls 8 []) : W p l e (jRm 3 0 0) s m args below meth c H locs 0 0 (MQ below (jQi g rr SS) args s 0 0 (jA0 g)) (F0 m 172 ls [.long t2, .int t1, .ref (g.2.2 + t0)]) := by
  obtain ⟨hx, hb, hml, -, hts, hown, hK, -, hstr⟩ := id E
  unfold f_X3_extreme_172 at hf
  obtain ⟨hq3, hf⟩ := jif hf
  obtain ⟨S1, hc2, hf⟩ := jb hf
  refine jbackV hM (jrunV E hM ci_X9_setNumber (C_X9_setNumber hc2) lk_5_12 hq3 (by decide) rfl hl.1 rfl rfl (Nat.le_of_ble_eq_true rfl) ⟨Nat.le_of_ble_eq_true rfl, Nat.le_of_ble_eq_true rfl⟩ ⟨Nat.le_refl _, Nat.le_refl _⟩ dX3_extreme_172) (fun H locs hM => ?_)
  refine lv_iconst (v := (0 : Int32)) hx hb dX3_extreme_175 (by decide) ?_
  exact jireti (jr2 hf) E hM dX3_extreme_176
set_option maxRecDepth 100000 in
set_option maxHeartbeats 4000000 in
theorem B_X3_extreme_159 {p : Program} {l : Launch} {e : Env} {s : State} {m : MethodId} {args : Array Value} {below : List Frame} {meth : Method} {c : Code} {g : jG} {rr : Int32} {SS : jM} {v1 : Nat} {v3 : Int64} {v5 : Int64} {v7 : Int32} {S : jM} (E : jEnv p s m args meth c cX3_extreme "PensionHouse$Ops" (some .int) 8 g)  {H : Heap} {locs : List Loc} {ls : Array Slot} (hf : f_X3_extreme_159 v1 v3 v5 v7 S = some (rr, SS)) (hM : jAt g S s H locs) (hl : lv_has ls 8 [(1, .ref (g.2.2 + v1)), (3, .long v3), (5, .long v5), (7, .int v7)]) : W p l e (jRm 3 0 0) s m args below meth c H locs 0 0 (MQ below (jQi g rr SS) args s 0 0 (jA0 g)) (F0 m 159 ls []) := by
  obtain ⟨hx, hb, hml, -, hts, hown, hK, -, hstr⟩ := id E
  unfold f_X3_extreme_159 at hf
  refine lv_aload_n hx hb dX3_extreme_159 rfl (lv_at hl 0 rfl) ?_
  refine lv_iconst (v := (1 : Int32)) hx hb dX3_extreme_160 (by decide) ?_
  refine lv_iload hx hb dX3_extreme_161 (lv_at hl 3 rfl) ?_
  refine lv_if_eq (tgt := 170) hx hb dX3_extreme_163 (by decide) (fun c4 => ?_) (fun c4 => ?_)
  · have hf := jt c4 hf
    refine lv_lload hx hb dX3_extreme_170 (lv_at hl 2 rfl) ?_
    exact B_X3_extreme_172 E  hf hM (lv_sub hl [] rfl)
  · have hf := jf c4 hf
    refine lv_lload_n hx hb dX3_extreme_166 rfl (lv_at hl 1 rfl) ?_
    refine lv_goto (tgt := 172) hx hb dX3_extreme_167 (by decide) ?_
    exact B_X3_extreme_172 E  hf hM (lv_sub hl [] rfl)
set_option maxRecDepth 100000 in
set_option maxHeartbeats 4000000 in
theorem B_X3_extreme_153 {p : Program} {l : Launch} {e : Env} {s : State} {m : MethodId} {args : Array Value} {below : List Frame} {meth : Method} {c : Code} {g : jG} {rr : Int32} {SS : jM} {v1 : Nat} {v3 : Int64} {v5 : Int64} {S : jM} (E : jEnv p s m args meth c cX3_extreme "PensionHouse$Ops" (some .int) 8 g)  {H : Heap} {locs : List Loc} {ls : Array Slot} (hf : f_X3_extreme_153 v1 v3 v5 S = some (rr, SS)) (hM : jAt g S s H locs) (hl : lv_has ls 8 [(1, .ref (g.2.2 + v1)), (3, .long v3), (5, .long v5)]) : W p l e (jRm 3 0 0) s m args below meth c H locs 0 0 (MQ below (jQi g rr SS) args s 0 0 (jA0 g)) (F0 m 153 ls []) := by
  obtain ⟨hx, hb, hml, -, hts, hown, hK, -, hstr⟩ := id E
  unfold f_X3_extreme_153 at hf
  refine lv_lload_n hx hb dX3_extreme_153 rfl (lv_at hl 1 rfl) ?_
  refine jbackI hM (jrunS E hM ci_X5_isNot (C_X5_isNot rfl) lk_5_112 hl.1 rfl rfl (Nat.le_of_ble_eq_true rfl) ⟨Nat.le_of_ble_eq_true rfl, Nat.le_of_ble_eq_true rfl⟩ ⟨Nat.le_refl _, Nat.le_refl _⟩ dX3_extreme_154) (fun H locs hM => ?_)
  refine lv_topi (fun x5 ex5 => ?_)
  have hf := jlet_y ex5 hf
  refine lv_istore (lv' := [(7, .int x5), (1, .ref (g.2.2 + v1)), (3, .long v3), (5, .long v5)]) hx hb dX3_extreme_157 hl (by decide) rfl (fun ls hl => ?_)
  exact B_X3_extreme_159 E  hf hM (lv_sub hl [1, 2, 3, 0] rfl)
set_option maxRecDepth 100000 in
set_option maxHeartbeats 4000000 in
theorem B_X3_extreme_136 {p : Program} {l : Launch} {e : Env} {s : State} {m : MethodId} {args : Array Value} {below : List Frame} {meth : Method} {c : Code} {g : jG} {rr : Int32} {SS : jM} {v1 : Nat} {v3 : Int64} {v5 : Int64} {t0 : Int32} {S : jM} (E : jEnv p s m args meth c cX3_extreme "PensionHouse$Ops" (some .int) 8 g)  {H : Heap} {locs : List Loc} {ls : Array Slot} (hf : f_X3_extreme_136 v1 v3 v5 t0 S = some (rr, SS)) (hM : jAt g S s H locs) (hl : lv_has ls 8 [(1, .ref (g.2.2 + v1)), (3, .long v3), (5, .long v5)]) : W p l e (jRm 3 0 0) s m args below meth c H locs 0 0 (MQ below (jQi g rr SS) args s 0 0 (jA0 g)) (F0 m 136 ls [.int t0]) := by
  obtain ⟨hx, hb, hml, -, hts, hown, hK, -, hstr⟩ := id E
  unfold f_X3_extreme_136 at hf
  refine lv_istore (lv' := [(7, .int t0), (1, .ref (g.2.2 + v1)), (3, .long v3), (5, .long v5)]) hx hb dX3_extreme_136 hl (by decide) rfl (fun ls hl => ?_)
  refine lv_lload_n hx hb dX3_extreme_138 rfl (lv_at hl 2 rfl) ?_
  refine jbackI hM (jrunS E hM ci_X5_isNot (C_X5_isNot rfl) lk_5_112 hl.1 rfl rfl (Nat.le_of_ble_eq_true rfl) ⟨Nat.le_of_ble_eq_true rfl, Nat.le_of_ble_eq_true rfl⟩ ⟨Nat.le_refl _, Nat.le_refl _⟩ dX3_extreme_139) (fun H locs hM => ?_)
  refine lv_if_ne (tgt := 153) hx hb dX3_extreme_142 (by decide) (fun c6 => ?_) (fun c6 => ?_)
  · have hf := jf c6 hf
    exact B_X3_extreme_153 E  hf hM (lv_sub hl [1, 2, 3] rfl)
  · have hf := jt c6 hf
    refine lv_lload hx hb dX3_extreme_145 (lv_at hl 3 rfl) ?_
    refine jbackI hM (jrunS E hM ci_X5_isNot (C_X5_isNot rfl) lk_5_112 hl.1 rfl rfl (Nat.le_of_ble_eq_true rfl) ⟨Nat.le_of_ble_eq_true rfl, Nat.le_of_ble_eq_true rfl⟩ ⟨Nat.le_refl _, Nat.le_refl _⟩ dX3_extreme_147) (fun H locs hM => ?_)
    refine lv_if_eq (tgt := 159) hx hb dX3_extreme_150 (by decide) (fun c7 => ?_) (fun c7 => ?_)
    · have hf := jt c7 hf
      exact B_X3_extreme_159 E  hf hM (lv_sub hl [1, 2, 3, 0] rfl)
    · have hf := jf c7 hf
      exact B_X3_extreme_153 E  hf hM (lv_sub hl [1, 2, 3] rfl)
set_option maxRecDepth 100000 in
set_option maxHeartbeats 4000000 in
theorem B_X3_extreme_128 {p : Program} {l : Launch} {e : Env} {s : State} {m : MethodId} {args : Array Value} {below : List Frame} {meth : Method} {c : Code} {g : jG} {rr : Int32} {SS : jM} {v1 : Nat} {v3 : Int64} {v5 : Int64} {t0 : Int32} {t1 : Int32} {S : jM} (E : jEnv p s m args meth c cX3_extreme "PensionHouse$Ops" (some .int) 8 g)  {H : Heap} {locs : List Loc} {ls : Array Slot} (hf : f_X3_extreme_128 v1 v3 v5 t0 t1 S = some (rr, SS)) (hM : jAt g S s H locs) (hl : lv_has ls 8 [(1, .ref (g.2.2 + v1)), (3, .long v3), (5, .long v5)]) : W p l e (jRm 3 0 0) s m args below meth c H locs 0 0 (MQ below (jQi g rr SS) args s 0 0 (jA0 g)) (F0 m 128 ls [.int t1, .int t0]) := by
  obtain ⟨hx, hb, hml, -, hts, hown, hK, -, hstr⟩ := id E
  unfold f_X3_extreme_128 at hf
  refine lv_icmp_ne (tgt := 135) hx hb dX3_extreme_128 (by decide) (fun c8 => ?_) (fun c8 => ?_)
  · have hf := jf c8 hf
    refine lv_iconst (v := (0 : Int32)) hx hb dX3_extreme_135 (by decide) ?_
    exact B_X3_extreme_136 E  hf hM (lv_sub hl [0, 1, 2] rfl)
  · have hf := jt c8 hf
    refine lv_iconst (v := (1 : Int32)) hx hb dX3_extreme_131 (by decide) ?_
    refine lv_goto (tgt := 136) hx hb dX3_extreme_132 (by decide) ?_
    exact B_X3_extreme_136 E  hf hM (lv_sub hl [0, 1, 2] rfl)
set_option maxRecDepth 100000 in
set_option maxHeartbeats 4000000 in
theorem B_X3_extreme_107 {p : Program} {l : Launch} {e : Env} {s : State} {m : MethodId} {args : Array Value} {below : List Frame} {meth : Method} {c : Code} {g : jG} {rr : Int32} {SS : jM} {v0 : Int32} {v1 : Nat} {v3 : Int64} {t0 : Int64} {S : jM} (E : jEnv p s m args meth c cX3_extreme "PensionHouse$Ops" (some .int) 8 g)  {H : Heap} {locs : List Loc} {ls : Array Slot} (hf : f_X3_extreme_107 v0 v1 v3 t0 S = some (rr, SS)) (hM : jAt g S s H locs) (hl : lv_has ls 8 [(0, .int v0), (1, .ref (g.2.2 + v1)), (3, .long v3)]) : W p l e (jRm 3 0 0) s m args below meth c H locs 0 0 (MQ below (jQi g rr SS) args s 0 0 (jA0 g)) (F0 m 107 ls [.long t0]) := by
  obtain ⟨hx, hb, hml, -, hts, hown, hK, -, hstr⟩ := id E
  unfold f_X3_extreme_107 at hf
  refine lv_lstore (lv' := [(5, .long t0), (0, .int v0), (1, .ref (g.2.2 + v1)), (3, .long v3)]) hx hb dX3_extreme_107 hl (by decide) rfl (fun ls hl => ?_)
  refine lv_iload_n hx hb dX3_extreme_109 rfl (lv_at hl 1 rfl) ?_
  refine lv_lload_n hx hb dX3_extreme_110 rfl (lv_at hl 3 rfl) ?_
  refine jbackL hM (jrunS E hM ci_X5_order (C_X5_order rfl) lk_5_86 hl.1 rfl rfl (Nat.le_of_ble_eq_true rfl) ⟨Nat.le_of_ble_eq_true rfl, Nat.le_of_ble_eq_true rfl⟩ ⟨Nat.le_refl _, Nat.le_refl _⟩ dX3_extreme_111) (fun H locs hM => ?_)
  refine lv_lload hx hb dX3_extreme_114 (lv_at hl 0 rfl) ?_
  refine jbackL hM (jrunS E hM ci_X5_order (C_X5_order rfl) lk_5_86 hl.1 rfl rfl (Nat.le_of_ble_eq_true rfl) ⟨Nat.le_of_ble_eq_true rfl, Nat.le_of_ble_eq_true rfl⟩ ⟨Nat.le_refl _, Nat.le_refl _⟩ dX3_extreme_116) (fun H locs hM => ?_)
  refine jl_gt (tgt := 127) hx hb dX3_extreme_119 dX3_extreme_120 (by decide) (fun c9 => ?_) (fun c9 => ?_)
  · have hf := jt c9 hf
    refine lv_iconst (v := (0 : Int32)) hx hb dX3_extreme_127 (by decide) ?_
    exact B_X3_extreme_128 E  hf hM (lv_sub hl [2, 3, 0] rfl)
  · have hf := jf c9 hf
    refine lv_iconst (v := (1 : Int32)) hx hb dX3_extreme_123 (by decide) ?_
    refine lv_goto (tgt := 128) hx hb dX3_extreme_124 (by decide) ?_
    exact B_X3_extreme_128 E  hf hM (lv_sub hl [2, 3, 0] rfl)
set_option maxRecDepth 100000 in
set_option maxHeartbeats 4000000 in
theorem B_X3_extreme_88 {p : Program} {l : Launch} {e : Env} {s : State} {m : MethodId} {args : Array Value} {below : List Frame} {meth : Method} {c : Code} {g : jG} {rr : Int32} {SS : jM} {v0 : Int32} {v1 : Nat} {v2 : Nat} {v5 : Int64} {t0 : Int64} {S : jM} (E : jEnv p s m args meth c cX3_extreme "PensionHouse$Ops" (some .int) 8 g)  {H : Heap} {locs : List Loc} {ls : Array Slot} (hf : f_X3_extreme_88 v0 v1 v2 v5 t0 S = some (rr, SS)) (hM : jAt g S s H locs) (hl : lv_has ls 8 [(0, .int v0), (1, .ref (g.2.2 + v1)), (2, .ref (g.2.2 + v2)), (5, .long v5)]) : W p l e (jRm 3 0 0) s m args below meth c H locs 0 0 (MQ below (jQi g rr SS) args s 0 0 (jA0 g)) (F0 m 88 ls [.long t0]) := by
  obtain ⟨hx, hb, hml, -, hts, hown, hK, -, hstr⟩ := id E
  unfold f_X3_extreme_88 at hf
  refine lv_lstore_n (lv' := [(3, .long t0), (0, .int v0), (1, .ref (g.2.2 + v1)), (2, .ref (g.2.2 + v2)), (5, .long v5)]) hx hb dX3_extreme_88 rfl hl (by decide) rfl (fun ls hl => ?_)
  refine lv_aload_n hx hb dX3_extreme_89 rfl (lv_at hl 3 rfl) ?_
  obtain ⟨hq10, hf⟩ := jif hf
  refine gt_52 E hM hq10 lk_1_50 dX3_extreme_90 ?_
  refine lv_iconst (v := (1 : Int32)) hx hb dX3_extreme_93 (by decide) ?_
  refine lv_icmp_ne (tgt := 102) hx hb dX3_extreme_94 (by decide) (fun c11 => ?_) (fun c11 => ?_)
  · have hf := jf c11 hf
    refine lv_lload hx hb dX3_extreme_102 (lv_at hl 4 rfl) ?_
    obtain ⟨x12, hc13, hf⟩ := jb hf
    refine jbackL hM (jrunS E hM ci_X5_nearest (C_X5_nearest hc13) lk_5_8 hl.1 rfl rfl (Nat.le_of_ble_eq_true rfl) ⟨Nat.le_of_ble_eq_true rfl, Nat.le_of_ble_eq_true rfl⟩ ⟨Nat.le_refl _, Nat.le_refl _⟩ dX3_extreme_104) (fun H locs hM => ?_)
    exact B_X3_extreme_107 E  hf hM (lv_sub hl [1, 2, 0] rfl)
  · have hf := jt c11 hf
    refine lv_lload hx hb dX3_extreme_97 (lv_at hl 4 rfl) ?_
    refine lv_goto (tgt := 107) hx hb dX3_extreme_99 (by decide) ?_
    exact B_X3_extreme_107 E  hf hM (lv_sub hl [1, 2, 0] rfl)
set_option maxRecDepth 100000 in
set_option maxHeartbeats 4000000 in
theorem B_X3_extreme_72 {p : Program} {l : Launch} {e : Env} {s : State} {m : MethodId} {args : Array Value} {below : List Frame} {meth : Method} {c : Code} {g : jG} {rr : Int32} {SS : jM} {v0 : Int32} {v1 : Nat} {v2 : Nat} {v3 : Int64} {v5 : Int64} {S : jM} (E : jEnv p s m args meth c cX3_extreme "PensionHouse$Ops" (some .int) 8 g)  {H : Heap} {locs : List Loc} {ls : Array Slot} (hf : f_X3_extreme_72 v0 v1 v2 v3 v5 S = some (rr, SS)) (hM : jAt g S s H locs) (hl : lv_has ls 8 [(0, .int v0), (1, .ref (g.2.2 + v1)), (2, .ref (g.2.2 + v2)), (3, .long v3), (5, .long v5)]) : W p l e (jRm 3 0 0) s m args below meth c H locs 0 0 (MQ below (jQi g rr SS) args s 0 0 (jA0 g)) (F0 m 72 ls []) := by
  obtain ⟨hx, hb, hml, -, hts, hown, hK, -, hstr⟩ := id E
  unfold f_X3_extreme_72 at hf
  refine lv_aload_n hx hb dX3_extreme_72 rfl (lv_at hl 1 rfl) ?_
  obtain ⟨hq14, hf⟩ := jif hf
  refine gt_52 E hM hq14 lk_1_50 dX3_extreme_73 ?_
  refine lv_iconst (v := (1 : Int32)) hx hb dX3_extreme_76 (by decide) ?_
  refine lv_icmp_ne (tgt := 84) hx hb dX3_extreme_77 (by decide) (fun c15 => ?_) (fun c15 => ?_)
  · have hf := jf c15 hf
    refine lv_lload_n hx hb dX3_extreme_84 rfl (lv_at hl 3 rfl) ?_
    obtain ⟨x16, hc17, hf⟩ := jb hf
    refine jbackL hM (jrunS E hM ci_X5_nearest (C_X5_nearest hc17) lk_5_8 hl.1 rfl rfl (Nat.le_of_ble_eq_true rfl) ⟨Nat.le_of_ble_eq_true rfl, Nat.le_of_ble_eq_true rfl⟩ ⟨Nat.le_refl _, Nat.le_refl _⟩ dX3_extreme_85) (fun H locs hM => ?_)
    exact B_X3_extreme_88 E  hf hM (lv_sub hl [0, 1, 2, 4] rfl)
  · have hf := jt c15 hf
    refine lv_lload_n hx hb dX3_extreme_80 rfl (lv_at hl 3 rfl) ?_
    refine lv_goto (tgt := 88) hx hb dX3_extreme_81 (by decide) ?_
    exact B_X3_extreme_88 E  hf hM (lv_sub hl [0, 1, 2, 4] rfl)
set_option maxRecDepth 100000 in
set_option maxHeartbeats 4000000 in
theorem B_X3_extreme_69 {p : Program} {l : Launch} {e : Env} {s : State} {m : MethodId} {args : Array Value} {below : List Frame} {meth : Method} {c : Code} {g : jG} {rr : Int32} {SS : jM} {t0 : Nat} {t1 : Int32} {t2 : Int64} {S : jM} (E : jEnv p s m args meth c cX3_extreme "PensionHouse$Ops" (some .int) 8 g)  {H : Heap} {locs : List Loc} {ls : Array Slot} (hf : f_X3_extreme_69 t0 t1 t2 S = some (rr, SS)) (hM : jAt g S s H locs) (hl : lv_has ls 8 []) : W p l e (jRm 3 0 0) s m args below meth c H locs 0 0 (MQ below (jQi g rr SS) args s 0 0 (jA0 g)) (F0 m 69 ls [.long t2, .int t1, .ref (g.2.2 + t0)]) := by
  obtain ⟨hx, hb, hml, -, hts, hown, hK, -, hstr⟩ := id E
  unfold f_X3_extreme_69 at hf
  obtain ⟨ha18, hf⟩ := jif hf
  refine jlast E hM ha18 dX3_extreme_69 (fun H locs S19 eS19 hM => ?_)
  have hf := jlet_y eS19 hf
  refine lv_iconst (v := (0 : Int32)) hx hb dX3_extreme_70 (by decide) ?_
  exact jireti (jr2 hf) E hM dX3_extreme_71
set_option maxRecDepth 100000 in
set_option maxHeartbeats 4000000 in
theorem B_X3_extreme_0 {p : Program} {l : Launch} {e : Env} {s : State} {m : MethodId} {args : Array Value} {below : List Frame} {meth : Method} {c : Code} {g : jG} {rr : Int32} {SS : jM} {v0 : Int32} {v1 : Nat} {v2 : Nat} {S : jM} (E : jEnv p s m args meth c cX3_extreme "PensionHouse$Ops" (some .int) 8 g)  {H : Heap} {locs : List Loc} {ls : Array Slot} (hf : f_X3_extreme v0 v1 v2 S = some (rr, SS)) (hM : jAt g S s H locs) (hl : lv_has ls 8 [(0, .int v0), (1, .ref (g.2.2 + v1)), (2, .ref (g.2.2 + v2))]) : W p l e (jRm 3 0 0) s m args below meth c H locs 0 0 (MQ below (jQi g rr SS) args s 0 0 (jA0 g)) (F0 m 0 ls []) := by
  obtain ⟨hx, hb, hml, -, hts, hown, hK, -, hstr⟩ := id E
  unfold f_X3_extreme at hf
  refine lv_aload_n hx hb dX3_extreme_0 rfl (lv_at hl 1 rfl) ?_
  obtain ⟨hq22, hf⟩ := jif hf
  obtain ⟨x20, hc21, hf⟩ := jb hf
  refine jbackI hM (jrunV E hM ci_X9_isNumber (C_X9_isNumber hc21) lk_4_239 hq22 (by decide) rfl hl.1 rfl rfl (Nat.le_of_ble_eq_true rfl) ⟨Nat.le_of_ble_eq_true rfl, Nat.le_of_ble_eq_true rfl⟩ ⟨Nat.le_refl _, Nat.le_refl _⟩ dX3_extreme_1) (fun H locs hM => ?_)
  refine lv_if_eq (tgt := 14) hx hb dX3_extreme_4 (by decide) (fun c23 => ?_) (fun c23 => ?_)
  · have hf := jt c23 hf
    refine lv_iconst (v := (2 : Int32)) hx hb dX3_extreme_14 (by decide) ?_
    exact jireti (jr2 hf) E hM dX3_extreme_15
  · have hf := jf c23 hf
    refine lv_aload_n hx hb dX3_extreme_7 rfl (lv_at hl 2 rfl) ?_
    obtain ⟨hq26, hf⟩ := jif hf
    obtain ⟨x24, hc25, hf⟩ := jb hf
    refine jbackI hM (jrunV E hM ci_X9_isNumber (C_X9_isNumber hc25) lk_4_239 hq26 (by decide) rfl hl.1 rfl rfl (Nat.le_of_ble_eq_true rfl) ⟨Nat.le_of_ble_eq_true rfl, Nat.le_of_ble_eq_true rfl⟩ ⟨Nat.le_refl _, Nat.le_refl _⟩ dX3_extreme_8) (fun H locs hM => ?_)
    refine lv_if_ne (tgt := 16) hx hb dX3_extreme_11 (by decide) (fun c27 => ?_) (fun c27 => ?_)
    · have hf := jf c27 hf
      refine lv_aload_n hx hb dX3_extreme_16 rfl (lv_at hl 1 rfl) ?_
      refine gt_54 E hM hq22 lk_1_58 dX3_extreme_17 ?_
      obtain ⟨r28, hr29, hf⟩ := jb hf
      rw [hr29]
      show W p l e _ s m args below meth c H locs 0 0 _ (F0 m _ ls (.ref (g.2.2 + r28) :: _))
      refine lv_iconst (v := (0 : Int32)) hx hb dX3_extreme_20 (by decide) ?_
      obtain ⟨ha30, hf⟩ := jif hf
      refine jlald E hM ha30 dX3_extreme_21 ?_
      refine lv_topl (fun x31 ex31 => ?_)
      have hf := jlet_y ex31 hf
      refine lv_lstore_n (lv' := [(3, .long x31), (0, .int v0), (1, .ref (g.2.2 + v1)), (2, .ref (g.2.2 + v2))]) hx hb dX3_extreme_22 rfl hl (by decide) rfl (fun ls hl => ?_)
      refine lv_aload_n hx hb dX3_extreme_23 rfl (lv_at hl 3 rfl) ?_
      refine gt_54 E hM hq26 lk_1_58 dX3_extreme_24 ?_
      obtain ⟨r32, hr33, hf⟩ := jb hf
      rw [hr33]
      show W p l e _ s m args below meth c H locs 0 0 _ (F0 m _ ls (.ref (g.2.2 + r32) :: _))
      refine lv_iconst (v := (0 : Int32)) hx hb dX3_extreme_27 (by decide) ?_
      obtain ⟨ha34, hf⟩ := jif hf
      refine jlald E hM ha34 dX3_extreme_28 ?_
      refine lv_topl (fun x35 ex35 => ?_)
      have hf := jlet_y ex35 hf
      refine lv_lstore (lv' := [(5, .long x35), (3, .long x31), (0, .int v0), (1, .ref (g.2.2 + v1)), (2, .ref (g.2.2 + v2))]) hx hb dX3_extreme_29 hl (by decide) rfl (fun ls hl => ?_)
      refine lv_aload_n hx hb dX3_extreme_31 rfl (lv_at hl 3 rfl) ?_
      refine gt_52 E hM hq22 lk_1_50 dX3_extreme_32 ?_
      refine lv_if_ne (tgt := 72) hx hb dX3_extreme_35 (by decide) (fun c36 => ?_) (fun c36 => ?_)
      · have hf := jf c36 hf
        exact B_X3_extreme_72 E  hf hM (lv_sub hl [2, 3, 4, 1, 0] rfl)
      · have hf := jt c36 hf
        refine lv_aload_n hx hb dX3_extreme_38 rfl (lv_at hl 4 rfl) ?_
        refine gt_52 E hM hq26 lk_1_50 dX3_extreme_39 ?_
        refine lv_if_ne (tgt := 72) hx hb dX3_extreme_42 (by decide) (fun c37 => ?_) (fun c37 => ?_)
        · have hf := jf c37 hf
          exact B_X3_extreme_72 E  hf hM (lv_sub hl [2, 3, 4, 1, 0] rfl)
        · have hf := jt c37 hf
          refine lv_aload_n hx hb dX3_extreme_45 rfl (lv_at hl 3 rfl) ?_
          refine gt_54 E hM hq22 lk_1_58 dX3_extreme_46 ?_
          obtain ⟨r38, hr39, hf⟩ := jb hf
          rw [hr39]
          show W p l e _ s m args below meth c H locs 0 0 _ (F0 m _ ls (.ref (g.2.2 + r38) :: _))
          refine lv_iconst (v := (0 : Int32)) hx hb dX3_extreme_49 (by decide) ?_
          refine lv_iload_n hx hb dX3_extreme_50 rfl (lv_at hl 2 rfl) ?_
          refine lv_if_eq (tgt := 63) hx hb dX3_extreme_51 (by decide) (fun c40 => ?_) (fun c40 => ?_)
          · have hf := jt c40 hf
            refine lv_lload_n hx hb dX3_extreme_63 rfl (lv_at hl 1 rfl) ?_
            refine lv_lload hx hb dX3_extreme_64 (lv_at hl 0 rfl) ?_
            refine va_mmax_long hx hb (by rw [hml, hl.1]) hown (hts _ lk_5_109) (hts _ lk_5_110) (hts _ lk_1_18) (hts _ lk_5_111) (Nat.le_of_ble_eq_true rfl) (Nat.le_of_ble_eq_true rfl) (Nat.le_refl _) (Nat.le_refl _) dX3_extreme_66 ?_
            exact B_X3_extreme_69 E  hf hM (lv_sub hl [] rfl)
          · have hf := jf c40 hf
            refine lv_lload_n hx hb dX3_extreme_54 rfl (lv_at hl 1 rfl) ?_
            refine lv_lload hx hb dX3_extreme_55 (lv_at hl 0 rfl) ?_
            refine va_mmin_long hx hb (by rw [hml, hl.1]) hown (hts _ lk_5_106) (hts _ lk_5_107) (hts _ lk_1_18) (hts _ lk_5_108) (Nat.le_of_ble_eq_true rfl) (Nat.le_of_ble_eq_true rfl) (Nat.le_refl _) (Nat.le_refl _) dX3_extreme_57 ?_
            refine lv_goto (tgt := 69) hx hb dX3_extreme_60 (by decide) ?_
            exact B_X3_extreme_69 E  hf hM (lv_sub hl [] rfl)
    · have hf := jt c27 hf
      refine lv_iconst (v := (2 : Int32)) hx hb dX3_extreme_14 (by decide) ?_
      exact jireti (jr2 hf) E hM dX3_extreme_15
set_option maxRecDepth 100000 in
theorem C_X3_extreme {l : Launch} {g : jG} {a0 : Int32} {a1 : Nat} {a2 : Nat} {S : jM} {rr : Int32} {SS : jM} (hf : f_X3_extreme a0 a1 a2 S = some (rr, SS)) : jMet l g yX3_extreme cX3_extreme 8 (some .int) 3 0 0 [.int a0, .ref (g.2.2 + a1), .ref (g.2.2 + a2)] S (jQi g rr SS) := by
  refine jof (by decide +kernel) (Nat.le_of_ble_eq_true rfl) ?_
  intro p e s m below meth c E hM ls hl
  have hl : lv_has ls 8 [(0, .int a0),(1, .ref (g.2.2 + a1)),(2, .ref (g.2.2 + a2))] := hl
  exact B_X3_extreme_0 E hf hM hl
-- PensionHouse$Ops.tells(IJJ)Z  mode T
noncomputable def f_X3_tells (v0 : Int32) (v1 : Int64) (v3 : Int64) : Int32 := if v0 = (9 : Int32) then if v3 < v1 then (0 : Int32) else (1 : Int32) else if v0 = (60 : Int32) then if v3 ≤ v1 then (0 : Int32) else (1 : Int32) else if v0 = (61 : Int32) then if v1 = v3 then (1 : Int32) else (0 : Int32) else if v1 = v3 then (0 : Int32) else (1 : Int32)
set_option maxRecDepth 100000 in
set_option maxHeartbeats 4000000 in
theorem B_X3_tells_0 {p : Program} {l : Launch} {e : Env} {s : State} {m : MethodId} {args : Array Value} {below : List Frame} {meth : Method} {c : Code} {g : jG} {rr : Int32} {S : jM} {v0 : Int32} {v1 : Int64} {v3 : Int64} (E : jEnv p s m args meth c cX3_tells "PensionHouse$Ops" (some .boolean) 5 g)  {H : Heap} {locs : List Loc} {ls : Array Slot} (hf : f_X3_tells v0 v1 v3 = rr) (hM : jAt g S s H locs) (hl : lv_has ls 5 [(0, .int v0), (1, .long v1), (3, .long v3)]) : W p l e (jRm 1 0 0) s m args below meth c H locs 0 0 (MQ below (jQi g rr S) args s 0 0 (jA0 g)) (F0 m 0 ls []) := by
  obtain ⟨hx, hb, hml, -, hts, hown, hK, -, hstr⟩ := id E
  unfold f_X3_tells at hf
  refine lv_iload_n hx hb dX3_tells_0 rfl (lv_at hl 0 rfl) ?_
  by_cases c2 : v0 = (9 : Int32)
  · have hf := jt c2 hf
    refine lv_lookup (off := 47) (tgt := 48) hx hb dX3_tells_1 (by decide) (by rw [c2]; rfl) (by decide) ?_
    refine lv_lload_n hx hb dX3_tells_48 rfl (lv_at hl 1 rfl) ?_
    refine lv_lload_n hx hb dX3_tells_49 rfl (lv_at hl 2 rfl) ?_
    refine jl_gt (tgt := 58) hx hb dX3_tells_50 dX3_tells_51 (by decide) (fun c1 => ?_) (fun c1 => ?_)
    · have hf := jt c1 hf
      refine lv_iconst (v := (0 : Int32)) hx hb dX3_tells_58 (by decide) ?_
      exact jiretz (jr0 hf) E hM (by decide) dX3_tells_59
    · have hf := jf c1 hf
      refine lv_iconst (v := (1 : Int32)) hx hb dX3_tells_54 (by decide) ?_
      refine lv_goto (tgt := 59) hx hb dX3_tells_55 (by decide) ?_
      exact jiretz (jr0 hf) E hM (by decide) dX3_tells_59
  have hf := jf c2 hf
  by_cases c4 : v0 = (60 : Int32)
  · have hf := jt c4 hf
    refine lv_lookup (off := 35) (tgt := 36) hx hb dX3_tells_1 (by decide) (by rw [c4]; rfl) (by decide) ?_
    refine lv_lload_n hx hb dX3_tells_36 rfl (lv_at hl 1 rfl) ?_
    refine lv_lload_n hx hb dX3_tells_37 rfl (lv_at hl 2 rfl) ?_
    refine jl_ge (tgt := 46) hx hb dX3_tells_38 dX3_tells_39 (by decide) (fun c3 => ?_) (fun c3 => ?_)
    · have hf := jt c3 hf
      refine lv_iconst (v := (0 : Int32)) hx hb dX3_tells_46 (by decide) ?_
      exact jiretz (jr0 hf) E hM (by decide) dX3_tells_47
    · have hf := jf c3 hf
      refine lv_iconst (v := (1 : Int32)) hx hb dX3_tells_42 (by decide) ?_
      refine lv_goto (tgt := 47) hx hb dX3_tells_43 (by decide) ?_
      exact jiretz (jr0 hf) E hM (by decide) dX3_tells_47
  have hf := jf c4 hf
  by_cases c6 : v0 = (61 : Int32)
  · have hf := jt c6 hf
    refine lv_lookup (off := 59) (tgt := 60) hx hb dX3_tells_1 (by decide) (by rw [c6]; rfl) (by decide) ?_
    refine lv_lload_n hx hb dX3_tells_60 rfl (lv_at hl 1 rfl) ?_
    refine lv_lload_n hx hb dX3_tells_61 rfl (lv_at hl 2 rfl) ?_
    refine jl_ne (tgt := 70) hx hb dX3_tells_62 dX3_tells_63 (by decide) (fun c5 => ?_) (fun c5 => ?_)
    · have hf := jf c5 hf
      refine lv_iconst (v := (0 : Int32)) hx hb dX3_tells_70 (by decide) ?_
      exact jiretz (jr0 hf) E hM (by decide) dX3_tells_71
    · have hf := jt c5 hf
      refine lv_iconst (v := (1 : Int32)) hx hb dX3_tells_66 (by decide) ?_
      refine lv_goto (tgt := 71) hx hb dX3_tells_67 (by decide) ?_
      exact jiretz (jr0 hf) E hM (by decide) dX3_tells_71
  have hf := jf c6 hf
  refine jlookD (tgt := 72) hx hb dX3_tells_1 (by decide) (by decide) (List.forall_mem_cons.mpr ⟨jne (k := 9) c2 rfl, List.forall_mem_cons.mpr ⟨jne (k := 60) c4 rfl, List.forall_mem_cons.mpr ⟨jne (k := 61) c6 rfl, fun _ h => absurd h List.not_mem_nil⟩⟩⟩) ?_
  refine lv_lload_n hx hb dX3_tells_72 rfl (lv_at hl 1 rfl) ?_
  refine lv_lload_n hx hb dX3_tells_73 rfl (lv_at hl 2 rfl) ?_
  refine jl_eq (tgt := 82) hx hb dX3_tells_74 dX3_tells_75 (by decide) (fun c7 => ?_) (fun c7 => ?_)
  · have hf := jt c7 hf
    refine lv_iconst (v := (0 : Int32)) hx hb dX3_tells_82 (by decide) ?_
    exact jiretz (jr0 hf) E hM (by decide) dX3_tells_83
  · have hf := jf c7 hf
    refine lv_iconst (v := (1 : Int32)) hx hb dX3_tells_78 (by decide) ?_
    refine lv_goto (tgt := 83) hx hb dX3_tells_79 (by decide) ?_
    exact jiretz (jr0 hf) E hM (by decide) dX3_tells_83
set_option maxRecDepth 100000 in
theorem C_X3_tells {l : Launch} {g : jG} {a0 : Int32} {a1 : Int64} {a3 : Int64} {S : jM} {rr : Int32} (hf : f_X3_tells a0 a1 a3 = rr) : jMet l g yX3_tells cX3_tells 5 (some .boolean) 1 0 0 [.int a0, .long a1, .long a3] S (jQi g rr S) := by
  refine jof (by decide +kernel) (Nat.le_of_ble_eq_true rfl) ?_
  intro p e s m below meth c E hM ls hl
  have hl : lv_has ls 5 [(0, .int a0),(1, .long a1),(3, .long a3)] := hl
  exact B_X3_tells_0 E hf hM hl
-- PensionHouse$Ops.compare(ILPensionHouse$Value;LPensionHouse$Value;)I  mode M
noncomputable def f_X3_compare_149 (t0 : Nat) (t1 : Int32) (t2 : Int64) (S : jM) : Option (Int32 × jM) := if jK t0 = 7 then (f_X9_setNumber t0 t1 t2 S).bind (fun S1 => some ((0 : Int32), S1)) else none
noncomputable def f_X3_compare_137 (v1 : Nat) (v7 : Int32) (S : jM) : Option (Int32 × jM) := if v7 = 0 then f_X3_compare_149 v1 (0 : Int32) (0 : Int64) S else f_X3_compare_149 v1 (0 : Int32) (1 : Int64) S
noncomputable def f_X3_compare_105 (v0 : Int32) (v1 : Nat) (v3 : Int64) (v7 : Int32) (t0 : Int64) (S : jM) : Option (Int32 × jM) := if (f_X5_isNot v3) = 0 then if (f_X5_isNot t0) = 0 then jlet (f_X3_tells v0 (f_X5_orderWithoutSignOfZero v3) (f_X5_orderWithoutSignOfZero t0)) (fun x7 => f_X3_compare_137 v1 x7 S) else f_X3_compare_137 v1 v7 S else f_X3_compare_137 v1 v7 S
noncomputable def f_X3_compare_86 (v0 : Int32) (v1 : Nat) (v2 : Nat) (v5 : Int64) (v7 : Int32) (t0 : Int64) (S : jM) : Option (Int32 × jM) := if jK v2 = 7 then if (jI S 52 v2) = (1 : Int32) then f_X3_compare_105 v0 v1 t0 v7 v5 S else (f_X5_nearest v5).bind (fun x10 => f_X3_compare_105 v0 v1 t0 v7 x10 S) else none
noncomputable def f_X3_compare_70 (v0 : Int32) (v1 : Nat) (v2 : Nat) (v3 : Int64) (v5 : Int64) (v7 : Int32) (S : jM) : Option (Int32 × jM) := if jK v1 = 7 then if (jI S 52 v1) = (1 : Int32) then f_X3_compare_86 v0 v1 v2 v5 v7 v3 S else (f_X5_nearest v3).bind (fun x14 => f_X3_compare_86 v0 v1 v2 v5 v7 x14 S) else none
noncomputable def f_X3_compare_42 (v0 : Int32) (v1 : Nat) (v2 : Nat) (v3 : Int64) (v5 : Int64) (t0 : Int32) (S : jM) : Option (Int32 × jM) := if jK v1 = 7 then if (jI S 52 v1) = 0 then if jK v2 = 7 then if (jI S 52 v2) = 0 then jlet (f_X3_tells v0 v3 v5) (fun x20 => f_X3_compare_137 v1 x20 S) else f_X3_compare_70 v0 v1 v2 v3 v5 t0 S else none else f_X3_compare_70 v0 v1 v2 v3 v5 t0 S else none
noncomputable def f_X3_compare (v0 : Int32) (v1 : Nat) (v2 : Nat) (S : jM) : Option (Int32 × jM) := if jK v1 = 7 then (f_X9_isNumber v1 S).bind (fun x21 => if x21 = 0 then some ((2 : Int32), S) else if jK v2 = 7 then (f_X9_isNumber v2 S).bind (fun x25 => if x25 = 0 then some ((2 : Int32), S) else (jR S 54 v1).bind (fun r29 => if jA r29 14 (0 : Int32) = true then jlet (jAL S r29 ((0 : Int32)).toNatClampNeg) (fun x32 => (jR S 54 v2).bind (fun r33 => if jA r33 14 (0 : Int32) = true then jlet (jAL S r33 ((0 : Int32)).toNatClampNeg) (fun x36 => if v0 = (10 : Int32) then f_X3_compare_42 v0 v1 v2 x32 x36 (1 : Int32) S else f_X3_compare_42 v0 v1 v2 x32 x36 (0 : Int32) S) else none)) else none)) else none) else none
set_option maxRecDepth 100000 in
set_option maxHeartbeats 4000000 in
theorem B_X3_compare_149 {p : Program} {l : Launch} {e : Env} {s : State} {m : MethodId} {args : Array Value} {below : List Frame} {meth : Method} {c : Code} {g : jG} {rr : Int32} {SS : jM} {t0 : Nat} {t1 : Int32} {t2 : Int64} {S : jM} (E : jEnv p s m args meth c cX3_compare "PensionHouse$Ops" (some .int) 8 g)  {H : Heap} {locs : List Loc} {ls : Array Slot} (hf : f_X3_compare_149 t0 t1 t2 S = some (rr, SS)) (hM : jAt g S s H locs) (hl : lv_has ls 8 []) : W p l e (jRm 3 0 0) s m args below meth c H locs 0 0 (MQ below (jQi g rr SS) args s 0 0 (jA0 g)) (F0 m 149 ls [.long t2, .int t1, .ref (g.2.2 + t0)]) := by
  obtain ⟨hx, hb, hml, -, hts, hown, hK, -, hstr⟩ := id E
  unfold f_X3_compare_149 at hf
  obtain ⟨hq3, hf⟩ := jif hf
  obtain ⟨S1, hc2, hf⟩ := jb hf
  refine jbackV hM (jrunV E hM ci_X9_setNumber (C_X9_setNumber hc2) lk_5_12 hq3 (by decide) rfl hl.1 rfl rfl (Nat.le_of_ble_eq_true rfl) ⟨Nat.le_of_ble_eq_true rfl, Nat.le_of_ble_eq_true rfl⟩ ⟨Nat.le_refl _, Nat.le_refl _⟩ dX3_compare_149) (fun H locs hM => ?_)
  refine lv_iconst (v := (0 : Int32)) hx hb dX3_compare_152 (by decide) ?_
  exact jireti (jr2 hf) E hM dX3_compare_153
set_option maxRecDepth 100000 in
set_option maxHeartbeats 4000000 in
theorem B_X3_compare_137 {p : Program} {l : Launch} {e : Env} {s : State} {m : MethodId} {args : Array Value} {below : List Frame} {meth : Method} {c : Code} {g : jG} {rr : Int32} {SS : jM} {v1 : Nat} {v7 : Int32} {S : jM} (E : jEnv p s m args meth c cX3_compare "PensionHouse$Ops" (some .int) 8 g)  {H : Heap} {locs : List Loc} {ls : Array Slot} (hf : f_X3_compare_137 v1 v7 S = some (rr, SS)) (hM : jAt g S s H locs) (hl : lv_has ls 8 [(1, .ref (g.2.2 + v1)), (7, .int v7)]) : W p l e (jRm 3 0 0) s m args below meth c H locs 0 0 (MQ below (jQi g rr SS) args s 0 0 (jA0 g)) (F0 m 137 ls []) := by
  obtain ⟨hx, hb, hml, -, hts, hown, hK, -, hstr⟩ := id E
  unfold f_X3_compare_137 at hf
  refine lv_aload_n hx hb dX3_compare_137 rfl (lv_at hl 0 rfl) ?_
  refine lv_iconst (v := (0 : Int32)) hx hb dX3_compare_138 (by decide) ?_
  refine lv_iload hx hb dX3_compare_139 (lv_at hl 1 rfl) ?_
  refine lv_if_eq (tgt := 148) hx hb dX3_compare_141 (by decide) (fun c4 => ?_) (fun c4 => ?_)
  · have hf := jt c4 hf
    refine lv_lconst (v := (0 : Int64)) hx hb dX3_compare_148 (by decide) ?_
    exact B_X3_compare_149 E  hf hM (lv_sub hl [] rfl)
  · have hf := jf c4 hf
    refine lv_lconst (v := (1 : Int64)) hx hb dX3_compare_144 (by decide) ?_
    refine lv_goto (tgt := 149) hx hb dX3_compare_145 (by decide) ?_
    exact B_X3_compare_149 E  hf hM (lv_sub hl [] rfl)
set_option maxRecDepth 100000 in
set_option maxHeartbeats 4000000 in
theorem B_X3_compare_105 {p : Program} {l : Launch} {e : Env} {s : State} {m : MethodId} {args : Array Value} {below : List Frame} {meth : Method} {c : Code} {g : jG} {rr : Int32} {SS : jM} {v0 : Int32} {v1 : Nat} {v3 : Int64} {v7 : Int32} {t0 : Int64} {S : jM} (E : jEnv p s m args meth c cX3_compare "PensionHouse$Ops" (some .int) 8 g)  {H : Heap} {locs : List Loc} {ls : Array Slot} (hf : f_X3_compare_105 v0 v1 v3 v7 t0 S = some (rr, SS)) (hM : jAt g S s H locs) (hl : lv_has ls 8 [(0, .int v0), (1, .ref (g.2.2 + v1)), (3, .long v3), (7, .int v7)]) : W p l e (jRm 3 0 0) s m args below meth c H locs 0 0 (MQ below (jQi g rr SS) args s 0 0 (jA0 g)) (F0 m 105 ls [.long t0]) := by
  obtain ⟨hx, hb, hml, -, hts, hown, hK, -, hstr⟩ := id E
  unfold f_X3_compare_105 at hf
  refine lv_lstore (lv' := [(5, .long t0), (0, .int v0), (1, .ref (g.2.2 + v1)), (3, .long v3), (7, .int v7)]) hx hb dX3_compare_105 hl (by decide) rfl (fun ls hl => ?_)
  refine lv_lload_n hx hb dX3_compare_107 rfl (lv_at hl 3 rfl) ?_
  refine jbackI hM (jrunS E hM ci_X5_isNot (C_X5_isNot rfl) lk_5_112 hl.1 rfl rfl (Nat.le_of_ble_eq_true rfl) ⟨Nat.le_of_ble_eq_true rfl, Nat.le_of_ble_eq_true rfl⟩ ⟨Nat.le_refl _, Nat.le_refl _⟩ dX3_compare_108) (fun H locs hM => ?_)
  refine lv_if_ne (tgt := 137) hx hb dX3_compare_111 (by decide) (fun c5 => ?_) (fun c5 => ?_)
  · have hf := jf c5 hf
    exact B_X3_compare_137 E  hf hM (lv_sub hl [2, 4] rfl)
  · have hf := jt c5 hf
    refine lv_lload hx hb dX3_compare_114 (lv_at hl 0 rfl) ?_
    refine jbackI hM (jrunS E hM ci_X5_isNot (C_X5_isNot rfl) lk_5_112 hl.1 rfl rfl (Nat.le_of_ble_eq_true rfl) ⟨Nat.le_of_ble_eq_true rfl, Nat.le_of_ble_eq_true rfl⟩ ⟨Nat.le_refl _, Nat.le_refl _⟩ dX3_compare_116) (fun H locs hM => ?_)
    refine lv_if_ne (tgt := 137) hx hb dX3_compare_119 (by decide) (fun c6 => ?_) (fun c6 => ?_)
    · have hf := jf c6 hf
      exact B_X3_compare_137 E  hf hM (lv_sub hl [2, 4] rfl)
    · have hf := jt c6 hf
      refine lv_iload_n hx hb dX3_compare_122 rfl (lv_at hl 1 rfl) ?_
      refine lv_lload_n hx hb dX3_compare_123 rfl (lv_at hl 3 rfl) ?_
      refine jbackL hM (jrunS E hM ci_X5_orderWithoutSignOfZero (C_X5_orderWithoutSignOfZero rfl) lk_5_119 hl.1 rfl rfl (Nat.le_of_ble_eq_true rfl) ⟨Nat.le_of_ble_eq_true rfl, Nat.le_of_ble_eq_true rfl⟩ ⟨Nat.le_refl _, Nat.le_refl _⟩ dX3_compare_124) (fun H locs hM => ?_)
      refine lv_lload hx hb dX3_compare_127 (lv_at hl 0 rfl) ?_
      refine jbackL hM (jrunS E hM ci_X5_orderWithoutSignOfZero (C_X5_orderWithoutSignOfZero rfl) lk_5_119 hl.1 rfl rfl (Nat.le_of_ble_eq_true rfl) ⟨Nat.le_of_ble_eq_true rfl, Nat.le_of_ble_eq_true rfl⟩ ⟨Nat.le_refl _, Nat.le_refl _⟩ dX3_compare_129) (fun H locs hM => ?_)
      refine jbackI hM (jrunS E hM ci_X3_tells (C_X3_tells rfl) lk_5_116 hl.1 rfl rfl (Nat.le_of_ble_eq_true rfl) ⟨Nat.le_of_ble_eq_true rfl, Nat.le_of_ble_eq_true rfl⟩ ⟨Nat.le_refl _, Nat.le_refl _⟩ dX3_compare_132) (fun H locs hM => ?_)
      refine lv_topi (fun x7 ex7 => ?_)
      have hf := jlet_y ex7 hf
      refine lv_istore (lv' := [(7, .int x7), (5, .long t0), (0, .int v0), (1, .ref (g.2.2 + v1)), (3, .long v3)]) hx hb dX3_compare_135 hl (by decide) rfl (fun ls hl => ?_)
      exact B_X3_compare_137 E  hf hM (lv_sub hl [3, 0] rfl)
set_option maxRecDepth 100000 in
set_option maxHeartbeats 4000000 in
theorem B_X3_compare_86 {p : Program} {l : Launch} {e : Env} {s : State} {m : MethodId} {args : Array Value} {below : List Frame} {meth : Method} {c : Code} {g : jG} {rr : Int32} {SS : jM} {v0 : Int32} {v1 : Nat} {v2 : Nat} {v5 : Int64} {v7 : Int32} {t0 : Int64} {S : jM} (E : jEnv p s m args meth c cX3_compare "PensionHouse$Ops" (some .int) 8 g)  {H : Heap} {locs : List Loc} {ls : Array Slot} (hf : f_X3_compare_86 v0 v1 v2 v5 v7 t0 S = some (rr, SS)) (hM : jAt g S s H locs) (hl : lv_has ls 8 [(0, .int v0), (1, .ref (g.2.2 + v1)), (2, .ref (g.2.2 + v2)), (5, .long v5), (7, .int v7)]) : W p l e (jRm 3 0 0) s m args below meth c H locs 0 0 (MQ below (jQi g rr SS) args s 0 0 (jA0 g)) (F0 m 86 ls [.long t0]) := by
  obtain ⟨hx, hb, hml, -, hts, hown, hK, -, hstr⟩ := id E
  unfold f_X3_compare_86 at hf
  refine lv_lstore_n (lv' := [(3, .long t0), (0, .int v0), (1, .ref (g.2.2 + v1)), (2, .ref (g.2.2 + v2)), (5, .long v5), (7, .int v7)]) hx hb dX3_compare_86 rfl hl (by decide) rfl (fun ls hl => ?_)
  refine lv_aload_n hx hb dX3_compare_87 rfl (lv_at hl 3 rfl) ?_
  obtain ⟨hq8, hf⟩ := jif hf
  refine gt_52 E hM hq8 lk_1_50 dX3_compare_88 ?_
  refine lv_iconst (v := (1 : Int32)) hx hb dX3_compare_91 (by decide) ?_
  refine lv_icmp_ne (tgt := 100) hx hb dX3_compare_92 (by decide) (fun c9 => ?_) (fun c9 => ?_)
  · have hf := jf c9 hf
    refine lv_lload hx hb dX3_compare_100 (lv_at hl 4 rfl) ?_
    obtain ⟨x10, hc11, hf⟩ := jb hf
    refine jbackL hM (jrunS E hM ci_X5_nearest (C_X5_nearest hc11) lk_5_8 hl.1 rfl rfl (Nat.le_of_ble_eq_true rfl) ⟨Nat.le_of_ble_eq_true rfl, Nat.le_of_ble_eq_true rfl⟩ ⟨Nat.le_refl _, Nat.le_refl _⟩ dX3_compare_102) (fun H locs hM => ?_)
    exact B_X3_compare_105 E  hf hM (lv_sub hl [1, 2, 0, 5] rfl)
  · have hf := jt c9 hf
    refine lv_lload hx hb dX3_compare_95 (lv_at hl 4 rfl) ?_
    refine lv_goto (tgt := 105) hx hb dX3_compare_97 (by decide) ?_
    exact B_X3_compare_105 E  hf hM (lv_sub hl [1, 2, 0, 5] rfl)
set_option maxRecDepth 100000 in
set_option maxHeartbeats 4000000 in
theorem B_X3_compare_70 {p : Program} {l : Launch} {e : Env} {s : State} {m : MethodId} {args : Array Value} {below : List Frame} {meth : Method} {c : Code} {g : jG} {rr : Int32} {SS : jM} {v0 : Int32} {v1 : Nat} {v2 : Nat} {v3 : Int64} {v5 : Int64} {v7 : Int32} {S : jM} (E : jEnv p s m args meth c cX3_compare "PensionHouse$Ops" (some .int) 8 g)  {H : Heap} {locs : List Loc} {ls : Array Slot} (hf : f_X3_compare_70 v0 v1 v2 v3 v5 v7 S = some (rr, SS)) (hM : jAt g S s H locs) (hl : lv_has ls 8 [(0, .int v0), (1, .ref (g.2.2 + v1)), (2, .ref (g.2.2 + v2)), (3, .long v3), (5, .long v5), (7, .int v7)]) : W p l e (jRm 3 0 0) s m args below meth c H locs 0 0 (MQ below (jQi g rr SS) args s 0 0 (jA0 g)) (F0 m 70 ls []) := by
  obtain ⟨hx, hb, hml, -, hts, hown, hK, -, hstr⟩ := id E
  unfold f_X3_compare_70 at hf
  refine lv_aload_n hx hb dX3_compare_70 rfl (lv_at hl 1 rfl) ?_
  obtain ⟨hq12, hf⟩ := jif hf
  refine gt_52 E hM hq12 lk_1_50 dX3_compare_71 ?_
  refine lv_iconst (v := (1 : Int32)) hx hb dX3_compare_74 (by decide) ?_
  refine lv_icmp_ne (tgt := 82) hx hb dX3_compare_75 (by decide) (fun c13 => ?_) (fun c13 => ?_)
  · have hf := jf c13 hf
    refine lv_lload_n hx hb dX3_compare_82 rfl (lv_at hl 3 rfl) ?_
    obtain ⟨x14, hc15, hf⟩ := jb hf
    refine jbackL hM (jrunS E hM ci_X5_nearest (C_X5_nearest hc15) lk_5_8 hl.1 rfl rfl (Nat.le_of_ble_eq_true rfl) ⟨Nat.le_of_ble_eq_true rfl, Nat.le_of_ble_eq_true rfl⟩ ⟨Nat.le_refl _, Nat.le_refl _⟩ dX3_compare_83) (fun H locs hM => ?_)
    exact B_X3_compare_86 E  hf hM (lv_sub hl [0, 1, 2, 4, 5] rfl)
  · have hf := jt c13 hf
    refine lv_lload_n hx hb dX3_compare_78 rfl (lv_at hl 3 rfl) ?_
    refine lv_goto (tgt := 86) hx hb dX3_compare_79 (by decide) ?_
    exact B_X3_compare_86 E  hf hM (lv_sub hl [0, 1, 2, 4, 5] rfl)
set_option maxRecDepth 100000 in
set_option maxHeartbeats 4000000 in
theorem B_X3_compare_42 {p : Program} {l : Launch} {e : Env} {s : State} {m : MethodId} {args : Array Value} {below : List Frame} {meth : Method} {c : Code} {g : jG} {rr : Int32} {SS : jM} {v0 : Int32} {v1 : Nat} {v2 : Nat} {v3 : Int64} {v5 : Int64} {t0 : Int32} {S : jM} (E : jEnv p s m args meth c cX3_compare "PensionHouse$Ops" (some .int) 8 g)  {H : Heap} {locs : List Loc} {ls : Array Slot} (hf : f_X3_compare_42 v0 v1 v2 v3 v5 t0 S = some (rr, SS)) (hM : jAt g S s H locs) (hl : lv_has ls 8 [(0, .int v0), (1, .ref (g.2.2 + v1)), (2, .ref (g.2.2 + v2)), (3, .long v3), (5, .long v5)]) : W p l e (jRm 3 0 0) s m args below meth c H locs 0 0 (MQ below (jQi g rr SS) args s 0 0 (jA0 g)) (F0 m 42 ls [.int t0]) := by
  obtain ⟨hx, hb, hml, -, hts, hown, hK, -, hstr⟩ := id E
  unfold f_X3_compare_42 at hf
  refine lv_istore (lv' := [(7, .int t0), (0, .int v0), (1, .ref (g.2.2 + v1)), (2, .ref (g.2.2 + v2)), (3, .long v3), (5, .long v5)]) hx hb dX3_compare_42 hl (by decide) rfl (fun ls hl => ?_)
  refine lv_aload_n hx hb dX3_compare_44 rfl (lv_at hl 2 rfl) ?_
  obtain ⟨hq16, hf⟩ := jif hf
  refine gt_52 E hM hq16 lk_1_50 dX3_compare_45 ?_
  refine lv_if_ne (tgt := 70) hx hb dX3_compare_48 (by decide) (fun c17 => ?_) (fun c17 => ?_)
  · have hf := jf c17 hf
    exact B_X3_compare_70 E  hf hM (lv_sub hl [1, 2, 3, 4, 5, 0] rfl)
  · have hf := jt c17 hf
    refine lv_aload_n hx hb dX3_compare_51 rfl (lv_at hl 3 rfl) ?_
    obtain ⟨hq18, hf⟩ := jif hf
    refine gt_52 E hM hq18 lk_1_50 dX3_compare_52 ?_
    refine lv_if_ne (tgt := 70) hx hb dX3_compare_55 (by decide) (fun c19 => ?_) (fun c19 => ?_)
    · have hf := jf c19 hf
      exact B_X3_compare_70 E  hf hM (lv_sub hl [1, 2, 3, 4, 5, 0] rfl)
    · have hf := jt c19 hf
      refine lv_iload_n hx hb dX3_compare_58 rfl (lv_at hl 1 rfl) ?_
      refine lv_lload_n hx hb dX3_compare_59 rfl (lv_at hl 4 rfl) ?_
      refine lv_lload hx hb dX3_compare_60 (lv_at hl 5 rfl) ?_
      refine jbackI hM (jrunS E hM ci_X3_tells (C_X3_tells rfl) lk_5_116 hl.1 rfl rfl (Nat.le_of_ble_eq_true rfl) ⟨Nat.le_of_ble_eq_true rfl, Nat.le_of_ble_eq_true rfl⟩ ⟨Nat.le_refl _, Nat.le_refl _⟩ dX3_compare_62) (fun H locs hM => ?_)
      refine lv_topi (fun x20 ex20 => ?_)
      have hf := jlet_y ex20 hf
      refine lv_istore (lv' := [(7, .int x20), (0, .int v0), (1, .ref (g.2.2 + v1)), (2, .ref (g.2.2 + v2)), (3, .long v3), (5, .long v5)]) hx hb dX3_compare_65 hl (by decide) rfl (fun ls hl => ?_)
      refine lv_goto (tgt := 137) hx hb dX3_compare_67 (by decide) ?_
      exact B_X3_compare_137 E  hf hM (lv_sub hl [2, 0] rfl)
set_option maxRecDepth 100000 in
set_option maxHeartbeats 4000000 in
theorem B_X3_compare_0 {p : Program} {l : Launch} {e : Env} {s : State} {m : MethodId} {args : Array Value} {below : List Frame} {meth : Method} {c : Code} {g : jG} {rr : Int32} {SS : jM} {v0 : Int32} {v1 : Nat} {v2 : Nat} {S : jM} (E : jEnv p s m args meth c cX3_compare "PensionHouse$Ops" (some .int) 8 g)  {H : Heap} {locs : List Loc} {ls : Array Slot} (hf : f_X3_compare v0 v1 v2 S = some (rr, SS)) (hM : jAt g S s H locs) (hl : lv_has ls 8 [(0, .int v0), (1, .ref (g.2.2 + v1)), (2, .ref (g.2.2 + v2))]) : W p l e (jRm 3 0 0) s m args below meth c H locs 0 0 (MQ below (jQi g rr SS) args s 0 0 (jA0 g)) (F0 m 0 ls []) := by
  obtain ⟨hx, hb, hml, -, hts, hown, hK, -, hstr⟩ := id E
  unfold f_X3_compare at hf
  refine lv_aload_n hx hb dX3_compare_0 rfl (lv_at hl 1 rfl) ?_
  obtain ⟨hq23, hf⟩ := jif hf
  obtain ⟨x21, hc22, hf⟩ := jb hf
  refine jbackI hM (jrunV E hM ci_X9_isNumber (C_X9_isNumber hc22) lk_4_239 hq23 (by decide) rfl hl.1 rfl rfl (Nat.le_of_ble_eq_true rfl) ⟨Nat.le_of_ble_eq_true rfl, Nat.le_of_ble_eq_true rfl⟩ ⟨Nat.le_refl _, Nat.le_refl _⟩ dX3_compare_1) (fun H locs hM => ?_)
  refine lv_if_eq (tgt := 14) hx hb dX3_compare_4 (by decide) (fun c24 => ?_) (fun c24 => ?_)
  · have hf := jt c24 hf
    refine lv_iconst (v := (2 : Int32)) hx hb dX3_compare_14 (by decide) ?_
    exact jireti (jr2 hf) E hM dX3_compare_15
  · have hf := jf c24 hf
    refine lv_aload_n hx hb dX3_compare_7 rfl (lv_at hl 2 rfl) ?_
    obtain ⟨hq27, hf⟩ := jif hf
    obtain ⟨x25, hc26, hf⟩ := jb hf
    refine jbackI hM (jrunV E hM ci_X9_isNumber (C_X9_isNumber hc26) lk_4_239 hq27 (by decide) rfl hl.1 rfl rfl (Nat.le_of_ble_eq_true rfl) ⟨Nat.le_of_ble_eq_true rfl, Nat.le_of_ble_eq_true rfl⟩ ⟨Nat.le_refl _, Nat.le_refl _⟩ dX3_compare_8) (fun H locs hM => ?_)
    refine lv_if_ne (tgt := 16) hx hb dX3_compare_11 (by decide) (fun c28 => ?_) (fun c28 => ?_)
    · have hf := jf c28 hf
      refine lv_aload_n hx hb dX3_compare_16 rfl (lv_at hl 1 rfl) ?_
      refine gt_54 E hM hq23 lk_1_58 dX3_compare_17 ?_
      obtain ⟨r29, hr30, hf⟩ := jb hf
      rw [hr30]
      show W p l e _ s m args below meth c H locs 0 0 _ (F0 m _ ls (.ref (g.2.2 + r29) :: _))
      refine lv_iconst (v := (0 : Int32)) hx hb dX3_compare_20 (by decide) ?_
      obtain ⟨ha31, hf⟩ := jif hf
      refine jlald E hM ha31 dX3_compare_21 ?_
      refine lv_topl (fun x32 ex32 => ?_)
      have hf := jlet_y ex32 hf
      refine lv_lstore_n (lv' := [(3, .long x32), (0, .int v0), (1, .ref (g.2.2 + v1)), (2, .ref (g.2.2 + v2))]) hx hb dX3_compare_22 rfl hl (by decide) rfl (fun ls hl => ?_)
      refine lv_aload_n hx hb dX3_compare_23 rfl (lv_at hl 3 rfl) ?_
      refine gt_54 E hM hq27 lk_1_58 dX3_compare_24 ?_
      obtain ⟨r33, hr34, hf⟩ := jb hf
      rw [hr34]
      show W p l e _ s m args below meth c H locs 0 0 _ (F0 m _ ls (.ref (g.2.2 + r33) :: _))
      refine lv_iconst (v := (0 : Int32)) hx hb dX3_compare_27 (by decide) ?_
      obtain ⟨ha35, hf⟩ := jif hf
      refine jlald E hM ha35 dX3_compare_28 ?_
      refine lv_topl (fun x36 ex36 => ?_)
      have hf := jlet_y ex36 hf
      refine lv_lstore (lv' := [(5, .long x36), (3, .long x32), (0, .int v0), (1, .ref (g.2.2 + v1)), (2, .ref (g.2.2 + v2))]) hx hb dX3_compare_29 hl (by decide) rfl (fun ls hl => ?_)
      refine lv_iload_n hx hb dX3_compare_31 rfl (lv_at hl 2 rfl) ?_
      refine lv_bipush (v := (10 : Int32)) hx hb dX3_compare_32 (by decide) ?_
      refine lv_icmp_ne (tgt := 41) hx hb dX3_compare_34 (by decide) (fun c37 => ?_) (fun c37 => ?_)
      · have hf := jf c37 hf
        refine lv_iconst (v := (0 : Int32)) hx hb dX3_compare_41 (by decide) ?_
        exact B_X3_compare_42 E  hf hM (lv_sub hl [2, 3, 4, 1, 0] rfl)
      · have hf := jt c37 hf
        refine lv_iconst (v := (1 : Int32)) hx hb dX3_compare_37 (by decide) ?_
        refine lv_goto (tgt := 42) hx hb dX3_compare_38 (by decide) ?_
        exact B_X3_compare_42 E  hf hM (lv_sub hl [2, 3, 4, 1, 0] rfl)
    · have hf := jt c28 hf
      refine lv_iconst (v := (2 : Int32)) hx hb dX3_compare_14 (by decide) ?_
      exact jireti (jr2 hf) E hM dX3_compare_15
set_option maxRecDepth 100000 in
theorem C_X3_compare {l : Launch} {g : jG} {a0 : Int32} {a1 : Nat} {a2 : Nat} {S : jM} {rr : Int32} {SS : jM} (hf : f_X3_compare a0 a1 a2 S = some (rr, SS)) : jMet l g yX3_compare cX3_compare 8 (some .int) 3 0 0 [.int a0, .ref (g.2.2 + a1), .ref (g.2.2 + a2)] S (jQi g rr SS) := by
  refine jof (by decide +kernel) (Nat.le_of_ble_eq_true rfl) ?_
  intro p e s m below meth c E hM ls hl
  have hl : lv_has ls 8 [(0, .int a0),(1, .ref (g.2.2 + a1)),(2, .ref (g.2.2 + a2))] := hl
  exact B_X3_compare_0 E hf hM hl
