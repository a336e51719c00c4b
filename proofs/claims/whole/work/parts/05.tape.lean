-- java/lang/String.isLatin1()Z  mode P
noncomputable def f_J0_isLatin1_aae02 (v0 : Nat) : Option Int32 := if (1 : Int32) = 0 then some (0 : Int32) else if v0 < 2 then if (0 : Int32) = 0 then some (1 : Int32) else some (0 : Int32) else none
set_option maxRecDepth 100000 in
set_option maxHeartbeats 4000000 in
theorem B_J0_isLatin1_aae02_0 {p : Program} {l : Launch} {e : Env} {s : State} {m : MethodId} {args : Array Value} {below : List Frame} {meth : Method} {c : Code} {g : jG} {rr : Int32} {S : jM} {v0 : Nat} (E : jEnv p s m args meth c cJ0_isLatin1_aae02 "java/lang/String" (some .boolean) 1 g)  {H : Heap} {locs : List Loc} {ls : Array Slot} (hf : f_J0_isLatin1_aae02 v0 = some rr) (hM : jAt g S s H locs) (hl : lv_has ls 1 [(0, .ref (g.2.1 (100 + v0)))]) : W p l e (jRm 1 0 0) s m args below meth c H locs 0 0 (MQ below (jQi g rr S) args s 0 0 (jA0 g)) (F0 m 0 ls []) := by
  obtain ⟨hx, hb, hml, -, hts, hown, hK, -, hstr⟩ := id E
  unfold f_J0_isLatin1_aae02 at hf
  refine va_gets hx hb hstr.2.1 hM.2.1 hown (hts _ lk_3_101) (fun _ h => h) dJ0_isLatin1_aae02_0 ?_
  refine lv_if_eq (tgt := 17) hx hb dJ0_isLatin1_aae02_3 (by decide) (fun c1 => ?_) (fun c1 => ?_)
  · have hf := jt c1 hf
    refine lv_iconst (v := (0 : Int32)) hx hb dJ0_isLatin1_aae02_17 (by decide) ?_
    exact jiretz (jr1 hf) E hM (by decide) dJ0_isLatin1_aae02_18
  · have hf := jf c1 hf
    refine lv_aload_n hx hb dJ0_isLatin1_aae02_6 rfl (lv_at hl 0 rfl) ?_
    obtain ⟨hq2, hf⟩ := jif hf
    refine vk_getf hx hb (hstr.1.1 v0 hq2).2.1 hM.2.1 hown (hts _ lk_9_62) (fun _ h => h) dJ0_isLatin1_aae02_7 ?_
    refine lv_if_ne (tgt := 17) hx hb dJ0_isLatin1_aae02_10 (by decide) (fun c3 => ?_) (fun c3 => ?_)
    · have hf := jf c3 hf
      refine lv_iconst (v := (0 : Int32)) hx hb dJ0_isLatin1_aae02_17 (by decide) ?_
      exact jiretz (jr1 hf) E hM (by decide) dJ0_isLatin1_aae02_18
    · have hf := jt c3 hf
      refine lv_iconst (v := (1 : Int32)) hx hb dJ0_isLatin1_aae02_13 (by decide) ?_
      refine lv_goto (tgt := 18) hx hb dJ0_isLatin1_aae02_14 (by decide) ?_
      exact jiretz (jr1 hf) E hM (by decide) dJ0_isLatin1_aae02_18
set_option maxRecDepth 100000 in
theorem C_J0_isLatin1_aae02 {l : Launch} {g : jG} {a0 : Nat} {S : jM} {rr : Int32} (hf : f_J0_isLatin1_aae02 a0 = some rr) : jMet l g yJ0_isLatin1_aae02 cJ0_isLatin1_aae02 1 (some .boolean) 1 0 0 [.ref (g.2.1 (100 + a0))] S (jQi g rr S) := by
  refine jof (by decide +kernel) (Nat.le_of_ble_eq_true rfl) ?_
  intro p e s m below meth c E hM ls hl
  have hl : lv_has ls 1 [(0, .ref (g.2.1 (100 + a0)))] := hl
  exact B_J0_isLatin1_aae02_0 E hf hM hl
-- jdk/internal/util/Preconditions.checkIndex(IILjava/util/function/BiFunction;)I  mode P
noncomputable def f_J3_checkIndex_8e157_9 (v0 : Int32) (v1 : Int32) (v2 : Nat) : Option Int32 := none
noncomputable def f_J3_checkIndex_8e157 (v0 : Int32) (v1 : Int32) (v2 : Nat) : Option Int32 := if v0 < 0 then f_J3_checkIndex_8e157_9 v0 v1 v2 else if v0 < v1 then some v0 else f_J3_checkIndex_8e157_9 v0 v1 v2
set_option maxRecDepth 100000 in
set_option maxHeartbeats 4000000 in
theorem B_J3_checkIndex_8e157_9 {p : Program} {l : Launch} {e : Env} {s : State} {m : MethodId} {args : Array Value} {below : List Frame} {meth : Method} {c : Code} {g : jG} {rr : Int32} {S : jM} {v0 : Int32} {v1 : Int32} {v2 : Nat} (E : jEnv p s m args meth c cJ3_checkIndex_8e157 "jdk/internal/util/Preconditions" (some .int) 3 g)  {H : Heap} {locs : List Loc} {ls : Array Slot} (hf : f_J3_checkIndex_8e157_9 v0 v1 v2 = some rr) (hM : jAt g S s H locs) (hl : lv_has ls 3 [(0, .int v0), (1, .int v1), (2, va_rf (jY g))]) : W p l e (jRm 1 0 0) s m args below meth c H locs 0 0 (MQ below (jQi g rr S) args s 0 0 (jA0 g)) (F0 m 9 ls []) := by
  obtain ⟨hx, hb, hml, -, hts, hown, hK, -, hstr⟩ := id E
  unfold f_J3_checkIndex_8e157_9 at hf
  cases hf
set_option maxRecDepth 100000 in
set_option maxHeartbeats 4000000 in
theorem B_J3_checkIndex_8e157_0 {p : Program} {l : Launch} {e : Env} {s : State} {m : MethodId} {args : Array Value} {below : List Frame} {meth : Method} {c : Code} {g : jG} {rr : Int32} {S : jM} {v0 : Int32} {v1 : Int32} {v2 : Nat} (E : jEnv p s m args meth c cJ3_checkIndex_8e157 "jdk/internal/util/Preconditions" (some .int) 3 g)  {H : Heap} {locs : List Loc} {ls : Array Slot} (hf : f_J3_checkIndex_8e157 v0 v1 v2 = some rr) (hM : jAt g S s H locs) (hl : lv_has ls 3 [(0, .int v0), (1, .int v1), (2, va_rf (jY g))]) : W p l e (jRm 1 0 0) s m args below meth c H locs 0 0 (MQ below (jQi g rr S) args s 0 0 (jA0 g)) (F0 m 0 ls []) := by
  obtain ⟨hx, hb, hml, -, hts, hown, hK, -, hstr⟩ := id E
  unfold f_J3_checkIndex_8e157 at hf
  refine lv_iload_n hx hb dJ3_checkIndex_8e157_0 rfl (lv_at hl 0 rfl) ?_
  refine lv_if_lt (tgt := 9) hx hb dJ3_checkIndex_8e157_1 (by decide) (fun c1 => ?_) (fun c1 => ?_)
  · have hf := jt c1 hf
    exact B_J3_checkIndex_8e157_9 E  hf hM (lv_sub hl [0, 1, 2] rfl)
  · have hf := jf c1 hf
    refine lv_iload_n hx hb dJ3_checkIndex_8e157_4 rfl (lv_at hl 0 rfl) ?_
    refine lv_iload_n hx hb dJ3_checkIndex_8e157_5 rfl (lv_at hl 1 rfl) ?_
    refine lv_icmp_lt (tgt := 16) hx hb dJ3_checkIndex_8e157_6 (by decide) (fun c2 => ?_) (fun c2 => ?_)
    · have hf := jt c2 hf
      refine lv_iload_n hx hb dJ3_checkIndex_8e157_16 rfl (lv_at hl 0 rfl) ?_
      exact jireti (jr1 hf) E hM dJ3_checkIndex_8e157_17
    · have hf := jf c2 hf
      exact B_J3_checkIndex_8e157_9 E  hf hM (lv_sub hl [0, 1, 2] rfl)
set_option maxRecDepth 100000 in
theorem C_J3_checkIndex_8e157 {l : Launch} {g : jG} {a0 : Int32} {a1 : Int32} {a2 : Nat} {S : jM} {rr : Int32} (hf : f_J3_checkIndex_8e157 a0 a1 a2 = some rr) : jMet l g yJ3_checkIndex_8e157 cJ3_checkIndex_8e157 3 (some .int) 1 0 0 [.int a0, .int a1, va_rf (jY g)] S (jQi g rr S) := by
  rcases hz : jY g with _ | z
  · skip
    refine jof (by decide +kernel) (Nat.le_of_ble_eq_true rfl) ?_
    intro p e s m below meth c E hM ls hl
    have hl : lv_has ls 3 [(0, .int a0),(1, .int a1),(2, va_rf none)] := hl
    rw [← hz] at hl
    exact B_J3_checkIndex_8e157_0 E hf hM hl
  · skip
    refine jof (by decide +kernel) (Nat.le_of_ble_eq_true rfl) ?_
    intro p e s m below meth c E hM ls hl
    have hl : lv_has ls 3 [(0, .int a0),(1, .int a1),(2, va_rf (some z))] := hl
    rw [← hz] at hl
    exact B_J3_checkIndex_8e157_0 E hf hM hl
-- java/lang/String.checkIndex(II)V  mode P
noncomputable def f_J0_checkIndex_df160 (v0 : Int32) (v1 : Int32) : Option Unit := (f_J3_checkIndex_8e157 v0 v1 0).bind (fun x1 => some ())
set_option maxRecDepth 100000 in
set_option maxHeartbeats 4000000 in
theorem B_J0_checkIndex_df160_0 {p : Program} {l : Launch} {e : Env} {s : State} {m : MethodId} {args : Array Value} {below : List Frame} {meth : Method} {c : Code} {g : jG} {S : jM} {v0 : Int32} {v1 : Int32} (E : jEnv p s m args meth c cJ0_checkIndex_df160 "java/lang/String" none 2 g)  {H : Heap} {locs : List Loc} {ls : Array Slot} (hf : f_J0_checkIndex_df160 v0 v1 = some ()) (hM : jAt g S s H locs) (hl : lv_has ls 2 [(0, .int v0), (1, .int v1)]) : W p l e (jRm 2 0 0) s m args below meth c H locs 0 0 (MQ below (jQv g S) args s 0 0 (jA0 g)) (F0 m 0 ls []) := by
  obtain ⟨hx, hb, hml, -, hts, hown, hK, -, hstr⟩ := id E
  unfold f_J0_checkIndex_df160 at hf
  refine lv_iload_n hx hb dJ0_checkIndex_df160_0 rfl (lv_at hl 0 rfl) ?_
  refine lv_iload_n hx hb dJ0_checkIndex_df160_1 rfl (lv_at hl 1 rfl) ?_
  refine va_gets hx hb hstr.2.2.1 hM.2.1 hown (hts _ lk_3_117) (fun _ h => h) dJ0_checkIndex_df160_2 ?_
  obtain ⟨x1, hc2, hf⟩ := jb hf
  refine jbackI hM (jrunS E hM ci_J3_checkIndex_8e157 (C_J3_checkIndex_8e157 hc2) lk_3_119 hl.1 rfl rfl (Nat.le_of_ble_eq_true rfl) ⟨Nat.le_of_ble_eq_true rfl, Nat.le_of_ble_eq_true rfl⟩ ⟨Nat.le_refl _, Nat.le_refl _⟩ dJ0_checkIndex_df160_5) (fun H locs hM => ?_)
  refine lv_pop hx hb dJ0_checkIndex_df160_8 rfl ?_
  exact jvret rfl E hM dJ0_checkIndex_df160_9
set_option maxRecDepth 100000 in
theorem C_J0_checkIndex_df160 {l : Launch} {g : jG} {a0 : Int32} {a1 : Int32} {S : jM} (hf : f_J0_checkIndex_df160 a0 a1 = some ()) : jMet l g yJ0_checkIndex_df160 cJ0_checkIndex_df160 2 none 2 0 0 [.int a0, .int a1] S (jQv g S) := by
  refine jof (by decide +kernel) (Nat.le_of_ble_eq_true rfl) ?_
  intro p e s m below meth c E hM ls hl
  have hl : lv_has ls 2 [(0, .int a0),(1, .int a1)] := hl
  exact B_J0_checkIndex_df160_0 E hf hM hl
-- java/lang/StringLatin1.charAt([BI)C  mode P
noncomputable def f_J1_charAt_3b067 (v0 : Nat) (v1 : Int32) : Option Int32 := if v0 < 2 then (f_J0_checkIndex_df160 v1 (Int32.ofNat (jlens.getD v0 0))).bind (fun x2 => if jin v1 (jlens.getD v0 0) = true then if vp_nar .char (((((jbyt.getD v0 []).getD (v1).toNatClampNeg 0) &&& (255 : Int32)).toUInt32 % 65536).toInt32) = (((((jbyt.getD v0 []).getD (v1).toNatClampNeg 0) &&& (255 : Int32)).toUInt32 % 65536).toInt32) then some (((((jbyt.getD v0 []).getD (v1).toNatClampNeg 0) &&& (255 : Int32)).toUInt32 % 65536).toInt32) else none else none) else none
set_option maxRecDepth 100000 in
set_option maxHeartbeats 4000000 in
theorem B_J1_charAt_3b067_0 {p : Program} {l : Launch} {e : Env} {s : State} {m : MethodId} {args : Array Value} {below : List Frame} {meth : Method} {c : Code} {g : jG} {rr : Int32} {S : jM} {v0 : Nat} {v1 : Int32} (E : jEnv p s m args meth c cJ1_charAt_3b067 "java/lang/StringLatin1" (some .char) 2 g)  {H : Heap} {locs : List Loc} {ls : Array Slot} (hf : f_J1_charAt_3b067 v0 v1 = some rr) (hM : jAt g S s H locs) (hl : lv_has ls 2 [(0, .ref (g.2.1 (200 + v0))), (1, .int v1)]) : W p l e (jRm 3 0 0) s m args below meth c H locs 0 0 (MQ below (jQi g rr S) args s 0 0 (jA0 g)) (F0 m 0 ls []) := by
  obtain ⟨hx, hb, hml, -, hts, hown, hK, -, hstr⟩ := id E
  unfold f_J1_charAt_3b067 at hf
  refine lv_iload_n hx hb dJ1_charAt_3b067_0 rfl (lv_at hl 1 rfl) ?_
  refine lv_aload_n hx hb dJ1_charAt_3b067_1 rfl (lv_at hl 0 rfl) ?_
  obtain ⟨hq1, hf⟩ := jif hf
  refine va_tlen hx hb (hstr.1.1 v0 hq1).2.2.2 hM.2.1 rfl dJ1_charAt_3b067_2 ?_
  obtain ⟨x2, hc3, hf⟩ := jb hf
  refine jbackV hM (jrunS E hM ci_J0_checkIndex_df160 (C_J0_checkIndex_df160 hc3) lk_3_114 hl.1 rfl rfl (Nat.le_of_ble_eq_true rfl) ⟨Nat.le_of_ble_eq_true rfl, Nat.le_of_ble_eq_true rfl⟩ ⟨Nat.le_refl _, Nat.le_refl _⟩ dJ1_charAt_3b067_3) (fun H locs hM => ?_)
  refine lv_aload_n hx hb dJ1_charAt_3b067_6 rfl (lv_at hl 0 rfl) ?_
  refine lv_iload_n hx hb dJ1_charAt_3b067_7 rfl (lv_at hl 1 rfl) ?_
  obtain ⟨hi4, hf⟩ := jif hf
  refine va_tb hx hb (hstr.1.1 v0 hq1).2.2.2 hM.2.1 (jin_in hi4) rfl dJ1_charAt_3b067_8 ?_
  refine lv_sipush (v := (255 : Int32)) hx hb dJ1_charAt_3b067_9 (by decide) ?_
  refine lv_iand hx hb dJ1_charAt_3b067_12 ?_
  refine lv_i2c hx hb dJ1_charAt_3b067_13 rfl ?_
  obtain ⟨hz5, hf⟩ := jif hf
  exact jiretn (jr1 hf) E hM (congrArg Value.int hz5) dJ1_charAt_3b067_14
set_option maxRecDepth 100000 in
theorem C_J1_charAt_3b067 {l : Launch} {g : jG} {a0 : Nat} {a1 : Int32} {S : jM} {rr : Int32} (hf : f_J1_charAt_3b067 a0 a1 = some rr) : jMet l g yJ1_charAt_3b067 cJ1_charAt_3b067 2 (some .char) 3 0 0 [.ref (g.2.1 (200 + a0)), .int a1] S (jQi g rr S) := by
  refine jof (by decide +kernel) (Nat.le_of_ble_eq_true rfl) ?_
  intro p e s m below meth c E hM ls hl
  have hl : lv_has ls 2 [(0, .ref (g.2.1 (200 + a0))),(1, .int a1)] := hl
  exact B_J1_charAt_3b067_0 E hf hM hl
-- java/lang/String.charAt(I)C  mode P
noncomputable def f_J0_charAt_5068e (v0 : Nat) (v1 : Int32) : Option Int32 := if v0 < 2 then (f_J0_isLatin1_aae02 v0).bind (fun x1 => if x1 = 0 then none else (f_J1_charAt_3b067 v0 v1).bind (fun x5 => if vp_nar .char x5 = x5 then some x5 else none)) else none
set_option maxRecDepth 100000 in
set_option maxHeartbeats 4000000 in
theorem B_J0_charAt_5068e_0 {p : Program} {l : Launch} {e : Env} {s : State} {m : MethodId} {args : Array Value} {below : List Frame} {meth : Method} {c : Code} {g : jG} {rr : Int32} {S : jM} {v0 : Nat} {v1 : Int32} (E : jEnv p s m args meth c cJ0_charAt_5068e "java/lang/String" (some .char) 2 g)  {H : Heap} {locs : List Loc} {ls : Array Slot} (hf : f_J0_charAt_5068e v0 v1 = some rr) (hM : jAt g S s H locs) (hl : lv_has ls 2 [(0, .ref (g.2.1 (100 + v0))), (1, .int v1)]) : W p l e (jRm 4 0 0) s m args below meth c H locs 0 0 (MQ below (jQi g rr S) args s 0 0 (jA0 g)) (F0 m 0 ls []) := by
  obtain ⟨hx, hb, hml, -, hts, hown, hK, -, hstr⟩ := id E
  unfold f_J0_charAt_5068e at hf
  refine lv_aload_n hx hb dJ0_charAt_5068e_0 rfl (lv_at hl 0 rfl) ?_
  obtain ⟨hq3, hf⟩ := jif hf
  obtain ⟨x1, hc2, hf⟩ := jb hf
  refine jbackI hM (jrunVS E hM ci_J0_isLatin1_aae02 (C_J0_isLatin1_aae02 hc2) lk_3_107 hq3 rfl hl.1 rfl rfl (Nat.le_of_ble_eq_true rfl) ⟨Nat.le_of_ble_eq_true rfl, Nat.le_of_ble_eq_true rfl⟩ ⟨Nat.le_refl _, Nat.le_refl _⟩ dJ0_charAt_5068e_1) (fun H locs hM => ?_)
  refine lv_if_eq (tgt := 16) hx hb dJ0_charAt_5068e_4 (by decide) (fun c4 => ?_) (fun c4 => ?_)
  · have hf := jt c4 hf
    refine lv_aload_n hx hb dJ0_charAt_5068e_16 rfl (lv_at hl 0 rfl) ?_
    refine vk_getf hx hb (hstr.1.1 v0 hq3).2.2.1 hM.2.1 hown (hts _ lk_9_61) (fun _ h => h) dJ0_charAt_5068e_17 ?_
    refine lv_iload_n hx hb dJ0_charAt_5068e_20 rfl (lv_at hl 1 rfl) ?_
    cases hf
  · have hf := jf c4 hf
    refine lv_aload_n hx hb dJ0_charAt_5068e_7 rfl (lv_at hl 0 rfl) ?_
    refine vk_getf hx hb (hstr.1.1 v0 hq3).2.2.1 hM.2.1 hown (hts _ lk_9_61) (fun _ h => h) dJ0_charAt_5068e_8 ?_
    refine lv_iload_n hx hb dJ0_charAt_5068e_11 rfl (lv_at hl 1 rfl) ?_
    obtain ⟨x5, hc6, hf⟩ := jb hf
    refine jbackI hM (jrunS E hM ci_J1_charAt_3b067 (C_J1_charAt_3b067 hc6) lk_3_111 hl.1 rfl rfl (Nat.le_of_ble_eq_true rfl) ⟨Nat.le_of_ble_eq_true rfl, Nat.le_of_ble_eq_true rfl⟩ ⟨Nat.le_refl _, Nat.le_refl _⟩ dJ0_charAt_5068e_12) (fun H locs hM => ?_)
    obtain ⟨hz7, hf⟩ := jif hf
    exact jiretn (jr1 hf) E hM (congrArg Value.int hz7) dJ0_charAt_5068e_15
set_option maxRecDepth 100000 in
theorem C_J0_charAt_5068e {l : Launch} {g : jG} {a0 : Nat} {a1 : Int32} {S : jM} {rr : Int32} (hf : f_J0_charAt_5068e a0 a1 = some rr) : jMet l g yJ0_charAt_5068e cJ0_charAt_5068e 2 (some .char) 4 0 0 [.ref (g.2.1 (100 + a0)), .int a1] S (jQi g rr S) := by
  refine jof (by decide +kernel) (Nat.le_of_ble_eq_true rfl) ?_
  intro p e s m below meth c E hM ls hl
  have hl : lv_has ls 2 [(0, .ref (g.2.1 (100 + a0))),(1, .int a1)] := hl
  exact B_J0_charAt_5068e_0 E hf hM hl
-- java/lang/String.coder()B  mode P
noncomputable def f_J0_coder_7d493 (v0 : Nat) : Option Int32 := if (1 : Int32) = 0 then some (1 : Int32) else if v0 < 2 then some (0 : Int32) else none
set_option maxRecDepth 100000 in
set_option maxHeartbeats 4000000 in
theorem B_J0_coder_7d493_0 {p : Program} {l : Launch} {e : Env} {s : State} {m : MethodId} {args : Array Value} {below : List Frame} {meth : Method} {c : Code} {g : jG} {rr : Int32} {S : jM} {v0 : Nat} (E : jEnv p s m args meth c cJ0_coder_7d493 "java/lang/String" (some .byte) 1 g)  {H : Heap} {locs : List Loc} {ls : Array Slot} (hf : f_J0_coder_7d493 v0 = some rr) (hM : jAt g S s H locs) (hl : lv_has ls 1 [(0, .ref (g.2.1 (100 + v0)))]) : W p l e (jRm 1 0 0) s m args below meth c H locs 0 0 (MQ below (jQi g rr S) args s 0 0 (jA0 g)) (F0 m 0 ls []) := by
  obtain ⟨hx, hb, hml, -, hts, hown, hK, -, hstr⟩ := id E
  unfold f_J0_coder_7d493 at hf
  refine va_gets hx hb hstr.2.1 hM.2.1 hown (hts _ lk_3_101) (fun _ h => h) dJ0_coder_7d493_0 ?_
  refine lv_if_eq (tgt := 13) hx hb dJ0_coder_7d493_3 (by decide) (fun c1 => ?_) (fun c1 => ?_)
  · have hf := jt c1 hf
    refine lv_iconst (v := (1 : Int32)) hx hb dJ0_coder_7d493_13 (by decide) ?_
    exact jiretn (jr1 hf) E hM rfl dJ0_coder_7d493_14
  · have hf := jf c1 hf
    refine lv_aload_n hx hb dJ0_coder_7d493_6 rfl (lv_at hl 0 rfl) ?_
    obtain ⟨hq2, hf⟩ := jif hf
    refine vk_getf hx hb (hstr.1.1 v0 hq2).2.1 hM.2.1 hown (hts _ lk_9_62) (fun _ h => h) dJ0_coder_7d493_7 ?_
    refine lv_goto (tgt := 14) hx hb dJ0_coder_7d493_10 (by decide) ?_
    exact jiretn (jr1 hf) E hM rfl dJ0_coder_7d493_14
set_option maxRecDepth 100000 in
theorem C_J0_coder_7d493 {l : Launch} {g : jG} {a0 : Nat} {S : jM} {rr : Int32} (hf : f_J0_coder_7d493 a0 = some rr) : jMet l g yJ0_coder_7d493 cJ0_coder_7d493 1 (some .byte) 1 0 0 [.ref (g.2.1 (100 + a0))] S (jQi g rr S) := by
  refine jof (by decide +kernel) (Nat.le_of_ble_eq_true rfl) ?_
  intro p e s m below meth c E hM ls hl
  have hl : lv_has ls 1 [(0, .ref (g.2.1 (100 + a0)))] := hl
  exact B_J0_coder_7d493_0 E hf hM hl
-- java/lang/String.length()I  mode P
noncomputable def f_J0_length_8abf5 (v0 : Nat) : Option Int32 := if v0 < 2 then (f_J0_coder_7d493 v0).bind (fun x2 => some ((Int32.ofNat (jlens.getD v0 0)) >>> (x2 &&& 31))) else none
set_option maxRecDepth 100000 in
set_option maxHeartbeats 4000000 in
theorem B_J0_length_8abf5_0 {p : Program} {l : Launch} {e : Env} {s : State} {m : MethodId} {args : Array Value} {below : List Frame} {meth : Method} {c : Code} {g : jG} {rr : Int32} {S : jM} {v0 : Nat} (E : jEnv p s m args meth c cJ0_length_8abf5 "java/lang/String" (some .int) 1 g)  {H : Heap} {locs : List Loc} {ls : Array Slot} (hf : f_J0_length_8abf5 v0 = some rr) (hM : jAt g S s H locs) (hl : lv_has ls 1 [(0, .ref (g.2.1 (100 + v0)))]) : W p l e (jRm 2 0 0) s m args below meth c H locs 0 0 (MQ below (jQi g rr S) args s 0 0 (jA0 g)) (F0 m 0 ls []) := by
  obtain ⟨hx, hb, hml, -, hts, hown, hK, -, hstr⟩ := id E
  unfold f_J0_length_8abf5 at hf
  refine lv_aload_n hx hb dJ0_length_8abf5_0 rfl (lv_at hl 0 rfl) ?_
  obtain ⟨hq1, hf⟩ := jif hf
  refine vk_getf hx hb (hstr.1.1 v0 hq1).2.2.1 hM.2.1 hown (hts _ lk_9_61) (fun _ h => h) dJ0_length_8abf5_1 ?_
  refine va_tlen hx hb (hstr.1.1 v0 hq1).2.2.2 hM.2.1 rfl dJ0_length_8abf5_4 ?_
  refine lv_aload_n hx hb dJ0_length_8abf5_5 rfl (lv_at hl 0 rfl) ?_
  obtain ⟨x2, hc3, hf⟩ := jb hf
  refine jbackI hM (jrunVS E hM ci_J0_coder_7d493 (C_J0_coder_7d493 hc3) lk_3_97 hq1 rfl hl.1 rfl rfl (Nat.le_of_ble_eq_true rfl) ⟨Nat.le_of_ble_eq_true rfl, Nat.le_of_ble_eq_true rfl⟩ ⟨Nat.le_refl _, Nat.le_refl _⟩ dJ0_length_8abf5_6) (fun H locs hM => ?_)
  refine lv_ishr hx hb dJ0_length_8abf5_9 ?_
  exact jireti (jr1 hf) E hM dJ0_length_8abf5_10
set_option maxRecDepth 100000 in
theorem C_J0_length_8abf5 {l : Launch} {g : jG} {a0 : Nat} {S : jM} {rr : Int32} (hf : f_J0_length_8abf5 a0 = some rr) : jMet l g yJ0_length_8abf5 cJ0_length_8abf5 1 (some .int) 2 0 0 [.ref (g.2.1 (100 + a0))] S (jQi g rr S) := by
  refine jof (by decide +kernel) (Nat.le_of_ble_eq_true rfl) ?_
  intro p e s m below meth c E hM ls hl
  have hl : lv_has ls 1 [(0, .ref (g.2.1 (100 + a0)))] := hl
  exact B_J0_length_8abf5_0 E hf hM hl
-- java/lang/StringLatin1.canEncode(I)Z  mode P
noncomputable def f_J1_canEncode_9a6ad (v0 : Int32) : Option Int32 := if v0 < 0 then some (0 : Int32) else if (255 : Int32) < v0 then some (0 : Int32) else some (1 : Int32)
set_option maxRecDepth 100000 in
set_option maxHeartbeats 4000000 in
theorem B_J1_canEncode_9a6ad_0 {p : Program} {l : Launch} {e : Env} {s : State} {m : MethodId} {args : Array Value} {below : List Frame} {meth : Method} {c : Code} {g : jG} {rr : Int32} {S : jM} {v0 : Int32} (E : jEnv p s m args meth c cJ1_canEncode_9a6ad "java/lang/StringLatin1" (some .boolean) 1 g)  {H : Heap} {locs : List Loc} {ls : Array Slot} (hf : f_J1_canEncode_9a6ad v0 = some rr) (hM : jAt g S s H locs) (hl : lv_has ls 1 [(0, .int v0)]) : W p l e (jRm 1 0 0) s m args below meth c H locs 0 0 (MQ below (jQi g rr S) args s 0 0 (jA0 g)) (F0 m 0 ls []) := by
  obtain ⟨hx, hb, hml, -, hts, hown, hK, -, hstr⟩ := id E
  unfold f_J1_canEncode_9a6ad at hf
  refine lv_iload_n hx hb dJ1_canEncode_9a6ad_0 rfl (lv_at hl 0 rfl) ?_
  refine lv_if_lt (tgt := 15) hx hb dJ1_canEncode_9a6ad_1 (by decide) (fun c1 => ?_) (fun c1 => ?_)
  · have hf := jt c1 hf
    refine lv_iconst (v := (0 : Int32)) hx hb dJ1_canEncode_9a6ad_15 (by decide) ?_
    exact jiretz (jr1 hf) E hM (by decide) dJ1_canEncode_9a6ad_16
  · have hf := jf c1 hf
    refine lv_iload_n hx hb dJ1_canEncode_9a6ad_4 rfl (lv_at hl 0 rfl) ?_
    refine lv_sipush (v := (255 : Int32)) hx hb dJ1_canEncode_9a6ad_5 (by decide) ?_
    refine lv_icmp_gt (tgt := 15) hx hb dJ1_canEncode_9a6ad_8 (by decide) (fun c2 => ?_) (fun c2 => ?_)
    · have hf := jt c2 hf
      refine lv_iconst (v := (0 : Int32)) hx hb dJ1_canEncode_9a6ad_15 (by decide) ?_
      exact jiretz (jr1 hf) E hM (by decide) dJ1_canEncode_9a6ad_16
    · have hf := jf c2 hf
      refine lv_iconst (v := (1 : Int32)) hx hb dJ1_canEncode_9a6ad_11 (by decide) ?_
      refine lv_goto (tgt := 16) hx hb dJ1_canEncode_9a6ad_12 (by decide) ?_
      exact jiretz (jr1 hf) E hM (by decide) dJ1_canEncode_9a6ad_16
set_option maxRecDepth 100000 in
theorem C_J1_canEncode_9a6ad {l : Launch} {g : jG} {a0 : Int32} {S : jM} {rr : Int32} (hf : f_J1_canEncode_9a6ad a0 = some rr) : jMet l g yJ1_canEncode_9a6ad cJ1_canEncode_9a6ad 1 (some .boolean) 1 0 0 [.int a0] S (jQi g rr S) := by
  refine jof (by decide +kernel) (Nat.le_of_ble_eq_true rfl) ?_
  intro p e s m below meth c E hM ls hl
  have hl : lv_has ls 1 [(0, .int a0)] := hl
  exact B_J1_canEncode_9a6ad_0 E hf hM hl
-- java/lang/StringLatin1.indexOfChar([BIII)I  mode P
noncomputable def f_J1_indexOfChar_4cfef_7 : Nat → Nat → Int32 → Int32 → Int32 → Option Int32
  | 0, _, _, _, _ => none
  | n + 1, v0, v3, v4, v5 => if v3 ≤ v5 then some (-1 : Int32) else if v0 < 2 then if jin v5 (jlens.getD v0 0) = true then if ((jbyt.getD v0 []).getD (v5).toNatClampNeg 0) = v4 then some v5 else jlet (v5 + (1 : Int32)) (fun x5 => (f_J1_indexOfChar_4cfef_7 n) v0 v3 v4 x5) else none else none
noncomputable def f_J1_indexOfChar_4cfef (v0 : Nat) (v1 : Int32) (v2 : Int32) (v3 : Int32) : Option Int32 := jlet (v1.toInt8.toInt32) (fun x6 => f_J1_indexOfChar_4cfef_7 1100000 v0 v3 x6 v2)
set_option maxRecDepth 100000 in
set_option maxHeartbeats 4000000 in
theorem B_J1_indexOfChar_4cfef_7 {p : Program} {l : Launch} {e : Env} {s : State} {m : MethodId} {args : Array Value} {below : List Frame} {meth : Method} {c : Code} {g : jG} {rr : Int32} {S : jM} (E : jEnv p s m args meth c cJ1_indexOfChar_4cfef "java/lang/StringLatin1" (some .int) 6 g)  : ∀ (n : Nat) (v0 : Nat) (v3 : Int32) (v4 : Int32) (v5 : Int32) (H : Heap) (locs : List Loc) (ls : Array Slot), f_J1_indexOfChar_4cfef_7 n v0 v3 v4 v5 = some rr → jAt g S s H locs → lv_has ls 6 [(0, .ref (g.2.1 (200 + v0))), (3, .int v3), (4, .int v4), (5, .int v5)] → W p l e (jRm 1 0 0) s m args below meth c H locs 0 0 (MQ below (jQi g rr S) args s 0 0 (jA0 g)) (F0 m 7 ls []) := by
  obtain ⟨hx, hb, hml, -, hts, hown, hK, -, hstr⟩ := id E
  intro n
  induction n with
  | zero => intro v0 v3 v4 v5 H locs ls hf hM hl; rw [f_J1_indexOfChar_4cfef_7] at hf; cases hf
  | succ n ih =>
    intro v0 v3 v4 v5 H locs ls hf hM hl
    rw [f_J1_indexOfChar_4cfef_7] at hf
    refine lv_iload hx hb dJ1_indexOfChar_4cfef_7 (lv_at hl 3 rfl) ?_
    refine lv_iload_n hx hb dJ1_indexOfChar_4cfef_9 rfl (lv_at hl 1 rfl) ?_
    refine lv_icmp_ge (tgt := 31) hx hb dJ1_indexOfChar_4cfef_10 (by decide) (fun c1 => ?_) (fun c1 => ?_)
    · have hf := jt c1 hf
      refine lv_iconst (v := (-1 : Int32)) hx hb dJ1_indexOfChar_4cfef_31 (by decide) ?_
      exact jireti (jr1 hf) E hM dJ1_indexOfChar_4cfef_32
    · have hf := jf c1 hf
      refine lv_aload_n hx hb dJ1_indexOfChar_4cfef_13 rfl (lv_at hl 0 rfl) ?_
      refine lv_iload hx hb dJ1_indexOfChar_4cfef_14 (lv_at hl 3 rfl) ?_
      obtain ⟨hq2, hf⟩ := jif hf
      obtain ⟨hi3, hf⟩ := jif hf
      refine va_tb hx hb (hstr.1.1 v0 hq2).2.2.2 hM.2.1 (jin_in hi3) rfl dJ1_indexOfChar_4cfef_16 ?_
      refine lv_iload hx hb dJ1_indexOfChar_4cfef_17 (lv_at hl 2 rfl) ?_
      refine lv_icmp_ne (tgt := 25) hx hb dJ1_indexOfChar_4cfef_19 (by decide) (fun c4 => ?_) (fun c4 => ?_)
      · have hf := jf c4 hf
        obtain ⟨x5, ex5⟩ : ∃ z, z = v5 + (1 : Int32) := ⟨_, rfl⟩
        have hf := jlet_y ex5 hf
        refine lv_iinc (v := x5) (lv' := [(5, .int x5), (0, .ref (g.2.1 (200 + v0))), (3, .int v3), (4, .int v4)]) hx hb dJ1_indexOfChar_4cfef_25 hl (k := 3) rfl (by rw [ex5]; rfl) (by decide) rfl (fun ls hl => ?_)
        refine lv_goto (tgt := 7) hx hb dJ1_indexOfChar_4cfef_28 (by decide) ?_
        exact ih v0 v3 v4 x5 _ _ _ hf hM (lv_sub hl [1, 2, 3, 0] rfl)
      · have hf := jt c4 hf
        refine lv_iload hx hb dJ1_indexOfChar_4cfef_22 (lv_at hl 3 rfl) ?_
        exact jireti (jr1 hf) E hM dJ1_indexOfChar_4cfef_24
set_option maxRecDepth 100000 in
set_option maxHeartbeats 4000000 in
theorem B_J1_indexOfChar_4cfef_0 {p : Program} {l : Launch} {e : Env} {s : State} {m : MethodId} {args : Array Value} {below : List Frame} {meth : Method} {c : Code} {g : jG} {rr : Int32} {S : jM} {v0 : Nat} {v1 : Int32} {v2 : Int32} {v3 : Int32} (E : jEnv p s m args meth c cJ1_indexOfChar_4cfef "java/lang/StringLatin1" (some .int) 6 g)  {H : Heap} {locs : List Loc} {ls : Array Slot} (hf : f_J1_indexOfChar_4cfef v0 v1 v2 v3 = some rr) (hM : jAt g S s H locs) (hl : lv_has ls 6 [(0, .ref (g.2.1 (200 + v0))), (1, .int v1), (2, .int v2), (3, .int v3)]) : W p l e (jRm 1 0 0) s m args below meth c H locs 0 0 (MQ below (jQi g rr S) args s 0 0 (jA0 g)) (F0 m 0 ls []) := by
  obtain ⟨hx, hb, hml, -, hts, hown, hK, -, hstr⟩ := id E
  unfold f_J1_indexOfChar_4cfef at hf
  refine lv_iload_n hx hb dJ1_indexOfChar_4cfef_0 rfl (lv_at hl 1 rfl) ?_
  refine lv_i2b hx hb dJ1_indexOfChar_4cfef_1 rfl ?_
  refine lv_topi (fun x6 ex6 => ?_)
  have hf := jlet_y ex6 hf
  refine lv_istore (lv' := [(4, .int x6), (0, .ref (g.2.1 (200 + v0))), (1, .int v1), (2, .int v2), (3, .int v3)]) hx hb dJ1_indexOfChar_4cfef_2 hl (by decide) rfl (fun ls hl => ?_)
  refine lv_iload_n hx hb dJ1_indexOfChar_4cfef_4 rfl (lv_at hl 3 rfl) ?_
  refine lv_istore (lv' := [(5, .int v2), (4, .int x6), (0, .ref (g.2.1 (200 + v0))), (1, .int v1), (2, .int v2), (3, .int v3)]) hx hb dJ1_indexOfChar_4cfef_5 hl (by decide) rfl (fun ls hl => ?_)
  exact B_J1_indexOfChar_4cfef_7 E  1100000 v0 v3 x6 v2 _ _ _ hf hM (lv_sub hl [2, 5, 1, 0] rfl)
set_option maxRecDepth 100000 in
theorem C_J1_indexOfChar_4cfef {l : Launch} {g : jG} {a0 : Nat} {a1 : Int32} {a2 : Int32} {a3 : Int32} {S : jM} {rr : Int32} (hf : f_J1_indexOfChar_4cfef a0 a1 a2 a3 = some rr) : jMet l g yJ1_indexOfChar_4cfef cJ1_indexOfChar_4cfef 6 (some .int) 1 0 0 [.ref (g.2.1 (200 + a0)), .int a1, .int a2, .int a3] S (jQi g rr S) := by
  refine jof (by decide +kernel) (Nat.le_of_ble_eq_true rfl) ?_
  intro p e s m below meth c E hM ls hl
  have hl : lv_has ls 6 [(0, .ref (g.2.1 (200 + a0))),(1, .int a1),(2, .int a2),(3, .int a3)] := hl
  exact B_J1_indexOfChar_4cfef_0 E hf hM hl
-- java/lang/StringLatin1.indexOf([BIII)I  mode P
noncomputable def f_J1_indexOf_4cfef (v0 : Nat) (v1 : Int32) (v2 : Int32) (v3 : Int32) : Option Int32 := (f_J1_canEncode_9a6ad v1).bind (fun x1 => if x1 = 0 then some (-1 : Int32) else jlet ((if v2 < (0 : Int32) then (0 : Int32) else v2)) (fun x4 => if v0 < 2 then jlet ((if (Int32.ofNat (jlens.getD v0 0)) < v3 then (Int32.ofNat (jlens.getD v0 0)) else v3)) (fun x6 => if x4 < x6 then (f_J1_indexOfChar_4cfef v0 v1 x4 x6).bind (fun x8 => some x8) else some (-1 : Int32)) else none))
set_option maxRecDepth 100000 in
set_option maxHeartbeats 4000000 in
theorem B_J1_indexOf_4cfef_0 {p : Program} {l : Launch} {e : Env} {s : State} {m : MethodId} {args : Array Value} {below : List Frame} {meth : Method} {c : Code} {g : jG} {rr : Int32} {S : jM} {v0 : Nat} {v1 : Int32} {v2 : Int32} {v3 : Int32} (E : jEnv p s m args meth c cJ1_indexOf_4cfef "java/lang/StringLatin1" (some .int) 4 g)  {H : Heap} {locs : List Loc} {ls : Array Slot} (hf : f_J1_indexOf_4cfef v0 v1 v2 v3 = some rr) (hM : jAt g S s H locs) (hl : lv_has ls 4 [(0, .ref (g.2.1 (200 + v0))), (1, .int v1), (2, .int v2), (3, .int v3)]) : W p l e (jRm 2 0 0) s m args below meth c H locs 0 0 (MQ below (jQi g rr S) args s 0 0 (jA0 g)) (F0 m 0 ls []) := by
  obtain ⟨hx, hb, hml, -, hts, hown, hK, -, hstr⟩ := id E
  unfold f_J1_indexOf_4cfef at hf
  refine lv_iload_n hx hb dJ1_indexOf_4cfef_0 rfl (lv_at hl 1 rfl) ?_
  obtain ⟨x1, hc2, hf⟩ := jb hf
  refine jbackI hM (jrunS E hM ci_J1_canEncode_9a6ad (C_J1_canEncode_9a6ad hc2) lk_3_163 hl.1 rfl rfl (Nat.le_of_ble_eq_true rfl) ⟨Nat.le_of_ble_eq_true rfl, Nat.le_of_ble_eq_true rfl⟩ ⟨Nat.le_refl _, Nat.le_refl _⟩ dJ1_indexOf_4cfef_1) (fun H locs hM => ?_)
  refine lv_if_ne (tgt := 9) hx hb dJ1_indexOf_4cfef_4 (by decide) (fun c3 => ?_) (fun c3 => ?_)
  · have hf := jf c3 hf
    refine lv_iload_n hx hb dJ1_indexOf_4cfef_9 rfl (lv_at hl 2 rfl) ?_
    refine lv_iconst (v := (0 : Int32)) hx hb dJ1_indexOf_4cfef_10 (by decide) ?_
    refine va_mmax hx hb (by rw [hml, hl.1]) hown (hts _ lk_3_166) (hts _ lk_3_167) (hts _ lk_1_18) (hts _ lk_3_168) (Nat.le_of_ble_eq_true rfl) (Nat.le_of_ble_eq_true rfl) (Nat.le_refl _) (Nat.le_refl _) dJ1_indexOf_4cfef_11 ?_
    refine lv_topi (fun x4 ex4 => ?_)
    have hf := jlet_y ex4 hf
    refine lv_istore_n (lv' := [(2, .int x4), (0, .ref (g.2.1 (200 + v0))), (1, .int v1), (3, .int v3)]) hx hb dJ1_indexOf_4cfef_14 rfl hl (by decide) rfl (fun ls hl => ?_)
    refine lv_iload_n hx hb dJ1_indexOf_4cfef_15 rfl (lv_at hl 3 rfl) ?_
    refine lv_aload_n hx hb dJ1_indexOf_4cfef_16 rfl (lv_at hl 1 rfl) ?_
    obtain ⟨hq5, hf⟩ := jif hf
    refine va_tlen hx hb (hstr.1.1 v0 hq5).2.2.2 hM.2.1 rfl dJ1_indexOf_4cfef_17 ?_
    refine va_mmin hx hb (by rw [hml, hl.1]) hown (hts _ lk_3_169) (hts _ lk_3_170) (hts _ lk_1_18) (hts _ lk_3_171) (Nat.le_of_ble_eq_true rfl) (Nat.le_of_ble_eq_true rfl) (Nat.le_refl _) (Nat.le_refl _) dJ1_indexOf_4cfef_18 ?_
    refine lv_topi (fun x6 ex6 => ?_)
    have hf := jlet_y ex6 hf
    refine lv_istore_n (lv' := [(3, .int x6), (2, .int x4), (0, .ref (g.2.1 (200 + v0))), (1, .int v1)]) hx hb dJ1_indexOf_4cfef_21 rfl hl (by decide) rfl (fun ls hl => ?_)
    refine lv_iload_n hx hb dJ1_indexOf_4cfef_22 rfl (lv_at hl 1 rfl) ?_
    refine lv_iload_n hx hb dJ1_indexOf_4cfef_23 rfl (lv_at hl 0 rfl) ?_
    refine lv_icmp_lt (tgt := 29) hx hb dJ1_indexOf_4cfef_24 (by decide) (fun c7 => ?_) (fun c7 => ?_)
    · have hf := jt c7 hf
      refine lv_aload_n hx hb dJ1_indexOf_4cfef_29 rfl (lv_at hl 2 rfl) ?_
      refine lv_iload_n hx hb dJ1_indexOf_4cfef_30 rfl (lv_at hl 3 rfl) ?_
      refine lv_iload_n hx hb dJ1_indexOf_4cfef_31 rfl (lv_at hl 1 rfl) ?_
      refine lv_iload_n hx hb dJ1_indexOf_4cfef_32 rfl (lv_at hl 0 rfl) ?_
      obtain ⟨x8, hc9, hf⟩ := jb hf
      refine jbackI hM (jrunS E hM ci_J1_indexOfChar_4cfef (C_J1_indexOfChar_4cfef hc9) lk_3_172 hl.1 rfl rfl (Nat.le_of_ble_eq_true rfl) ⟨Nat.le_of_ble_eq_true rfl, Nat.le_of_ble_eq_true rfl⟩ ⟨Nat.le_refl _, Nat.le_refl _⟩ dJ1_indexOf_4cfef_33) (fun H locs hM => ?_)
      exact jireti (jr1 hf) E hM dJ1_indexOf_4cfef_36
    · have hf := jf c7 hf
      refine lv_iconst (v := (-1 : Int32)) hx hb dJ1_indexOf_4cfef_27 (by decide) ?_
      exact jireti (jr1 hf) E hM dJ1_indexOf_4cfef_28
  · have hf := jt c3 hf
    refine lv_iconst (v := (-1 : Int32)) hx hb dJ1_indexOf_4cfef_7 (by decide) ?_
    exact jireti (jr1 hf) E hM dJ1_indexOf_4cfef_8
set_option maxRecDepth 100000 in
theorem C_J1_indexOf_4cfef {l : Launch} {g : jG} {a0 : Nat} {a1 : Int32} {a2 : Int32} {a3 : Int32} {S : jM} {rr : Int32} (hf : f_J1_indexOf_4cfef a0 a1 a2 a3 = some rr) : jMet l g yJ1_indexOf_4cfef cJ1_indexOf_4cfef 4 (some .int) 2 0 0 [.ref (g.2.1 (200 + a0)), .int a1, .int a2, .int a3] S (jQi g rr S) := by
  refine jof (by decide +kernel) (Nat.le_of_ble_eq_true rfl) ?_
  intro p e s m below meth c E hM ls hl
  have hl : lv_has ls 4 [(0, .ref (g.2.1 (200 + a0))),(1, .int a1),(2, .int a2),(3, .int a3)] := hl
  exact B_J1_indexOf_4cfef_0 E hf hM hl
-- java/lang/String.indexOf(II)I  mode P
noncomputable def f_J0_indexOf_7cf53 (v0 : Nat) (v1 : Int32) (v2 : Int32) : Option Int32 := if v0 < 2 then (f_J0_isLatin1_aae02 v0).bind (fun x1 => if x1 = 0 then (f_J0_length_8abf5 v0).bind (fun x5 => none) else (f_J0_length_8abf5 v0).bind (fun x7 => (f_J1_indexOf_4cfef v0 v1 v2 x7).bind (fun x9 => some x9))) else none
set_option maxRecDepth 100000 in
set_option maxHeartbeats 4000000 in
theorem B_J0_indexOf_7cf53_0 {p : Program} {l : Launch} {e : Env} {s : State} {m : MethodId} {args : Array Value} {below : List Frame} {meth : Method} {c : Code} {g : jG} {rr : Int32} {S : jM} {v0 : Nat} {v1 : Int32} {v2 : Int32} (E : jEnv p s m args meth c cJ0_indexOf_7cf53 "java/lang/String" (some .int) 3 g)  {H : Heap} {locs : List Loc} {ls : Array Slot} (hf : f_J0_indexOf_7cf53 v0 v1 v2 = some rr) (hM : jAt g S s H locs) (hl : lv_has ls 3 [(0, .ref (g.2.1 (100 + v0))), (1, .int v1), (2, .int v2)]) : W p l e (jRm 3 0 0) s m args below meth c H locs 0 0 (MQ below (jQi g rr S) args s 0 0 (jA0 g)) (F0 m 0 ls []) := by
  obtain ⟨hx, hb, hml, -, hts, hown, hK, -, hstr⟩ := id E
  unfold f_J0_indexOf_7cf53 at hf
  refine lv_aload_n hx hb dJ0_indexOf_7cf53_0 rfl (lv_at hl 0 rfl) ?_
  obtain ⟨hq3, hf⟩ := jif hf
  obtain ⟨x1, hc2, hf⟩ := jb hf
  refine jbackI hM (jrunVS E hM ci_J0_isLatin1_aae02 (C_J0_isLatin1_aae02 hc2) lk_3_107 hq3 rfl hl.1 rfl rfl (Nat.le_of_ble_eq_true rfl) ⟨Nat.le_of_ble_eq_true rfl, Nat.le_of_ble_eq_true rfl⟩ ⟨Nat.le_refl _, Nat.le_refl _⟩ dJ0_indexOf_7cf53_1) (fun H locs hM => ?_)
  refine lv_if_eq (tgt := 23) hx hb dJ0_indexOf_7cf53_4 (by decide) (fun c4 => ?_) (fun c4 => ?_)
  · have hf := jt c4 hf
    refine lv_aload_n hx hb dJ0_indexOf_7cf53_23 rfl (lv_at hl 0 rfl) ?_
    refine vk_getf hx hb (hstr.1.1 v0 hq3).2.2.1 hM.2.1 hown (hts _ lk_9_61) (fun _ h => h) dJ0_indexOf_7cf53_24 ?_
    refine lv_iload_n hx hb dJ0_indexOf_7cf53_27 rfl (lv_at hl 1 rfl) ?_
    refine lv_iload_n hx hb dJ0_indexOf_7cf53_28 rfl (lv_at hl 2 rfl) ?_
    refine lv_aload_n hx hb dJ0_indexOf_7cf53_29 rfl (lv_at hl 0 rfl) ?_
    obtain ⟨x5, hc6, hf⟩ := jb hf
    refine jbackI hM (jrunVS E hM ci_J0_length_8abf5 (C_J0_length_8abf5 hc6) lk_3_159 hq3 rfl hl.1 rfl rfl (Nat.le_of_ble_eq_true rfl) ⟨Nat.le_of_ble_eq_true rfl, Nat.le_of_ble_eq_true rfl⟩ ⟨Nat.le_refl _, Nat.le_refl _⟩ dJ0_indexOf_7cf53_30) (fun H locs hM => ?_)
    cases hf
  · have hf := jf c4 hf
    refine lv_aload_n hx hb dJ0_indexOf_7cf53_7 rfl (lv_at hl 0 rfl) ?_
    refine vk_getf hx hb (hstr.1.1 v0 hq3).2.2.1 hM.2.1 hown (hts _ lk_9_61) (fun _ h => h) dJ0_indexOf_7cf53_8 ?_
    refine lv_iload_n hx hb dJ0_indexOf_7cf53_11 rfl (lv_at hl 1 rfl) ?_
    refine lv_iload_n hx hb dJ0_indexOf_7cf53_12 rfl (lv_at hl 2 rfl) ?_
    refine lv_aload_n hx hb dJ0_indexOf_7cf53_13 rfl (lv_at hl 0 rfl) ?_
    obtain ⟨x7, hc8, hf⟩ := jb hf
    refine jbackI hM (jrunVS E hM ci_J0_length_8abf5 (C_J0_length_8abf5 hc8) lk_3_159 hq3 rfl hl.1 rfl rfl (Nat.le_of_ble_eq_true rfl) ⟨Nat.le_of_ble_eq_true rfl, Nat.le_of_ble_eq_true rfl⟩ ⟨Nat.le_refl _, Nat.le_refl _⟩ dJ0_indexOf_7cf53_14) (fun H locs hM => ?_)
    obtain ⟨x9, hc10, hf⟩ := jb hf
    refine jbackI hM (jrunS E hM ci_J1_indexOf_4cfef (C_J1_indexOf_4cfef hc10) lk_3_160 hl.1 rfl rfl (Nat.le_of_ble_eq_true rfl) ⟨Nat.le_of_ble_eq_true rfl, Nat.le_of_ble_eq_true rfl⟩ ⟨Nat.le_refl _, Nat.le_refl _⟩ dJ0_indexOf_7cf53_17) (fun H locs hM => ?_)
    refine lv_goto (tgt := 36) hx hb dJ0_indexOf_7cf53_20 (by decide) ?_
    exact jireti (jr1 hf) E hM dJ0_indexOf_7cf53_36
set_option maxRecDepth 100000 in
theorem C_J0_indexOf_7cf53 {l : Launch} {g : jG} {a0 : Nat} {a1 : Int32} {a2 : Int32} {S : jM} {rr : Int32} (hf : f_J0_indexOf_7cf53 a0 a1 a2 = some rr) : jMet l g yJ0_indexOf_7cf53 cJ0_indexOf_7cf53 3 (some .int) 3 0 0 [.ref (g.2.1 (100 + a0)), .int a1, .int a2] S (jQi g rr S) := by
  refine jof (by decide +kernel) (Nat.le_of_ble_eq_true rfl) ?_
  intro p e s m below meth c E hM ls hl
  have hl : lv_has ls 3 [(0, .ref (g.2.1 (100 + a0))),(1, .int a1),(2, .int a2)] := hl
  exact B_J0_indexOf_7cf53_0 E hf hM hl
-- java/lang/String.indexOf(I)I  mode P
noncomputable def f_J0_indexOf_0f7a4 (v0 : Nat) (v1 : Int32) : Option Int32 := if v0 < 2 then (f_J0_indexOf_7cf53 v0 v1 (0 : Int32)).bind (fun x1 => some x1) else none
set_option maxRecDepth 100000 in
set_option maxHeartbeats 4000000 in
theorem B_J0_indexOf_0f7a4_0 {p : Program} {l : Launch} {e : Env} {s : State} {m : MethodId} {args : Array Value} {below : List Frame} {meth : Method} {c : Code} {g : jG} {rr : Int32} {S : jM} {v0 : Nat} {v1 : Int32} (E : jEnv p s m args meth c cJ0_indexOf_0f7a4 "java/lang/String" (some .int) 2 g)  {H : Heap} {locs : List Loc} {ls : Array Slot} (hf : f_J0_indexOf_0f7a4 v0 v1 = some rr) (hM : jAt g S s H locs) (hl : lv_has ls 2 [(0, .ref (g.2.1 (100 + v0))), (1, .int v1)]) : W p l e (jRm 4 0 0) s m args below meth c H locs 0 0 (MQ below (jQi g rr S) args s 0 0 (jA0 g)) (F0 m 0 ls []) := by
  obtain ⟨hx, hb, hml, -, hts, hown, hK, -, hstr⟩ := id E
  unfold f_J0_indexOf_0f7a4 at hf
  refine lv_aload_n hx hb dJ0_indexOf_0f7a4_0 rfl (lv_at hl 0 rfl) ?_
  refine lv_iload_n hx hb dJ0_indexOf_0f7a4_1 rfl (lv_at hl 1 rfl) ?_
  refine lv_iconst (v := (0 : Int32)) hx hb dJ0_indexOf_0f7a4_2 (by decide) ?_
  obtain ⟨hq3, hf⟩ := jif hf
  obtain ⟨x1, hc2, hf⟩ := jb hf
  refine jbackI hM (jrunVS E hM ci_J0_indexOf_7cf53 (C_J0_indexOf_7cf53 hc2) lk_3_155 hq3 rfl hl.1 rfl rfl (Nat.le_of_ble_eq_true rfl) ⟨Nat.le_of_ble_eq_true rfl, Nat.le_of_ble_eq_true rfl⟩ ⟨Nat.le_refl _, Nat.le_refl _⟩ dJ0_indexOf_0f7a4_3) (fun H locs hM => ?_)
  exact jireti (jr1 hf) E hM dJ0_indexOf_0f7a4_6
set_option maxRecDepth 100000 in
theorem C_J0_indexOf_0f7a4 {l : Launch} {g : jG} {a0 : Nat} {a1 : Int32} {S : jM} {rr : Int32} (hf : f_J0_indexOf_0f7a4 a0 a1 = some rr) : jMet l g yJ0_indexOf_0f7a4 cJ0_indexOf_0f7a4 2 (some .int) 4 0 0 [.ref (g.2.1 (100 + a0)), .int a1] S (jQi g rr S) := by
  refine jof (by decide +kernel) (Nat.le_of_ble_eq_true rfl) ?_
  intro p e s m below meth c E hM ls hl
  have hl : lv_has ls 2 [(0, .ref (g.2.1 (100 + a0))),(1, .int a1)] := hl
  exact B_J0_indexOf_0f7a4_0 E hf hM hl
-- java/util/Arrays.fill([II)V  mode M
noncomputable def f_J7_fill_53178_5 : Nat → Nat → Int32 → Int32 → Int32 → jM → Option jM
  | 0, _, _, _, _, _ => none
  | n + 1, v0, v1, v2, v3, S => if v3 ≤ v2 then some S else if jA v0 13 v2 = true then jlet (jrI S v0 (upd (jAI S v0) (v2).toNatClampNeg v1)) (fun S3 => jlet (v2 + (1 : Int32)) (fun x4 => (f_J7_fill_53178_5 n) v0 v1 x4 v3 S3)) else none
noncomputable def f_J7_fill_53178 (v0 : Nat) (v1 : Int32) (S : jM) : Option jM := if jK v0 = 13 then jlet (Int32.ofNat (jLen v0)) (fun x6 => f_J7_fill_53178_5 1100000 v0 v1 (0 : Int32) x6 S) else none
set_option maxRecDepth 100000 in
set_option maxHeartbeats 4000000 in
theorem B_J7_fill_53178_5 {p : Program} {l : Launch} {e : Env} {s : State} {m : MethodId} {args : Array Value} {below : List Frame} {meth : Method} {c : Code} {g : jG} {SS : jM} (E : jEnv p s m args meth c cJ7_fill_53178 "java/util/Arrays" none 4 g)  : ∀ (n : Nat) (v0 : Nat) (v1 : Int32) (v2 : Int32) (v3 : Int32) (S : jM) (H : Heap) (locs : List Loc) (ls : Array Slot), f_J7_fill_53178_5 n v0 v1 v2 v3 S = some SS → jAt g S s H locs → lv_has ls 4 [(0, .ref (g.2.2 + v0)), (1, .int v1), (2, .int v2), (3, .int v3)] → W p l e (jRm 1 0 0) s m args below meth c H locs 0 0 (MQ below (jQv g SS) args s 0 0 (jA0 g)) (F0 m 5 ls []) := by
  obtain ⟨hx, hb, hml, -, hts, hown, hK, -, hstr⟩ := id E
  intro n
  induction n with
  | zero => intro v0 v1 v2 v3 S H locs ls hf hM hl; rw [f_J7_fill_53178_5] at hf; cases hf
  | succ n ih =>
    intro v0 v1 v2 v3 S H locs ls hf hM hl
    rw [f_J7_fill_53178_5] at hf
    refine lv_iload_n hx hb dJ7_fill_53178_5 rfl (lv_at hl 2 rfl) ?_
    refine lv_iload_n hx hb dJ7_fill_53178_6 rfl (lv_at hl 3 rfl) ?_
    refine lv_icmp_ge (tgt := 20) hx hb dJ7_fill_53178_7 (by decide) (fun c1 => ?_) (fun c1 => ?_)
    · have hf := jt c1 hf
      exact jvret (jrv hf) E hM dJ7_fill_53178_20
    · have hf := jf c1 hf
      refine lv_aload_n hx hb dJ7_fill_53178_10 rfl (lv_at hl 0 rfl) ?_
      refine lv_iload_n hx hb dJ7_fill_53178_11 rfl (lv_at hl 2 rfl) ?_
      refine lv_iload_n hx hb dJ7_fill_53178_12 rfl (lv_at hl 1 rfl) ?_
      obtain ⟨ha2, hf⟩ := jif hf
      refine jiast E hM ha2 dJ7_fill_53178_13 (fun H locs S3 eS3 hM => ?_)
      have hf := jlet_y eS3 hf
      obtain ⟨x4, ex4⟩ : ∃ z, z = v2 + (1 : Int32) := ⟨_, rfl⟩
      have hf := jlet_y ex4 hf
      refine lv_iinc (v := x4) (lv' := [(2, .int x4), (0, .ref (g.2.2 + v0)), (1, .int v1), (3, .int v3)]) hx hb dJ7_fill_53178_14 hl (k := 2) rfl (by rw [ex4]; rfl) (by decide) rfl (fun ls hl => ?_)
      refine lv_goto (tgt := 5) hx hb dJ7_fill_53178_17 (by decide) ?_
      exact ih v0 v1 x4 v3 S3 _ _ _ hf hM (lv_sub hl [1, 2, 0, 3] rfl)
set_option maxRecDepth 100000 in
set_option maxHeartbeats 4000000 in
theorem B_J7_fill_53178_0 {p : Program} {l : Launch} {e : Env} {s : State} {m : MethodId} {args : Array Value} {below : List Frame} {meth : Method} {c : Code} {g : jG} {SS : jM} {v0 : Nat} {v1 : Int32} {S : jM} (E : jEnv p s m args meth c cJ7_fill_53178 "java/util/Arrays" none 4 g)  {H : Heap} {locs : List Loc} {ls : Array Slot} (hf : f_J7_fill_53178 v0 v1 S = some SS) (hM : jAt g S s H locs) (hl : lv_has ls 4 [(0, .ref (g.2.2 + v0)), (1, .int v1)]) : W p l e (jRm 1 0 0) s m args below meth c H locs 0 0 (MQ below (jQv g SS) args s 0 0 (jA0 g)) (F0 m 0 ls []) := by
  obtain ⟨hx, hb, hml, -, hts, hown, hK, -, hstr⟩ := id E
  unfold f_J7_fill_53178 at hf
  refine lv_iconst (v := (0 : Int32)) hx hb dJ7_fill_53178_0 (by decide) ?_
  refine lv_istore_n (lv' := [(2, .int (0 : Int32)), (0, .ref (g.2.2 + v0)), (1, .int v1)]) hx hb dJ7_fill_53178_1 rfl hl (by decide) rfl (fun ls hl => ?_)
  refine lv_aload_n hx hb dJ7_fill_53178_2 rfl (lv_at hl 1 rfl) ?_
  obtain ⟨hq5, hf⟩ := jif hf
  refine jalen (t0 := 2) E hM hq5 (by decide) (by decide) rfl dJ7_fill_53178_3 ?_
  refine lv_topi (fun x6 ex6 => ?_)
  have hf := jlet_y ex6 hf
  refine lv_istore_n (lv' := [(3, .int x6), (2, .int (0 : Int32)), (0, .ref (g.2.2 + v0)), (1, .int v1)]) hx hb dJ7_fill_53178_4 rfl hl (by decide) rfl (fun ls hl => ?_)
  exact B_J7_fill_53178_5 E  1100000 v0 v1 (0 : Int32) x6 S _ _ _ hf hM (lv_sub hl [2, 3, 1, 0] rfl)
set_option maxRecDepth 100000 in
theorem C_J7_fill_53178 {l : Launch} {g : jG} {a0 : Nat} {a1 : Int32} {S : jM} {SS : jM} (hf : f_J7_fill_53178 a0 a1 S = some SS) : jMet l g yJ7_fill_53178 cJ7_fill_53178 4 none 1 0 0 [.ref (g.2.2 + a0), .int a1] S (jQv g SS) := by
  refine jof (by decide +kernel) (Nat.le_of_ble_eq_true rfl) ?_
  intro p e s m below meth c E hM ls hl
  have hl : lv_has ls 4 [(0, .ref (g.2.2 + a0)),(1, .int a1)] := hl
  exact B_J7_fill_53178_0 E hf hM hl
-- java/util/Arrays.fill([JJ)V  mode M
noncomputable def f_J7_fill_d0a16_6 : Nat → Nat → Int64 → Int32 → Int32 → jM → Option jM
  | 0, _, _, _, _, _ => none
  | n + 1, v0, v1, v3, v4, S => if v4 ≤ v3 then some S else if jA v0 14 v3 = true then jlet (jrL S v0 (vp_updL (jAL S v0) (v3).toNatClampNeg v1)) (fun S3 => jlet (v3 + (1 : Int32)) (fun x4 => (f_J7_fill_d0a16_6 n) v0 v1 x4 v4 S3)) else none
noncomputable def f_J7_fill_d0a16 (v0 : Nat) (v1 : Int64) (S : jM) : Option jM := if jK v0 = 14 then jlet (Int32.ofNat (jLen v0)) (fun x6 => f_J7_fill_d0a16_6 1100000 v0 v1 (0 : Int32) x6 S) else none
set_option maxRecDepth 100000 in
set_option maxHeartbeats 4000000 in
theorem B_J7_fill_d0a16_6 {p : Program} {l : Launch} {e : Env} {s : State} {m : MethodId} {args : Array Value} {below : List Frame} {meth : Method} {c : Code} {g : jG} {SS : jM} (E : jEnv p s m args meth c cJ7_fill_d0a16 "java/util/Arrays" none 5 g)  : ∀ (n : Nat) (v0 : Nat) (v1 : Int64) (v3 : Int32) (v4 : Int32) (S : jM) (H : Heap) (locs : List Loc) (ls : Array Slot), f_J7_fill_d0a16_6 n v0 v1 v3 v4 S = some SS → jAt g S s H locs → lv_has ls 5 [(0, .ref (g.2.2 + v0)), (1, .long v1), (3, .int v3), (4, .int v4)] → W p l e (jRm 1 0 0) s m args below meth c H locs 0 0 (MQ below (jQv g SS) args s 0 0 (jA0 g)) (F0 m 6 ls []) := by
  obtain ⟨hx, hb, hml, -, hts, hown, hK, -, hstr⟩ := id E
  intro n
  induction n with
  | zero => intro v0 v1 v3 v4 S H locs ls hf hM hl; rw [f_J7_fill_d0a16_6] at hf; cases hf
  | succ n ih =>
    intro v0 v1 v3 v4 S H locs ls hf hM hl
    rw [f_J7_fill_d0a16_6] at hf
    refine lv_iload_n hx hb dJ7_fill_d0a16_6 rfl (lv_at hl 2 rfl) ?_
    refine lv_iload hx hb dJ7_fill_d0a16_7 (lv_at hl 3 rfl) ?_
    refine lv_icmp_ge (tgt := 22) hx hb dJ7_fill_d0a16_9 (by decide) (fun c1 => ?_) (fun c1 => ?_)
    · have hf := jt c1 hf
      exact jvret (jrv hf) E hM dJ7_fill_d0a16_22
    · have hf := jf c1 hf
      refine lv_aload_n hx hb dJ7_fill_d0a16_12 rfl (lv_at hl 0 rfl) ?_
      refine lv_iload_n hx hb dJ7_fill_d0a16_13 rfl (lv_at hl 2 rfl) ?_
      refine lv_lload_n hx hb dJ7_fill_d0a16_14 rfl (lv_at hl 1 rfl) ?_
      obtain ⟨ha2, hf⟩ := jif hf
      refine jlast E hM ha2 dJ7_fill_d0a16_15 (fun H locs S3 eS3 hM => ?_)
      have hf := jlet_y eS3 hf
      obtain ⟨x4, ex4⟩ : ∃ z, z = v3 + (1 : Int32) := ⟨_, rfl⟩
      have hf := jlet_y ex4 hf
      refine lv_iinc (v := x4) (lv' := [(3, .int x4), (0, .ref (g.2.2 + v0)), (1, .long v1), (4, .int v4)]) hx hb dJ7_fill_d0a16_16 hl (k := 2) rfl (by rw [ex4]; rfl) (by decide) rfl (fun ls hl => ?_)
      refine lv_goto (tgt := 6) hx hb dJ7_fill_d0a16_19 (by decide) ?_
      exact ih v0 v1 x4 v4 S3 _ _ _ hf hM (lv_sub hl [1, 2, 0, 3] rfl)
set_option maxRecDepth 100000 in
set_option maxHeartbeats 4000000 in
theorem B_J7_fill_d0a16_0 {p : Program} {l : Launch} {e : Env} {s : State} {m : MethodId} {args : Array Value} {below : List Frame} {meth : Method} {c : Code} {g : jG} {SS : jM} {v0 : Nat} {v1 : Int64} {S : jM} (E : jEnv p s m args meth c cJ7_fill_d0a16 "java/util/Arrays" none 5 g)  {H : Heap} {locs : List Loc} {ls : Array Slot} (hf : f_J7_fill_d0a16 v0 v1 S = some SS) (hM : jAt g S s H locs) (hl : lv_has ls 5 [(0, .ref (g.2.2 + v0)), (1, .long v1)]) : W p l e (jRm 1 0 0) s m args below meth c H locs 0 0 (MQ below (jQv g SS) args s 0 0 (jA0 g)) (F0 m 0 ls []) := by
  obtain ⟨hx, hb, hml, -, hts, hown, hK, -, hstr⟩ := id E
  unfold f_J7_fill_d0a16 at hf
  refine lv_iconst (v := (0 : Int32)) hx hb dJ7_fill_d0a16_0 (by decide) ?_
  refine lv_istore_n (lv' := [(3, .int (0 : Int32)), (0, .ref (g.2.2 + v0)), (1, .long v1)]) hx hb dJ7_fill_d0a16_1 rfl hl (by decide) rfl (fun ls hl => ?_)
  refine lv_aload_n hx hb dJ7_fill_d0a16_2 rfl (lv_at hl 1 rfl) ?_
  obtain ⟨hq5, hf⟩ := jif hf
  refine jalen (t0 := 3) E hM hq5 (by decide) (by decide) rfl dJ7_fill_d0a16_3 ?_
  refine lv_topi (fun x6 ex6 => ?_)
  have hf := jlet_y ex6 hf
  refine lv_istore (lv' := [(4, .int x6), (3, .int (0 : Int32)), (0, .ref (g.2.2 + v0)), (1, .long v1)]) hx hb dJ7_fill_d0a16_4 hl (by decide) rfl (fun ls hl => ?_)
  exact B_J7_fill_d0a16_6 E  1100000 v0 v1 (0 : Int32) x6 S _ _ _ hf hM (lv_sub hl [2, 3, 1, 0] rfl)
set_option maxRecDepth 100000 in
theorem C_J7_fill_d0a16 {l : Launch} {g : jG} {a0 : Nat} {a1 : Int64} {S : jM} {SS : jM} (hf : f_J7_fill_d0a16 a0 a1 S = some SS) : jMet l g yJ7_fill_d0a16 cJ7_fill_d0a16 5 none 1 0 0 [.ref (g.2.2 + a0), .long a1] S (jQv g SS) := by
  refine jof (by decide +kernel) (Nat.le_of_ble_eq_true rfl) ?_
  intro p e s m below meth c E hM ls hl
  have hl : lv_has ls 5 [(0, .ref (g.2.2 + a0)),(1, .long a1)] := hl
  exact B_J7_fill_d0a16_0 E hf hM hl
-- PensionHouse$Text.inner(II)I  mode R
noncomputable def f_X8_inner (v0 : Nat) (v1 : Int32) (v2 : Int32) (S : jM) : Option Int32 := if v1 < 0 then some (-1 : Int32) else if jK v0 = 6 then if (jI S 45 v0) ≤ v1 then some (-1 : Int32) else if v2 < 0 then some (-1 : Int32) else if (3 : Int32) ≤ v2 then some (-1 : Int32) else (jR S 48 v0).bind (fun r6 => if jA r6 13 ((v1 * (3 : Int32)) + v2) = true then some (jAI S r6 ((v1 * (3 : Int32)) + v2).toNatClampNeg) else none) else none
set_option maxRecDepth 100000 in
set_option maxHeartbeats 4000000 in
theorem B_X8_inner_0 {p : Program} {l : Launch} {e : Env} {s : State} {m : MethodId} {args : Array Value} {below : List Frame} {meth : Method} {c : Code} {g : jG} {rr : Int32} {S : jM} {v0 : Nat} {v1 : Int32} {v2 : Int32} (E : jEnv p s m args meth c cX8_inner "PensionHouse$Text" (some .int) 3 g)  {H : Heap} {locs : List Loc} {ls : Array Slot} (hf : f_X8_inner v0 v1 v2 S = some rr) (hM : jAt g S s H locs) (hl : lv_has ls 3 [(0, .ref (g.2.2 + v0)), (1, .int v1), (2, .int v2)]) : W p l e (jRm 1 0 0) s m args below meth c H locs 0 0 (MQ below (jQi g rr S) args s 0 0 (jA0 g)) (F0 m 0 ls []) := by
  obtain ⟨hx, hb, hml, -, hts, hown, hK, -, hstr⟩ := id E
  unfold f_X8_inner at hf
  refine lv_iload_n hx hb dX8_inner_0 rfl (lv_at hl 1 rfl) ?_
  refine lv_if_lt (tgt := 34) hx hb dX8_inner_1 (by decide) (fun c1 => ?_) (fun c1 => ?_)
  · have hf := jt c1 hf
    refine lv_iconst (v := (-1 : Int32)) hx hb dX8_inner_34 (by decide) ?_
    exact jireti (jr1 hf) E hM dX8_inner_35
  · have hf := jf c1 hf
    refine lv_iload_n hx hb dX8_inner_4 rfl (lv_at hl 1 rfl) ?_
    refine lv_aload_n hx hb dX8_inner_5 rfl (lv_at hl 0 rfl) ?_
    obtain ⟨hq2, hf⟩ := jif hf
    refine gt_45 E hM hq2 lk_1_176 dX8_inner_6 ?_
    refine lv_icmp_ge (tgt := 34) hx hb dX8_inner_9 (by decide) (fun c3 => ?_) (fun c3 => ?_)
    · have hf := jt c3 hf
      refine lv_iconst (v := (-1 : Int32)) hx hb dX8_inner_34 (by decide) ?_
      exact jireti (jr1 hf) E hM dX8_inner_35
    · have hf := jf c3 hf
      refine lv_iload_n hx hb dX8_inner_12 rfl (lv_at hl 2 rfl) ?_
      refine lv_if_lt (tgt := 34) hx hb dX8_inner_13 (by decide) (fun c4 => ?_) (fun c4 => ?_)
      · have hf := jt c4 hf
        refine lv_iconst (v := (-1 : Int32)) hx hb dX8_inner_34 (by decide) ?_
        exact jireti (jr1 hf) E hM dX8_inner_35
      · have hf := jf c4 hf
        refine lv_iload_n hx hb dX8_inner_16 rfl (lv_at hl 2 rfl) ?_
        refine lv_iconst (v := (3 : Int32)) hx hb dX8_inner_17 (by decide) ?_
        refine lv_icmp_ge (tgt := 34) hx hb dX8_inner_18 (by decide) (fun c5 => ?_) (fun c5 => ?_)
        · have hf := jt c5 hf
          refine lv_iconst (v := (-1 : Int32)) hx hb dX8_inner_34 (by decide) ?_
          exact jireti (jr1 hf) E hM dX8_inner_35
        · have hf := jf c5 hf
          refine lv_aload_n hx hb dX8_inner_21 rfl (lv_at hl 0 rfl) ?_
          refine gt_48 E hM hq2 lk_1_182 dX8_inner_22 ?_
          obtain ⟨r6, hr7, hf⟩ := jb hf
          rw [hr7]
          show W p l e _ s m args below meth c H locs 0 0 _ (F0 m _ ls (.ref (g.2.2 + r6) :: _))
          refine lv_iload_n hx hb dX8_inner_25 rfl (lv_at hl 1 rfl) ?_
          refine lv_iconst (v := (3 : Int32)) hx hb dX8_inner_26 (by decide) ?_
          refine lv_imul hx hb dX8_inner_27 ?_
          refine lv_iload_n hx hb dX8_inner_28 rfl (lv_at hl 2 rfl) ?_
          refine lv_iadd hx hb dX8_inner_29 ?_
          obtain ⟨ha8, hf⟩ := jif hf
          refine jiald E hM ha8 dX8_inner_30 ?_
          refine lv_goto (tgt := 35) hx hb dX8_inner_31 (by decide) ?_
          exact jireti (jr1 hf) E hM dX8_inner_35
set_option maxRecDepth 100000 in
theorem C_X8_inner {l : Launch} {g : jG} {a0 : Nat} {a1 : Int32} {a2 : Int32} {S : jM} {rr : Int32} (hf : f_X8_inner a0 a1 a2 S = some rr) : jMet l g yX8_inner cX8_inner 3 (some .int) 1 0 0 [.ref (g.2.2 + a0), .int a1, .int a2] S (jQi g rr S) := by
  refine jof (by decide +kernel) (Nat.le_of_ble_eq_true rfl) ?_
  intro p e s m below meth c E hM ls hl
  have hl : lv_has ls 3 [(0, .ref (g.2.2 + a0)),(1, .int a1),(2, .int a2)] := hl
  exact B_X8_inner_0 E hf hM hl
-- PensionHouse$Tape.arity(I)I  mode T
noncomputable def f_X7_arity (v0 : Int32) : Int32 := if v0 = (128 : Int32) then (2 : Int32) else if v0 = (129 : Int32) then (1 : Int32) else if v0 = (130 : Int32) then (1 : Int32) else if v0 = (133 : Int32) then (1 : Int32) else if v0 = (136 : Int32) then (2 : Int32) else if v0 = (137 : Int32) then (2 : Int32) else if v0 = (138 : Int32) then (1 : Int32) else if v0 = (139 : Int32) then (2 : Int32) else if v0 = (140 : Int32) then (2 : Int32) else if v0 = (141 : Int32) then (1 : Int32) else if v0 = (143 : Int32) then (1 : Int32) else if v0 = (144 : Int32) then (1 : Int32) else if v0 = (150 : Int32) then (1 : Int32) else if v0 = (151 : Int32) then (3 : Int32) else if v0 = (152 : Int32) then (1 : Int32) else (0 : Int32)
set_option maxRecDepth 100000 in
set_option maxHeartbeats 4000000 in
theorem B_X7_arity_0 {p : Program} {l : Launch} {e : Env} {s : State} {m : MethodId} {args : Array Value} {below : List Frame} {meth : Method} {c : Code} {g : jG} {rr : Int32} {S : jM} {v0 : Int32} (E : jEnv p s m args meth c cX7_arity "PensionHouse$Tape" (some .int) 1 g)  {H : Heap} {locs : List Loc} {ls : Array Slot} (hf : f_X7_arity v0 = rr) (hM : jAt g S s H locs) (hl : lv_has ls 1 [(0, .int v0)]) : W p l e (jRm 1 0 0) s m args below meth c H locs 0 0 (MQ below (jQi g rr S) args s 0 0 (jA0 g)) (F0 m 0 ls []) := by
  obtain ⟨hx, hb, hml, -, hts, hown, hK, -, hstr⟩ := id E
  unfold f_X7_arity at hf
  refine lv_iload_n hx hb dX7_arity_0 rfl (lv_at hl 0 rfl) ?_
  by_cases c1 : v0 = (128 : Int32)
  · have hf := jt c1 hf
    refine lv_tableIn (off := 117) (tgt := 118) hx hb dX7_arity_1 (by rw [c1]; decide) (by rw [c1]; decide) (by rw [c1]; rfl) (by decide) ?_
    refine lv_iconst (v := (2 : Int32)) hx hb dX7_arity_118 (by decide) ?_
    exact jireti (jr0 hf) E hM dX7_arity_119
  have hf := jf c1 hf
  by_cases c2 : v0 = (129 : Int32)
  · have hf := jt c2 hf
    refine lv_tableIn (off := 115) (tgt := 116) hx hb dX7_arity_1 (by rw [c2]; decide) (by rw [c2]; decide) (by rw [c2]; rfl) (by decide) ?_
    refine lv_iconst (v := (1 : Int32)) hx hb dX7_arity_116 (by decide) ?_
    exact jireti (jr0 hf) E hM dX7_arity_117
  have hf := jf c2 hf
  by_cases c3 : v0 = (130 : Int32)
  · have hf := jt c3 hf
    refine lv_tableIn (off := 115) (tgt := 116) hx hb dX7_arity_1 (by rw [c3]; decide) (by rw [c3]; decide) (by rw [c3]; rfl) (by decide) ?_
    refine lv_iconst (v := (1 : Int32)) hx hb dX7_arity_116 (by decide) ?_
    exact jireti (jr0 hf) E hM dX7_arity_117
  have hf := jf c3 hf
  by_cases c4 : v0 = (133 : Int32)
  · have hf := jt c4 hf
    refine lv_tableIn (off := 115) (tgt := 116) hx hb dX7_arity_1 (by rw [c4]; decide) (by rw [c4]; decide) (by rw [c4]; rfl) (by decide) ?_
    refine lv_iconst (v := (1 : Int32)) hx hb dX7_arity_116 (by decide) ?_
    exact jireti (jr0 hf) E hM dX7_arity_117
  have hf := jf c4 hf
  by_cases c5 : v0 = (136 : Int32)
  · have hf := jt c5 hf
    refine lv_tableIn (off := 117) (tgt := 118) hx hb dX7_arity_1 (by rw [c5]; decide) (by rw [c5]; decide) (by rw [c5]; rfl) (by decide) ?_
    refine lv_iconst (v := (2 : Int32)) hx hb dX7_arity_118 (by decide) ?_
    exact jireti (jr0 hf) E hM dX7_arity_119
  have hf := jf c5 hf
  by_cases c6 : v0 = (137 : Int32)
  · have hf := jt c6 hf
    refine lv_tableIn (off := 117) (tgt := 118) hx hb dX7_arity_1 (by rw [c6]; decide) (by rw [c6]; decide) (by rw [c6]; rfl) (by decide) ?_
    refine lv_iconst (v := (2 : Int32)) hx hb dX7_arity_118 (by decide) ?_
    exact jireti (jr0 hf) E hM dX7_arity_119
  have hf := jf c6 hf
  by_cases c7 : v0 = (138 : Int32)
  · have hf := jt c7 hf
    refine lv_tableIn (off := 115) (tgt := 116) hx hb dX7_arity_1 (by rw [c7]; decide) (by rw [c7]; decide) (by rw [c7]; rfl) (by decide) ?_
    refine lv_iconst (v := (1 : Int32)) hx hb dX7_arity_116 (by decide) ?_
    exact jireti (jr0 hf) E hM dX7_arity_117
  have hf := jf c7 hf
  by_cases c8 : v0 = (139 : Int32)
  · have hf := jt c8 hf
    refine lv_tableIn (off := 117) (tgt := 118) hx hb dX7_arity_1 (by rw [c8]; decide) (by rw [c8]; decide) (by rw [c8]; rfl) (by decide) ?_
    refine lv_iconst (v := (2 : Int32)) hx hb dX7_arity_118 (by decide) ?_
    exact jireti (jr0 hf) E hM dX7_arity_119
  have hf := jf c8 hf
  by_cases c9 : v0 = (140 : Int32)
  · have hf := jt c9 hf
    refine lv_tableIn (off := 117) (tgt := 118) hx hb dX7_arity_1 (by rw [c9]; decide) (by rw [c9]; decide) (by rw [c9]; rfl) (by decide) ?_
    refine lv_iconst (v := (2 : Int32)) hx hb dX7_arity_118 (by decide) ?_
    exact jireti (jr0 hf) E hM dX7_arity_119
  have hf := jf c9 hf
  by_cases c10 : v0 = (141 : Int32)
  · have hf := jt c10 hf
    refine lv_tableIn (off := 115) (tgt := 116) hx hb dX7_arity_1 (by rw [c10]; decide) (by rw [c10]; decide) (by rw [c10]; rfl) (by decide) ?_
    refine lv_iconst (v := (1 : Int32)) hx hb dX7_arity_116 (by decide) ?_
    exact jireti (jr0 hf) E hM dX7_arity_117
  have hf := jf c10 hf
  by_cases c11 : v0 = (143 : Int32)
  · have hf := jt c11 hf
    refine lv_tableIn (off := 115) (tgt := 116) hx hb dX7_arity_1 (by rw [c11]; decide) (by rw [c11]; decide) (by rw [c11]; rfl) (by decide) ?_
    refine lv_iconst (v := (1 : Int32)) hx hb dX7_arity_116 (by decide) ?_
    exact jireti (jr0 hf) E hM dX7_arity_117
  have hf := jf c11 hf
  by_cases c12 : v0 = (144 : Int32)
  · have hf := jt c12 hf
    refine lv_tableIn (off := 115) (tgt := 116) hx hb dX7_arity_1 (by rw [c12]; decide) (by rw [c12]; decide) (by rw [c12]; rfl) (by decide) ?_
    refine lv_iconst (v := (1 : Int32)) hx hb dX7_arity_116 (by decide) ?_
    exact jireti (jr0 hf) E hM dX7_arity_117
  have hf := jf c12 hf
  by_cases c13 : v0 = (150 : Int32)
  · have hf := jt c13 hf
    refine lv_tableIn (off := 115) (tgt := 116) hx hb dX7_arity_1 (by rw [c13]; decide) (by rw [c13]; decide) (by rw [c13]; rfl) (by decide) ?_
    refine lv_iconst (v := (1 : Int32)) hx hb dX7_arity_116 (by decide) ?_
    exact jireti (jr0 hf) E hM dX7_arity_117
  have hf := jf c13 hf
  by_cases c14 : v0 = (151 : Int32)
  · have hf := jt c14 hf
    refine lv_tableIn (off := 119) (tgt := 120) hx hb dX7_arity_1 (by rw [c14]; decide) (by rw [c14]; decide) (by rw [c14]; rfl) (by decide) ?_
    refine lv_iconst (v := (3 : Int32)) hx hb dX7_arity_120 (by decide) ?_
    exact jireti (jr0 hf) E hM dX7_arity_121
  have hf := jf c14 hf
  by_cases c15 : v0 = (152 : Int32)
  · have hf := jt c15 hf
    refine lv_tableIn (off := 115) (tgt := 116) hx hb dX7_arity_1 (by rw [c15]; decide) (by rw [c15]; decide) (by rw [c15]; rfl) (by decide) ?_
    refine lv_iconst (v := (1 : Int32)) hx hb dX7_arity_116 (by decide) ?_
    exact jireti (jr0 hf) E hM dX7_arity_117
  have hf := jf c15 hf
  refine jtabD (tgt := 122) (nd := [128, 129, 130, 133, 136, 137, 138, 139, 140, 141, 143, 144, 150, 151, 152]) hx hb dX7_arity_1 (by decide) (by decide) (by decide) (List.forall_mem_cons.mpr ⟨jne (k := 128) c1 rfl, List.forall_mem_cons.mpr ⟨jne (k := 129) c2 rfl, List.forall_mem_cons.mpr ⟨jne (k := 130) c3 rfl, List.forall_mem_cons.mpr ⟨jne (k := 133) c4 rfl, List.forall_mem_cons.mpr ⟨jne (k := 136) c5 rfl, List.forall_mem_cons.mpr ⟨jne (k := 137) c6 rfl, List.forall_mem_cons.mpr ⟨jne (k := 138) c7 rfl, List.forall_mem_cons.mpr ⟨jne (k := 139) c8 rfl, List.forall_mem_cons.mpr ⟨jne (k := 140) c9 rfl, List.forall_mem_cons.mpr ⟨jne (k := 141) c10 rfl, List.forall_mem_cons.mpr ⟨jne (k := 143) c11 rfl, List.forall_mem_cons.mpr ⟨jne (k := 144) c12 rfl, List.forall_mem_cons.mpr ⟨jne (k := 150) c13 rfl, List.forall_mem_cons.mpr ⟨jne (k := 151) c14 rfl, List.forall_mem_cons.mpr ⟨jne (k := 152) c15 rfl, fun _ h => absurd h List.not_mem_nil⟩⟩⟩⟩⟩⟩⟩⟩⟩⟩⟩⟩⟩⟩⟩) ?_
  refine lv_iconst (v := (0 : Int32)) hx hb dX7_arity_122 (by decide) ?_
  exact jireti (jr0 hf) E hM dX7_arity_123
set_option maxRecDepth 100000 in
theorem C_X7_arity {l : Launch} {g : jG} {a0 : Int32} {S : jM} {rr : Int32} (hf : f_X7_arity a0 = rr) : jMet l g yX7_arity cX7_arity 1 (some .int) 1 0 0 [.int a0] S (jQi g rr S) := by
  refine jof (by decide +kernel) (Nat.le_of_ble_eq_true rfl) ?_
  intro p e s m below meth c E hM ls hl
  have hl : lv_has ls 1 [(0, .int a0)] := hl
  exact B_X7_arity_0 E hf hM hl
-- PensionHouse$Text.ruleNamed(J)I  mode R
noncomputable def f_X8_ruleNamed_2 : Nat → Nat → Int64 → Int32 → jM → Option Int32
  | 0, _, _, _, _ => none
  | n + 1, v0, v1, v3, S => if jK v0 = 6 then if (jI S 49 v0) ≤ v3 then some (-1 : Int32) else (jR S 50 v0).bind (fun r3 => if jA r3 14 v3 = true then if (jAL S r3 (v3).toNatClampNeg) = v1 then some v3 else jlet (v3 + (1 : Int32)) (fun x7 => (f_X8_ruleNamed_2 n) v0 v1 x7 S) else none) else none
noncomputable def f_X8_ruleNamed (v0 : Nat) (v1 : Int64) (S : jM) : Option Int32 := f_X8_ruleNamed_2 1100000 v0 v1 (0 : Int32) S
set_option maxRecDepth 100000 in
set_option maxHeartbeats 4000000 in
theorem B_X8_ruleNamed_2 {p : Program} {l : Launch} {e : Env} {s : State} {m : MethodId} {args : Array Value} {below : List Frame} {meth : Method} {c : Code} {g : jG} {rr : Int32} {S : jM} (E : jEnv p s m args meth c cX8_ruleNamed "PensionHouse$Text" (some .int) 4 g)  : ∀ (n : Nat) (v0 : Nat) (v1 : Int64) (v3 : Int32) (H : Heap) (locs : List Loc) (ls : Array Slot), f_X8_ruleNamed_2 n v0 v1 v3 S = some rr → jAt g S s H locs → lv_has ls 4 [(0, .ref (g.2.2 + v0)), (1, .long v1), (3, .int v3)] → W p l e (jRm 1 0 0) s m args below meth c H locs 0 0 (MQ below (jQi g rr S) args s 0 0 (jA0 g)) (F0 m 2 ls []) := by
  obtain ⟨hx, hb, hml, -, hts, hown, hK, -, hstr⟩ := id E
  intro n
  induction n with
  | zero => intro v0 v1 v3 H locs ls hf hM hl; rw [f_X8_ruleNamed_2] at hf; cases hf
  | succ n ih =>
    intro v0 v1 v3 H locs ls hf hM hl
    rw [f_X8_ruleNamed_2] at hf
    refine lv_iload_n hx hb dX8_ruleNamed_2 rfl (lv_at hl 2 rfl) ?_
    refine lv_aload_n hx hb dX8_ruleNamed_3 rfl (lv_at hl 0 rfl) ?_
    obtain ⟨hq1, hf⟩ := jif hf
    refine gt_49 E hM hq1 lk_1_183 dX8_ruleNamed_4 ?_
    refine lv_icmp_ge (tgt := 29) hx hb dX8_ruleNamed_7 (by decide) (fun c2 => ?_) (fun c2 => ?_)
    · have hf := jt c2 hf
      refine lv_iconst (v := (-1 : Int32)) hx hb dX8_ruleNamed_29 (by decide) ?_
      exact jireti (jr1 hf) E hM dX8_ruleNamed_30
    · have hf := jf c2 hf
      refine lv_aload_n hx hb dX8_ruleNamed_10 rfl (lv_at hl 0 rfl) ?_
      refine gt_50 E hM hq1 lk_1_187 dX8_ruleNamed_11 ?_
      obtain ⟨r3, hr4, hf⟩ := jb hf
      rw [hr4]
      show W p l e _ s m args below meth c H locs 0 0 _ (F0 m _ ls (.ref (g.2.2 + r3) :: _))
      refine lv_iload_n hx hb dX8_ruleNamed_14 rfl (lv_at hl 2 rfl) ?_
      obtain ⟨ha5, hf⟩ := jif hf
      refine jlald E hM ha5 dX8_ruleNamed_15 ?_
      refine lv_lload_n hx hb dX8_ruleNamed_16 rfl (lv_at hl 1 rfl) ?_
      refine jl_ne (tgt := 23) hx hb dX8_ruleNamed_17 dX8_ruleNamed_18 (by decide) (fun c6 => ?_) (fun c6 => ?_)
      · have hf := jf c6 hf
        obtain ⟨x7, ex7⟩ : ∃ z, z = v3 + (1 : Int32) := ⟨_, rfl⟩
        have hf := jlet_y ex7 hf
        refine lv_iinc (v := x7) (lv' := [(3, .int x7), (0, .ref (g.2.2 + v0)), (1, .long v1)]) hx hb dX8_ruleNamed_23 hl (k := 2) rfl (by rw [ex7]; rfl) (by decide) rfl (fun ls hl => ?_)
        refine lv_goto (tgt := 2) hx hb dX8_ruleNamed_26 (by decide) ?_
        exact ih v0 v1 x7 _ _ _ hf hM (lv_sub hl [1, 2, 0] rfl)
      · have hf := jt c6 hf
        refine lv_iload_n hx hb dX8_ruleNamed_21 rfl (lv_at hl 2 rfl) ?_
        exact jireti (jr1 hf) E hM dX8_ruleNamed_22
set_option maxRecDepth 100000 in
set_option maxHeartbeats 4000000 in
theorem B_X8_ruleNamed_0 {p : Program} {l : Launch} {e : Env} {s : State} {m : MethodId} {args : Array Value} {below : List Frame} {meth : Method} {c : Code} {g : jG} {rr : Int32} {S : jM} {v0 : Nat} {v1 : Int64} (E : jEnv p s m args meth c cX8_ruleNamed "PensionHouse$Text" (some .int) 4 g)  {H : Heap} {locs : List Loc} {ls : Array Slot} (hf : f_X8_ruleNamed v0 v1 S = some rr) (hM : jAt g S s H locs) (hl : lv_has ls 4 [(0, .ref (g.2.2 + v0)), (1, .long v1)]) : W p l e (jRm 1 0 0) s m args below meth c H locs 0 0 (MQ below (jQi g rr S) args s 0 0 (jA0 g)) (F0 m 0 ls []) := by
  obtain ⟨hx, hb, hml, -, hts, hown, hK, -, hstr⟩ := id E
  unfold f_X8_ruleNamed at hf
  refine lv_iconst (v := (0 : Int32)) hx hb dX8_ruleNamed_0 (by decide) ?_
  refine lv_istore_n (lv' := [(3, .int (0 : Int32)), (0, .ref (g.2.2 + v0)), (1, .long v1)]) hx hb dX8_ruleNamed_1 rfl hl (by decide) rfl (fun ls hl => ?_)
  exact B_X8_ruleNamed_2 E  1100000 v0 v1 (0 : Int32) _ _ _ hf hM (lv_sub hl [1, 2, 0] rfl)
set_option maxRecDepth 100000 in
theorem C_X8_ruleNamed {l : Launch} {g : jG} {a0 : Nat} {a1 : Int64} {S : jM} {rr : Int32} (hf : f_X8_ruleNamed a0 a1 S = some rr) : jMet l g yX8_ruleNamed cX8_ruleNamed 4 (some .int) 1 0 0 [.ref (g.2.2 + a0), .long a1] S (jQi g rr S) := by
  refine jof (by decide +kernel) (Nat.le_of_ble_eq_true rfl) ?_
  intro p e s m below meth c E hM ls hl
  have hl : lv_has ls 4 [(0, .ref (g.2.2 + a0)),(1, .long a1)] := hl
  exact B_X8_ruleNamed_0 E hf hM hl
-- PensionHouse$Tape.open()V  mode M
noncomputable def f_X7_open (v0 : Nat) (S : jM) : Option jM := if jK v0 = 5 then jlet (jsI S 38 v0 (jI S 37 v0)) (fun S2 => jlet (jsI S2 39 v0 (0 : Int32)) (fun S3 => jlet (jsI S3 37 v0 (0 : Int32)) (fun S4 => some S4))) else none
set_option maxRecDepth 100000 in
set_option maxHeartbeats 4000000 in
theorem B_X7_open_0 {p : Program} {l : Launch} {e : Env} {s : State} {m : MethodId} {args : Array Value} {below : List Frame} {meth : Method} {c : Code} {g : jG} {SS : jM} {v0 : Nat} {S : jM} (E : jEnv p s m args meth c cX7_open "PensionHouse$Tape" none 1 g)  {H : Heap} {locs : List Loc} {ls : Array Slot} (hf : f_X7_open v0 S = some SS) (hM : jAt g S s H locs) (hl : lv_has ls 1 [(0, .ref (g.2.2 + v0))]) : W p l e (jRm 1 0 0) s m args below meth c H locs 0 0 (MQ below (jQv g SS) args s 0 0 (jA0 g)) (F0 m 0 ls []) := by
  obtain ⟨hx, hb, hml, -, hts, hown, hK, -, hstr⟩ := id E
  unfold f_X7_open at hf
  refine lv_aload_n hx hb dX7_open_0 rfl (lv_at hl 0 rfl) ?_
  refine lv_aload_n hx hb dX7_open_1 rfl (lv_at hl 0 rfl) ?_
  obtain ⟨hq1, hf⟩ := jif hf
  refine gt_37 E hM hq1 lk_1_138 dX7_open_2 ?_
  refine pt_38 E hM hq1 lk_1_140 dX7_open_5 (fun H locs S2 eS2 hM => ?_)
  have hf := jlet_y eS2 hf
  refine lv_aload_n hx hb dX7_open_8 rfl (lv_at hl 0 rfl) ?_
  refine lv_iconst (v := (0 : Int32)) hx hb dX7_open_9 (by decide) ?_
  refine pt_39 E hM hq1 lk_1_141 dX7_open_10 (fun H locs S3 eS3 hM => ?_)
  have hf := jlet_y eS3 hf
  refine lv_aload_n hx hb dX7_open_13 rfl (lv_at hl 0 rfl) ?_
  refine lv_iconst (v := (0 : Int32)) hx hb dX7_open_14 (by decide) ?_
  refine pt_37 E hM hq1 lk_1_138 dX7_open_15 (fun H locs S4 eS4 hM => ?_)
  have hf := jlet_y eS4 hf
  exact jvret (jrv hf) E hM dX7_open_18
set_option maxRecDepth 100000 in
theorem C_X7_open {l : Launch} {g : jG} {a0 : Nat} {S : jM} {SS : jM} (hf : f_X7_open a0 S = some SS) : jMet l g yX7_open cX7_open 1 none 1 0 0 [.ref (g.2.2 + a0)] S (jQv g SS) := by
  refine jof (by decide +kernel) (Nat.le_of_ble_eq_true rfl) ?_
  intro p e s m below meth c E hM ls hl
  have hl : lv_has ls 1 [(0, .ref (g.2.2 + a0))] := hl
  exact B_X7_open_0 E hf hM hl
-- PensionHouse$Text.clear()V  mode M
noncomputable def f_X8_clear (v0 : Nat) (S : jM) : Option jM := if jK v0 = 6 then jlet (jsI S 44 v0 (-1 : Int32)) (fun S2 => jlet (jsI S2 45 v0 (0 : Int32)) (fun S3 => jlet (jsI S3 49 v0 (0 : Int32)) (fun S4 => some S4))) else none
set_option maxRecDepth 100000 in
set_option maxHeartbeats 4000000 in
theorem B_X8_clear_0 {p : Program} {l : Launch} {e : Env} {s : State} {m : MethodId} {args : Array Value} {below : List Frame} {meth : Method} {c : Code} {g : jG} {SS : jM} {v0 : Nat} {S : jM} (E : jEnv p s m args meth c cX8_clear "PensionHouse$Text" none 1 g)  {H : Heap} {locs : List Loc} {ls : Array Slot} (hf : f_X8_clear v0 S = some SS) (hM : jAt g S s H locs) (hl : lv_has ls 1 [(0, .ref (g.2.2 + v0))]) : W p l e (jRm 1 0 0) s m args below meth c H locs 0 0 (MQ below (jQv g SS) args s 0 0 (jA0 g)) (F0 m 0 ls []) := by
  obtain ⟨hx, hb, hml, -, hts, hown, hK, -, hstr⟩ := id E
  unfold f_X8_clear at hf
  refine lv_aload_n hx hb dX8_clear_0 rfl (lv_at hl 0 rfl) ?_
  refine lv_iconst (v := (-1 : Int32)) hx hb dX8_clear_1 (by decide) ?_
  obtain ⟨hq1, hf⟩ := jif hf
  refine pt_44 E hM hq1 lk_1_174 dX8_clear_2 (fun H locs S2 eS2 hM => ?_)
  have hf := jlet_y eS2 hf
  refine lv_aload_n hx hb dX8_clear_5 rfl (lv_at hl 0 rfl) ?_
  refine lv_iconst (v := (0 : Int32)) hx hb dX8_clear_6 (by decide) ?_
  refine pt_45 E hM hq1 lk_1_176 dX8_clear_7 (fun H locs S3 eS3 hM => ?_)
  have hf := jlet_y eS3 hf
  refine lv_aload_n hx hb dX8_clear_10 rfl (lv_at hl 0 rfl) ?_
  refine lv_iconst (v := (0 : Int32)) hx hb dX8_clear_11 (by decide) ?_
  refine pt_49 E hM hq1 lk_1_183 dX8_clear_12 (fun H locs S4 eS4 hM => ?_)
  have hf := jlet_y eS4 hf
  exact jvret (jrv hf) E hM dX8_clear_15
set_option maxRecDepth 100000 in
theorem C_X8_clear {l : Launch} {g : jG} {a0 : Nat} {S : jM} {SS : jM} (hf : f_X8_clear a0 S = some SS) : jMet l g yX8_clear cX8_clear 1 none 1 0 0 [.ref (g.2.2 + a0)] S (jQv g SS) := by
  refine jof (by decide +kernel) (Nat.le_of_ble_eq_true rfl) ?_
  intro p e s m below meth c E hM ls hl
  have hl : lv_has ls 1 [(0, .ref (g.2.2 + a0))] := hl
  exact B_X8_clear_0 E hf hM hl
-- PensionHouse$Tape.byteAt(I)I  mode R
noncomputable def f_X7_byteAt (v0 : Nat) (v1 : Int32) (S : jM) : Option Int32 := if v1 < 0 then some (-1 : Int32) else if jK v0 = 5 then if (jI S 38 v0) ≤ v1 then some (-1 : Int32) else if (1600 : Int32) ≤ v1 then some (-1 : Int32) else (jR S 36 v0).bind (fun r5 => if jA r5 11 v1 = true then some ((jAI S r5 (v1).toNatClampNeg) &&& (255 : Int32)) else none) else none
set_option maxRecDepth 100000 in
set_option maxHeartbeats 4000000 in
theorem B_X7_byteAt_0 {p : Program} {l : Launch} {e : Env} {s : State} {m : MethodId} {args : Array Value} {below : List Frame} {meth : Method} {c : Code} {g : jG} {rr : Int32} {S : jM} {v0 : Nat} {v1 : Int32} (E : jEnv p s m args meth c cX7_byteAt "PensionHouse$Tape" (some .int) 2 g)  {H : Heap} {locs : List Loc} {ls : Array Slot} (hf : f_X7_byteAt v0 v1 S = some rr) (hM : jAt g S s H locs) (hl : lv_has ls 2 [(0, .ref (g.2.2 + v0)), (1, .int v1)]) : W p l e (jRm 1 0 0) s m args below meth c H locs 0 0 (MQ below (jQi g rr S) args s 0 0 (jA0 g)) (F0 m 0 ls []) := by
  obtain ⟨hx, hb, hml, -, hts, hown, hK, -, hstr⟩ := id E
  unfold f_X7_byteAt at hf
  refine lv_iload_n hx hb dX7_byteAt_0 rfl (lv_at hl 1 rfl) ?_
  refine lv_if_lt (tgt := 32) hx hb dX7_byteAt_1 (by decide) (fun c1 => ?_) (fun c1 => ?_)
  · have hf := jt c1 hf
    refine lv_iconst (v := (-1 : Int32)) hx hb dX7_byteAt_32 (by decide) ?_
    exact jireti (jr1 hf) E hM dX7_byteAt_33
  · have hf := jf c1 hf
    refine lv_iload_n hx hb dX7_byteAt_4 rfl (lv_at hl 1 rfl) ?_
    refine lv_aload_n hx hb dX7_byteAt_5 rfl (lv_at hl 0 rfl) ?_
    obtain ⟨hq2, hf⟩ := jif hf
    refine gt_38 E hM hq2 lk_1_140 dX7_byteAt_6 ?_
    refine lv_icmp_ge (tgt := 32) hx hb dX7_byteAt_9 (by decide) (fun c3 => ?_) (fun c3 => ?_)
    · have hf := jt c3 hf
      refine lv_iconst (v := (-1 : Int32)) hx hb dX7_byteAt_32 (by decide) ?_
      exact jireti (jr1 hf) E hM dX7_byteAt_33
    · have hf := jf c3 hf
      refine lv_iload_n hx hb dX7_byteAt_12 rfl (lv_at hl 1 rfl) ?_
      refine lv_sipush (v := (1600 : Int32)) hx hb dX7_byteAt_13 (by decide) ?_
      refine lv_icmp_ge (tgt := 32) hx hb dX7_byteAt_16 (by decide) (fun c4 => ?_) (fun c4 => ?_)
      · have hf := jt c4 hf
        refine lv_iconst (v := (-1 : Int32)) hx hb dX7_byteAt_32 (by decide) ?_
        exact jireti (jr1 hf) E hM dX7_byteAt_33
      · have hf := jf c4 hf
        refine lv_aload_n hx hb dX7_byteAt_19 rfl (lv_at hl 0 rfl) ?_
        refine gt_36 E hM hq2 lk_1_137 dX7_byteAt_20 ?_
        obtain ⟨r5, hr6, hf⟩ := jb hf
        rw [hr6]
        show W p l e _ s m args below meth c H locs 0 0 _ (F0 m _ ls (.ref (g.2.2 + r5) :: _))
        refine lv_iload_n hx hb dX7_byteAt_23 rfl (lv_at hl 1 rfl) ?_
        obtain ⟨ha7, hf⟩ := jif hf
        refine jbald E hM ha7 dX7_byteAt_24 ?_
        refine lv_sipush (v := (255 : Int32)) hx hb dX7_byteAt_25 (by decide) ?_
        refine lv_iand hx hb dX7_byteAt_28 ?_
        refine lv_goto (tgt := 33) hx hb dX7_byteAt_29 (by decide) ?_
        exact jireti (jr1 hf) E hM dX7_byteAt_33
set_option maxRecDepth 100000 in
theorem C_X7_byteAt {l : Launch} {g : jG} {a0 : Nat} {a1 : Int32} {S : jM} {rr : Int32} (hf : f_X7_byteAt a0 a1 S = some rr) : jMet l g yX7_byteAt cX7_byteAt 2 (some .int) 1 0 0 [.ref (g.2.2 + a0), .int a1] S (jQi g rr S) := by
  refine jof (by decide +kernel) (Nat.le_of_ble_eq_true rfl) ?_
  intro p e s m below meth c E hM ls hl
  have hl : lv_has ls 2 [(0, .ref (g.2.2 + a0)),(1, .int a1)] := hl
  exact B_X7_byteAt_0 E hf hM hl
-- PensionHouse$Tape.isLetter(I)Z  mode T
noncomputable def f_X7_isLetter (v0 : Int32) : Int32 := if v0 < (97 : Int32) then (0 : Int32) else if (122 : Int32) < v0 then (0 : Int32) else (1 : Int32)
set_option maxRecDepth 100000 in
set_option maxHeartbeats 4000000 in
theorem B_X7_isLetter_0 {p : Program} {l : Launch} {e : Env} {s : State} {m : MethodId} {args : Array Value} {below : List Frame} {meth : Method} {c : Code} {g : jG} {rr : Int32} {S : jM} {v0 : Int32} (E : jEnv p s m args meth c cX7_isLetter "PensionHouse$Tape" (some .boolean) 1 g)  {H : Heap} {locs : List Loc} {ls : Array Slot} (hf : f_X7_isLetter v0 = rr) (hM : jAt g S s H locs) (hl : lv_has ls 1 [(0, .int v0)]) : W p l e (jRm 1 0 0) s m args below meth c H locs 0 0 (MQ below (jQi g rr S) args s 0 0 (jA0 g)) (F0 m 0 ls []) := by
  obtain ⟨hx, hb, hml, -, hts, hown, hK, -, hstr⟩ := id E
  unfold f_X7_isLetter at hf
  refine lv_iload_n hx hb dX7_isLetter_0 rfl (lv_at hl 0 rfl) ?_
  refine lv_bipush (v := (97 : Int32)) hx hb dX7_isLetter_1 (by decide) ?_
  refine lv_icmp_lt (tgt := 16) hx hb dX7_isLetter_3 (by decide) (fun c1 => ?_) (fun c1 => ?_)
  · have hf := jt c1 hf
    refine lv_iconst (v := (0 : Int32)) hx hb dX7_isLetter_16 (by decide) ?_
    exact jiretz (jr0 hf) E hM (by decide) dX7_isLetter_17
  · have hf := jf c1 hf
    refine lv_iload_n hx hb dX7_isLetter_6 rfl (lv_at hl 0 rfl) ?_
    refine lv_bipush (v := (122 : Int32)) hx hb dX7_isLetter_7 (by decide) ?_
    refine lv_icmp_gt (tgt := 16) hx hb dX7_isLetter_9 (by decide) (fun c2 => ?_) (fun c2 => ?_)
    · have hf := jt c2 hf
      refine lv_iconst (v := (0 : Int32)) hx hb dX7_isLetter_16 (by decide) ?_
      exact jiretz (jr0 hf) E hM (by decide) dX7_isLetter_17
    · have hf := jf c2 hf
      refine lv_iconst (v := (1 : Int32)) hx hb dX7_isLetter_12 (by decide) ?_
      refine lv_goto (tgt := 17) hx hb dX7_isLetter_13 (by decide) ?_
      exact jiretz (jr0 hf) E hM (by decide) dX7_isLetter_17
set_option maxRecDepth 100000 in
theorem C_X7_isLetter {l : Launch} {g : jG} {a0 : Int32} {S : jM} {rr : Int32} (hf : f_X7_isLetter a0 = rr) : jMet l g yX7_isLetter cX7_isLetter 1 (some .boolean) 1 0 0 [.int a0] S (jQi g rr S) := by
  refine jof (by decide +kernel) (Nat.le_of_ble_eq_true rfl) ?_
  intro p e s m below meth c E hM ls hl
  have hl : lv_has ls 1 [(0, .int a0)] := hl
  exact B_X7_isLetter_0 E hf hM hl
-- PensionHouse$Tape.isDigit(I)Z  mode T
noncomputable def f_X7_isDigit (v0 : Int32) : Int32 := if v0 < (48 : Int32) then (0 : Int32) else if (57 : Int32) < v0 then (0 : Int32) else (1 : Int32)
set_option maxRecDepth 100000 in
set_option maxHeartbeats 4000000 in
theorem B_X7_isDigit_0 {p : Program} {l : Launch} {e : Env} {s : State} {m : MethodId} {args : Array Value} {below : List Frame} {meth : Method} {c : Code} {g : jG} {rr : Int32} {S : jM} {v0 : Int32} (E : jEnv p s m args meth c cX7_isDigit "PensionHouse$Tape" (some .boolean) 1 g)  {H : Heap} {locs : List Loc} {ls : Array Slot} (hf : f_X7_isDigit v0 = rr) (hM : jAt g S s H locs) (hl : lv_has ls 1 [(0, .int v0)]) : W p l e (jRm 1 0 0) s m args below meth c H locs 0 0 (MQ below (jQi g rr S) args s 0 0 (jA0 g)) (F0 m 0 ls []) := by
  obtain ⟨hx, hb, hml, -, hts, hown, hK, -, hstr⟩ := id E
  unfold f_X7_isDigit at hf
  refine lv_iload_n hx hb dX7_isDigit_0 rfl (lv_at hl 0 rfl) ?_
  refine lv_bipush (v := (48 : Int32)) hx hb dX7_isDigit_1 (by decide) ?_
  refine lv_icmp_lt (tgt := 16) hx hb dX7_isDigit_3 (by decide) (fun c1 => ?_) (fun c1 => ?_)
  · have hf := jt c1 hf
    refine lv_iconst (v := (0 : Int32)) hx hb dX7_isDigit_16 (by decide) ?_
    exact jiretz (jr0 hf) E hM (by decide) dX7_isDigit_17
  · have hf := jf c1 hf
    refine lv_iload_n hx hb dX7_isDigit_6 rfl (lv_at hl 0 rfl) ?_
    refine lv_bipush (v := (57 : Int32)) hx hb dX7_isDigit_7 (by decide) ?_
    refine lv_icmp_gt (tgt := 16) hx hb dX7_isDigit_9 (by decide) (fun c2 => ?_) (fun c2 => ?_)
    · have hf := jt c2 hf
      refine lv_iconst (v := (0 : Int32)) hx hb dX7_isDigit_16 (by decide) ?_
      exact jiretz (jr0 hf) E hM (by decide) dX7_isDigit_17
    · have hf := jf c2 hf
      refine lv_iconst (v := (1 : Int32)) hx hb dX7_isDigit_12 (by decide) ?_
      refine lv_goto (tgt := 17) hx hb dX7_isDigit_13 (by decide) ?_
      exact jiretz (jr0 hf) E hM (by decide) dX7_isDigit_17
set_option maxRecDepth 100000 in
theorem C_X7_isDigit {l : Launch} {g : jG} {a0 : Int32} {S : jM} {rr : Int32} (hf : f_X7_isDigit a0 = rr) : jMet l g yX7_isDigit cX7_isDigit 1 (some .boolean) 1 0 0 [.int a0] S (jQi g rr S) := by
  refine jof (by decide +kernel) (Nat.le_of_ble_eq_true rfl) ?_
  intro p e s m below meth c E hM ls hl
  have hl : lv_has ls 1 [(0, .int a0)] := hl
  exact B_X7_isDigit_0 E hf hM hl
-- PensionHouse$Tape.wordOrName(J)I  mode P
noncomputable def f_X7_wordOrName_60 (k9 : Int64 → Int32 → Int64 → Int32 → Option Int32) (v0 : Int64) (v2 : Int32) (v3 : Int64) (v5 : Int32) : Option Int32 := jlet (v5 + (1 : Int32)) (fun x1 => k9 v0 v2 v3 x1)
noncomputable def f_X7_wordOrName_9 : Nat → Int64 → Int32 → Int64 → Int32 → Option Int32
  | 0, _, _, _, _ => none
  | n + 1, v0, v2, v3, v5 => (f_J0_length_8abf5 0).bind (fun x2 => if x2 ≤ v5 then some (2 : Int32) else (f_J0_charAt_5068e 0 v5).bind (fun x5 => if x5 = (32 : Int32) then if v3 = v0 then some v2 else jlet (v2 + (1 : Int32)) (fun x9 => f_X7_wordOrName_60 (f_X7_wordOrName_9 n) v0 x9 (0 : Int64) v5) else jlet ((v3 <<< ((8 : Int32).toInt64 &&& 63)) ||| (x5.toInt64)) (fun x10 => f_X7_wordOrName_60 (f_X7_wordOrName_9 n) v0 v2 x10 v5)))
noncomputable def f_X7_wordOrName (v0 : Int64) : Option Int32 := f_X7_wordOrName_9 1100000 v0 (128 : Int32) (0 : Int64) (0 : Int32)
set_option maxRecDepth 100000 in
set_option maxHeartbeats 4000000 in
theorem B_X7_wordOrName_60 {p : Program} {l : Launch} {e : Env} {s : State} {m : MethodId} {args : Array Value} {below : List Frame} {meth : Method} {c : Code} {g : jG} {rr : Int32} {S : jM} {v0 : Int64} {v2 : Int32} {v3 : Int64} {v5 : Int32} {k9 : Int64 → Int32 → Int64 → Int32 → Option Int32} (E : jEnv p s m args meth c cX7_wordOrName "PensionHouse$Tape" (some .int) 7 g) (hk9 : ∀ (v0 : Int64) (v2 : Int32) (v3 : Int64) (v5 : Int32) (H : Heap) (locs : List Loc) (ls : Array Slot), k9 v0 v2 v3 v5 = some rr → jAt g S s H locs → lv_has ls 7 [(0, .long v0), (2, .int v2), (3, .long v3), (5, .int v5)] → W p l e (jRm 5 0 0) s m args below meth c H locs 0 0 (MQ below (jQi g rr S) args s 0 0 (jA0 g)) (F0 m 9 ls [])) {H : Heap} {locs : List Loc} {ls : Array Slot} (hf : f_X7_wordOrName_60 k9 v0 v2 v3 v5 = some rr) (hM : jAt g S s H locs) (hl : lv_has ls 7 [(0, .long v0), (2, .int v2), (3, .long v3), (5, .int v5)]) : W p l e (jRm 5 0 0) s m args below meth c H locs 0 0 (MQ below (jQi g rr S) args s 0 0 (jA0 g)) (F0 m 60 ls []) := by
  obtain ⟨hx, hb, hml, -, hts, hown, hK, -, hstr⟩ := id E
  unfold f_X7_wordOrName_60 at hf
  obtain ⟨x1, ex1⟩ : ∃ z, z = v5 + (1 : Int32) := ⟨_, rfl⟩
  have hf := jlet_y ex1 hf
  refine lv_iinc (v := x1) (lv' := [(5, .int x1), (0, .long v0), (2, .int v2), (3, .long v3)]) hx hb dX7_wordOrName_60 hl (k := 3) rfl (by rw [ex1]; rfl) (by decide) rfl (fun ls hl => ?_)
  refine lv_goto (tgt := 9) hx hb dX7_wordOrName_63 (by decide) ?_
  exact hk9 v0 v2 v3 x1 _ _ _ hf hM (lv_sub hl [1, 2, 3, 0] rfl)
set_option maxRecDepth 100000 in
set_option maxHeartbeats 4000000 in
theorem B_X7_wordOrName_9 {p : Program} {l : Launch} {e : Env} {s : State} {m : MethodId} {args : Array Value} {below : List Frame} {meth : Method} {c : Code} {g : jG} {rr : Int32} {S : jM} (E : jEnv p s m args meth c cX7_wordOrName "PensionHouse$Tape" (some .int) 7 g)  : ∀ (n : Nat) (v0 : Int64) (v2 : Int32) (v3 : Int64) (v5 : Int32) (H : Heap) (locs : List Loc) (ls : Array Slot), f_X7_wordOrName_9 n v0 v2 v3 v5 = some rr → jAt g S s H locs → lv_has ls 7 [(0, .long v0), (2, .int v2), (3, .long v3), (5, .int v5)] → W p l e (jRm 5 0 0) s m args below meth c H locs 0 0 (MQ below (jQi g rr S) args s 0 0 (jA0 g)) (F0 m 9 ls []) := by
  obtain ⟨hx, hb, hml, -, hts, hown, hK, -, hstr⟩ := id E
  intro n
  induction n with
  | zero => intro v0 v2 v3 v5 H locs ls hf hM hl; rw [f_X7_wordOrName_9] at hf; cases hf
  | succ n ih =>
    intro v0 v2 v3 v5 H locs ls hf hM hl
    rw [f_X7_wordOrName_9] at hf
    refine lv_iload hx hb dX7_wordOrName_9 (lv_at hl 3 rfl) ?_
    refine va_ldcS hx hb hown hstr.2.2.2.1 dX7_wordOrName_11 ?_
    obtain ⟨x2, hc3, hf⟩ := jb hf
    refine jbackI hM (jrunVS E hM ci_J0_length_8abf5 (C_J0_length_8abf5 hc3) lk_3_93 (by decide) rfl hl.1 rfl rfl (Nat.le_of_ble_eq_true rfl) ⟨Nat.le_of_ble_eq_true rfl, Nat.le_of_ble_eq_true rfl⟩ ⟨Nat.le_refl _, Nat.le_refl _⟩ dX7_wordOrName_13) (fun H locs hM => ?_)
    refine lv_icmp_ge (tgt := 66) hx hb dX7_wordOrName_16 (by decide) (fun c4 => ?_) (fun c4 => ?_)
    · have hf := jt c4 hf
      refine lv_iconst (v := (2 : Int32)) hx hb dX7_wordOrName_66 (by decide) ?_
      exact jireti (jr1 hf) E hM dX7_wordOrName_67
    · have hf := jf c4 hf
      refine va_ldcS hx hb hown hstr.2.2.2.1 dX7_wordOrName_19 ?_
      refine lv_iload hx hb dX7_wordOrName_21 (lv_at hl 3 rfl) ?_
      obtain ⟨x5, hc6, hf⟩ := jb hf
      refine jbackI hM (jrunVS E hM ci_J0_charAt_5068e (C_J0_charAt_5068e hc6) lk_3_103 (by decide) rfl hl.1 rfl rfl (Nat.le_of_ble_eq_true rfl) ⟨Nat.le_of_ble_eq_true rfl, Nat.le_of_ble_eq_true rfl⟩ ⟨Nat.le_refl _, Nat.le_refl _⟩ dX7_wordOrName_23) (fun H locs hM => ?_)
      refine lv_istore (lv' := [(6, .int x5), (0, .long v0), (2, .int v2), (3, .long v3), (5, .int v5)]) hx hb dX7_wordOrName_26 hl (by decide) rfl (fun ls hl => ?_)
      refine lv_iload hx hb dX7_wordOrName_28 (lv_at hl 0 rfl) ?_
      refine lv_bipush (v := (32 : Int32)) hx hb dX7_wordOrName_30 (by decide) ?_
      refine lv_icmp_eq (tgt := 47) hx hb dX7_wordOrName_32 (by decide) (fun c7 => ?_) (fun c7 => ?_)
      · have hf := jt c7 hf
        refine lv_lload_n hx hb dX7_wordOrName_47 rfl (lv_at hl 3 rfl) ?_
        refine lv_lload_n hx hb dX7_wordOrName_48 rfl (lv_at hl 1 rfl) ?_
        refine jl_ne (tgt := 55) hx hb dX7_wordOrName_49 dX7_wordOrName_50 (by decide) (fun c8 => ?_) (fun c8 => ?_)
        · have hf := jf c8 hf
          refine lv_lconst (v := (0 : Int64)) hx hb dX7_wordOrName_55 (by decide) ?_
          refine lv_lstore_n (lv' := [(3, .long (0 : Int64)), (6, .int x5), (0, .long v0), (2, .int v2), (5, .int v5)]) hx hb dX7_wordOrName_56 rfl hl (by decide) rfl (fun ls hl => ?_)
          obtain ⟨x9, ex9⟩ : ∃ z, z = v2 + (1 : Int32) := ⟨_, rfl⟩
          have hf := jlet_y ex9 hf
          refine lv_iinc (v := x9) (lv' := [(2, .int x9), (3, .long (0 : Int64)), (6, .int x5), (0, .long v0), (5, .int v5)]) hx hb dX7_wordOrName_57 hl (k := 3) rfl (by rw [ex9]; rfl) (by decide) rfl (fun ls hl => ?_)
          exact B_X7_wordOrName_60 E ih hf hM (lv_sub hl [3, 0, 1, 4] rfl)
        · have hf := jt c8 hf
          refine lv_iload_n hx hb dX7_wordOrName_53 rfl (lv_at hl 2 rfl) ?_
          exact jireti (jr1 hf) E hM dX7_wordOrName_54
      · have hf := jf c7 hf
        refine lv_lload_n hx hb dX7_wordOrName_35 rfl (lv_at hl 3 rfl) ?_
        refine lv_bipush (v := (8 : Int32)) hx hb dX7_wordOrName_36 (by decide) ?_
        refine lv_lshl hx hb dX7_wordOrName_38 rfl ?_
        refine lv_iload hx hb dX7_wordOrName_39 (lv_at hl 0 rfl) ?_
        refine lv_i2l hx hb dX7_wordOrName_41 rfl ?_
        refine lv_lor hx hb dX7_wordOrName_42 ?_
        refine lv_topl (fun x10 ex10 => ?_)
        have hf := jlet_y ex10 hf
        refine lv_lstore_n (lv' := [(3, .long x10), (6, .int x5), (0, .long v0), (2, .int v2), (5, .int v5)]) hx hb dX7_wordOrName_43 rfl hl (by decide) rfl (fun ls hl => ?_)
        refine lv_goto (tgt := 60) hx hb dX7_wordOrName_44 (by decide) ?_
        exact B_X7_wordOrName_60 E ih hf hM (lv_sub hl [2, 3, 0, 4] rfl)
set_option maxRecDepth 100000 in
set_option maxHeartbeats 4000000 in
theorem B_X7_wordOrName_0 {p : Program} {l : Launch} {e : Env} {s : State} {m : MethodId} {args : Array Value} {below : List Frame} {meth : Method} {c : Code} {g : jG} {rr : Int32} {S : jM} {v0 : Int64} (E : jEnv p s m args meth c cX7_wordOrName "PensionHouse$Tape" (some .int) 7 g)  {H : Heap} {locs : List Loc} {ls : Array Slot} (hf : f_X7_wordOrName v0 = some rr) (hM : jAt g S s H locs) (hl : lv_has ls 7 [(0, .long v0)]) : W p l e (jRm 5 0 0) s m args below meth c H locs 0 0 (MQ below (jQi g rr S) args s 0 0 (jA0 g)) (F0 m 0 ls []) := by
  obtain ⟨hx, hb, hml, -, hts, hown, hK, -, hstr⟩ := id E
  unfold f_X7_wordOrName at hf
  refine lv_sipush (v := (128 : Int32)) hx hb dX7_wordOrName_0 (by decide) ?_
  refine lv_istore_n (lv' := [(2, .int (128 : Int32)), (0, .long v0)]) hx hb dX7_wordOrName_3 rfl hl (by decide) rfl (fun ls hl => ?_)
  refine lv_lconst (v := (0 : Int64)) hx hb dX7_wordOrName_4 (by decide) ?_
  refine lv_lstore_n (lv' := [(3, .long (0 : Int64)), (2, .int (128 : Int32)), (0, .long v0)]) hx hb dX7_wordOrName_5 rfl hl (by decide) rfl (fun ls hl => ?_)
  refine lv_iconst (v := (0 : Int32)) hx hb dX7_wordOrName_6 (by decide) ?_
  refine lv_istore (lv' := [(5, .int (0 : Int32)), (3, .long (0 : Int64)), (2, .int (128 : Int32)), (0, .long v0)]) hx hb dX7_wordOrName_7 hl (by decide) rfl (fun ls hl => ?_)
  exact B_X7_wordOrName_9 E  1100000 v0 (128 : Int32) (0 : Int64) (0 : Int32) _ _ _ hf hM (lv_sub hl [3, 2, 1, 0] rfl)
set_option maxRecDepth 100000 in
theorem C_X7_wordOrName {l : Launch} {g : jG} {a0 : Int64} {S : jM} {rr : Int32} (hf : f_X7_wordOrName a0 = some rr) : jMet l g yX7_wordOrName cX7_wordOrName 7 (some .int) 5 0 0 [.long a0] S (jQi g rr S) := by
  refine jof (by decide +kernel) (Nat.le_of_ble_eq_true rfl) ?_
  intro p e s m below meth c E hM ls hl
  have hl : lv_has ls 7 [(0, .long a0)] := hl
  exact B_X7_wordOrName_0 E hf hM hl
-- PensionHouse$Tape.readLetters()V  mode M
noncomputable def f_X7_readLetters_104 (t0 : Nat) (t1 : Int32) (S : jM) : Option jM := if jK t0 = 5 then jlet (jsI S 40 t0 t1) (fun S2 => some S2) else none
noncomputable def f_X7_readLetters_78 (v0 : Nat) (S : jM) : Option jM := if jK v0 = 5 then if ((jI S 39 v0) - (jI S 41 v0)) ≤ (8 : Int32) then (f_X7_wordOrName (jL S 42 v0)).bind (fun x5 => f_X7_readLetters_104 v0 x5 S) else f_X7_readLetters_104 v0 (1 : Int32) S else none
noncomputable def f_X7_readLetters_44 (k5 : Nat → jM → Option jM) (v0 : Nat) (S : jM) : Option jM := if jK v0 = 5 then (f_X7_byteAt v0 (jI S 39 v0) S).bind (fun x8 => jlet (jsL S 42 v0 (((jL S 42 v0) <<< ((8 : Int32).toInt64 &&& 63)) ||| (x8.toInt64))) (fun S10 => jlet (jsI S10 39 v0 ((jI S10 39 v0) + (1 : Int32))) (fun S11 => k5 v0 S11))) else none
noncomputable def f_X7_readLetters_5 : Nat → Nat → jM → Option jM
  | 0, _, _ => none
  | n + 1, v0, S => if jK v0 = 5 then if (jI S 38 v0) ≤ (jI S 39 v0) then f_X7_readLetters_78 v0 S else (f_X7_byteAt v0 (jI S 39 v0) S).bind (fun x14 => if (f_X7_isLetter x14) = 0 then (f_X7_byteAt v0 (jI S 39 v0) S).bind (fun x17 => if (f_X7_isDigit x17) = 0 then f_X7_readLetters_78 v0 S else f_X7_readLetters_44 (f_X7_readLetters_5 n) v0 S) else f_X7_readLetters_44 (f_X7_readLetters_5 n) v0 S) else none
noncomputable def f_X7_readLetters (v0 : Nat) (S : jM) : Option jM := if jK v0 = 5 then jlet (jsL S 42 v0 (0 : Int64)) (fun S21 => f_X7_readLetters_5 1100000 v0 S21) else none
set_option maxRecDepth 100000 in
set_option maxHeartbeats 4000000 in
theorem B_X7_readLetters_104 {p : Program} {l : Launch} {e : Env} {s : State} {m : MethodId} {args : Array Value} {below : List Frame} {meth : Method} {c : Code} {g : jG} {SS : jM} {t0 : Nat} {t1 : Int32} {S : jM} (E : jEnv p s m args meth c cX7_readLetters "PensionHouse$Tape" none 1 g)  {H : Heap} {locs : List Loc} {ls : Array Slot} (hf : f_X7_readLetters_104 t0 t1 S = some SS) (hM : jAt g S s H locs) (hl : lv_has ls 1 []) : W p l e (jRm 6 0 0) s m args below meth c H locs 0 0 (MQ below (jQv g SS) args s 0 0 (jA0 g)) (F0 m 104 ls [.int t1, .ref (g.2.2 + t0)]) := by
  obtain ⟨hx, hb, hml, -, hts, hown, hK, -, hstr⟩ := id E
  unfold f_X7_readLetters_104 at hf
  obtain ⟨hq1, hf⟩ := jif hf
  refine pt_40 E hM hq1 lk_1_143 dX7_readLetters_104 (fun H locs S2 eS2 hM => ?_)
  have hf := jlet_y eS2 hf
  exact jvret (jrv hf) E hM dX7_readLetters_107
set_option maxRecDepth 100000 in
set_option maxHeartbeats 4000000 in
theorem B_X7_readLetters_78 {p : Program} {l : Launch} {e : Env} {s : State} {m : MethodId} {args : Array Value} {below : List Frame} {meth : Method} {c : Code} {g : jG} {SS : jM} {v0 : Nat} {S : jM} (E : jEnv p s m args meth c cX7_readLetters "PensionHouse$Tape" none 1 g)  {H : Heap} {locs : List Loc} {ls : Array Slot} (hf : f_X7_readLetters_78 v0 S = some SS) (hM : jAt g S s H locs) (hl : lv_has ls 1 [(0, .ref (g.2.2 + v0))]) : W p l e (jRm 6 0 0) s m args below meth c H locs 0 0 (MQ below (jQv g SS) args s 0 0 (jA0 g)) (F0 m 78 ls []) := by
  obtain ⟨hx, hb, hml, -, hts, hown, hK, -, hstr⟩ := id E
  unfold f_X7_readLetters_78 at hf
  refine lv_aload_n hx hb dX7_readLetters_78 rfl (lv_at hl 0 rfl) ?_
  refine lv_aload_n hx hb dX7_readLetters_79 rfl (lv_at hl 0 rfl) ?_
  obtain ⟨hq3, hf⟩ := jif hf
  refine gt_39 E hM hq3 lk_1_141 dX7_readLetters_80 ?_
  refine lv_aload_n hx hb dX7_readLetters_83 rfl (lv_at hl 0 rfl) ?_
  refine gt_41 E hM hq3 lk_1_145 dX7_readLetters_84 ?_
  refine lv_isub hx hb dX7_readLetters_87 ?_
  refine lv_bipush (v := (8 : Int32)) hx hb dX7_readLetters_88 (by decide) ?_
  refine lv_icmp_le (tgt := 97) hx hb dX7_readLetters_90 (by decide) (fun c4 => ?_) (fun c4 => ?_)
  · have hf := jt c4 hf
    refine lv_aload_n hx hb dX7_readLetters_97 rfl (lv_at hl 0 rfl) ?_
    refine gt_42 E hM hq3 lk_1_147 dX7_readLetters_98 ?_
    obtain ⟨x5, hc6, hf⟩ := jb hf
    refine jbackI hM (jrunS E hM ci_X7_wordOrName (C_X7_wordOrName hc6) lk_3_89 hl.1 rfl rfl (Nat.le_of_ble_eq_true rfl) ⟨Nat.le_of_ble_eq_true rfl, Nat.le_of_ble_eq_true rfl⟩ ⟨Nat.le_refl _, Nat.le_refl _⟩ dX7_readLetters_101) (fun H locs hM => ?_)
    exact B_X7_readLetters_104 E  hf hM (lv_sub hl [] rfl)
  · have hf := jf c4 hf
    refine lv_iconst (v := (1 : Int32)) hx hb dX7_readLetters_93 (by decide) ?_
    refine lv_goto (tgt := 104) hx hb dX7_readLetters_94 (by decide) ?_
    exact B_X7_readLetters_104 E  hf hM (lv_sub hl [] rfl)
set_option maxRecDepth 100000 in
set_option maxHeartbeats 4000000 in
theorem B_X7_readLetters_44 {p : Program} {l : Launch} {e : Env} {s : State} {m : MethodId} {args : Array Value} {below : List Frame} {meth : Method} {c : Code} {g : jG} {SS : jM} {v0 : Nat} {S : jM} {k5 : Nat → jM → Option jM} (E : jEnv p s m args meth c cX7_readLetters "PensionHouse$Tape" none 1 g) (hk5 : ∀ (v0 : Nat) (S : jM) (H : Heap) (locs : List Loc) (ls : Array Slot), k5 v0 S = some SS → jAt g S s H locs → lv_has ls 1 [(0, .ref (g.2.2 + v0))] → W p l e (jRm 6 0 0) s m args below meth c H locs 0 0 (MQ below (jQv g SS) args s 0 0 (jA0 g)) (F0 m 5 ls [])) {H : Heap} {locs : List Loc} {ls : Array Slot} (hf : f_X7_readLetters_44 k5 v0 S = some SS) (hM : jAt g S s H locs) (hl : lv_has ls 1 [(0, .ref (g.2.2 + v0))]) : W p l e (jRm 6 0 0) s m args below meth c H locs 0 0 (MQ below (jQv g SS) args s 0 0 (jA0 g)) (F0 m 44 ls []) := by
  obtain ⟨hx, hb, hml, -, hts, hown, hK, -, hstr⟩ := id E
  unfold f_X7_readLetters_44 at hf
  refine lv_aload_n hx hb dX7_readLetters_44 rfl (lv_at hl 0 rfl) ?_
  refine lv_aload_n hx hb dX7_readLetters_45 rfl (lv_at hl 0 rfl) ?_
  obtain ⟨hq7, hf⟩ := jif hf
  refine gt_42 E hM hq7 lk_1_147 dX7_readLetters_46 ?_
  refine lv_bipush (v := (8 : Int32)) hx hb dX7_readLetters_49 (by decide) ?_
  refine lv_lshl hx hb dX7_readLetters_51 rfl ?_
  refine lv_aload_n hx hb dX7_readLetters_52 rfl (lv_at hl 0 rfl) ?_
  refine lv_aload_n hx hb dX7_readLetters_53 rfl (lv_at hl 0 rfl) ?_
  refine gt_39 E hM hq7 lk_1_141 dX7_readLetters_54 ?_
  obtain ⟨x8, hc9, hf⟩ := jb hf
  refine jbackI hM (jrunV E hM ci_X7_byteAt (C_X7_byteAt hc9) lk_3_75 hq7 (by decide) rfl hl.1 rfl rfl (Nat.le_of_ble_eq_true rfl) ⟨Nat.le_of_ble_eq_true rfl, Nat.le_of_ble_eq_true rfl⟩ ⟨Nat.le_refl _, Nat.le_refl _⟩ dX7_readLetters_57) (fun H locs hM => ?_)
  refine lv_i2l hx hb dX7_readLetters_60 rfl ?_
  refine lv_lor hx hb dX7_readLetters_61 ?_
  refine pt_42 E hM hq7 lk_1_147 dX7_readLetters_62 (fun H locs S10 eS10 hM => ?_)
  have hf := jlet_y eS10 hf
  refine lv_aload_n hx hb dX7_readLetters_65 rfl (lv_at hl 0 rfl) ?_
  refine lv_dup hx hb dX7_readLetters_66 rfl ?_
  refine gt_39 E hM hq7 lk_1_141 dX7_readLetters_67 ?_
  refine lv_iconst (v := (1 : Int32)) hx hb dX7_readLetters_70 (by decide) ?_
  refine lv_iadd hx hb dX7_readLetters_71 ?_
  refine pt_39 E hM hq7 lk_1_141 dX7_readLetters_72 (fun H locs S11 eS11 hM => ?_)
  have hf := jlet_y eS11 hf
  refine lv_goto (tgt := 5) hx hb dX7_readLetters_75 (by decide) ?_
  exact hk5 v0 S11 _ _ _ hf hM (lv_sub hl [0] rfl)
set_option maxRecDepth 100000 in
set_option maxHeartbeats 4000000 in
theorem B_X7_readLetters_5 {p : Program} {l : Launch} {e : Env} {s : State} {m : MethodId} {args : Array Value} {below : List Frame} {meth : Method} {c : Code} {g : jG} {SS : jM} (E : jEnv p s m args meth c cX7_readLetters "PensionHouse$Tape" none 1 g)  : ∀ (n : Nat) (v0 : Nat) (S : jM) (H : Heap) (locs : List Loc) (ls : Array Slot), f_X7_readLetters_5 n v0 S = some SS → jAt g S s H locs → lv_has ls 1 [(0, .ref (g.2.2 + v0))] → W p l e (jRm 6 0 0) s m args below meth c H locs 0 0 (MQ below (jQv g SS) args s 0 0 (jA0 g)) (F0 m 5 ls []) := by
  obtain ⟨hx, hb, hml, -, hts, hown, hK, -, hstr⟩ := id E
  intro n
  induction n with
  | zero => intro v0 S H locs ls hf hM hl; rw [f_X7_readLetters_5] at hf; cases hf
  | succ n ih =>
    intro v0 S H locs ls hf hM hl
    rw [f_X7_readLetters_5] at hf
    refine lv_aload_n hx hb dX7_readLetters_5 rfl (lv_at hl 0 rfl) ?_
    obtain ⟨hq12, hf⟩ := jif hf
    refine gt_39 E hM hq12 lk_1_141 dX7_readLetters_6 ?_
    refine lv_aload_n hx hb dX7_readLetters_9 rfl (lv_at hl 0 rfl) ?_
    refine gt_38 E hM hq12 lk_1_140 dX7_readLetters_10 ?_
    refine lv_icmp_ge (tgt := 78) hx hb dX7_readLetters_13 (by decide) (fun c13 => ?_) (fun c13 => ?_)
    · have hf := jt c13 hf
      exact B_X7_readLetters_78 E  hf hM (lv_sub hl [0] rfl)
    · have hf := jf c13 hf
      refine lv_aload_n hx hb dX7_readLetters_16 rfl (lv_at hl 0 rfl) ?_
      refine lv_aload_n hx hb dX7_readLetters_17 rfl (lv_at hl 0 rfl) ?_
      refine gt_39 E hM hq12 lk_1_141 dX7_readLetters_18 ?_
      obtain ⟨x14, hc15, hf⟩ := jb hf
      refine jbackI hM (jrunV E hM ci_X7_byteAt (C_X7_byteAt hc15) lk_3_75 hq12 (by decide) rfl hl.1 rfl rfl (Nat.le_of_ble_eq_true rfl) ⟨Nat.le_of_ble_eq_true rfl, Nat.le_of_ble_eq_true rfl⟩ ⟨Nat.le_refl _, Nat.le_refl _⟩ dX7_readLetters_21) (fun H locs hM => ?_)
      refine jbackI hM (jrunS E hM ci_X7_isLetter (C_X7_isLetter rfl) lk_3_79 hl.1 rfl rfl (Nat.le_of_ble_eq_true rfl) ⟨Nat.le_of_ble_eq_true rfl, Nat.le_of_ble_eq_true rfl⟩ ⟨Nat.le_refl _, Nat.le_refl _⟩ dX7_readLetters_24) (fun H locs hM => ?_)
      refine lv_if_ne (tgt := 44) hx hb dX7_readLetters_27 (by decide) (fun c16 => ?_) (fun c16 => ?_)
      · have hf := jf c16 hf
        exact B_X7_readLetters_44 E ih hf hM (lv_sub hl [0] rfl)
      · have hf := jt c16 hf
        refine lv_aload_n hx hb dX7_readLetters_30 rfl (lv_at hl 0 rfl) ?_
        refine lv_aload_n hx hb dX7_readLetters_31 rfl (lv_at hl 0 rfl) ?_
        refine gt_39 E hM hq12 lk_1_141 dX7_readLetters_32 ?_
        obtain ⟨x17, hc18, hf⟩ := jb hf
        refine jbackI hM (jrunV E hM ci_X7_byteAt (C_X7_byteAt hc18) lk_3_75 hq12 (by decide) rfl hl.1 rfl rfl (Nat.le_of_ble_eq_true rfl) ⟨Nat.le_of_ble_eq_true rfl, Nat.le_of_ble_eq_true rfl⟩ ⟨Nat.le_refl _, Nat.le_refl _⟩ dX7_readLetters_35) (fun H locs hM => ?_)
        refine jbackI hM (jrunS E hM ci_X7_isDigit (C_X7_isDigit rfl) lk_3_86 hl.1 rfl rfl (Nat.le_of_ble_eq_true rfl) ⟨Nat.le_of_ble_eq_true rfl, Nat.le_of_ble_eq_true rfl⟩ ⟨Nat.le_refl _, Nat.le_refl _⟩ dX7_readLetters_38) (fun H locs hM => ?_)
        refine lv_if_eq (tgt := 78) hx hb dX7_readLetters_41 (by decide) (fun c19 => ?_) (fun c19 => ?_)
        · have hf := jt c19 hf
          exact B_X7_readLetters_78 E  hf hM (lv_sub hl [0] rfl)
        · have hf := jf c19 hf
          exact B_X7_readLetters_44 E ih hf hM (lv_sub hl [0] rfl)
set_option maxRecDepth 100000 in
set_option maxHeartbeats 4000000 in
theorem B_X7_readLetters_0 {p : Program} {l : Launch} {e : Env} {s : State} {m : MethodId} {args : Array Value} {below : List Frame} {meth : Method} {c : Code} {g : jG} {SS : jM} {v0 : Nat} {S : jM} (E : jEnv p s m args meth c cX7_readLetters "PensionHouse$Tape" none 1 g)  {H : Heap} {locs : List Loc} {ls : Array Slot} (hf : f_X7_readLetters v0 S = some SS) (hM : jAt g S s H locs) (hl : lv_has ls 1 [(0, .ref (g.2.2 + v0))]) : W p l e (jRm 6 0 0) s m args below meth c H locs 0 0 (MQ below (jQv g SS) args s 0 0 (jA0 g)) (F0 m 0 ls []) := by
  obtain ⟨hx, hb, hml, -, hts, hown, hK, -, hstr⟩ := id E
  unfold f_X7_readLetters at hf
  refine lv_aload_n hx hb dX7_readLetters_0 rfl (lv_at hl 0 rfl) ?_
  refine lv_lconst (v := (0 : Int64)) hx hb dX7_readLetters_1 (by decide) ?_
  obtain ⟨hq20, hf⟩ := jif hf
  refine pt_42 E hM hq20 lk_1_147 dX7_readLetters_2 (fun H locs S21 eS21 hM => ?_)
  have hf := jlet_y eS21 hf
  exact B_X7_readLetters_5 E  1100000 v0 S21 _ _ _ hf hM (lv_sub hl [0] rfl)
set_option maxRecDepth 100000 in
theorem C_X7_readLetters {l : Launch} {g : jG} {a0 : Nat} {S : jM} {SS : jM} (hf : f_X7_readLetters a0 S = some SS) : jMet l g yX7_readLetters cX7_readLetters 1 none 6 0 0 [.ref (g.2.2 + a0)] S (jQv g SS) := by
  refine jof (by decide +kernel) (Nat.le_of_ble_eq_true rfl) ?_
  intro p e s m below meth c E hM ls hl
  have hl : lv_has ls 1 [(0, .ref (g.2.2 + a0))] := hl
  exact B_X7_readLetters_0 E hf hM hl
-- PensionHouse$Tape.readDigits()V  mode M
noncomputable def f_X7_readDigits_212 (t0 : Nat) (t1 : Int32) (S : jM) : Option jM := if jK t0 = 5 then jlet (jsI S 40 t0 t1) (fun S2 => some S2) else none
noncomputable def f_X7_readDigits_194 (t0 : Nat) (t1 : Int32) (S : jM) : Option jM := if jK t0 = 5 then jlet (jsI S 40 t0 t1) (fun S4 => some S4) else none
noncomputable def f_X7_readDigits_193 (t0 : Nat) (S : jM) : Option jM := f_X7_readDigits_194 t0 (1 : Int32) S
noncomputable def f_X7_readDigits_162 (v0 : Nat) (v1 : Int32) (t0 : Int32) (t1 : Int32) (S : jM) : Option jM := jlet (t0 - t1) (fun x5 => if v1 = 0 then if (15 : Int32) < x5 then f_X7_readDigits_212 v0 (1 : Int32) S else f_X7_readDigits_212 v0 (3 : Int32) S else if jK v0 = 5 then if (9 : Int32) < (x5 - (jI S 43 v0)) then f_X7_readDigits_193 v0 S else if (6 : Int32) < (jI S 43 v0) then f_X7_readDigits_193 v0 S else f_X7_readDigits_194 v0 (4 : Int32) S else none)
noncomputable def f_X7_readDigits_144 (v0 : Nat) (v1 : Int32) (S : jM) : Option jM := if jK v0 = 5 then if v1 = 0 then f_X7_readDigits_162 v0 v1 ((jI S 39 v0) - (jI S 41 v0)) (0 : Int32) S else f_X7_readDigits_162 v0 v1 ((jI S 39 v0) - (jI S 41 v0)) (1 : Int32) S else none
noncomputable def f_X7_readDigits_131 (k12 : Nat → Int32 → jM → Option jM) (v0 : Nat) (v1 : Int32) (S : jM) : Option jM := if jK v0 = 5 then jlet (jsI S 39 v0 ((jI S 39 v0) + (1 : Int32))) (fun S14 => k12 v0 v1 S14) else none
noncomputable def f_X7_readDigits_127 (k12 : Nat → Int32 → jM → Option jM) (v0 : Nat) (v1 : Int32) (t0 : Nat) (t1 : Int32) (t2 : Int32) (S : jM) : Option jM := if jK t0 = 5 then jlet (jsI S 43 t0 (t1 + t2)) (fun S16 => f_X7_readDigits_131 k12 v0 v1 S16) else none
noncomputable def f_X7_readDigits_70 (k12 : Nat → Int32 → jM → Option jM) (v0 : Nat) (v1 : Int32) (S : jM) : Option jM := if jK v0 = 5 then (f_X7_byteAt v0 (jI S 39 v0) S).bind (fun x18 => if x18 = (46 : Int32) then f_X7_readDigits_131 k12 v0 (1 : Int32) S else (f_X7_byteAt v0 (jI S 39 v0) S).bind (fun x21 => jlet (jsL S 42 v0 (((jL S 42 v0) * (10 : Int64)) + ((x21 - (48 : Int32)).toInt64))) (fun S23 => if v1 = 0 then f_X7_readDigits_127 k12 v0 v1 v0 (jI S23 43 v0) (0 : Int32) S23 else f_X7_readDigits_127 k12 v0 v1 v0 (jI S23 43 v0) (1 : Int32) S23))) else none
noncomputable def f_X7_readDigits_12 : Nat → Nat → Int32 → jM → Option jM
  | 0, _, _, _ => none
  | n + 1, v0, v1, S => if jK v0 = 5 then if (jI S 38 v0) ≤ (jI S 39 v0) then f_X7_readDigits_144 v0 v1 S else (f_X7_byteAt v0 (jI S 39 v0) S).bind (fun x27 => if (f_X7_isDigit x27) = 0 then (f_X7_byteAt v0 (jI S 39 v0) S).bind (fun x30 => if x30 = (46 : Int32) then (f_X7_byteAt v0 ((jI S 39 v0) + (1 : Int32)) S).bind (fun x33 => if (f_X7_isDigit x33) = 0 then f_X7_readDigits_144 v0 v1 S else if v1 = 0 then f_X7_readDigits_70 (f_X7_readDigits_12 n) v0 v1 S else f_X7_readDigits_144 v0 v1 S) else f_X7_readDigits_144 v0 v1 S) else f_X7_readDigits_70 (f_X7_readDigits_12 n) v0 v1 S) else none
noncomputable def f_X7_readDigits (v0 : Nat) (S : jM) : Option jM := if jK v0 = 5 then jlet (jsL S 42 v0 (0 : Int64)) (fun S38 => jlet (jsI S38 43 v0 (0 : Int32)) (fun S39 => f_X7_readDigits_12 1100000 v0 (0 : Int32) S39)) else none
set_option maxRecDepth 100000 in
set_option maxHeartbeats 4000000 in
theorem B_X7_readDigits_212 {p : Program} {l : Launch} {e : Env} {s : State} {m : MethodId} {args : Array Value} {below : List Frame} {meth : Method} {c : Code} {g : jG} {SS : jM} {t0 : Nat} {t1 : Int32} {S : jM} (E : jEnv p s m args meth c cX7_readDigits "PensionHouse$Tape" none 3 g)  {H : Heap} {locs : List Loc} {ls : Array Slot} (hf : f_X7_readDigits_212 t0 t1 S = some SS) (hM : jAt g S s H locs) (hl : lv_has ls 3 []) : W p l e (jRm 2 0 0) s m args below meth c H locs 0 0 (MQ below (jQv g SS) args s 0 0 (jA0 g)) (F0 m 212 ls [.int t1, .ref (g.2.2 + t0)]) := by
  obtain ⟨hx, hb, hml, -, hts, hown, hK, -, hstr⟩ := id E
  unfold f_X7_readDigits_212 at hf
  obtain ⟨hq1, hf⟩ := jif hf
  refine pt_40 E hM hq1 lk_1_143 dX7_readDigits_212 (fun H locs S2 eS2 hM => ?_)
  have hf := jlet_y eS2 hf
  exact jvret (jrv hf) E hM dX7_readDigits_215
set_option maxRecDepth 100000 in
set_option maxHeartbeats 4000000 in
theorem B_X7_readDigits_194 {p : Program} {l : Launch} {e : Env} {s : State} {m : MethodId} {args : Array Value} {below : List Frame} {meth : Method} {c : Code} {g : jG} {SS : jM} {t0 : Nat} {t1 : Int32} {S : jM} (E : jEnv p s m args meth c cX7_readDigits "PensionHouse$Tape" none 3 g)  {H : Heap} {locs : List Loc} {ls : Array Slot} (hf : f_X7_readDigits_194 t0 t1 S = some SS) (hM : jAt g S s H locs) (hl : lv_has ls 3 []) : W p l e (jRm 2 0 0) s m args below meth c H locs 0 0 (MQ below (jQv g SS) args s 0 0 (jA0 g)) (F0 m 194 ls [.int t1, .ref (g.2.2 + t0)]) := by
  obtain ⟨hx, hb, hml, -, hts, hown, hK, -, hstr⟩ := id E
  unfold f_X7_readDigits_194 at hf
  obtain ⟨hq3, hf⟩ := jif hf
  refine pt_40 E hM hq3 lk_1_143 dX7_readDigits_194 (fun H locs S4 eS4 hM => ?_)
  have hf := jlet_y eS4 hf
  refine lv_goto (tgt := 215) hx hb dX7_readDigits_197 (by decide) ?_
  exact jvret (jrv hf) E hM dX7_readDigits_215
set_option maxRecDepth 100000 in
set_option maxHeartbeats 4000000 in
theorem B_X7_readDigits_193 {p : Program} {l : Launch} {e : Env} {s : State} {m : MethodId} {args : Array Value} {below : List Frame} {meth : Method} {c : Code} {g : jG} {SS : jM} {t0 : Nat} {S : jM} (E : jEnv p s m args meth c cX7_readDigits "PensionHouse$Tape" none 3 g)  {H : Heap} {locs : List Loc} {ls : Array Slot} (hf : f_X7_readDigits_193 t0 S = some SS) (hM : jAt g S s H locs) (hl : lv_has ls 3 []) : W p l e (jRm 2 0 0) s m args below meth c H locs 0 0 (MQ below (jQv g SS) args s 0 0 (jA0 g)) (F0 m 193 ls [.ref (g.2.2 + t0)]) := by
  obtain ⟨hx, hb, hml, -, hts, hown, hK, -, hstr⟩ := id E
  unfold f_X7_readDigits_193 at hf
  refine lv_iconst (v := (1 : Int32)) hx hb dX7_readDigits_193 (by decide) ?_
  exact B_X7_readDigits_194 E  hf hM (lv_sub hl [] rfl)
set_option maxRecDepth 100000 in
set_option maxHeartbeats 4000000 in
theorem B_X7_readDigits_162 {p : Program} {l : Launch} {e : Env} {s : State} {m : MethodId} {args : Array Value} {below : List Frame} {meth : Method} {c : Code} {g : jG} {SS : jM} {v0 : Nat} {v1 : Int32} {t0 : Int32} {t1 : Int32} {S : jM} (E : jEnv p s m args meth c cX7_readDigits "PensionHouse$Tape" none 3 g)  {H : Heap} {locs : List Loc} {ls : Array Slot} (hf : f_X7_readDigits_162 v0 v1 t0 t1 S = some SS) (hM : jAt g S s H locs) (hl : lv_has ls 3 [(0, .ref (g.2.2 + v0)), (1, .int v1)]) : W p l e (jRm 2 0 0) s m args below meth c H locs 0 0 (MQ below (jQv g SS) args s 0 0 (jA0 g)) (F0 m 162 ls [.int t1, .int t0]) := by
  obtain ⟨hx, hb, hml, -, hts, hown, hK, -, hstr⟩ := id E
  unfold f_X7_readDigits_162 at hf
  refine lv_isub hx hb dX7_readDigits_162 ?_
  refine lv_topi (fun x5 ex5 => ?_)
  have hf := jlet_y ex5 hf
  refine lv_istore_n (lv' := [(2, .int x5), (0, .ref (g.2.2 + v0)), (1, .int v1)]) hx hb dX7_readDigits_163 rfl hl (by decide) rfl (fun ls hl => ?_)
  refine lv_iload_n hx hb dX7_readDigits_164 rfl (lv_at hl 2 rfl) ?_
  refine lv_if_eq (tgt := 200) hx hb dX7_readDigits_165 (by decide) (fun c6 => ?_) (fun c6 => ?_)
  · have hf := jt c6 hf
    refine lv_aload_n hx hb dX7_readDigits_200 rfl (lv_at hl 1 rfl) ?_
    refine lv_iload_n hx hb dX7_readDigits_201 rfl (lv_at hl 0 rfl) ?_
    refine lv_bipush (v := (15 : Int32)) hx hb dX7_readDigits_202 (by decide) ?_
    refine lv_icmp_gt (tgt := 211) hx hb dX7_readDigits_204 (by decide) (fun c7 => ?_) (fun c7 => ?_)
    · have hf := jt c7 hf
      refine lv_iconst (v := (1 : Int32)) hx hb dX7_readDigits_211 (by decide) ?_
      exact B_X7_readDigits_212 E  hf hM (lv_sub hl [] rfl)
    · have hf := jf c7 hf
      refine lv_iconst (v := (3 : Int32)) hx hb dX7_readDigits_207 (by decide) ?_
      refine lv_goto (tgt := 212) hx hb dX7_readDigits_208 (by decide) ?_
      exact B_X7_readDigits_212 E  hf hM (lv_sub hl [] rfl)
  · have hf := jf c6 hf
    refine lv_aload_n hx hb dX7_readDigits_168 rfl (lv_at hl 1 rfl) ?_
    refine lv_iload_n hx hb dX7_readDigits_169 rfl (lv_at hl 0 rfl) ?_
    refine lv_aload_n hx hb dX7_readDigits_170 rfl (lv_at hl 1 rfl) ?_
    obtain ⟨hq8, hf⟩ := jif hf
    refine gt_43 E hM hq8 lk_1_148 dX7_readDigits_171 ?_
    refine lv_isub hx hb dX7_readDigits_174 ?_
    refine lv_bipush (v := (9 : Int32)) hx hb dX7_readDigits_175 (by decide) ?_
    refine lv_icmp_gt (tgt := 193) hx hb dX7_readDigits_177 (by decide) (fun c9 => ?_) (fun c9 => ?_)
    · have hf := jt c9 hf
      exact B_X7_readDigits_193 E  hf hM (lv_sub hl [] rfl)
    · have hf := jf c9 hf
      refine lv_aload_n hx hb dX7_readDigits_180 rfl (lv_at hl 1 rfl) ?_
      refine gt_43 E hM hq8 lk_1_148 dX7_readDigits_181 ?_
      refine lv_bipush (v := (6 : Int32)) hx hb dX7_readDigits_184 (by decide) ?_
      refine lv_icmp_gt (tgt := 193) hx hb dX7_readDigits_186 (by decide) (fun c10 => ?_) (fun c10 => ?_)
      · have hf := jt c10 hf
        exact B_X7_readDigits_193 E  hf hM (lv_sub hl [] rfl)
      · have hf := jf c10 hf
        refine lv_iconst (v := (4 : Int32)) hx hb dX7_readDigits_189 (by decide) ?_
        refine lv_goto (tgt := 194) hx hb dX7_readDigits_190 (by decide) ?_
        exact B_X7_readDigits_194 E  hf hM (lv_sub hl [] rfl)
set_option maxRecDepth 100000 in
set_option maxHeartbeats 4000000 in
theorem B_X7_readDigits_144 {p : Program} {l : Launch} {e : Env} {s : State} {m : MethodId} {args : Array Value} {below : List Frame} {meth : Method} {c : Code} {g : jG} {SS : jM} {v0 : Nat} {v1 : Int32} {S : jM} (E : jEnv p s m args meth c cX7_readDigits "PensionHouse$Tape" none 3 g)  {H : Heap} {locs : List Loc} {ls : Array Slot} (hf : f_X7_readDigits_144 v0 v1 S = some SS) (hM : jAt g S s H locs) (hl : lv_has ls 3 [(0, .ref (g.2.2 + v0)), (1, .int v1)]) : W p l e (jRm 2 0 0) s m args below meth c H locs 0 0 (MQ below (jQv g SS) args s 0 0 (jA0 g)) (F0 m 144 ls []) := by
  obtain ⟨hx, hb, hml, -, hts, hown, hK, -, hstr⟩ := id E
  unfold f_X7_readDigits_144 at hf
  refine lv_aload_n hx hb dX7_readDigits_144 rfl (lv_at hl 0 rfl) ?_
  obtain ⟨hq11, hf⟩ := jif hf
  refine gt_39 E hM hq11 lk_1_141 dX7_readDigits_145 ?_
  refine lv_aload_n hx hb dX7_readDigits_148 rfl (lv_at hl 0 rfl) ?_
  refine gt_41 E hM hq11 lk_1_145 dX7_readDigits_149 ?_
  refine lv_isub hx hb dX7_readDigits_152 ?_
  refine lv_iload_n hx hb dX7_readDigits_153 rfl (lv_at hl 1 rfl) ?_
  refine lv_if_eq (tgt := 161) hx hb dX7_readDigits_154 (by decide) (fun c12 => ?_) (fun c12 => ?_)
  · have hf := jt c12 hf
    refine lv_iconst (v := (0 : Int32)) hx hb dX7_readDigits_161 (by decide) ?_
    exact B_X7_readDigits_162 E  hf hM (lv_sub hl [0, 1] rfl)
  · have hf := jf c12 hf
    refine lv_iconst (v := (1 : Int32)) hx hb dX7_readDigits_157 (by decide) ?_
    refine lv_goto (tgt := 162) hx hb dX7_readDigits_158 (by decide) ?_
    exact B_X7_readDigits_162 E  hf hM (lv_sub hl [0, 1] rfl)
set_option maxRecDepth 100000 in
set_option maxHeartbeats 4000000 in
theorem B_X7_readDigits_131 {p : Program} {l : Launch} {e : Env} {s : State} {m : MethodId} {args : Array Value} {below : List Frame} {meth : Method} {c : Code} {g : jG} {SS : jM} {v0 : Nat} {v1 : Int32} {S : jM} {k12 : Nat → Int32 → jM → Option jM} (E : jEnv p s m args meth c cX7_readDigits "PensionHouse$Tape" none 3 g) (hk12 : ∀ (v0 : Nat) (v1 : Int32) (S : jM) (H : Heap) (locs : List Loc) (ls : Array Slot), k12 v0 v1 S = some SS → jAt g S s H locs → lv_has ls 3 [(0, .ref (g.2.2 + v0)), (1, .int v1)] → W p l e (jRm 2 0 0) s m args below meth c H locs 0 0 (MQ below (jQv g SS) args s 0 0 (jA0 g)) (F0 m 12 ls [])) {H : Heap} {locs : List Loc} {ls : Array Slot} (hf : f_X7_readDigits_131 k12 v0 v1 S = some SS) (hM : jAt g S s H locs) (hl : lv_has ls 3 [(0, .ref (g.2.2 + v0)), (1, .int v1)]) : W p l e (jRm 2 0 0) s m args below meth c H locs 0 0 (MQ below (jQv g SS) args s 0 0 (jA0 g)) (F0 m 131 ls []) := by
  obtain ⟨hx, hb, hml, -, hts, hown, hK, -, hstr⟩ := id E
  unfold f_X7_readDigits_131 at hf
  refine lv_aload_n hx hb dX7_readDigits_131 rfl (lv_at hl 0 rfl) ?_
  refine lv_dup hx hb dX7_readDigits_132 rfl ?_
  obtain ⟨hq13, hf⟩ := jif hf
  refine gt_39 E hM hq13 lk_1_141 dX7_readDigits_133 ?_
  refine lv_iconst (v := (1 : Int32)) hx hb dX7_readDigits_136 (by decide) ?_
  refine lv_iadd hx hb dX7_readDigits_137 ?_
  refine pt_39 E hM hq13 lk_1_141 dX7_readDigits_138 (fun H locs S14 eS14 hM => ?_)
  have hf := jlet_y eS14 hf
  refine lv_goto (tgt := 12) hx hb dX7_readDigits_141 (by decide) ?_
  exact hk12 v0 v1 S14 _ _ _ hf hM (lv_sub hl [0, 1] rfl)
set_option maxRecDepth 100000 in
set_option maxHeartbeats 4000000 in
theorem B_X7_readDigits_127 {p : Program} {l : Launch} {e : Env} {s : State} {m : MethodId} {args : Array Value} {below : List Frame} {meth : Method} {c : Code} {g : jG} {SS : jM} {v0 : Nat} {v1 : Int32} {t0 : Nat} {t1 : Int32} {t2 : Int32} {S : jM} {k12 : Nat → Int32 → jM → Option jM} (E : jEnv p s m args meth c cX7_readDigits "PensionHouse$Tape" none 3 g) (hk12 : ∀ (v0 : Nat) (v1 : Int32) (S : jM) (H : Heap) (locs : List Loc) (ls : Array Slot), k12 v0 v1 S = some SS → jAt g S s H locs → lv_has ls 3 [(0, .ref (g.2.2 + v0)), (1, .int v1)] → W p l e (jRm 2 0 0) s m args below meth c H locs 0 0 (MQ below (jQv g SS) args s 0 0 (jA0 g)) (F0 m 12 ls [])) {H : Heap} {locs : List Loc} {ls : Array Slot} (hf : f_X7_readDigits_127 k12 v0 v1 t0 t1 t2 S = some SS) (hM : jAt g S s H locs) (hl : lv_has ls 3 [(0, .ref (g.2.2 + v0)), (1, .int v1)]) : W p l e (jRm 2 0 0) s m args below meth c H locs 0 0 (MQ below (jQv g SS) args s 0 0 (jA0 g)) (F0 m 127 ls [.int t2, .int t1, .ref (g.2.2 + t0)]) := by
  obtain ⟨hx, hb, hml, -, hts, hown, hK, -, hstr⟩ := id E
  unfold f_X7_readDigits_127 at hf
  refine lv_iadd hx hb dX7_readDigits_127 ?_
  obtain ⟨hq15, hf⟩ := jif hf
  refine pt_43 E hM hq15 lk_1_148 dX7_readDigits_128 (fun H locs S16 eS16 hM => ?_)
  have hf := jlet_y eS16 hf
  exact B_X7_readDigits_131 E hk12 hf hM (lv_sub hl [0, 1] rfl)
set_option maxRecDepth 100000 in
set_option maxHeartbeats 4000000 in
theorem B_X7_readDigits_70 {p : Program} {l : Launch} {e : Env} {s : State} {m : MethodId} {args : Array Value} {below : List Frame} {meth : Method} {c : Code} {g : jG} {SS : jM} {v0 : Nat} {v1 : Int32} {S : jM} {k12 : Nat → Int32 → jM → Option jM} (E : jEnv p s m args meth c cX7_readDigits "PensionHouse$Tape" none 3 g) (hk12 : ∀ (v0 : Nat) (v1 : Int32) (S : jM) (H : Heap) (locs : List Loc) (ls : Array Slot), k12 v0 v1 S = some SS → jAt g S s H locs → lv_has ls 3 [(0, .ref (g.2.2 + v0)), (1, .int v1)] → W p l e (jRm 2 0 0) s m args below meth c H locs 0 0 (MQ below (jQv g SS) args s 0 0 (jA0 g)) (F0 m 12 ls [])) {H : Heap} {locs : List Loc} {ls : Array Slot} (hf : f_X7_readDigits_70 k12 v0 v1 S = some SS) (hM : jAt g S s H locs) (hl : lv_has ls 3 [(0, .ref (g.2.2 + v0)), (1, .int v1)]) : W p l e (jRm 2 0 0) s m args below meth c H locs 0 0 (MQ below (jQv g SS) args s 0 0 (jA0 g)) (F0 m 70 ls []) := by
  obtain ⟨hx, hb, hml, -, hts, hown, hK, -, hstr⟩ := id E
  unfold f_X7_readDigits_70 at hf
  refine lv_aload_n hx hb dX7_readDigits_70 rfl (lv_at hl 0 rfl) ?_
  refine lv_aload_n hx hb dX7_readDigits_71 rfl (lv_at hl 0 rfl) ?_
  obtain ⟨hq17, hf⟩ := jif hf
  refine gt_39 E hM hq17 lk_1_141 dX7_readDigits_72 ?_
  obtain ⟨x18, hc19, hf⟩ := jb hf
  refine jbackI hM (jrunV E hM ci_X7_byteAt (C_X7_byteAt hc19) lk_3_75 hq17 (by decide) rfl hl.1 rfl rfl (Nat.le_of_ble_eq_true rfl) ⟨Nat.le_of_ble_eq_true rfl, Nat.le_of_ble_eq_true rfl⟩ ⟨Nat.le_refl _, Nat.le_refl _⟩ dX7_readDigits_75) (fun H locs hM => ?_)
  refine lv_bipush (v := (46 : Int32)) hx hb dX7_readDigits_78 (by decide) ?_
  refine lv_icmp_ne (tgt := 88) hx hb dX7_readDigits_80 (by decide) (fun c20 => ?_) (fun c20 => ?_)
  · have hf := jf c20 hf
    refine lv_aload_n hx hb dX7_readDigits_88 rfl (lv_at hl 0 rfl) ?_
    refine lv_aload_n hx hb dX7_readDigits_89 rfl (lv_at hl 0 rfl) ?_
    refine gt_42 E hM hq17 lk_1_147 dX7_readDigits_90 ?_
    refine lv_ldc2 (v := (10 : Int64)) hx hb hown (hts _ lk_3_145) dX7_readDigits_93 ?_
    refine lv_lmul hx hb dX7_readDigits_96 ?_
    refine lv_aload_n hx hb dX7_readDigits_97 rfl (lv_at hl 0 rfl) ?_
    refine lv_aload_n hx hb dX7_readDigits_98 rfl (lv_at hl 0 rfl) ?_
    refine gt_39 E hM hq17 lk_1_141 dX7_readDigits_99 ?_
    obtain ⟨x21, hc22, hf⟩ := jb hf
    refine jbackI hM (jrunV E hM ci_X7_byteAt (C_X7_byteAt hc22) lk_3_75 hq17 (by decide) rfl hl.1 rfl rfl (Nat.le_of_ble_eq_true rfl) ⟨Nat.le_of_ble_eq_true rfl, Nat.le_of_ble_eq_true rfl⟩ ⟨Nat.le_refl _, Nat.le_refl _⟩ dX7_readDigits_102) (fun H locs hM => ?_)
    refine lv_bipush (v := (48 : Int32)) hx hb dX7_readDigits_105 (by decide) ?_
    refine lv_isub hx hb dX7_readDigits_107 ?_
    refine lv_i2l hx hb dX7_readDigits_108 rfl ?_
    refine lv_ladd hx hb dX7_readDigits_109 ?_
    refine pt_42 E hM hq17 lk_1_147 dX7_readDigits_110 (fun H locs S23 eS23 hM => ?_)
    have hf := jlet_y eS23 hf
    refine lv_aload_n hx hb dX7_readDigits_113 rfl (lv_at hl 0 rfl) ?_
    refine lv_dup hx hb dX7_readDigits_114 rfl ?_
    refine gt_43 E hM hq17 lk_1_148 dX7_readDigits_115 ?_
    refine lv_iload_n hx hb dX7_readDigits_118 rfl (lv_at hl 1 rfl) ?_
    refine lv_if_eq (tgt := 126) hx hb dX7_readDigits_119 (by decide) (fun c24 => ?_) (fun c24 => ?_)
    · have hf := jt c24 hf
      refine lv_iconst (v := (0 : Int32)) hx hb dX7_readDigits_126 (by decide) ?_
      exact B_X7_readDigits_127 E hk12 hf hM (lv_sub hl [0, 1] rfl)
    · have hf := jf c24 hf
      refine lv_iconst (v := (1 : Int32)) hx hb dX7_readDigits_122 (by decide) ?_
      refine lv_goto (tgt := 127) hx hb dX7_readDigits_123 (by decide) ?_
      exact B_X7_readDigits_127 E hk12 hf hM (lv_sub hl [0, 1] rfl)
  · have hf := jt c20 hf
    refine lv_iconst (v := (1 : Int32)) hx hb dX7_readDigits_83 (by decide) ?_
    refine lv_istore_n (lv' := [(1, .int (1 : Int32)), (0, .ref (g.2.2 + v0))]) hx hb dX7_readDigits_84 rfl hl (by decide) rfl (fun ls hl => ?_)
    refine lv_goto (tgt := 131) hx hb dX7_readDigits_85 (by decide) ?_
    exact B_X7_readDigits_131 E hk12 hf hM (lv_sub hl [1, 0] rfl)
set_option maxRecDepth 100000 in
set_option maxHeartbeats 4000000 in
theorem B_X7_readDigits_12 {p : Program} {l : Launch} {e : Env} {s : State} {m : MethodId} {args : Array Value} {below : List Frame} {meth : Method} {c : Code} {g : jG} {SS : jM} (E : jEnv p s m args meth c cX7_readDigits "PensionHouse$Tape" none 3 g)  : ∀ (n : Nat) (v0 : Nat) (v1 : Int32) (S : jM) (H : Heap) (locs : List Loc) (ls : Array Slot), f_X7_readDigits_12 n v0 v1 S = some SS → jAt g S s H locs → lv_has ls 3 [(0, .ref (g.2.2 + v0)), (1, .int v1)] → W p l e (jRm 2 0 0) s m args below meth c H locs 0 0 (MQ below (jQv g SS) args s 0 0 (jA0 g)) (F0 m 12 ls []) := by
  obtain ⟨hx, hb, hml, -, hts, hown, hK, -, hstr⟩ := id E
  intro n
  induction n with
  | zero => intro v0 v1 S H locs ls hf hM hl; rw [f_X7_readDigits_12] at hf; cases hf
  | succ n ih =>
    intro v0 v1 S H locs ls hf hM hl
    rw [f_X7_readDigits_12] at hf
    refine lv_aload_n hx hb dX7_readDigits_12 rfl (lv_at hl 0 rfl) ?_
    obtain ⟨hq25, hf⟩ := jif hf
    refine gt_39 E hM hq25 lk_1_141 dX7_readDigits_13 ?_
    refine lv_aload_n hx hb dX7_readDigits_16 rfl (lv_at hl 0 rfl) ?_
    refine gt_38 E hM hq25 lk_1_140 dX7_readDigits_17 ?_
    refine lv_icmp_ge (tgt := 144) hx hb dX7_readDigits_20 (by decide) (fun c26 => ?_) (fun c26 => ?_)
    · have hf := jt c26 hf
      exact B_X7_readDigits_144 E  hf hM (lv_sub hl [0, 1] rfl)
    · have hf := jf c26 hf
      refine lv_aload_n hx hb dX7_readDigits_23 rfl (lv_at hl 0 rfl) ?_
      refine lv_aload_n hx hb dX7_readDigits_24 rfl (lv_at hl 0 rfl) ?_
      refine gt_39 E hM hq25 lk_1_141 dX7_readDigits_25 ?_
      obtain ⟨x27, hc28, hf⟩ := jb hf
      refine jbackI hM (jrunV E hM ci_X7_byteAt (C_X7_byteAt hc28) lk_3_75 hq25 (by decide) rfl hl.1 rfl rfl (Nat.le_of_ble_eq_true rfl) ⟨Nat.le_of_ble_eq_true rfl, Nat.le_of_ble_eq_true rfl⟩ ⟨Nat.le_refl _, Nat.le_refl _⟩ dX7_readDigits_28) (fun H locs hM => ?_)
      refine jbackI hM (jrunS E hM ci_X7_isDigit (C_X7_isDigit rfl) lk_3_86 hl.1 rfl rfl (Nat.le_of_ble_eq_true rfl) ⟨Nat.le_of_ble_eq_true rfl, Nat.le_of_ble_eq_true rfl⟩ ⟨Nat.le_refl _, Nat.le_refl _⟩ dX7_readDigits_31) (fun H locs hM => ?_)
      refine lv_if_ne (tgt := 70) hx hb dX7_readDigits_34 (by decide) (fun c29 => ?_) (fun c29 => ?_)
      · have hf := jf c29 hf
        exact B_X7_readDigits_70 E ih hf hM (lv_sub hl [0, 1] rfl)
      · have hf := jt c29 hf
        refine lv_aload_n hx hb dX7_readDigits_37 rfl (lv_at hl 0 rfl) ?_
        refine lv_aload_n hx hb dX7_readDigits_38 rfl (lv_at hl 0 rfl) ?_
        refine gt_39 E hM hq25 lk_1_141 dX7_readDigits_39 ?_
        obtain ⟨x30, hc31, hf⟩ := jb hf
        refine jbackI hM (jrunV E hM ci_X7_byteAt (C_X7_byteAt hc31) lk_3_75 hq25 (by decide) rfl hl.1 rfl rfl (Nat.le_of_ble_eq_true rfl) ⟨Nat.le_of_ble_eq_true rfl, Nat.le_of_ble_eq_true rfl⟩ ⟨Nat.le_refl _, Nat.le_refl _⟩ dX7_readDigits_42) (fun H locs hM => ?_)
        refine lv_bipush (v := (46 : Int32)) hx hb dX7_readDigits_45 (by decide) ?_
        refine lv_icmp_ne (tgt := 144) hx hb dX7_readDigits_47 (by decide) (fun c32 => ?_) (fun c32 => ?_)
        · have hf := jf c32 hf
          exact B_X7_readDigits_144 E  hf hM (lv_sub hl [0, 1] rfl)
        · have hf := jt c32 hf
          refine lv_aload_n hx hb dX7_readDigits_50 rfl (lv_at hl 0 rfl) ?_
          refine lv_aload_n hx hb dX7_readDigits_51 rfl (lv_at hl 0 rfl) ?_
          refine gt_39 E hM hq25 lk_1_141 dX7_readDigits_52 ?_
          refine lv_iconst (v := (1 : Int32)) hx hb dX7_readDigits_55 (by decide) ?_
          refine lv_iadd hx hb dX7_readDigits_56 ?_
          obtain ⟨x33, hc34, hf⟩ := jb hf
          refine jbackI hM (jrunV E hM ci_X7_byteAt (C_X7_byteAt hc34) lk_3_75 hq25 (by decide) rfl hl.1 rfl rfl (Nat.le_of_ble_eq_true rfl) ⟨Nat.le_of_ble_eq_true rfl, Nat.le_of_ble_eq_true rfl⟩ ⟨Nat.le_refl _, Nat.le_refl _⟩ dX7_readDigits_57) (fun H locs hM => ?_)
          refine jbackI hM (jrunS E hM ci_X7_isDigit (C_X7_isDigit rfl) lk_3_86 hl.1 rfl rfl (Nat.le_of_ble_eq_true rfl) ⟨Nat.le_of_ble_eq_true rfl, Nat.le_of_ble_eq_true rfl⟩ ⟨Nat.le_refl _, Nat.le_refl _⟩ dX7_readDigits_60) (fun H locs hM => ?_)
          refine lv_if_eq (tgt := 144) hx hb dX7_readDigits_63 (by decide) (fun c35 => ?_) (fun c35 => ?_)
          · have hf := jt c35 hf
            exact B_X7_readDigits_144 E  hf hM (lv_sub hl [0, 1] rfl)
          · have hf := jf c35 hf
            refine lv_iload_n hx hb dX7_readDigits_66 rfl (lv_at hl 1 rfl) ?_
            refine lv_if_ne (tgt := 144) hx hb dX7_readDigits_67 (by decide) (fun c36 => ?_) (fun c36 => ?_)
            · have hf := jf c36 hf
              exact B_X7_readDigits_144 E  hf hM (lv_sub hl [0, 1] rfl)
            · have hf := jt c36 hf
              exact B_X7_readDigits_70 E ih hf hM (lv_sub hl [0, 1] rfl)
set_option maxRecDepth 100000 in
set_option maxHeartbeats 4000000 in
theorem B_X7_readDigits_0 {p : Program} {l : Launch} {e : Env} {s : State} {m : MethodId} {args : Array Value} {below : List Frame} {meth : Method} {c : Code} {g : jG} {SS : jM} {v0 : Nat} {S : jM} (E : jEnv p s m args meth c cX7_readDigits "PensionHouse$Tape" none 3 g)  {H : Heap} {locs : List Loc} {ls : Array Slot} (hf : f_X7_readDigits v0 S = some SS) (hM : jAt g S s H locs) (hl : lv_has ls 3 [(0, .ref (g.2.2 + v0))]) : W p l e (jRm 2 0 0) s m args below meth c H locs 0 0 (MQ below (jQv g SS) args s 0 0 (jA0 g)) (F0 m 0 ls []) := by
  obtain ⟨hx, hb, hml, -, hts, hown, hK, -, hstr⟩ := id E
  unfold f_X7_readDigits at hf
  refine lv_aload_n hx hb dX7_readDigits_0 rfl (lv_at hl 0 rfl) ?_
  refine lv_lconst (v := (0 : Int64)) hx hb dX7_readDigits_1 (by decide) ?_
  obtain ⟨hq37, hf⟩ := jif hf
  refine pt_42 E hM hq37 lk_1_147 dX7_readDigits_2 (fun H locs S38 eS38 hM => ?_)
  have hf := jlet_y eS38 hf
  refine lv_aload_n hx hb dX7_readDigits_5 rfl (lv_at hl 0 rfl) ?_
  refine lv_iconst (v := (0 : Int32)) hx hb dX7_readDigits_6 (by decide) ?_
  refine pt_43 E hM hq37 lk_1_148 dX7_readDigits_7 (fun H locs S39 eS39 hM => ?_)
  have hf := jlet_y eS39 hf
  refine lv_iconst (v := (0 : Int32)) hx hb dX7_readDigits_10 (by decide) ?_
  refine lv_istore_n (lv' := [(1, .int (0 : Int32)), (0, .ref (g.2.2 + v0))]) hx hb dX7_readDigits_11 rfl hl (by decide) rfl (fun ls hl => ?_)
  exact B_X7_readDigits_12 E  1100000 v0 (0 : Int32) S39 _ _ _ hf hM (lv_sub hl [1, 0] rfl)
set_option maxRecDepth 100000 in
theorem C_X7_readDigits {l : Launch} {g : jG} {a0 : Nat} {S : jM} {SS : jM} (hf : f_X7_readDigits a0 S = some SS) : jMet l g yX7_readDigits cX7_readDigits 3 none 2 0 0 [.ref (g.2.2 + a0)] S (jQv g SS) := by
  refine jof (by decide +kernel) (Nat.le_of_ble_eq_true rfl) ?_
  intro p e s m below meth c E hM ls hl
  have hl : lv_has ls 3 [(0, .ref (g.2.2 + a0))] := hl
  exact B_X7_readDigits_0 E hf hM hl
-- PensionHouse$Tape.readSign(I)V  mode M
noncomputable def f_X7_readSign_111 (t0 : Nat) (t1 : Int32) (S : jM) : Option jM := if jK t0 = 5 then jlet (jsI S 40 t0 t1) (fun S2 => some S2) else none
noncomputable def f_X7_readSign_106 (t0 : Nat) (S : jM) : Option jM := f_X7_readSign_111 t0 (1 : Int32) S
noncomputable def f_X7_readSign_89 (v0 : Nat) (v1 : Int32) (S : jM) : Option jM := if v1 = (33 : Int32) then f_X7_readSign_106 v0 S else (f_J0_indexOf_0f7a4 1 ((v1.toUInt32 % 65536).toInt32)).bind (fun x4 => if 0 ≤ x4 then f_X7_readSign_111 v0 v1 S else f_X7_readSign_106 v0 S)
noncomputable def f_X7_readSign_60 (v0 : Nat) (v1 : Int32) (v2 : Int32) (S : jM) : Option jM := if v1 = (33 : Int32) then if v2 = 0 then f_X7_readSign_89 v0 v1 S else if jK v0 = 5 then jlet (jsI S 40 v0 (10 : Int32)) (fun S10 => jlet (jsI S10 39 v0 ((jI S10 39 v0) + (1 : Int32))) (fun S11 => some S11)) else none else f_X7_readSign_89 v0 v1 S
noncomputable def f_X7_readSign_20 (v0 : Nat) (v1 : Int32) (t0 : Int32) (S : jM) : Option jM := if jK v0 = 5 then jlet (jsI S 39 v0 ((jI S 39 v0) + (1 : Int32))) (fun S13 => if v1 = (60 : Int32) then if t0 = 0 then f_X7_readSign_60 v0 v1 t0 S13 else jlet (jsI S13 40 v0 (9 : Int32)) (fun S16 => jlet (jsI S16 39 v0 ((jI S16 39 v0) + (1 : Int32))) (fun S17 => some S17)) else f_X7_readSign_60 v0 v1 t0 S13) else none
noncomputable def f_X7_readSign (v0 : Nat) (v1 : Int32) (S : jM) : Option jM := if jK v0 = 5 then (f_X7_byteAt v0 ((jI S 39 v0) + (1 : Int32)) S).bind (fun x19 => if x19 = (61 : Int32) then f_X7_readSign_20 v0 v1 (1 : Int32) S else f_X7_readSign_20 v0 v1 (0 : Int32) S) else none
set_option maxRecDepth 100000 in
set_option maxHeartbeats 4000000 in
theorem B_X7_readSign_111 {p : Program} {l : Launch} {e : Env} {s : State} {m : MethodId} {args : Array Value} {below : List Frame} {meth : Method} {c : Code} {g : jG} {SS : jM} {t0 : Nat} {t1 : Int32} {S : jM} (E : jEnv p s m args meth c cX7_readSign "PensionHouse$Tape" none 3 g)  {H : Heap} {locs : List Loc} {ls : Array Slot} (hf : f_X7_readSign_111 t0 t1 S = some SS) (hM : jAt g S s H locs) (hl : lv_has ls 3 []) : W p l e (jRm 5 0 0) s m args below meth c H locs 0 0 (MQ below (jQv g SS) args s 0 0 (jA0 g)) (F0 m 111 ls [.int t1, .ref (g.2.2 + t0)]) := by
  obtain ⟨hx, hb, hml, -, hts, hown, hK, -, hstr⟩ := id E
  unfold f_X7_readSign_111 at hf
  obtain ⟨hq1, hf⟩ := jif hf
  refine pt_40 E hM hq1 lk_1_143 dX7_readSign_111 (fun H locs S2 eS2 hM => ?_)
  have hf := jlet_y eS2 hf
  exact jvret (jrv hf) E hM dX7_readSign_114
set_option maxRecDepth 100000 in
set_option maxHeartbeats 4000000 in
theorem B_X7_readSign_106 {p : Program} {l : Launch} {e : Env} {s : State} {m : MethodId} {args : Array Value} {below : List Frame} {meth : Method} {c : Code} {g : jG} {SS : jM} {t0 : Nat} {S : jM} (E : jEnv p s m args meth c cX7_readSign "PensionHouse$Tape" none 3 g)  {H : Heap} {locs : List Loc} {ls : Array Slot} (hf : f_X7_readSign_106 t0 S = some SS) (hM : jAt g S s H locs) (hl : lv_has ls 3 []) : W p l e (jRm 5 0 0) s m args below meth c H locs 0 0 (MQ below (jQv g SS) args s 0 0 (jA0 g)) (F0 m 106 ls [.ref (g.2.2 + t0)]) := by
  obtain ⟨hx, hb, hml, -, hts, hown, hK, -, hstr⟩ := id E
  unfold f_X7_readSign_106 at hf
  refine lv_iconst (v := (1 : Int32)) hx hb dX7_readSign_106 (by decide) ?_
  refine lv_goto (tgt := 111) hx hb dX7_readSign_107 (by decide) ?_
  exact B_X7_readSign_111 E  hf hM (lv_sub hl [] rfl)
set_option maxRecDepth 100000 in
set_option maxHeartbeats 4000000 in
theorem B_X7_readSign_89 {p : Program} {l : Launch} {e : Env} {s : State} {m : MethodId} {args : Array Value} {below : List Frame} {meth : Method} {c : Code} {g : jG} {SS : jM} {v0 : Nat} {v1 : Int32} {S : jM} (E : jEnv p s m args meth c cX7_readSign "PensionHouse$Tape" none 3 g)  {H : Heap} {locs : List Loc} {ls : Array Slot} (hf : f_X7_readSign_89 v0 v1 S = some SS) (hM : jAt g S s H locs) (hl : lv_has ls 3 [(0, .ref (g.2.2 + v0)), (1, .int v1)]) : W p l e (jRm 5 0 0) s m args below meth c H locs 0 0 (MQ below (jQv g SS) args s 0 0 (jA0 g)) (F0 m 89 ls []) := by
  obtain ⟨hx, hb, hml, -, hts, hown, hK, -, hstr⟩ := id E
  unfold f_X7_readSign_89 at hf
  refine lv_aload_n hx hb dX7_readSign_89 rfl (lv_at hl 0 rfl) ?_
  refine lv_iload_n hx hb dX7_readSign_90 rfl (lv_at hl 1 rfl) ?_
  refine lv_bipush (v := (33 : Int32)) hx hb dX7_readSign_91 (by decide) ?_
  refine lv_icmp_eq (tgt := 106) hx hb dX7_readSign_93 (by decide) (fun c3 => ?_) (fun c3 => ?_)
  · have hf := jt c3 hf
    exact B_X7_readSign_106 E  hf hM (lv_sub hl [] rfl)
  · have hf := jf c3 hf
    refine va_ldcS hx hb hown hstr.2.2.2.2 dX7_readSign_96 ?_
    refine lv_iload_n hx hb dX7_readSign_98 rfl (lv_at hl 1 rfl) ?_
    refine lv_i2c hx hb dX7_readSign_99 rfl ?_
    obtain ⟨x4, hc5, hf⟩ := jb hf
    refine jbackI hM (jrunVS E hM ci_J0_indexOf_0f7a4 (C_J0_indexOf_0f7a4 hc5) lk_3_151 (by decide) rfl hl.1 rfl rfl (Nat.le_of_ble_eq_true rfl) ⟨Nat.le_of_ble_eq_true rfl, Nat.le_of_ble_eq_true rfl⟩ ⟨Nat.le_refl _, Nat.le_refl _⟩ dX7_readSign_100) (fun H locs hM => ?_)
    refine lv_if_ge (tgt := 110) hx hb dX7_readSign_103 (by decide) (fun c6 => ?_) (fun c6 => ?_)
    · have hf := jt c6 hf
      refine lv_iload_n hx hb dX7_readSign_110 rfl (lv_at hl 1 rfl) ?_
      exact B_X7_readSign_111 E  hf hM (lv_sub hl [] rfl)
    · have hf := jf c6 hf
      exact B_X7_readSign_106 E  hf hM (lv_sub hl [] rfl)
set_option maxRecDepth 100000 in
set_option maxHeartbeats 4000000 in
theorem B_X7_readSign_60 {p : Program} {l : Launch} {e : Env} {s : State} {m : MethodId} {args : Array Value} {below : List Frame} {meth : Method} {c : Code} {g : jG} {SS : jM} {v0 : Nat} {v1 : Int32} {v2 : Int32} {S : jM} (E : jEnv p s m args meth c cX7_readSign "PensionHouse$Tape" none 3 g)  {H : Heap} {locs : List Loc} {ls : Array Slot} (hf : f_X7_readSign_60 v0 v1 v2 S = some SS) (hM : jAt g S s H locs) (hl : lv_has ls 3 [(0, .ref (g.2.2 + v0)), (1, .int v1), (2, .int v2)]) : W p l e (jRm 5 0 0) s m args below meth c H locs 0 0 (MQ below (jQv g SS) args s 0 0 (jA0 g)) (F0 m 60 ls []) := by
  obtain ⟨hx, hb, hml, -, hts, hown, hK, -, hstr⟩ := id E
  unfold f_X7_readSign_60 at hf
  refine lv_iload_n hx hb dX7_readSign_60 rfl (lv_at hl 1 rfl) ?_
  refine lv_bipush (v := (33 : Int32)) hx hb dX7_readSign_61 (by decide) ?_
  refine lv_icmp_ne (tgt := 89) hx hb dX7_readSign_63 (by decide) (fun c7 => ?_) (fun c7 => ?_)
  · have hf := jf c7 hf
    exact B_X7_readSign_89 E  hf hM (lv_sub hl [0, 1] rfl)
  · have hf := jt c7 hf
    refine lv_iload_n hx hb dX7_readSign_66 rfl (lv_at hl 2 rfl) ?_
    refine lv_if_eq (tgt := 89) hx hb dX7_readSign_67 (by decide) (fun c8 => ?_) (fun c8 => ?_)
    · have hf := jt c8 hf
      exact B_X7_readSign_89 E  hf hM (lv_sub hl [0, 1] rfl)
    · have hf := jf c8 hf
      refine lv_aload_n hx hb dX7_readSign_70 rfl (lv_at hl 0 rfl) ?_
      refine lv_bipush (v := (10 : Int32)) hx hb dX7_readSign_71 (by decide) ?_
      obtain ⟨hq9, hf⟩ := jif hf
      refine pt_40 E hM hq9 lk_1_143 dX7_readSign_73 (fun H locs S10 eS10 hM => ?_)
      have hf := jlet_y eS10 hf
      refine lv_aload_n hx hb dX7_readSign_76 rfl (lv_at hl 0 rfl) ?_
      refine lv_dup hx hb dX7_readSign_77 rfl ?_
      refine gt_39 E hM hq9 lk_1_141 dX7_readSign_78 ?_
      refine lv_iconst (v := (1 : Int32)) hx hb dX7_readSign_81 (by decide) ?_
      refine lv_iadd hx hb dX7_readSign_82 ?_
      refine pt_39 E hM hq9 lk_1_141 dX7_readSign_83 (fun H locs S11 eS11 hM => ?_)
      have hf := jlet_y eS11 hf
      refine lv_goto (tgt := 114) hx hb dX7_readSign_86 (by decide) ?_
      exact jvret (jrv hf) E hM dX7_readSign_114
set_option maxRecDepth 100000 in
set_option maxHeartbeats 4000000 in
theorem B_X7_readSign_20 {p : Program} {l : Launch} {e : Env} {s : State} {m : MethodId} {args : Array Value} {below : List Frame} {meth : Method} {c : Code} {g : jG} {SS : jM} {v0 : Nat} {v1 : Int32} {t0 : Int32} {S : jM} (E : jEnv p s m args meth c cX7_readSign "PensionHouse$Tape" none 3 g)  {H : Heap} {locs : List Loc} {ls : Array Slot} (hf : f_X7_readSign_20 v0 v1 t0 S = some SS) (hM : jAt g S s H locs) (hl : lv_has ls 3 [(0, .ref (g.2.2 + v0)), (1, .int v1)]) : W p l e (jRm 5 0 0) s m args below meth c H locs 0 0 (MQ below (jQv g SS) args s 0 0 (jA0 g)) (F0 m 20 ls [.int t0]) := by
  obtain ⟨hx, hb, hml, -, hts, hown, hK, -, hstr⟩ := id E
  unfold f_X7_readSign_20 at hf
  refine lv_istore_n (lv' := [(2, .int t0), (0, .ref (g.2.2 + v0)), (1, .int v1)]) hx hb dX7_readSign_20 rfl hl (by decide) rfl (fun ls hl => ?_)
  refine lv_aload_n hx hb dX7_readSign_21 rfl (lv_at hl 1 rfl) ?_
  refine lv_dup hx hb dX7_readSign_22 rfl ?_
  obtain ⟨hq12, hf⟩ := jif hf
  refine gt_39 E hM hq12 lk_1_141 dX7_readSign_23 ?_
  refine lv_iconst (v := (1 : Int32)) hx hb dX7_readSign_26 (by decide) ?_
  refine lv_iadd hx hb dX7_readSign_27 ?_
  refine pt_39 E hM hq12 lk_1_141 dX7_readSign_28 (fun H locs S13 eS13 hM => ?_)
  have hf := jlet_y eS13 hf
  refine lv_iload_n hx hb dX7_readSign_31 rfl (lv_at hl 2 rfl) ?_
  refine lv_bipush (v := (60 : Int32)) hx hb dX7_readSign_32 (by decide) ?_
  refine lv_icmp_ne (tgt := 60) hx hb dX7_readSign_34 (by decide) (fun c14 => ?_) (fun c14 => ?_)
  · have hf := jf c14 hf
    exact B_X7_readSign_60 E  hf hM (lv_sub hl [1, 2, 0] rfl)
  · have hf := jt c14 hf
    refine lv_iload_n hx hb dX7_readSign_37 rfl (lv_at hl 0 rfl) ?_
    refine lv_if_eq (tgt := 60) hx hb dX7_readSign_38 (by decide) (fun c15 => ?_) (fun c15 => ?_)
    · have hf := jt c15 hf
      exact B_X7_readSign_60 E  hf hM (lv_sub hl [1, 2, 0] rfl)
    · have hf := jf c15 hf
      refine lv_aload_n hx hb dX7_readSign_41 rfl (lv_at hl 1 rfl) ?_
      refine lv_bipush (v := (9 : Int32)) hx hb dX7_readSign_42 (by decide) ?_
      refine pt_40 E hM hq12 lk_1_143 dX7_readSign_44 (fun H locs S16 eS16 hM => ?_)
      have hf := jlet_y eS16 hf
      refine lv_aload_n hx hb dX7_readSign_47 rfl (lv_at hl 1 rfl) ?_
      refine lv_dup hx hb dX7_readSign_48 rfl ?_
      refine gt_39 E hM hq12 lk_1_141 dX7_readSign_49 ?_
      refine lv_iconst (v := (1 : Int32)) hx hb dX7_readSign_52 (by decide) ?_
      refine lv_iadd hx hb dX7_readSign_53 ?_
      refine pt_39 E hM hq12 lk_1_141 dX7_readSign_54 (fun H locs S17 eS17 hM => ?_)
      have hf := jlet_y eS17 hf
      refine lv_goto (tgt := 114) hx hb dX7_readSign_57 (by decide) ?_
      exact jvret (jrv hf) E hM dX7_readSign_114
set_option maxRecDepth 100000 in
set_option maxHeartbeats 4000000 in
theorem B_X7_readSign_0 {p : Program} {l : Launch} {e : Env} {s : State} {m : MethodId} {args : Array Value} {below : List Frame} {meth : Method} {c : Code} {g : jG} {SS : jM} {v0 : Nat} {v1 : Int32} {S : jM} (E : jEnv p s m args meth c cX7_readSign "PensionHouse$Tape" none 3 g)  {H : Heap} {locs : List Loc} {ls : Array Slot} (hf : f_X7_readSign v0 v1 S = some SS) (hM : jAt g S s H locs) (hl : lv_has ls 3 [(0, .ref (g.2.2 + v0)), (1, .int v1)]) : W p l e (jRm 5 0 0) s m args below meth c H locs 0 0 (MQ below (jQv g SS) args s 0 0 (jA0 g)) (F0 m 0 ls []) := by
  obtain ⟨hx, hb, hml, -, hts, hown, hK, -, hstr⟩ := id E
  unfold f_X7_readSign at hf
  refine lv_aload_n hx hb dX7_readSign_0 rfl (lv_at hl 0 rfl) ?_
  refine lv_aload_n hx hb dX7_readSign_1 rfl (lv_at hl 0 rfl) ?_
  obtain ⟨hq18, hf⟩ := jif hf
  refine gt_39 E hM hq18 lk_1_141 dX7_readSign_2 ?_
  refine lv_iconst (v := (1 : Int32)) hx hb dX7_readSign_5 (by decide) ?_
  refine lv_iadd hx hb dX7_readSign_6 ?_
  obtain ⟨x19, hc20, hf⟩ := jb hf
  refine jbackI hM (jrunV E hM ci_X7_byteAt (C_X7_byteAt hc20) lk_3_75 hq18 (by decide) rfl hl.1 rfl rfl (Nat.le_of_ble_eq_true rfl) ⟨Nat.le_of_ble_eq_true rfl, Nat.le_of_ble_eq_true rfl⟩ ⟨Nat.le_refl _, Nat.le_refl _⟩ dX7_readSign_7) (fun H locs hM => ?_)
  refine lv_bipush (v := (61 : Int32)) hx hb dX7_readSign_10 (by decide) ?_
  refine lv_icmp_ne (tgt := 19) hx hb dX7_readSign_12 (by decide) (fun c21 => ?_) (fun c21 => ?_)
  · have hf := jf c21 hf
    refine lv_iconst (v := (0 : Int32)) hx hb dX7_readSign_19 (by decide) ?_
    exact B_X7_readSign_20 E  hf hM (lv_sub hl [0, 1] rfl)
  · have hf := jt c21 hf
    refine lv_iconst (v := (1 : Int32)) hx hb dX7_readSign_15 (by decide) ?_
    refine lv_goto (tgt := 20) hx hb dX7_readSign_16 (by decide) ?_
    exact B_X7_readSign_20 E  hf hM (lv_sub hl [0, 1] rfl)
set_option maxRecDepth 100000 in
theorem C_X7_readSign {l : Launch} {g : jG} {a0 : Nat} {a1 : Int32} {S : jM} {SS : jM} (hf : f_X7_readSign a0 a1 S = some SS) : jMet l g yX7_readSign cX7_readSign 3 none 5 0 0 [.ref (g.2.2 + a0), .int a1] S (jQv g SS) := by
  refine jof (by decide +kernel) (Nat.le_of_ble_eq_true rfl) ?_
  intro p e s m below meth c E hM ls hl
  have hl : lv_has ls 3 [(0, .ref (g.2.2 + a0)),(1, .int a1)] := hl
  exact B_X7_readSign_0 E hf hM hl
-- PensionHouse$Tape.next()V  mode M
noncomputable def f_X7_next_50 (v0 : Nat) (S : jM) : Option jM := if jK v0 = 5 then jlet (jsI S 41 v0 (jI S 39 v0)) (fun S2 => (f_X7_byteAt v0 (jI S2 39 v0) S2).bind (fun x3 => if (jI S2 39 v0) < (jI S2 38 v0) then if (f_X7_isLetter x3) = 0 then if (f_X7_isDigit x3) = 0 then (f_X7_readSign v0 x3 S2).bind (fun S8 => some S8) else (f_X7_readDigits v0 S2).bind (fun S10 => some S10) else (f_X7_readLetters v0 S2).bind (fun S12 => some S12) else jlet (jsI S2 40 v0 (0 : Int32)) (fun S14 => some S14))) else none
noncomputable def f_X7_next_37 (k0 : Nat → jM → Option jM) (v0 : Nat) (S : jM) : Option jM := if jK v0 = 5 then jlet (jsI S 39 v0 ((jI S 39 v0) + (1 : Int32))) (fun S16 => k0 v0 S16) else none
noncomputable def f_X7_next_0 : Nat → Nat → jM → Option jM
  | 0, _, _ => none
  | n + 1, v0, S => if jK v0 = 5 then if (jI S 38 v0) ≤ (jI S 39 v0) then f_X7_next_50 v0 S else (f_X7_byteAt v0 (jI S 39 v0) S).bind (fun x19 => if x19 = (32 : Int32) then f_X7_next_37 (f_X7_next_0 n) v0 S else (f_X7_byteAt v0 (jI S 39 v0) S).bind (fun x22 => if x22 = (10 : Int32) then f_X7_next_37 (f_X7_next_0 n) v0 S else f_X7_next_50 v0 S)) else none
set_option maxRecDepth 100000 in
set_option maxHeartbeats 4000000 in
theorem B_X7_next_50 {p : Program} {l : Launch} {e : Env} {s : State} {m : MethodId} {args : Array Value} {below : List Frame} {meth : Method} {c : Code} {g : jG} {SS : jM} {v0 : Nat} {S : jM} (E : jEnv p s m args meth c cX7_next "PensionHouse$Tape" none 2 g)  {H : Heap} {locs : List Loc} {ls : Array Slot} (hf : f_X7_next_50 v0 S = some SS) (hM : jAt g S s H locs) (hl : lv_has ls 2 [(0, .ref (g.2.2 + v0))]) : W p l e (jRm 7 0 0) s m args below meth c H locs 0 0 (MQ below (jQv g SS) args s 0 0 (jA0 g)) (F0 m 50 ls []) := by
  obtain ⟨hx, hb, hml, -, hts, hown, hK, -, hstr⟩ := id E
  unfold f_X7_next_50 at hf
  refine lv_aload_n hx hb dX7_next_50 rfl (lv_at hl 0 rfl) ?_
  refine lv_aload_n hx hb dX7_next_51 rfl (lv_at hl 0 rfl) ?_
  obtain ⟨hq1, hf⟩ := jif hf
  refine gt_39 E hM hq1 lk_1_141 dX7_next_52 ?_
  refine pt_41 E hM hq1 lk_1_145 dX7_next_55 (fun H locs S2 eS2 hM => ?_)
  have hf := jlet_y eS2 hf
  refine lv_aload_n hx hb dX7_next_58 rfl (lv_at hl 0 rfl) ?_
  refine lv_aload_n hx hb dX7_next_59 rfl (lv_at hl 0 rfl) ?_
  refine gt_39 E hM hq1 lk_1_141 dX7_next_60 ?_
  obtain ⟨x3, hc4, hf⟩ := jb hf
  refine jbackI hM (jrunV E hM ci_X7_byteAt (C_X7_byteAt hc4) lk_3_75 hq1 (by decide) rfl hl.1 rfl rfl (Nat.le_of_ble_eq_true rfl) ⟨Nat.le_of_ble_eq_true rfl, Nat.le_of_ble_eq_true rfl⟩ ⟨Nat.le_refl _, Nat.le_refl _⟩ dX7_next_63) (fun H locs hM => ?_)
  refine lv_istore_n (lv' := [(1, .int x3), (0, .ref (g.2.2 + v0))]) hx hb dX7_next_66 rfl hl (by decide) rfl (fun ls hl => ?_)
  refine lv_aload_n hx hb dX7_next_67 rfl (lv_at hl 1 rfl) ?_
  refine gt_39 E hM hq1 lk_1_141 dX7_next_68 ?_
  refine lv_aload_n hx hb dX7_next_71 rfl (lv_at hl 1 rfl) ?_
  refine gt_38 E hM hq1 lk_1_140 dX7_next_72 ?_
  refine lv_icmp_lt (tgt := 86) hx hb dX7_next_75 (by decide) (fun c5 => ?_) (fun c5 => ?_)
  · have hf := jt c5 hf
    refine lv_iload_n hx hb dX7_next_86 rfl (lv_at hl 0 rfl) ?_
    refine jbackI hM (jrunS E hM ci_X7_isLetter (C_X7_isLetter rfl) lk_3_79 hl.1 rfl rfl (Nat.le_of_ble_eq_true rfl) ⟨Nat.le_of_ble_eq_true rfl, Nat.le_of_ble_eq_true rfl⟩ ⟨Nat.le_refl _, Nat.le_refl _⟩ dX7_next_87) (fun H locs hM => ?_)
    refine lv_if_eq (tgt := 100) hx hb dX7_next_90 (by decide) (fun c6 => ?_) (fun c6 => ?_)
    · have hf := jt c6 hf
      refine lv_iload_n hx hb dX7_next_100 rfl (lv_at hl 0 rfl) ?_
      refine jbackI hM (jrunS E hM ci_X7_isDigit (C_X7_isDigit rfl) lk_3_86 hl.1 rfl rfl (Nat.le_of_ble_eq_true rfl) ⟨Nat.le_of_ble_eq_true rfl, Nat.le_of_ble_eq_true rfl⟩ ⟨Nat.le_refl _, Nat.le_refl _⟩ dX7_next_101) (fun H locs hM => ?_)
      refine lv_if_eq (tgt := 114) hx hb dX7_next_104 (by decide) (fun c7 => ?_) (fun c7 => ?_)
      · have hf := jt c7 hf
        refine lv_aload_n hx hb dX7_next_114 rfl (lv_at hl 1 rfl) ?_
        refine lv_iload_n hx hb dX7_next_115 rfl (lv_at hl 0 rfl) ?_
        obtain ⟨S8, hc9, hf⟩ := jb hf
        refine jbackV hM (jrunV E hM ci_X7_readSign (C_X7_readSign hc9) lk_3_146 hq1 (by decide) rfl hl.1 rfl rfl (Nat.le_of_ble_eq_true rfl) ⟨Nat.le_of_ble_eq_true rfl, Nat.le_of_ble_eq_true rfl⟩ ⟨Nat.le_refl _, Nat.le_refl _⟩ dX7_next_116) (fun H locs hM => ?_)
        exact jvret (jrv hf) E hM dX7_next_119
      · have hf := jf c7 hf
        refine lv_aload_n hx hb dX7_next_107 rfl (lv_at hl 1 rfl) ?_
        obtain ⟨S10, hc11, hf⟩ := jb hf
        refine jbackV hM (jrunV E hM ci_X7_readDigits (C_X7_readDigits hc11) lk_3_141 hq1 (by decide) rfl hl.1 rfl rfl (Nat.le_of_ble_eq_true rfl) ⟨Nat.le_of_ble_eq_true rfl, Nat.le_of_ble_eq_true rfl⟩ ⟨Nat.le_refl _, Nat.le_refl _⟩ dX7_next_108) (fun H locs hM => ?_)
        refine lv_goto (tgt := 119) hx hb dX7_next_111 (by decide) ?_
        exact jvret (jrv hf) E hM dX7_next_119
    · have hf := jf c6 hf
      refine lv_aload_n hx hb dX7_next_93 rfl (lv_at hl 1 rfl) ?_
      obtain ⟨S12, hc13, hf⟩ := jb hf
      refine jbackV hM (jrunV E hM ci_X7_readLetters (C_X7_readLetters hc13) lk_3_82 hq1 (by decide) rfl hl.1 rfl rfl (Nat.le_of_ble_eq_true rfl) ⟨Nat.le_of_ble_eq_true rfl, Nat.le_of_ble_eq_true rfl⟩ ⟨Nat.le_refl _, Nat.le_refl _⟩ dX7_next_94) (fun H locs hM => ?_)
      refine lv_goto (tgt := 119) hx hb dX7_next_97 (by decide) ?_
      exact jvret (jrv hf) E hM dX7_next_119
  · have hf := jf c5 hf
    refine lv_aload_n hx hb dX7_next_78 rfl (lv_at hl 1 rfl) ?_
    refine lv_iconst (v := (0 : Int32)) hx hb dX7_next_79 (by decide) ?_
    refine pt_40 E hM hq1 lk_1_143 dX7_next_80 (fun H locs S14 eS14 hM => ?_)
    have hf := jlet_y eS14 hf
    refine lv_goto (tgt := 119) hx hb dX7_next_83 (by decide) ?_
    exact jvret (jrv hf) E hM dX7_next_119
set_option maxRecDepth 100000 in
set_option maxHeartbeats 4000000 in
theorem B_X7_next_37 {p : Program} {l : Launch} {e : Env} {s : State} {m : MethodId} {args : Array Value} {below : List Frame} {meth : Method} {c : Code} {g : jG} {SS : jM} {v0 : Nat} {S : jM} {k0 : Nat → jM → Option jM} (E : jEnv p s m args meth c cX7_next "PensionHouse$Tape" none 2 g) (hk0 : ∀ (v0 : Nat) (S : jM) (H : Heap) (locs : List Loc) (ls : Array Slot), k0 v0 S = some SS → jAt g S s H locs → lv_has ls 2 [(0, .ref (g.2.2 + v0))] → W p l e (jRm 7 0 0) s m args below meth c H locs 0 0 (MQ below (jQv g SS) args s 0 0 (jA0 g)) (F0 m 0 ls [])) {H : Heap} {locs : List Loc} {ls : Array Slot} (hf : f_X7_next_37 k0 v0 S = some SS) (hM : jAt g S s H locs) (hl : lv_has ls 2 [(0, .ref (g.2.2 + v0))]) : W p l e (jRm 7 0 0) s m args below meth c H locs 0 0 (MQ below (jQv g SS) args s 0 0 (jA0 g)) (F0 m 37 ls []) := by
  obtain ⟨hx, hb, hml, -, hts, hown, hK, -, hstr⟩ := id E
  unfold f_X7_next_37 at hf
  refine lv_aload_n hx hb dX7_next_37 rfl (lv_at hl 0 rfl) ?_
  refine lv_dup hx hb dX7_next_38 rfl ?_
  obtain ⟨hq15, hf⟩ := jif hf
  refine gt_39 E hM hq15 lk_1_141 dX7_next_39 ?_
  refine lv_iconst (v := (1 : Int32)) hx hb dX7_next_42 (by decide) ?_
  refine lv_iadd hx hb dX7_next_43 ?_
  refine pt_39 E hM hq15 lk_1_141 dX7_next_44 (fun H locs S16 eS16 hM => ?_)
  have hf := jlet_y eS16 hf
  refine lv_goto (tgt := 0) hx hb dX7_next_47 (by decide) ?_
  exact hk0 v0 S16 _ _ _ hf hM (lv_sub hl [0] rfl)
set_option maxRecDepth 100000 in
set_option maxHeartbeats 4000000 in
theorem B_X7_next_0 {p : Program} {l : Launch} {e : Env} {s : State} {m : MethodId} {args : Array Value} {below : List Frame} {meth : Method} {c : Code} {g : jG} {SS : jM} (E : jEnv p s m args meth c cX7_next "PensionHouse$Tape" none 2 g)  : ∀ (n : Nat) (v0 : Nat) (S : jM) (H : Heap) (locs : List Loc) (ls : Array Slot), f_X7_next_0 n v0 S = some SS → jAt g S s H locs → lv_has ls 2 [(0, .ref (g.2.2 + v0))] → W p l e (jRm 7 0 0) s m args below meth c H locs 0 0 (MQ below (jQv g SS) args s 0 0 (jA0 g)) (F0 m 0 ls []) := by
  obtain ⟨hx, hb, hml, -, hts, hown, hK, -, hstr⟩ := id E
  intro n
  induction n with
  | zero => intro v0 S H locs ls hf hM hl; rw [f_X7_next_0] at hf; cases hf
  | succ n ih =>
    intro v0 S H locs ls hf hM hl
    rw [f_X7_next_0] at hf
    refine lv_aload_n hx hb dX7_next_0 rfl (lv_at hl 0 rfl) ?_
    obtain ⟨hq17, hf⟩ := jif hf
    refine gt_39 E hM hq17 lk_1_141 dX7_next_1 ?_
    refine lv_aload_n hx hb dX7_next_4 rfl (lv_at hl 0 rfl) ?_
    refine gt_38 E hM hq17 lk_1_140 dX7_next_5 ?_
    refine lv_icmp_ge (tgt := 50) hx hb dX7_next_8 (by decide) (fun c18 => ?_) (fun c18 => ?_)
    · have hf := jt c18 hf
      exact B_X7_next_50 E  hf hM (lv_sub hl [0] rfl)
    · have hf := jf c18 hf
      refine lv_aload_n hx hb dX7_next_11 rfl (lv_at hl 0 rfl) ?_
      refine lv_aload_n hx hb dX7_next_12 rfl (lv_at hl 0 rfl) ?_
      refine gt_39 E hM hq17 lk_1_141 dX7_next_13 ?_
      obtain ⟨x19, hc20, hf⟩ := jb hf
      refine jbackI hM (jrunV E hM ci_X7_byteAt (C_X7_byteAt hc20) lk_3_75 hq17 (by decide) rfl hl.1 rfl rfl (Nat.le_of_ble_eq_true rfl) ⟨Nat.le_of_ble_eq_true rfl, Nat.le_of_ble_eq_true rfl⟩ ⟨Nat.le_refl _, Nat.le_refl _⟩ dX7_next_16) (fun H locs hM => ?_)
      refine lv_bipush (v := (32 : Int32)) hx hb dX7_next_19 (by decide) ?_
      refine lv_icmp_eq (tgt := 37) hx hb dX7_next_21 (by decide) (fun c21 => ?_) (fun c21 => ?_)
      · have hf := jt c21 hf
        exact B_X7_next_37 E ih hf hM (lv_sub hl [0] rfl)
      · have hf := jf c21 hf
        refine lv_aload_n hx hb dX7_next_24 rfl (lv_at hl 0 rfl) ?_
        refine lv_aload_n hx hb dX7_next_25 rfl (lv_at hl 0 rfl) ?_
        refine gt_39 E hM hq17 lk_1_141 dX7_next_26 ?_
        obtain ⟨x22, hc23, hf⟩ := jb hf
        refine jbackI hM (jrunV E hM ci_X7_byteAt (C_X7_byteAt hc23) lk_3_75 hq17 (by decide) rfl hl.1 rfl rfl (Nat.le_of_ble_eq_true rfl) ⟨Nat.le_of_ble_eq_true rfl, Nat.le_of_ble_eq_true rfl⟩ ⟨Nat.le_refl _, Nat.le_refl _⟩ dX7_next_29) (fun H locs hM => ?_)
        refine lv_bipush (v := (10 : Int32)) hx hb dX7_next_32 (by decide) ?_
        refine lv_icmp_ne (tgt := 50) hx hb dX7_next_34 (by decide) (fun c24 => ?_) (fun c24 => ?_)
        · have hf := jf c24 hf
          exact B_X7_next_50 E  hf hM (lv_sub hl [0] rfl)
        · have hf := jt c24 hf
          exact B_X7_next_37 E ih hf hM (lv_sub hl [0] rfl)
set_option maxRecDepth 100000 in
theorem C_X7_next {l : Launch} {g : jG} {a0 : Nat} {S : jM} {SS : jM} (hf : f_X7_next_0 1100000 a0 S = some SS) : jMet l g yX7_next cX7_next 2 none 7 0 0 [.ref (g.2.2 + a0)] S (jQv g SS) := by
  refine jof (by decide +kernel) (Nat.le_of_ble_eq_true rfl) ?_
  intro p e s m below meth c E hM ls hl
  have hl : lv_has ls 2 [(0, .ref (g.2.2 + a0))] := hl
  exact B_X7_next_0 E 1100000 a0 S _ _ _ hf hM (lv_sub hl [0] rfl)
-- PensionHouse$Text.addPart(IJ)I  mode M
noncomputable def f_X8_addPart (v0 : Nat) (v1 : Int32) (v2 : Int64) (S : jM) : Option (Int32 × jM) := if jK v0 = 6 then if (jI S 45 v0) < (300 : Int32) then (jR S 46 v0).bind (fun r3 => if jA r3 13 (jI S 45 v0) = true then jlet (jrI S r3 (upd (jAI S r3) (jI S 45 v0).toNatClampNeg v1)) (fun S6 => (jR S6 47 v0).bind (fun r7 => if jA r7 14 (jI S6 45 v0) = true then jlet (jrL S6 r7 (vp_updL (jAL S6 r7) (jI S6 45 v0).toNatClampNeg v2)) (fun S10 => jlet (jI S10 45 v0) (fun x11 => jlet (jsI S10 45 v0 (x11 + (1 : Int32))) (fun S12 => some (x11, S12)))) else none)) else none) else some ((-1 : Int32), S) else none
set_option maxRecDepth 100000 in
set_option maxHeartbeats 4000000 in
theorem B_X8_addPart_0 {p : Program} {l : Launch} {e : Env} {s : State} {m : MethodId} {args : Array Value} {below : List Frame} {meth : Method} {c : Code} {g : jG} {rr : Int32} {SS : jM} {v0 : Nat} {v1 : Int32} {v2 : Int64} {S : jM} (E : jEnv p s m args meth c cX8_addPart "PensionHouse$Text" (some .int) 4 g)  {H : Heap} {locs : List Loc} {ls : Array Slot} (hf : f_X8_addPart v0 v1 v2 S = some (rr, SS)) (hM : jAt g S s H locs) (hl : lv_has ls 4 [(0, .ref (g.2.2 + v0)), (1, .int v1), (2, .long v2)]) : W p l e (jRm 1 0 0) s m args below meth c H locs 0 0 (MQ below (jQi g rr SS) args s 0 0 (jA0 g)) (F0 m 0 ls []) := by
  obtain ⟨hx, hb, hml, -, hts, hown, hK, -, hstr⟩ := id E
  unfold f_X8_addPart at hf
  refine lv_aload_n hx hb dX8_addPart_0 rfl (lv_at hl 0 rfl) ?_
  obtain ⟨hq1, hf⟩ := jif hf
  refine gt_45 E hM hq1 lk_1_176 dX8_addPart_1 ?_
  refine lv_sipush (v := (300 : Int32)) hx hb dX8_addPart_4 (by decide) ?_
  refine lv_icmp_lt (tgt := 12) hx hb dX8_addPart_7 (by decide) (fun c2 => ?_) (fun c2 => ?_)
  · have hf := jt c2 hf
    refine lv_aload_n hx hb dX8_addPart_12 rfl (lv_at hl 0 rfl) ?_
    refine gt_46 E hM hq1 lk_1_178 dX8_addPart_13 ?_
    obtain ⟨r3, hr4, hf⟩ := jb hf
    rw [hr4]
    show W p l e _ s m args below meth c H locs 0 0 _ (F0 m _ ls (.ref (g.2.2 + r3) :: _))
    refine lv_aload_n hx hb dX8_addPart_16 rfl (lv_at hl 0 rfl) ?_
    refine gt_45 E hM hq1 lk_1_176 dX8_addPart_17 ?_
    refine lv_iload_n hx hb dX8_addPart_20 rfl (lv_at hl 1 rfl) ?_
    obtain ⟨ha5, hf⟩ := jif hf
    refine jiast E hM ha5 dX8_addPart_21 (fun H locs S6 eS6 hM => ?_)
    have hf := jlet_y eS6 hf
    refine lv_aload_n hx hb dX8_addPart_22 rfl (lv_at hl 0 rfl) ?_
    refine gt_47 E hM hq1 lk_1_180 dX8_addPart_23 ?_
    obtain ⟨r7, hr8, hf⟩ := jb hf
    rw [hr8]
    show W p l e _ s m args below meth c H locs 0 0 _ (F0 m _ ls (.ref (g.2.2 + r7) :: _))
    refine lv_aload_n hx hb dX8_addPart_26 rfl (lv_at hl 0 rfl) ?_
    refine gt_45 E hM hq1 lk_1_176 dX8_addPart_27 ?_
    refine lv_lload_n hx hb dX8_addPart_30 rfl (lv_at hl 2 rfl) ?_
    obtain ⟨ha9, hf⟩ := jif hf
    refine jlast E hM ha9 dX8_addPart_31 (fun H locs S10 eS10 hM => ?_)
    have hf := jlet_y eS10 hf
    refine lv_aload_n hx hb dX8_addPart_32 rfl (lv_at hl 0 rfl) ?_
    refine lv_dup hx hb dX8_addPart_33 rfl ?_
    refine gt_45 E hM hq1 lk_1_176 dX8_addPart_34 ?_
    refine lv_topi (fun x11 ex11 => ?_)
    have hf := jlet_y ex11 hf
    refine lv_dup_x1 hx hb dX8_addPart_37 rfl rfl ?_
    refine lv_iconst (v := (1 : Int32)) hx hb dX8_addPart_38 (by decide) ?_
    refine lv_iadd hx hb dX8_addPart_39 ?_
    refine pt_45 E hM hq1 lk_1_176 dX8_addPart_40 (fun H locs S12 eS12 hM => ?_)
    have hf := jlet_y eS12 hf
    exact jireti (jr2 hf) E hM dX8_addPart_43
  · have hf := jf c2 hf
    refine lv_iconst (v := (-1 : Int32)) hx hb dX8_addPart_10 (by decide) ?_
    exact jireti (jr2 hf) E hM dX8_addPart_11
set_option maxRecDepth 100000 in
theorem C_X8_addPart {l : Launch} {g : jG} {a0 : Nat} {a1 : Int32} {a2 : Int64} {S : jM} {rr : Int32} {SS : jM} (hf : f_X8_addPart a0 a1 a2 S = some (rr, SS)) : jMet l g yX8_addPart cX8_addPart 4 (some .int) 1 0 0 [.ref (g.2.2 + a0), .int a1, .long a2] S (jQi g rr SS) := by
  refine jof (by decide +kernel) (Nat.le_of_ble_eq_true rfl) ?_
  intro p e s m below meth c E hM ls hl
  have hl : lv_has ls 4 [(0, .ref (g.2.2 + a0)),(1, .int a1),(2, .long a2)] := hl
  exact B_X8_addPart_0 E hf hM hl
-- PensionHouse$Text.setInner(III)V  mode M
noncomputable def f_X8_setInner (v0 : Nat) (v1 : Int32) (v2 : Int32) (v3 : Int32) (S : jM) : Option jM := if v1 < 0 then some S else if jK v0 = 6 then if (jI S 45 v0) ≤ v1 then some S else if v2 < 0 then some S else if (3 : Int32) ≤ v2 then some S else (jR S 48 v0).bind (fun r6 => if jA r6 13 ((v1 * (3 : Int32)) + v2) = true then jlet (jrI S r6 (upd (jAI S r6) ((v1 * (3 : Int32)) + v2).toNatClampNeg v3)) (fun S9 => some S9) else none) else none
set_option maxRecDepth 100000 in
set_option maxHeartbeats 4000000 in
theorem B_X8_setInner_0 {p : Program} {l : Launch} {e : Env} {s : State} {m : MethodId} {args : Array Value} {below : List Frame} {meth : Method} {c : Code} {g : jG} {SS : jM} {v0 : Nat} {v1 : Int32} {v2 : Int32} {v3 : Int32} {S : jM} (E : jEnv p s m args meth c cX8_setInner "PensionHouse$Text" none 4 g)  {H : Heap} {locs : List Loc} {ls : Array Slot} (hf : f_X8_setInner v0 v1 v2 v3 S = some SS) (hM : jAt g S s H locs) (hl : lv_has ls 4 [(0, .ref (g.2.2 + v0)), (1, .int v1), (2, .int v2), (3, .int v3)]) : W p l e (jRm 1 0 0) s m args below meth c H locs 0 0 (MQ below (jQv g SS) args s 0 0 (jA0 g)) (F0 m 0 ls []) := by
  obtain ⟨hx, hb, hml, -, hts, hown, hK, -, hstr⟩ := id E
  unfold f_X8_setInner at hf
  refine lv_iload_n hx hb dX8_setInner_0 rfl (lv_at hl 1 rfl) ?_
  refine lv_if_lt (tgt := 32) hx hb dX8_setInner_1 (by decide) (fun c1 => ?_) (fun c1 => ?_)
  · have hf := jt c1 hf
    exact jvret (jrv hf) E hM dX8_setInner_32
  · have hf := jf c1 hf
    refine lv_iload_n hx hb dX8_setInner_4 rfl (lv_at hl 1 rfl) ?_
    refine lv_aload_n hx hb dX8_setInner_5 rfl (lv_at hl 0 rfl) ?_
    obtain ⟨hq2, hf⟩ := jif hf
    refine gt_45 E hM hq2 lk_1_176 dX8_setInner_6 ?_
    refine lv_icmp_ge (tgt := 32) hx hb dX8_setInner_9 (by decide) (fun c3 => ?_) (fun c3 => ?_)
    · have hf := jt c3 hf
      exact jvret (jrv hf) E hM dX8_setInner_32
    · have hf := jf c3 hf
      refine lv_iload_n hx hb dX8_setInner_12 rfl (lv_at hl 2 rfl) ?_
      refine lv_if_lt (tgt := 32) hx hb dX8_setInner_13 (by decide) (fun c4 => ?_) (fun c4 => ?_)
      · have hf := jt c4 hf
        exact jvret (jrv hf) E hM dX8_setInner_32
      · have hf := jf c4 hf
        refine lv_iload_n hx hb dX8_setInner_16 rfl (lv_at hl 2 rfl) ?_
        refine lv_iconst (v := (3 : Int32)) hx hb dX8_setInner_17 (by decide) ?_
        refine lv_icmp_ge (tgt := 32) hx hb dX8_setInner_18 (by decide) (fun c5 => ?_) (fun c5 => ?_)
        · have hf := jt c5 hf
          exact jvret (jrv hf) E hM dX8_setInner_32
        · have hf := jf c5 hf
          refine lv_aload_n hx hb dX8_setInner_21 rfl (lv_at hl 0 rfl) ?_
          refine gt_48 E hM hq2 lk_1_182 dX8_setInner_22 ?_
          obtain ⟨r6, hr7, hf⟩ := jb hf
          rw [hr7]
          show W p l e _ s m args below meth c H locs 0 0 _ (F0 m _ ls (.ref (g.2.2 + r6) :: _))
          refine lv_iload_n hx hb dX8_setInner_25 rfl (lv_at hl 1 rfl) ?_
          refine lv_iconst (v := (3 : Int32)) hx hb dX8_setInner_26 (by decide) ?_
          refine lv_imul hx hb dX8_setInner_27 ?_
          refine lv_iload_n hx hb dX8_setInner_28 rfl (lv_at hl 2 rfl) ?_
          refine lv_iadd hx hb dX8_setInner_29 ?_
          refine lv_iload_n hx hb dX8_setInner_30 rfl (lv_at hl 3 rfl) ?_
          obtain ⟨ha8, hf⟩ := jif hf
          refine jiast E hM ha8 dX8_setInner_31 (fun H locs S9 eS9 hM => ?_)
          have hf := jlet_y eS9 hf
          exact jvret (jrv hf) E hM dX8_setInner_32
set_option maxRecDepth 100000 in
theorem C_X8_setInner {l : Launch} {g : jG} {a0 : Nat} {a1 : Int32} {a2 : Int32} {a3 : Int32} {S : jM} {SS : jM} (hf : f_X8_setInner a0 a1 a2 a3 S = some SS) : jMet l g yX8_setInner cX8_setInner 4 none 1 0 0 [.ref (g.2.2 + a0), .int a1, .int a2, .int a3] S (jQv g SS) := by
  refine jof (by decide +kernel) (Nat.le_of_ble_eq_true rfl) ?_
  intro p e s m below meth c E hM ls hl
  have hl : lv_has ls 4 [(0, .ref (g.2.2 + a0)),(1, .int a1),(2, .int a2),(3, .int a3)] := hl
  exact B_X8_setInner_0 E hf hM hl
-- PensionHouse$Text.addRule(JI)V  mode M
noncomputable def f_X8_addRule (v0 : Nat) (v1 : Int64) (v3 : Int32) (S : jM) : Option jM := if jK v0 = 6 then if (24 : Int32) ≤ (jI S 49 v0) then some S else (jR S 50 v0).bind (fun r3 => if jA r3 14 (jI S 49 v0) = true then jlet (jrL S r3 (vp_updL (jAL S r3) (jI S 49 v0).toNatClampNeg v1)) (fun S6 => (jR S6 51 v0).bind (fun r7 => if jA r7 13 (jI S6 49 v0) = true then jlet (jrI S6 r7 (upd (jAI S6 r7) (jI S6 49 v0).toNatClampNeg v3)) (fun S10 => jlet (jsI S10 49 v0 ((jI S10 49 v0) + (1 : Int32))) (fun S11 => some S11)) else none)) else none) else none
set_option maxRecDepth 100000 in
set_option maxHeartbeats 4000000 in
theorem B_X8_addRule_0 {p : Program} {l : Launch} {e : Env} {s : State} {m : MethodId} {args : Array Value} {below : List Frame} {meth : Method} {c : Code} {g : jG} {SS : jM} {v0 : Nat} {v1 : Int64} {v3 : Int32} {S : jM} (E : jEnv p s m args meth c cX8_addRule "PensionHouse$Text" none 4 g)  {H : Heap} {locs : List Loc} {ls : Array Slot} (hf : f_X8_addRule v0 v1 v3 S = some SS) (hM : jAt g S s H locs) (hl : lv_has ls 4 [(0, .ref (g.2.2 + v0)), (1, .long v1), (3, .int v3)]) : W p l e (jRm 1 0 0) s m args below meth c H locs 0 0 (MQ below (jQv g SS) args s 0 0 (jA0 g)) (F0 m 0 ls []) := by
  obtain ⟨hx, hb, hml, -, hts, hown, hK, -, hstr⟩ := id E
  unfold f_X8_addRule at hf
  refine lv_aload_n hx hb dX8_addRule_0 rfl (lv_at hl 0 rfl) ?_
  obtain ⟨hq1, hf⟩ := jif hf
  refine gt_49 E hM hq1 lk_1_183 dX8_addRule_1 ?_
  refine lv_bipush (v := (24 : Int32)) hx hb dX8_addRule_4 (by decide) ?_
  refine lv_icmp_ge (tgt := 39) hx hb dX8_addRule_6 (by decide) (fun c2 => ?_) (fun c2 => ?_)
  · have hf := jt c2 hf
    exact jvret (jrv hf) E hM dX8_addRule_39
  · have hf := jf c2 hf
    refine lv_aload_n hx hb dX8_addRule_9 rfl (lv_at hl 0 rfl) ?_
    refine gt_50 E hM hq1 lk_1_187 dX8_addRule_10 ?_
    obtain ⟨r3, hr4, hf⟩ := jb hf
    rw [hr4]
    show W p l e _ s m args below meth c H locs 0 0 _ (F0 m _ ls (.ref (g.2.2 + r3) :: _))
    refine lv_aload_n hx hb dX8_addRule_13 rfl (lv_at hl 0 rfl) ?_
    refine gt_49 E hM hq1 lk_1_183 dX8_addRule_14 ?_
    refine lv_lload_n hx hb dX8_addRule_17 rfl (lv_at hl 1 rfl) ?_
    obtain ⟨ha5, hf⟩ := jif hf
    refine jlast E hM ha5 dX8_addRule_18 (fun H locs S6 eS6 hM => ?_)
    have hf := jlet_y eS6 hf
    refine lv_aload_n hx hb dX8_addRule_19 rfl (lv_at hl 0 rfl) ?_
    refine gt_51 E hM hq1 lk_1_188 dX8_addRule_20 ?_
    obtain ⟨r7, hr8, hf⟩ := jb hf
    rw [hr8]
    show W p l e _ s m args below meth c H locs 0 0 _ (F0 m _ ls (.ref (g.2.2 + r7) :: _))
    refine lv_aload_n hx hb dX8_addRule_23 rfl (lv_at hl 0 rfl) ?_
    refine gt_49 E hM hq1 lk_1_183 dX8_addRule_24 ?_
    refine lv_iload_n hx hb dX8_addRule_27 rfl (lv_at hl 2 rfl) ?_
    obtain ⟨ha9, hf⟩ := jif hf
    refine jiast E hM ha9 dX8_addRule_28 (fun H locs S10 eS10 hM => ?_)
    have hf := jlet_y eS10 hf
    refine lv_aload_n hx hb dX8_addRule_29 rfl (lv_at hl 0 rfl) ?_
    refine lv_dup hx hb dX8_addRule_30 rfl ?_
    refine gt_49 E hM hq1 lk_1_183 dX8_addRule_31 ?_
    refine lv_iconst (v := (1 : Int32)) hx hb dX8_addRule_34 (by decide) ?_
    refine lv_iadd hx hb dX8_addRule_35 ?_
    refine pt_49 E hM hq1 lk_1_183 dX8_addRule_36 (fun H locs S11 eS11 hM => ?_)
    have hf := jlet_y eS11 hf
    exact jvret (jrv hf) E hM dX8_addRule_39
set_option maxRecDepth 100000 in
theorem C_X8_addRule {l : Launch} {g : jG} {a0 : Nat} {a1 : Int64} {a3 : Int32} {S : jM} {SS : jM} (hf : f_X8_addRule a0 a1 a3 S = some SS) : jMet l g yX8_addRule cX8_addRule 4 none 1 0 0 [.ref (g.2.2 + a0), .long a1, .int a3] S (jQv g SS) := by
  refine jof (by decide +kernel) (Nat.le_of_ble_eq_true rfl) ?_
  intro p e s m below meth c E hM ls hl
  have hl : lv_has ls 4 [(0, .ref (g.2.2 + a0)),(1, .long a1),(3, .int a3)] := hl
  exact B_X8_addRule_0 E hf hM hl
-- PensionHouse$Tape.takeName()J  mode M
noncomputable def f_X7_takeName (v0 : Nat) (S : jM) : Option (Int64 × jM) := if jK v0 = 5 then (f_X7_open v0 S).bind (fun S1 => (f_X7_next_0 1100000 v0 S1).bind (fun S4 => if (jI S4 40 v0) = (2 : Int32) then jlet (jL S4 42 v0) (fun x7 => (f_X7_next_0 1100000 v0 S4).bind (fun S8 => if (jI S8 40 v0) = 0 then some (x7, S8) else some ((0 : Int64), S8))) else some ((0 : Int64), S4))) else none
set_option maxRecDepth 100000 in
set_option maxHeartbeats 4000000 in
theorem B_X7_takeName_0 {p : Program} {l : Launch} {e : Env} {s : State} {m : MethodId} {args : Array Value} {below : List Frame} {meth : Method} {c : Code} {g : jG} {rr : Int64} {SS : jM} {v0 : Nat} {S : jM} (E : jEnv p s m args meth c cX7_takeName "PensionHouse$Tape" (some .long) 3 g)  {H : Heap} {locs : List Loc} {ls : Array Slot} (hf : f_X7_takeName v0 S = some (rr, SS)) (hM : jAt g S s H locs) (hl : lv_has ls 3 [(0, .ref (g.2.2 + v0))]) : W p l e (jRm 8 0 0) s m args below meth c H locs 0 0 (MQ below (jQl g rr SS) args s 0 0 (jA0 g)) (F0 m 0 ls []) := by
  obtain ⟨hx, hb, hml, -, hts, hown, hK, -, hstr⟩ := id E
  unfold f_X7_takeName at hf
  refine lv_aload_n hx hb dX7_takeName_0 rfl (lv_at hl 0 rfl) ?_
  obtain ⟨hq3, hf⟩ := jif hf
  obtain ⟨S1, hc2, hf⟩ := jb hf
  refine jbackV hM (jrunV E hM ci_X7_open (C_X7_open hc2) lk_3_67 hq3 (by decide) rfl hl.1 rfl rfl (Nat.le_of_ble_eq_true rfl) ⟨Nat.le_of_ble_eq_true rfl, Nat.le_of_ble_eq_true rfl⟩ ⟨Nat.le_refl _, Nat.le_refl _⟩ dX7_takeName_1) (fun H locs hM => ?_)
  refine lv_aload_n hx hb dX7_takeName_4 rfl (lv_at hl 0 rfl) ?_
  obtain ⟨S4, hc5, hf⟩ := jb hf
  refine jbackV hM (jrunV E hM ci_X7_next (C_X7_next hc5) lk_3_71 hq3 (by decide) rfl hl.1 rfl rfl (Nat.le_of_ble_eq_true rfl) ⟨Nat.le_of_ble_eq_true rfl, Nat.le_of_ble_eq_true rfl⟩ ⟨Nat.le_refl _, Nat.le_refl _⟩ dX7_takeName_5) (fun H locs hM => ?_)
  refine lv_aload_n hx hb dX7_takeName_8 rfl (lv_at hl 0 rfl) ?_
  refine gt_40 E hM hq3 lk_1_143 dX7_takeName_9 ?_
  refine lv_iconst (v := (2 : Int32)) hx hb dX7_takeName_12 (by decide) ?_
  refine lv_icmp_eq (tgt := 18) hx hb dX7_takeName_13 (by decide) (fun c6 => ?_) (fun c6 => ?_)
  · have hf := jt c6 hf
    refine lv_aload_n hx hb dX7_takeName_18 rfl (lv_at hl 0 rfl) ?_
    refine gt_42 E hM hq3 lk_1_147 dX7_takeName_19 ?_
    refine lv_topl (fun x7 ex7 => ?_)
    have hf := jlet_y ex7 hf
    refine lv_lstore_n (lv' := [(1, .long x7), (0, .ref (g.2.2 + v0))]) hx hb dX7_takeName_22 rfl hl (by decide) rfl (fun ls hl => ?_)
    refine lv_aload_n hx hb dX7_takeName_23 rfl (lv_at hl 1 rfl) ?_
    obtain ⟨S8, hc9, hf⟩ := jb hf
    refine jbackV hM (jrunV E hM ci_X7_next (C_X7_next hc9) lk_3_71 hq3 (by decide) rfl hl.1 rfl rfl (Nat.le_of_ble_eq_true rfl) ⟨Nat.le_of_ble_eq_true rfl, Nat.le_of_ble_eq_true rfl⟩ ⟨Nat.le_refl _, Nat.le_refl _⟩ dX7_takeName_24) (fun H locs hM => ?_)
    refine lv_aload_n hx hb dX7_takeName_27 rfl (lv_at hl 1 rfl) ?_
    refine gt_40 E hM hq3 lk_1_143 dX7_takeName_28 ?_
    refine lv_if_ne (tgt := 38) hx hb dX7_takeName_31 (by decide) (fun c10 => ?_) (fun c10 => ?_)
    · have hf := jf c10 hf
      refine lv_lconst (v := (0 : Int64)) hx hb dX7_takeName_38 (by decide) ?_
      exact jlret (jr2 hf) E hM dX7_takeName_39
    · have hf := jt c10 hf
      refine lv_lload_n hx hb dX7_takeName_34 rfl (lv_at hl 0 rfl) ?_
      refine lv_goto (tgt := 39) hx hb dX7_takeName_35 (by decide) ?_
      exact jlret (jr2 hf) E hM dX7_takeName_39
  · have hf := jf c6 hf
    refine lv_lconst (v := (0 : Int64)) hx hb dX7_takeName_16 (by decide) ?_
    exact jlret (jr2 hf) E hM dX7_takeName_17
set_option maxRecDepth 100000 in
theorem C_X7_takeName {l : Launch} {g : jG} {a0 : Nat} {S : jM} {rr : Int64} {SS : jM} (hf : f_X7_takeName a0 S = some (rr, SS)) : jMet l g yX7_takeName cX7_takeName 3 (some .long) 8 0 0 [.ref (g.2.2 + a0)] S (jQl g rr SS) := by
  refine jof (by decide +kernel) (Nat.le_of_ble_eq_true rfl) ?_
  intro p e s m below meth c E hM ls hl
  have hl : lv_has ls 3 [(0, .ref (g.2.2 + a0))] := hl
  exact B_X7_takeName_0 E hf hM hl
-- PensionHouse$Tape.add(B)V  mode M
noncomputable def f_X7_add (v0 : Nat) (v1 : Int32) (S : jM) : Option jM := if jK v0 = 5 then if (1600 : Int32) ≤ (jI S 37 v0) then some S else (jR S 36 v0).bind (fun r3 => jlet (jI S 37 v0) (fun x5 => jlet (jsI S 37 v0 (x5 + (1 : Int32))) (fun S6 => if jA r3 11 x5 = true then jlet (jrI S6 r3 (upd (jAI S6 r3) (x5).toNatClampNeg (vp_nar .byte v1))) (fun S8 => some S8) else none))) else none
set_option maxRecDepth 100000 in
set_option maxHeartbeats 4000000 in
theorem B_X7_add_0 {p : Program} {l : Launch} {e : Env} {s : State} {m : MethodId} {args : Array Value} {below : List Frame} {meth : Method} {c : Code} {g : jG} {SS : jM} {v0 : Nat} {v1 : Int32} {S : jM} (E : jEnv p s m args meth c cX7_add "PensionHouse$Tape" none 2 g)  {H : Heap} {locs : List Loc} {ls : Array Slot} (hf : f_X7_add v0 v1 S = some SS) (hM : jAt g S s H locs) (hl : lv_has ls 2 [(0, .ref (g.2.2 + v0)), (1, .int v1)]) : W p l e (jRm 1 0 0) s m args below meth c H locs 0 0 (MQ below (jQv g SS) args s 0 0 (jA0 g)) (F0 m 0 ls []) := by
  obtain ⟨hx, hb, hml, -, hts, hown, hK, -, hstr⟩ := id E
  unfold f_X7_add at hf
  refine lv_aload_n hx hb dX7_add_0 rfl (lv_at hl 0 rfl) ?_
  obtain ⟨hq1, hf⟩ := jif hf
  refine gt_37 E hM hq1 lk_1_138 dX7_add_1 ?_
  refine lv_sipush (v := (1600 : Int32)) hx hb dX7_add_4 (by decide) ?_
  refine lv_icmp_ge (tgt := 27) hx hb dX7_add_7 (by decide) (fun c2 => ?_) (fun c2 => ?_)
  · have hf := jt c2 hf
    exact jvret (jrv hf) E hM dX7_add_27
  · have hf := jf c2 hf
    refine lv_aload_n hx hb dX7_add_10 rfl (lv_at hl 0 rfl) ?_
    refine gt_36 E hM hq1 lk_1_137 dX7_add_11 ?_
    obtain ⟨r3, hr4, hf⟩ := jb hf
    rw [hr4]
    show W p l e _ s m args below meth c H locs 0 0 _ (F0 m _ ls (.ref (g.2.2 + r3) :: _))
    refine lv_aload_n hx hb dX7_add_14 rfl (lv_at hl 0 rfl) ?_
    refine lv_dup hx hb dX7_add_15 rfl ?_
    refine gt_37 E hM hq1 lk_1_138 dX7_add_16 ?_
    refine lv_topi (fun x5 ex5 => ?_)
    have hf := jlet_y ex5 hf
    refine lv_dup_x1 hx hb dX7_add_19 rfl rfl ?_
    refine lv_iconst (v := (1 : Int32)) hx hb dX7_add_20 (by decide) ?_
    refine lv_iadd hx hb dX7_add_21 ?_
    refine pt_37 E hM hq1 lk_1_138 dX7_add_22 (fun H locs S6 eS6 hM => ?_)
    have hf := jlet_y eS6 hf
    refine lv_iload_n hx hb dX7_add_25 rfl (lv_at hl 1 rfl) ?_
    obtain ⟨ha7, hf⟩ := jif hf
    refine jbast E hM ha7 dX7_add_26 (fun H locs S8 eS8 hM => ?_)
    have hf := jlet_y eS8 hf
    exact jvret (jrv hf) E hM dX7_add_27
set_option maxRecDepth 100000 in
theorem C_X7_add {l : Launch} {g : jG} {a0 : Nat} {a1 : Int32} {S : jM} {SS : jM} (hf : f_X7_add a0 a1 S = some SS) : jMet l g yX7_add cX7_add 2 none 1 0 0 [.ref (g.2.2 + a0), .int a1] S (jQv g SS) := by
  refine jof (by decide +kernel) (Nat.le_of_ble_eq_true rfl) ?_
  intro p e s m below meth c E hM ls hl
  have hl : lv_has ls 2 [(0, .ref (g.2.2 + a0)),(1, .int a1)] := hl
  exact B_X7_add_0 E hf hM hl
