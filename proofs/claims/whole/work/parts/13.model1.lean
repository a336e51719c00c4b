-- PensionHouseModel.now()I  mode R
noncomputable def f_X12_now (v0 : Nat) (S : jM) : Option Int32 := if jK v0 = 10 then (jR S 95 v0).bind (fun r2 => if jA r2 13 (jI S 100 v0) = true then some (jAI S r2 (jI S 100 v0).toNatClampNeg) else none) else none
set_option maxRecDepth 100000 in
set_option maxHeartbeats 4000000 in
theorem B_X12_now_0 {p : Program} {l : Launch} {e : Env} {s : State} {m : MethodId} {args : Array Value} {below : List Frame} {meth : Method} {c : Code} {g : jG} {rr : Int32} {S : jM} {v0 : Nat} (E : jEnv p s m args meth c cX12_now "PensionHouseModel" (some .int) 1 g)  {H : Heap} {locs : List Loc} {ls : Array Slot} (hf : f_X12_now v0 S = some rr) (hM : jAt g S s H locs) (hl : lv_has ls 1 [(0, .ref (g.2.2 + v0))]) : W p l e (jRm 1 0 0) s m args below meth c H locs 0 0 (MQ below (jQi g rr S) args s 0 0 (jA0 g)) (F0 m 0 ls []) := by
  obtain ⟨hx, hb, hml, -, hts, hown, hK, -, hstr⟩ := id E
  unfold f_X12_now at hf
  refine lv_aload_n hx hb dX12_now_0 rfl (lv_at hl 0 rfl) ?_
  obtain ⟨hq1, hf⟩ := jif hf
  refine gt_95 E hM hq1 lk_6_9 dX12_now_1 ?_
  obtain ⟨r2, hr3, hf⟩ := jb hf
  rw [hr3]
  show W p l e _ s m args below meth c H locs 0 0 _ (F0 m _ ls (.ref (g.2.2 + r2) :: _))
  refine lv_aload_n hx hb dX12_now_4 rfl (lv_at hl 0 rfl) ?_
  refine gt_100 E hM hq1 lk_6_14 dX12_now_5 ?_
  obtain ⟨ha4, hf⟩ := jif hf
  refine jiald E hM ha4 dX12_now_8 ?_
  exact jireti (jr1 hf) E hM dX12_now_9
set_option maxRecDepth 100000 in
theorem C_X12_now {l : Launch} {g : jG} {a0 : Nat} {S : jM} {rr : Int32} (hf : f_X12_now a0 S = some rr) : jMet l g yX12_now cX12_now 1 (some .int) 1 0 0 [.ref (g.2.2 + a0)] S (jQi g rr S) := by
  refine jof (by decide +kernel) (Nat.le_of_ble_eq_true rfl) ?_
  intro p e s m below meth c E hM ls hl
  have hl : lv_has ls 1 [(0, .ref (g.2.2 + a0))] := hl
  exact B_X12_now_0 E hf hM hl
-- PensionHouseModel.arguments(I)I  mode T
noncomputable def f_X12_arguments (v0 : Int32) : Int32 := if v0 = (1 : Int32) then (2 : Int32) else if v0 = (2 : Int32) then (1 : Int32) else if v0 = (3 : Int32) then (1 : Int32) else if v0 = (6 : Int32) then (1 : Int32) else if v0 = (9 : Int32) then (2 : Int32) else if v0 = (10 : Int32) then (2 : Int32) else if v0 = (11 : Int32) then (1 : Int32) else if v0 = (12 : Int32) then (2 : Int32) else if v0 = (13 : Int32) then (2 : Int32) else if v0 = (14 : Int32) then (1 : Int32) else if v0 = (16 : Int32) then (1 : Int32) else if v0 = (17 : Int32) then (1 : Int32) else if v0 = (23 : Int32) then (1 : Int32) else if v0 = (24 : Int32) then (3 : Int32) else if v0 = (25 : Int32) then (1 : Int32) else (0 : Int32)
set_option maxRecDepth 100000 in
set_option maxHeartbeats 4000000 in
theorem B_X12_arguments_0 {p : Program} {l : Launch} {e : Env} {s : State} {m : MethodId} {args : Array Value} {below : List Frame} {meth : Method} {c : Code} {g : jG} {rr : Int32} {S : jM} {v0 : Int32} (E : jEnv p s m args meth c cX12_arguments "PensionHouseModel" (some .int) 1 g)  {H : Heap} {locs : List Loc} {ls : Array Slot} (hf : f_X12_arguments v0 = rr) (hM : jAt g S s H locs) (hl : lv_has ls 1 [(0, .int v0)]) : W p l e (jRm 1 0 0) s m args below meth c H locs 0 0 (MQ below (jQi g rr S) args s 0 0 (jA0 g)) (F0 m 0 ls []) := by
  obtain ⟨hx, hb, hml, -, hts, hown, hK, -, hstr⟩ := id E
  unfold f_X12_arguments at hf
  refine lv_iload_n hx hb dX12_arguments_0 rfl (lv_at hl 0 rfl) ?_
  by_cases c1 : v0 = (1 : Int32)
  · have hf := jt c1 hf
    refine lv_tableIn (off := 117) (tgt := 118) hx hb dX12_arguments_1 (by rw [c1]; decide) (by rw [c1]; decide) (by rw [c1]; rfl) (by decide) ?_
    refine lv_iconst (v := (2 : Int32)) hx hb dX12_arguments_118 (by decide) ?_
    exact jireti (jr0 hf) E hM dX12_arguments_119
  have hf := jf c1 hf
  by_cases c2 : v0 = (2 : Int32)
  · have hf := jt c2 hf
    refine lv_tableIn (off := 115) (tgt := 116) hx hb dX12_arguments_1 (by rw [c2]; decide) (by rw [c2]; decide) (by rw [c2]; rfl) (by decide) ?_
    refine lv_iconst (v := (1 : Int32)) hx hb dX12_arguments_116 (by decide) ?_
    exact jireti (jr0 hf) E hM dX12_arguments_117
  have hf := jf c2 hf
  by_cases c3 : v0 = (3 : Int32)
  · have hf := jt c3 hf
    refine lv_tableIn (off := 115) (tgt := 116) hx hb dX12_arguments_1 (by rw [c3]; decide) (by rw [c3]; decide) (by rw [c3]; rfl) (by decide) ?_
    refine lv_iconst (v := (1 : Int32)) hx hb dX12_arguments_116 (by decide) ?_
    exact jireti (jr0 hf) E hM dX12_arguments_117
  have hf := jf c3 hf
  by_cases c4 : v0 = (6 : Int32)
  · have hf := jt c4 hf
    refine lv_tableIn (off := 115) (tgt := 116) hx hb dX12_arguments_1 (by rw [c4]; decide) (by rw [c4]; decide) (by rw [c4]; rfl) (by decide) ?_
    refine lv_iconst (v := (1 : Int32)) hx hb dX12_arguments_116 (by decide) ?_
    exact jireti (jr0 hf) E hM dX12_arguments_117
  have hf := jf c4 hf
  by_cases c5 : v0 = (9 : Int32)
  · have hf := jt c5 hf
    refine lv_tableIn (off := 117) (tgt := 118) hx hb dX12_arguments_1 (by rw [c5]; decide) (by rw [c5]; decide) (by rw [c5]; rfl) (by decide) ?_
    refine lv_iconst (v := (2 : Int32)) hx hb dX12_arguments_118 (by decide) ?_
    exact jireti (jr0 hf) E hM dX12_arguments_119
  have hf := jf c5 hf
  by_cases c6 : v0 = (10 : Int32)
  · have hf := jt c6 hf
    refine lv_tableIn (off := 117) (tgt := 118) hx hb dX12_arguments_1 (by rw [c6]; decide) (by rw [c6]; decide) (by rw [c6]; rfl) (by decide) ?_
    refine lv_iconst (v := (2 : Int32)) hx hb dX12_arguments_118 (by decide) ?_
    exact jireti (jr0 hf) E hM dX12_arguments_119
  have hf := jf c6 hf
  by_cases c7 : v0 = (11 : Int32)
  · have hf := jt c7 hf
    refine lv_tableIn (off := 115) (tgt := 116) hx hb dX12_arguments_1 (by rw [c7]; decide) (by rw [c7]; decide) (by rw [c7]; rfl) (by decide) ?_
    refine lv_iconst (v := (1 : Int32)) hx hb dX12_arguments_116 (by decide) ?_
    exact jireti (jr0 hf) E hM dX12_arguments_117
  have hf := jf c7 hf
  by_cases c8 : v0 = (12 : Int32)
  · have hf := jt c8 hf
    refine lv_tableIn (off := 117) (tgt := 118) hx hb dX12_arguments_1 (by rw [c8]; decide) (by rw [c8]; decide) (by rw [c8]; rfl) (by decide) ?_
    refine lv_iconst (v := (2 : Int32)) hx hb dX12_arguments_118 (by decide) ?_
    exact jireti (jr0 hf) E hM dX12_arguments_119
  have hf := jf c8 hf
  by_cases c9 : v0 = (13 : Int32)
  · have hf := jt c9 hf
    refine lv_tableIn (off := 117) (tgt := 118) hx hb dX12_arguments_1 (by rw [c9]; decide) (by rw [c9]; decide) (by rw [c9]; rfl) (by decide) ?_
    refine lv_iconst (v := (2 : Int32)) hx hb dX12_arguments_118 (by decide) ?_
    exact jireti (jr0 hf) E hM dX12_arguments_119
  have hf := jf c9 hf
  by_cases c10 : v0 = (14 : Int32)
  · have hf := jt c10 hf
    refine lv_tableIn (off := 115) (tgt := 116) hx hb dX12_arguments_1 (by rw [c10]; decide) (by rw [c10]; decide) (by rw [c10]; rfl) (by decide) ?_
    refine lv_iconst (v := (1 : Int32)) hx hb dX12_arguments_116 (by decide) ?_
    exact jireti (jr0 hf) E hM dX12_arguments_117
  have hf := jf c10 hf
  by_cases c11 : v0 = (16 : Int32)
  · have hf := jt c11 hf
    refine lv_tableIn (off := 115) (tgt := 116) hx hb dX12_arguments_1 (by rw [c11]; decide) (by rw [c11]; decide) (by rw [c11]; rfl) (by decide) ?_
    refine lv_iconst (v := (1 : Int32)) hx hb dX12_arguments_116 (by decide) ?_
    exact jireti (jr0 hf) E hM dX12_arguments_117
  have hf := jf c11 hf
  by_cases c12 : v0 = (17 : Int32)
  · have hf := jt c12 hf
    refine lv_tableIn (off := 115) (tgt := 116) hx hb dX12_arguments_1 (by rw [c12]; decide) (by rw [c12]; decide) (by rw [c12]; rfl) (by decide) ?_
    refine lv_iconst (v := (1 : Int32)) hx hb dX12_arguments_116 (by decide) ?_
    exact jireti (jr0 hf) E hM dX12_arguments_117
  have hf := jf c12 hf
  by_cases c13 : v0 = (23 : Int32)
  · have hf := jt c13 hf
    refine lv_tableIn (off := 115) (tgt := 116) hx hb dX12_arguments_1 (by rw [c13]; decide) (by rw [c13]; decide) (by rw [c13]; rfl) (by decide) ?_
    refine lv_iconst (v := (1 : Int32)) hx hb dX12_arguments_116 (by decide) ?_
    exact jireti (jr0 hf) E hM dX12_arguments_117
  have hf := jf c13 hf
  by_cases c14 : v0 = (24 : Int32)
  · have hf := jt c14 hf
    refine lv_tableIn (off := 119) (tgt := 120) hx hb dX12_arguments_1 (by rw [c14]; decide) (by rw [c14]; decide) (by rw [c14]; rfl) (by decide) ?_
    refine lv_iconst (v := (3 : Int32)) hx hb dX12_arguments_120 (by decide) ?_
    exact jireti (jr0 hf) E hM dX12_arguments_121
  have hf := jf c14 hf
  by_cases c15 : v0 = (25 : Int32)
  · have hf := jt c15 hf
    refine lv_tableIn (off := 115) (tgt := 116) hx hb dX12_arguments_1 (by rw [c15]; decide) (by rw [c15]; decide) (by rw [c15]; rfl) (by decide) ?_
    refine lv_iconst (v := (1 : Int32)) hx hb dX12_arguments_116 (by decide) ?_
    exact jireti (jr0 hf) E hM dX12_arguments_117
  have hf := jf c15 hf
  refine jtabD (tgt := 122) (nd := [1, 2, 3, 6, 9, 10, 11, 12, 13, 14, 16, 17, 23, 24, 25]) hx hb dX12_arguments_1 (by decide) (by decide) (by decide) (List.forall_mem_cons.mpr ⟨jne (k := 1) c1 rfl, List.forall_mem_cons.mpr ⟨jne (k := 2) c2 rfl, List.forall_mem_cons.mpr ⟨jne (k := 3) c3 rfl, List.forall_mem_cons.mpr ⟨jne (k := 6) c4 rfl, List.forall_mem_cons.mpr ⟨jne (k := 9) c5 rfl, List.forall_mem_cons.mpr ⟨jne (k := 10) c6 rfl, List.forall_mem_cons.mpr ⟨jne (k := 11) c7 rfl, List.forall_mem_cons.mpr ⟨jne (k := 12) c8 rfl, List.forall_mem_cons.mpr ⟨jne (k := 13) c9 rfl, List.forall_mem_cons.mpr ⟨jne (k := 14) c10 rfl, List.forall_mem_cons.mpr ⟨jne (k := 16) c11 rfl, List.forall_mem_cons.mpr ⟨jne (k := 17) c12 rfl, List.forall_mem_cons.mpr ⟨jne (k := 23) c13 rfl, List.forall_mem_cons.mpr ⟨jne (k := 24) c14 rfl, List.forall_mem_cons.mpr ⟨jne (k := 25) c15 rfl, fun _ h => absurd h List.not_mem_nil⟩⟩⟩⟩⟩⟩⟩⟩⟩⟩⟩⟩⟩⟩⟩) ?_
  refine lv_iconst (v := (0 : Int32)) hx hb dX12_arguments_122 (by decide) ?_
  exact jireti (jr0 hf) E hM dX12_arguments_123
set_option maxRecDepth 100000 in
theorem C_X12_arguments {l : Launch} {g : jG} {a0 : Int32} {S : jM} {rr : Int32} (hf : f_X12_arguments a0 = rr) : jMet l g yX12_arguments cX12_arguments 1 (some .int) 1 0 0 [.int a0] S (jQi g rr S) := by
  refine jof (by decide +kernel) (Nat.le_of_ble_eq_true rfl) ?_
  intro p e s m below meth c E hM ls hl
  have hl : lv_has ls 1 [(0, .int a0)] := hl
  exact B_X12_arguments_0 E hf hM hl
-- PensionHouseModel.isFunction(I)Z  mode T
noncomputable def f_X12_isFunction (v0 : Int32) : Int32 := if (f_X12_arguments v0) ≤ 0 then (0 : Int32) else (1 : Int32)
set_option maxRecDepth 100000 in
set_option maxHeartbeats 4000000 in
theorem B_X12_isFunction_0 {p : Program} {l : Launch} {e : Env} {s : State} {m : MethodId} {args : Array Value} {below : List Frame} {meth : Method} {c : Code} {g : jG} {rr : Int32} {S : jM} {v0 : Int32} (E : jEnv p s m args meth c cX12_isFunction "PensionHouseModel" (some .boolean) 1 g)  {H : Heap} {locs : List Loc} {ls : Array Slot} (hf : f_X12_isFunction v0 = rr) (hM : jAt g S s H locs) (hl : lv_has ls 1 [(0, .int v0)]) : W p l e (jRm 2 0 0) s m args below meth c H locs 0 0 (MQ below (jQi g rr S) args s 0 0 (jA0 g)) (F0 m 0 ls []) := by
  obtain ⟨hx, hb, hml, -, hts, hown, hK, -, hstr⟩ := id E
  unfold f_X12_isFunction at hf
  refine lv_iload_n hx hb dX12_isFunction_0 rfl (lv_at hl 0 rfl) ?_
  refine jbackI hM (jrunS E hM ci_X12_arguments (C_X12_arguments rfl) lk_8_4 hl.1 rfl rfl (Nat.le_of_ble_eq_true rfl) ⟨Nat.le_of_ble_eq_true rfl, Nat.le_of_ble_eq_true rfl⟩ ⟨Nat.le_refl _, Nat.le_refl _⟩ dX12_isFunction_1) (fun H locs hM => ?_)
  refine lv_if_le (tgt := 11) hx hb dX12_isFunction_4 (by decide) (fun c1 => ?_) (fun c1 => ?_)
  · have hf := jt c1 hf
    refine lv_iconst (v := (0 : Int32)) hx hb dX12_isFunction_11 (by decide) ?_
    exact jiretz (jr0 hf) E hM (by decide) dX12_isFunction_12
  · have hf := jf c1 hf
    refine lv_iconst (v := (1 : Int32)) hx hb dX12_isFunction_7 (by decide) ?_
    refine lv_goto (tgt := 12) hx hb dX12_isFunction_8 (by decide) ?_
    exact jiretz (jr0 hf) E hM (by decide) dX12_isFunction_12
set_option maxRecDepth 100000 in
theorem C_X12_isFunction {l : Launch} {g : jG} {a0 : Int32} {S : jM} {rr : Int32} (hf : f_X12_isFunction a0 = rr) : jMet l g yX12_isFunction cX12_isFunction 1 (some .boolean) 2 0 0 [.int a0] S (jQi g rr S) := by
  refine jof (by decide +kernel) (Nat.le_of_ble_eq_true rfl) ?_
  intro p e s m below meth c E hM ls hl
  have hl : lv_has ls 1 [(0, .int a0)] := hl
  exact B_X12_isFunction_0 E hf hM hl
-- PensionHouseModel.beginsUnary()Z  mode R
noncomputable def f_X12_beginsUnary_55 (S : jM) : Option Int32 := some (1 : Int32)
noncomputable def f_X12_beginsUnary (v0 : Nat) (S : jM) : Option Int32 := if jK v0 = 10 then (f_X12_now v0 S).bind (fun x1 => if x1 = (145 : Int32) then f_X12_beginsUnary_55 S else if x1 = (41 : Int32) then f_X12_beginsUnary_55 S else if x1 = (42 : Int32) then f_X12_beginsUnary_55 S else if x1 = (140 : Int32) then f_X12_beginsUnary_55 S else if x1 = (40 : Int32) then f_X12_beginsUnary_55 S else if x1 = (4 : Int32) then f_X12_beginsUnary_55 S else if x1 = (19 : Int32) then f_X12_beginsUnary_55 S else if (f_X12_isFunction x1) = 0 then some (0 : Int32) else f_X12_beginsUnary_55 S) else none
set_option maxRecDepth 100000 in
set_option maxHeartbeats 4000000 in
theorem B_X12_beginsUnary_55 {p : Program} {l : Launch} {e : Env} {s : State} {m : MethodId} {args : Array Value} {below : List Frame} {meth : Method} {c : Code} {g : jG} {rr : Int32} {S : jM} (E : jEnv p s m args meth c cX12_beginsUnary "PensionHouseModel" (some .boolean) 2 g)  {H : Heap} {locs : List Loc} {ls : Array Slot} (hf : f_X12_beginsUnary_55 S = some rr) (hM : jAt g S s H locs) (hl : lv_has ls 2 []) : W p l e (jRm 3 0 0) s m args below meth c H locs 0 0 (MQ below (jQi g rr S) args s 0 0 (jA0 g)) (F0 m 55 ls []) := by
  obtain ⟨hx, hb, hml, -, hts, hown, hK, -, hstr⟩ := id E
  unfold f_X12_beginsUnary_55 at hf
  refine lv_iconst (v := (1 : Int32)) hx hb dX12_beginsUnary_55 (by decide) ?_
  refine lv_goto (tgt := 60) hx hb dX12_beginsUnary_56 (by decide) ?_
  exact jiretz (jr1 hf) E hM (by decide) dX12_beginsUnary_60
set_option maxRecDepth 100000 in
set_option maxHeartbeats 4000000 in
theorem B_X12_beginsUnary_0 {p : Program} {l : Launch} {e : Env} {s : State} {m : MethodId} {args : Array Value} {below : List Frame} {meth : Method} {c : Code} {g : jG} {rr : Int32} {S : jM} {v0 : Nat} (E : jEnv p s m args meth c cX12_beginsUnary "PensionHouseModel" (some .boolean) 2 g)  {H : Heap} {locs : List Loc} {ls : Array Slot} (hf : f_X12_beginsUnary v0 S = some rr) (hM : jAt g S s H locs) (hl : lv_has ls 2 [(0, .ref (g.2.2 + v0))]) : W p l e (jRm 3 0 0) s m args below meth c H locs 0 0 (MQ below (jQi g rr S) args s 0 0 (jA0 g)) (F0 m 0 ls []) := by
  obtain ⟨hx, hb, hml, -, hts, hown, hK, -, hstr⟩ := id E
  unfold f_X12_beginsUnary at hf
  refine lv_aload_n hx hb dX12_beginsUnary_0 rfl (lv_at hl 0 rfl) ?_
  obtain ⟨hq3, hf⟩ := jif hf
  obtain ⟨x1, hc2, hf⟩ := jb hf
  refine jbackI hM (jrunV E hM ci_X12_now (C_X12_now hc2) lk_7_209 hq3 (by decide) rfl hl.1 rfl rfl (Nat.le_of_ble_eq_true rfl) ⟨Nat.le_of_ble_eq_true rfl, Nat.le_of_ble_eq_true rfl⟩ ⟨Nat.le_refl _, Nat.le_refl _⟩ dX12_beginsUnary_1) (fun H locs hM => ?_)
  refine lv_istore_n (lv' := [(1, .int x1), (0, .ref (g.2.2 + v0))]) hx hb dX12_beginsUnary_4 rfl hl (by decide) rfl (fun ls hl => ?_)
  refine lv_iload_n hx hb dX12_beginsUnary_5 rfl (lv_at hl 0 rfl) ?_
  refine lv_sipush (v := (145 : Int32)) hx hb dX12_beginsUnary_6 (by decide) ?_
  refine lv_icmp_eq (tgt := 55) hx hb dX12_beginsUnary_9 (by decide) (fun c4 => ?_) (fun c4 => ?_)
  · have hf := jt c4 hf
    exact B_X12_beginsUnary_55 E  hf hM (lv_sub hl [] rfl)
  · have hf := jf c4 hf
    refine lv_iload_n hx hb dX12_beginsUnary_12 rfl (lv_at hl 0 rfl) ?_
    refine lv_bipush (v := (41 : Int32)) hx hb dX12_beginsUnary_13 (by decide) ?_
    refine lv_icmp_eq (tgt := 55) hx hb dX12_beginsUnary_15 (by decide) (fun c5 => ?_) (fun c5 => ?_)
    · have hf := jt c5 hf
      exact B_X12_beginsUnary_55 E  hf hM (lv_sub hl [] rfl)
    · have hf := jf c5 hf
      refine lv_iload_n hx hb dX12_beginsUnary_18 rfl (lv_at hl 0 rfl) ?_
      refine lv_bipush (v := (42 : Int32)) hx hb dX12_beginsUnary_19 (by decide) ?_
      refine lv_icmp_eq (tgt := 55) hx hb dX12_beginsUnary_21 (by decide) (fun c6 => ?_) (fun c6 => ?_)
      · have hf := jt c6 hf
        exact B_X12_beginsUnary_55 E  hf hM (lv_sub hl [] rfl)
      · have hf := jf c6 hf
        refine lv_iload_n hx hb dX12_beginsUnary_24 rfl (lv_at hl 0 rfl) ?_
        refine lv_sipush (v := (140 : Int32)) hx hb dX12_beginsUnary_25 (by decide) ?_
        refine lv_icmp_eq (tgt := 55) hx hb dX12_beginsUnary_28 (by decide) (fun c7 => ?_) (fun c7 => ?_)
        · have hf := jt c7 hf
          exact B_X12_beginsUnary_55 E  hf hM (lv_sub hl [] rfl)
        · have hf := jf c7 hf
          refine lv_iload_n hx hb dX12_beginsUnary_31 rfl (lv_at hl 0 rfl) ?_
          refine lv_bipush (v := (40 : Int32)) hx hb dX12_beginsUnary_32 (by decide) ?_
          refine lv_icmp_eq (tgt := 55) hx hb dX12_beginsUnary_34 (by decide) (fun c8 => ?_) (fun c8 => ?_)
          · have hf := jt c8 hf
            exact B_X12_beginsUnary_55 E  hf hM (lv_sub hl [] rfl)
          · have hf := jf c8 hf
            refine lv_iload_n hx hb dX12_beginsUnary_37 rfl (lv_at hl 0 rfl) ?_
            refine lv_iconst (v := (4 : Int32)) hx hb dX12_beginsUnary_38 (by decide) ?_
            refine lv_icmp_eq (tgt := 55) hx hb dX12_beginsUnary_39 (by decide) (fun c9 => ?_) (fun c9 => ?_)
            · have hf := jt c9 hf
              exact B_X12_beginsUnary_55 E  hf hM (lv_sub hl [] rfl)
            · have hf := jf c9 hf
              refine lv_iload_n hx hb dX12_beginsUnary_42 rfl (lv_at hl 0 rfl) ?_
              refine lv_bipush (v := (19 : Int32)) hx hb dX12_beginsUnary_43 (by decide) ?_
              refine lv_icmp_eq (tgt := 55) hx hb dX12_beginsUnary_45 (by decide) (fun c10 => ?_) (fun c10 => ?_)
              · have hf := jt c10 hf
                exact B_X12_beginsUnary_55 E  hf hM (lv_sub hl [] rfl)
              · have hf := jf c10 hf
                refine lv_iload_n hx hb dX12_beginsUnary_48 rfl (lv_at hl 0 rfl) ?_
                refine jbackI hM (jrunS E hM ci_X12_isFunction (C_X12_isFunction rfl) lk_8_1 hl.1 rfl rfl (Nat.le_of_ble_eq_true rfl) ⟨Nat.le_of_ble_eq_true rfl, Nat.le_of_ble_eq_true rfl⟩ ⟨Nat.le_refl _, Nat.le_refl _⟩ dX12_beginsUnary_49) (fun H locs hM => ?_)
                refine lv_if_eq (tgt := 59) hx hb dX12_beginsUnary_52 (by decide) (fun c11 => ?_) (fun c11 => ?_)
                · have hf := jt c11 hf
                  refine lv_iconst (v := (0 : Int32)) hx hb dX12_beginsUnary_59 (by decide) ?_
                  exact jiretz (jr1 hf) E hM (by decide) dX12_beginsUnary_60
                · have hf := jf c11 hf
                  exact B_X12_beginsUnary_55 E  hf hM (lv_sub hl [] rfl)
set_option maxRecDepth 100000 in
theorem C_X12_beginsUnary {l : Launch} {g : jG} {a0 : Nat} {S : jM} {rr : Int32} (hf : f_X12_beginsUnary a0 S = some rr) : jMet l g yX12_beginsUnary cX12_beginsUnary 2 (some .boolean) 3 0 0 [.ref (g.2.2 + a0)] S (jQi g rr S) := by
  refine jof (by decide +kernel) (Nat.le_of_ble_eq_true rfl) ?_
  intro p e s m below meth c E hM ls hl
  have hl : lv_has ls 2 [(0, .ref (g.2.2 + a0))] := hl
  exact B_X12_beginsUnary_0 E hf hM hl
-- PensionHouseModel.fail(II)V  mode M
noncomputable def f_X12_fail (v0 : Nat) (v1 : Int32) (v2 : Int32) (S : jM) : Option jM := if jK v0 = 10 then if (jI S 101 v0) = 0 then jlet (jsI S 101 v0 v1) (fun S3 => jlet (jsI S3 102 v0 v2) (fun S4 => some S4)) else some S else none
set_option maxRecDepth 100000 in
set_option maxHeartbeats 4000000 in
theorem B_X12_fail_0 {p : Program} {l : Launch} {e : Env} {s : State} {m : MethodId} {args : Array Value} {below : List Frame} {meth : Method} {c : Code} {g : jG} {SS : jM} {v0 : Nat} {v1 : Int32} {v2 : Int32} {S : jM} (E : jEnv p s m args meth c cX12_fail "PensionHouseModel" none 3 g)  {H : Heap} {locs : List Loc} {ls : Array Slot} (hf : f_X12_fail v0 v1 v2 S = some SS) (hM : jAt g S s H locs) (hl : lv_has ls 3 [(0, .ref (g.2.2 + v0)), (1, .int v1), (2, .int v2)]) : W p l e (jRm 1 0 0) s m args below meth c H locs 0 0 (MQ below (jQv g SS) args s 0 0 (jA0 g)) (F0 m 0 ls []) := by
  obtain ⟨hx, hb, hml, -, hts, hown, hK, -, hstr⟩ := id E
  unfold f_X12_fail at hf
  refine lv_aload_n hx hb dX12_fail_0 rfl (lv_at hl 0 rfl) ?_
  obtain ⟨hq1, hf⟩ := jif hf
  refine gt_101 E hM hq1 lk_6_15 dX12_fail_1 ?_
  refine lv_if_ne (tgt := 17) hx hb dX12_fail_4 (by decide) (fun c2 => ?_) (fun c2 => ?_)
  · have hf := jf c2 hf
    exact jvret (jrv hf) E hM dX12_fail_17
  · have hf := jt c2 hf
    refine lv_aload_n hx hb dX12_fail_7 rfl (lv_at hl 0 rfl) ?_
    refine lv_iload_n hx hb dX12_fail_8 rfl (lv_at hl 1 rfl) ?_
    refine pt_101 E hM hq1 lk_6_15 dX12_fail_9 (fun H locs S3 eS3 hM => ?_)
    have hf := jlet_y eS3 hf
    refine lv_aload_n hx hb dX12_fail_12 rfl (lv_at hl 0 rfl) ?_
    refine lv_iload_n hx hb dX12_fail_13 rfl (lv_at hl 2 rfl) ?_
    refine pt_102 E hM hq1 lk_6_16 dX12_fail_14 (fun H locs S4 eS4 hM => ?_)
    have hf := jlet_y eS4 hf
    exact jvret (jrv hf) E hM dX12_fail_17
set_option maxRecDepth 100000 in
theorem C_X12_fail {l : Launch} {g : jG} {a0 : Nat} {a1 : Int32} {a2 : Int32} {S : jM} {SS : jM} (hf : f_X12_fail a0 a1 a2 S = some SS) : jMet l g yX12_fail cX12_fail 3 none 1 0 0 [.ref (g.2.2 + a0), .int a1, .int a2] S (jQv g SS) := by
  refine jof (by decide +kernel) (Nat.le_of_ble_eq_true rfl) ?_
  intro p e s m below meth c E hM ls hl
  have hl : lv_has ls 3 [(0, .ref (g.2.2 + a0)),(1, .int a1),(2, .int a2)] := hl
  exact B_X12_fail_0 E hf hM hl
-- PensionHouseModel.wrong()V  mode M
noncomputable def f_X12_wrong_15 (v0 : Nat) (t0 : Nat) (t1 : Int32) (S : jM) : Option jM := if jK v0 = 10 then (jR S 96 v0).bind (fun r2 => if jA r2 13 (jI S 100 v0) = true then if jK t0 = 10 then (f_X12_fail t0 t1 (jAI S r2 (jI S 100 v0).toNatClampNeg) S).bind (fun S5 => some S5) else none else none) else none
noncomputable def f_X12_wrong (v0 : Nat) (S : jM) : Option jM := if jK v0 = 10 then (f_X12_now v0 S).bind (fun x8 => if x8 = (44 : Int32) then f_X12_wrong_15 v0 v0 (1 : Int32) S else f_X12_wrong_15 v0 v0 (2 : Int32) S) else none
set_option maxRecDepth 100000 in
set_option maxHeartbeats 4000000 in
theorem B_X12_wrong_15 {p : Program} {l : Launch} {e : Env} {s : State} {m : MethodId} {args : Array Value} {below : List Frame} {meth : Method} {c : Code} {g : jG} {SS : jM} {v0 : Nat} {t0 : Nat} {t1 : Int32} {S : jM} (E : jEnv p s m args meth c cX12_wrong "PensionHouseModel" none 1 g)  {H : Heap} {locs : List Loc} {ls : Array Slot} (hf : f_X12_wrong_15 v0 t0 t1 S = some SS) (hM : jAt g S s H locs) (hl : lv_has ls 1 [(0, .ref (g.2.2 + v0))]) : W p l e (jRm 2 0 0) s m args below meth c H locs 0 0 (MQ below (jQv g SS) args s 0 0 (jA0 g)) (F0 m 15 ls [.int t1, .ref (g.2.2 + t0)]) := by
  obtain ⟨hx, hb, hml, -, hts, hown, hK, -, hstr⟩ := id E
  unfold f_X12_wrong_15 at hf
  refine lv_aload_n hx hb dX12_wrong_15 rfl (lv_at hl 0 rfl) ?_
  obtain ⟨hq1, hf⟩ := jif hf
  refine gt_96 E hM hq1 lk_6_10 dX12_wrong_16 ?_
  obtain ⟨r2, hr3, hf⟩ := jb hf
  rw [hr3]
  show W p l e _ s m args below meth c H locs 0 0 _ (F0 m _ ls (.ref (g.2.2 + r2) :: _))
  refine lv_aload_n hx hb dX12_wrong_19 rfl (lv_at hl 0 rfl) ?_
  refine gt_100 E hM hq1 lk_6_14 dX12_wrong_20 ?_
  obtain ⟨ha4, hf⟩ := jif hf
  refine jiald E hM ha4 dX12_wrong_23 ?_
  obtain ⟨hq7, hf⟩ := jif hf
  obtain ⟨S5, hc6, hf⟩ := jb hf
  refine jbackV hM (jrunV E hM ci_X12_fail (C_X12_fail hc6) lk_7_217 hq7 (by decide) rfl hl.1 rfl rfl (Nat.le_of_ble_eq_true rfl) ⟨Nat.le_of_ble_eq_true rfl, Nat.le_of_ble_eq_true rfl⟩ ⟨Nat.le_refl _, Nat.le_refl _⟩ dX12_wrong_24) (fun H locs hM => ?_)
  exact jvret (jrv hf) E hM dX12_wrong_27
set_option maxRecDepth 100000 in
set_option maxHeartbeats 4000000 in
theorem B_X12_wrong_0 {p : Program} {l : Launch} {e : Env} {s : State} {m : MethodId} {args : Array Value} {below : List Frame} {meth : Method} {c : Code} {g : jG} {SS : jM} {v0 : Nat} {S : jM} (E : jEnv p s m args meth c cX12_wrong "PensionHouseModel" none 1 g)  {H : Heap} {locs : List Loc} {ls : Array Slot} (hf : f_X12_wrong v0 S = some SS) (hM : jAt g S s H locs) (hl : lv_has ls 1 [(0, .ref (g.2.2 + v0))]) : W p l e (jRm 2 0 0) s m args below meth c H locs 0 0 (MQ below (jQv g SS) args s 0 0 (jA0 g)) (F0 m 0 ls []) := by
  obtain ⟨hx, hb, hml, -, hts, hown, hK, -, hstr⟩ := id E
  unfold f_X12_wrong at hf
  refine lv_aload_n hx hb dX12_wrong_0 rfl (lv_at hl 0 rfl) ?_
  refine lv_aload_n hx hb dX12_wrong_1 rfl (lv_at hl 0 rfl) ?_
  obtain ⟨hq10, hf⟩ := jif hf
  obtain ⟨x8, hc9, hf⟩ := jb hf
  refine jbackI hM (jrunV E hM ci_X12_now (C_X12_now hc9) lk_7_209 hq10 (by decide) rfl hl.1 rfl rfl (Nat.le_of_ble_eq_true rfl) ⟨Nat.le_of_ble_eq_true rfl, Nat.le_of_ble_eq_true rfl⟩ ⟨Nat.le_refl _, Nat.le_refl _⟩ dX12_wrong_2) (fun H locs hM => ?_)
  refine lv_bipush (v := (44 : Int32)) hx hb dX12_wrong_5 (by decide) ?_
  refine lv_icmp_ne (tgt := 14) hx hb dX12_wrong_7 (by decide) (fun c11 => ?_) (fun c11 => ?_)
  · have hf := jf c11 hf
    refine lv_iconst (v := (2 : Int32)) hx hb dX12_wrong_14 (by decide) ?_
    exact B_X12_wrong_15 E  hf hM (lv_sub hl [0] rfl)
  · have hf := jt c11 hf
    refine lv_iconst (v := (1 : Int32)) hx hb dX12_wrong_10 (by decide) ?_
    refine lv_goto (tgt := 15) hx hb dX12_wrong_11 (by decide) ?_
    exact B_X12_wrong_15 E  hf hM (lv_sub hl [0] rfl)
set_option maxRecDepth 100000 in
theorem C_X12_wrong {l : Launch} {g : jG} {a0 : Nat} {S : jM} {SS : jM} (hf : f_X12_wrong a0 S = some SS) : jMet l g yX12_wrong cX12_wrong 1 none 2 0 0 [.ref (g.2.2 + a0)] S (jQv g SS) := by
  refine jof (by decide +kernel) (Nat.le_of_ble_eq_true rfl) ?_
  intro p e s m below meth c E hM ls hl
  have hl : lv_has ls 1 [(0, .ref (g.2.2 + a0))] := hl
  exact B_X12_wrong_0 E hf hM hl
-- PensionHouseModel.is(I)Z  mode R
noncomputable def f_X12_is (v0 : Nat) (v1 : Int32) (S : jM) : Option Int32 := if jK v0 = 10 then if (jI S 101 v0) = 0 then (jR S 95 v0).bind (fun r3 => if jA r3 13 (jI S 100 v0) = true then if (jAI S r3 (jI S 100 v0).toNatClampNeg) = v1 then some (1 : Int32) else some (0 : Int32) else none) else some (0 : Int32) else none
set_option maxRecDepth 100000 in
set_option maxHeartbeats 4000000 in
theorem B_X12_is_0 {p : Program} {l : Launch} {e : Env} {s : State} {m : MethodId} {args : Array Value} {below : List Frame} {meth : Method} {c : Code} {g : jG} {rr : Int32} {S : jM} {v0 : Nat} {v1 : Int32} (E : jEnv p s m args meth c cX12_is "PensionHouseModel" (some .boolean) 2 g)  {H : Heap} {locs : List Loc} {ls : Array Slot} (hf : f_X12_is v0 v1 S = some rr) (hM : jAt g S s H locs) (hl : lv_has ls 2 [(0, .ref (g.2.2 + v0)), (1, .int v1)]) : W p l e (jRm 1 0 0) s m args below meth c H locs 0 0 (MQ below (jQi g rr S) args s 0 0 (jA0 g)) (F0 m 0 ls []) := by
  obtain ⟨hx, hb, hml, -, hts, hown, hK, -, hstr⟩ := id E
  unfold f_X12_is at hf
  refine lv_aload_n hx hb dX12_is_0 rfl (lv_at hl 0 rfl) ?_
  obtain ⟨hq1, hf⟩ := jif hf
  refine gt_101 E hM hq1 lk_6_15 dX12_is_1 ?_
  refine lv_if_ne (tgt := 24) hx hb dX12_is_4 (by decide) (fun c2 => ?_) (fun c2 => ?_)
  · have hf := jf c2 hf
    refine lv_iconst (v := (0 : Int32)) hx hb dX12_is_24 (by decide) ?_
    exact jiretz (jr1 hf) E hM (by decide) dX12_is_25
  · have hf := jt c2 hf
    refine lv_aload_n hx hb dX12_is_7 rfl (lv_at hl 0 rfl) ?_
    refine gt_95 E hM hq1 lk_6_9 dX12_is_8 ?_
    obtain ⟨r3, hr4, hf⟩ := jb hf
    rw [hr4]
    show W p l e _ s m args below meth c H locs 0 0 _ (F0 m _ ls (.ref (g.2.2 + r3) :: _))
    refine lv_aload_n hx hb dX12_is_11 rfl (lv_at hl 0 rfl) ?_
    refine gt_100 E hM hq1 lk_6_14 dX12_is_12 ?_
    obtain ⟨ha5, hf⟩ := jif hf
    refine jiald E hM ha5 dX12_is_15 ?_
    refine lv_iload_n hx hb dX12_is_16 rfl (lv_at hl 1 rfl) ?_
    refine lv_icmp_ne (tgt := 24) hx hb dX12_is_17 (by decide) (fun c6 => ?_) (fun c6 => ?_)
    · have hf := jf c6 hf
      refine lv_iconst (v := (0 : Int32)) hx hb dX12_is_24 (by decide) ?_
      exact jiretz (jr1 hf) E hM (by decide) dX12_is_25
    · have hf := jt c6 hf
      refine lv_iconst (v := (1 : Int32)) hx hb dX12_is_20 (by decide) ?_
      refine lv_goto (tgt := 25) hx hb dX12_is_21 (by decide) ?_
      exact jiretz (jr1 hf) E hM (by decide) dX12_is_25
set_option maxRecDepth 100000 in
theorem C_X12_is {l : Launch} {g : jG} {a0 : Nat} {a1 : Int32} {S : jM} {rr : Int32} (hf : f_X12_is a0 a1 S = some rr) : jMet l g yX12_is cX12_is 2 (some .boolean) 1 0 0 [.ref (g.2.2 + a0), .int a1] S (jQi g rr S) := by
  refine jof (by decide +kernel) (Nat.le_of_ble_eq_true rfl) ?_
  intro p e s m below meth c E hM ls hl
  have hl : lv_has ls 2 [(0, .ref (g.2.2 + a0)),(1, .int a1)] := hl
  exact B_X12_is_0 E hf hM hl
-- PensionHouseModel.part()Z  mode M
noncomputable def f_X12_part_31 (v0 : Nat) (S : jM) : Option (Int32 × jM) := if jK v0 = 10 then jlet (jsI S 114 v0 ((jI S 114 v0) + (1 : Int32))) (fun S2 => if (jI S2 101 v0) = 0 then some ((1 : Int32), S2) else some ((0 : Int32), S2)) else none
noncomputable def f_X12_part (v0 : Nat) (S : jM) : Option (Int32 × jM) := if jK v0 = 10 then if (jI S 101 v0) = 0 then if (jI S 114 v0) = (300 : Int32) then (jR S 96 v0).bind (fun r7 => if jA r7 13 (jI S 100 v0) = true then (f_X12_fail v0 (4 : Int32) (jAI S r7 (jI S 100 v0).toNatClampNeg) S).bind (fun S10 => f_X12_part_31 v0 S10) else none) else f_X12_part_31 v0 S else f_X12_part_31 v0 S else none
set_option maxRecDepth 100000 in
set_option maxHeartbeats 4000000 in
theorem B_X12_part_31 {p : Program} {l : Launch} {e : Env} {s : State} {m : MethodId} {args : Array Value} {below : List Frame} {meth : Method} {c : Code} {g : jG} {rr : Int32} {SS : jM} {v0 : Nat} {S : jM} (E : jEnv p s m args meth c cX12_part "PensionHouseModel" (some .boolean) 1 g)  {H : Heap} {locs : List Loc} {ls : Array Slot} (hf : f_X12_part_31 v0 S = some (rr, SS)) (hM : jAt g S s H locs) (hl : lv_has ls 1 [(0, .ref (g.2.2 + v0))]) : W p l e (jRm 2 0 0) s m args below meth c H locs 0 0 (MQ below (jQi g rr SS) args s 0 0 (jA0 g)) (F0 m 31 ls []) := by
  obtain ⟨hx, hb, hml, -, hts, hown, hK, -, hstr⟩ := id E
  unfold f_X12_part_31 at hf
  refine lv_aload_n hx hb dX12_part_31 rfl (lv_at hl 0 rfl) ?_
  refine lv_dup hx hb dX12_part_32 rfl ?_
  obtain ⟨hq1, hf⟩ := jif hf
  refine gt_114 E hM hq1 lk_6_28 dX12_part_33 ?_
  refine lv_iconst (v := (1 : Int32)) hx hb dX12_part_36 (by decide) ?_
  refine lv_iadd hx hb dX12_part_37 ?_
  refine pt_114 E hM hq1 lk_6_28 dX12_part_38 (fun H locs S2 eS2 hM => ?_)
  have hf := jlet_y eS2 hf
  refine lv_aload_n hx hb dX12_part_41 rfl (lv_at hl 0 rfl) ?_
  refine gt_101 E hM hq1 lk_6_15 dX12_part_42 ?_
  refine lv_if_ne (tgt := 52) hx hb dX12_part_45 (by decide) (fun c3 => ?_) (fun c3 => ?_)
  · have hf := jf c3 hf
    refine lv_iconst (v := (0 : Int32)) hx hb dX12_part_52 (by decide) ?_
    exact jiretz (jr2 hf) E hM (by decide) dX12_part_53
  · have hf := jt c3 hf
    refine lv_iconst (v := (1 : Int32)) hx hb dX12_part_48 (by decide) ?_
    refine lv_goto (tgt := 53) hx hb dX12_part_49 (by decide) ?_
    exact jiretz (jr2 hf) E hM (by decide) dX12_part_53
set_option maxRecDepth 100000 in
set_option maxHeartbeats 4000000 in
theorem B_X12_part_0 {p : Program} {l : Launch} {e : Env} {s : State} {m : MethodId} {args : Array Value} {below : List Frame} {meth : Method} {c : Code} {g : jG} {rr : Int32} {SS : jM} {v0 : Nat} {S : jM} (E : jEnv p s m args meth c cX12_part "PensionHouseModel" (some .boolean) 1 g)  {H : Heap} {locs : List Loc} {ls : Array Slot} (hf : f_X12_part v0 S = some (rr, SS)) (hM : jAt g S s H locs) (hl : lv_has ls 1 [(0, .ref (g.2.2 + v0))]) : W p l e (jRm 2 0 0) s m args below meth c H locs 0 0 (MQ below (jQi g rr SS) args s 0 0 (jA0 g)) (F0 m 0 ls []) := by
  obtain ⟨hx, hb, hml, -, hts, hown, hK, -, hstr⟩ := id E
  unfold f_X12_part at hf
  refine lv_aload_n hx hb dX12_part_0 rfl (lv_at hl 0 rfl) ?_
  obtain ⟨hq4, hf⟩ := jif hf
  refine gt_101 E hM hq4 lk_6_15 dX12_part_1 ?_
  refine lv_if_ne (tgt := 31) hx hb dX12_part_4 (by decide) (fun c5 => ?_) (fun c5 => ?_)
  · have hf := jf c5 hf
    exact B_X12_part_31 E  hf hM (lv_sub hl [0] rfl)
  · have hf := jt c5 hf
    refine lv_aload_n hx hb dX12_part_7 rfl (lv_at hl 0 rfl) ?_
    refine gt_114 E hM hq4 lk_6_28 dX12_part_8 ?_
    refine lv_sipush (v := (300 : Int32)) hx hb dX12_part_11 (by decide) ?_
    refine lv_icmp_ne (tgt := 31) hx hb dX12_part_14 (by decide) (fun c6 => ?_) (fun c6 => ?_)
    · have hf := jf c6 hf
      exact B_X12_part_31 E  hf hM (lv_sub hl [0] rfl)
    · have hf := jt c6 hf
      refine lv_aload_n hx hb dX12_part_17 rfl (lv_at hl 0 rfl) ?_
      refine lv_iconst (v := (4 : Int32)) hx hb dX12_part_18 (by decide) ?_
      refine lv_aload_n hx hb dX12_part_19 rfl (lv_at hl 0 rfl) ?_
      refine gt_96 E hM hq4 lk_6_10 dX12_part_20 ?_
      obtain ⟨r7, hr8, hf⟩ := jb hf
      rw [hr8]
      show W p l e _ s m args below meth c H locs 0 0 _ (F0 m _ ls (.ref (g.2.2 + r7) :: _))
      refine lv_aload_n hx hb dX12_part_23 rfl (lv_at hl 0 rfl) ?_
      refine gt_100 E hM hq4 lk_6_14 dX12_part_24 ?_
      obtain ⟨ha9, hf⟩ := jif hf
      refine jiald E hM ha9 dX12_part_27 ?_
      obtain ⟨S10, hc11, hf⟩ := jb hf
      refine jbackV hM (jrunV E hM ci_X12_fail (C_X12_fail hc11) lk_7_217 hq4 (by decide) rfl hl.1 rfl rfl (Nat.le_of_ble_eq_true rfl) ⟨Nat.le_of_ble_eq_true rfl, Nat.le_of_ble_eq_true rfl⟩ ⟨Nat.le_refl _, Nat.le_refl _⟩ dX12_part_28) (fun H locs hM => ?_)
      exact B_X12_part_31 E  hf hM (lv_sub hl [0] rfl)
set_option maxRecDepth 100000 in
theorem C_X12_part {l : Launch} {g : jG} {a0 : Nat} {S : jM} {rr : Int32} {SS : jM} (hf : f_X12_part a0 S = some (rr, SS)) : jMet l g yX12_part cX12_part 1 (some .boolean) 2 0 0 [.ref (g.2.2 + a0)] S (jQi g rr SS) := by
  refine jof (by decide +kernel) (Nat.le_of_ble_eq_true rfl) ?_
  intro p e s m below meth c E hM ls hl
  have hl : lv_has ls 1 [(0, .ref (g.2.2 + a0))] := hl
  exact B_X12_part_0 E hf hM hl
-- PensionHouseModel.node(I)I  mode M
noncomputable def f_X12_node (v0 : Nat) (v1 : Int32) (S : jM) : Option (Int32 × jM) := if jK v0 = 10 then (jR S 109 v0).bind (fun r2 => if jA r2 13 (jI S 113 v0) = true then jlet (((301 : Int32) * (jI S 113 v0)) + (jAI S r2 (jI S 113 v0).toNatClampNeg)) (fun x5 => (jR S 109 v0).bind (fun r6 => if jA r6 13 (jI S 113 v0) = true then if jA r6 13 (jI S 113 v0) = true then jlet (jrI S r6 (upd (jAI S r6) (jI S 113 v0).toNatClampNeg ((jAI S r6 (jI S 113 v0).toNatClampNeg) + (1 : Int32)))) (fun S10 => (jR S10 103 v0).bind (fun r11 => if jA r11 13 x5 = true then jlet (jrI S10 r11 (upd (jAI S10 r11) (x5).toNatClampNeg v1)) (fun S14 => (jR S14 104 v0).bind (fun r15 => if jA r15 13 x5 = true then jlet (jrI S14 r15 (upd (jAI S14 r15) (x5).toNatClampNeg (-1 : Int32))) (fun S18 => (jR S18 105 v0).bind (fun r19 => if jA r19 13 x5 = true then jlet (jrI S18 r19 (upd (jAI S18 r19) (x5).toNatClampNeg (-1 : Int32))) (fun S22 => (jR S22 106 v0).bind (fun r23 => if jA r23 13 x5 = true then jlet (jrI S22 r23 (upd (jAI S22 r23) (x5).toNatClampNeg (-1 : Int32))) (fun S26 => (jR S26 107 v0).bind (fun r27 => if jA r27 14 x5 = true then jlet (jrL S26 r27 (vp_updL (jAL S26 r27) (x5).toNatClampNeg (0 : Int64))) (fun S30 => some (x5, S30)) else none)) else none)) else none)) else none)) else none)) else none else none)) else none) else none
set_option maxRecDepth 100000 in
set_option maxHeartbeats 4000000 in
theorem B_X12_node_0 {p : Program} {l : Launch} {e : Env} {s : State} {m : MethodId} {args : Array Value} {below : List Frame} {meth : Method} {c : Code} {g : jG} {rr : Int32} {SS : jM} {v0 : Nat} {v1 : Int32} {S : jM} (E : jEnv p s m args meth c cX12_node "PensionHouseModel" (some .int) 3 g)  {H : Heap} {locs : List Loc} {ls : Array Slot} (hf : f_X12_node v0 v1 S = some (rr, SS)) (hM : jAt g S s H locs) (hl : lv_has ls 3 [(0, .ref (g.2.2 + v0)), (1, .int v1)]) : W p l e (jRm 1 0 0) s m args below meth c H locs 0 0 (MQ below (jQi g rr SS) args s 0 0 (jA0 g)) (F0 m 0 ls []) := by
  obtain ⟨hx, hb, hml, -, hts, hown, hK, -, hstr⟩ := id E
  unfold f_X12_node at hf
  refine lv_sipush (v := (301 : Int32)) hx hb dX12_node_0 (by decide) ?_
  refine lv_aload_n hx hb dX12_node_3 rfl (lv_at hl 0 rfl) ?_
  obtain ⟨hq1, hf⟩ := jif hf
  refine gt_113 E hM hq1 lk_6_27 dX12_node_4 ?_
  refine lv_imul hx hb dX12_node_7 ?_
  refine lv_aload_n hx hb dX12_node_8 rfl (lv_at hl 0 rfl) ?_
  refine gt_109 E hM hq1 lk_6_23 dX12_node_9 ?_
  obtain ⟨r2, hr3, hf⟩ := jb hf
  rw [hr3]
  show W p l e _ s m args below meth c H locs 0 0 _ (F0 m _ ls (.ref (g.2.2 + r2) :: _))
  refine lv_aload_n hx hb dX12_node_12 rfl (lv_at hl 0 rfl) ?_
  refine gt_113 E hM hq1 lk_6_27 dX12_node_13 ?_
  obtain ⟨ha4, hf⟩ := jif hf
  refine jiald E hM ha4 dX12_node_16 ?_
  refine lv_iadd hx hb dX12_node_17 ?_
  refine lv_topi (fun x5 ex5 => ?_)
  have hf := jlet_y ex5 hf
  refine lv_istore_n (lv' := [(2, .int x5), (0, .ref (g.2.2 + v0)), (1, .int v1)]) hx hb dX12_node_18 rfl hl (by decide) rfl (fun ls hl => ?_)
  refine lv_aload_n hx hb dX12_node_19 rfl (lv_at hl 1 rfl) ?_
  refine gt_109 E hM hq1 lk_6_23 dX12_node_20 ?_
  obtain ⟨r6, hr7, hf⟩ := jb hf
  rw [hr7]
  show W p l e _ s m args below meth c H locs 0 0 _ (F0 m _ ls (.ref (g.2.2 + r6) :: _))
  refine lv_aload_n hx hb dX12_node_23 rfl (lv_at hl 1 rfl) ?_
  refine gt_113 E hM hq1 lk_6_27 dX12_node_24 ?_
  refine lv_dup2_11 hx hb dX12_node_27 rfl rfl ?_
  obtain ⟨ha8, hf⟩ := jif hf
  refine jiald E hM ha8 dX12_node_28 ?_
  refine lv_iconst (v := (1 : Int32)) hx hb dX12_node_29 (by decide) ?_
  refine lv_iadd hx hb dX12_node_30 ?_
  obtain ⟨ha9, hf⟩ := jif hf
  refine jiast E hM ha9 dX12_node_31 (fun H locs S10 eS10 hM => ?_)
  have hf := jlet_y eS10 hf
  refine lv_aload_n hx hb dX12_node_32 rfl (lv_at hl 1 rfl) ?_
  refine gt_103 E hM hq1 lk_6_17 dX12_node_33 ?_
  obtain ⟨r11, hr12, hf⟩ := jb hf
  rw [hr12]
  show W p l e _ s m args below meth c H locs 0 0 _ (F0 m _ ls (.ref (g.2.2 + r11) :: _))
  refine lv_iload_n hx hb dX12_node_36 rfl (lv_at hl 0 rfl) ?_
  refine lv_iload_n hx hb dX12_node_37 rfl (lv_at hl 2 rfl) ?_
  obtain ⟨ha13, hf⟩ := jif hf
  refine jiast E hM ha13 dX12_node_38 (fun H locs S14 eS14 hM => ?_)
  have hf := jlet_y eS14 hf
  refine lv_aload_n hx hb dX12_node_39 rfl (lv_at hl 1 rfl) ?_
  refine gt_104 E hM hq1 lk_6_18 dX12_node_40 ?_
  obtain ⟨r15, hr16, hf⟩ := jb hf
  rw [hr16]
  show W p l e _ s m args below meth c H locs 0 0 _ (F0 m _ ls (.ref (g.2.2 + r15) :: _))
  refine lv_iload_n hx hb dX12_node_43 rfl (lv_at hl 0 rfl) ?_
  refine lv_iconst (v := (-1 : Int32)) hx hb dX12_node_44 (by decide) ?_
  obtain ⟨ha17, hf⟩ := jif hf
  refine jiast E hM ha17 dX12_node_45 (fun H locs S18 eS18 hM => ?_)
  have hf := jlet_y eS18 hf
  refine lv_aload_n hx hb dX12_node_46 rfl (lv_at hl 1 rfl) ?_
  refine gt_105 E hM hq1 lk_6_19 dX12_node_47 ?_
  obtain ⟨r19, hr20, hf⟩ := jb hf
  rw [hr20]
  show W p l e _ s m args below meth c H locs 0 0 _ (F0 m _ ls (.ref (g.2.2 + r19) :: _))
  refine lv_iload_n hx hb dX12_node_50 rfl (lv_at hl 0 rfl) ?_
  refine lv_iconst (v := (-1 : Int32)) hx hb dX12_node_51 (by decide) ?_
  obtain ⟨ha21, hf⟩ := jif hf
  refine jiast E hM ha21 dX12_node_52 (fun H locs S22 eS22 hM => ?_)
  have hf := jlet_y eS22 hf
  refine lv_aload_n hx hb dX12_node_53 rfl (lv_at hl 1 rfl) ?_
  refine gt_106 E hM hq1 lk_6_20 dX12_node_54 ?_
  obtain ⟨r23, hr24, hf⟩ := jb hf
  rw [hr24]
  show W p l e _ s m args below meth c H locs 0 0 _ (F0 m _ ls (.ref (g.2.2 + r23) :: _))
  refine lv_iload_n hx hb dX12_node_57 rfl (lv_at hl 0 rfl) ?_
  refine lv_iconst (v := (-1 : Int32)) hx hb dX12_node_58 (by decide) ?_
  obtain ⟨ha25, hf⟩ := jif hf
  refine jiast E hM ha25 dX12_node_59 (fun H locs S26 eS26 hM => ?_)
  have hf := jlet_y eS26 hf
  refine lv_aload_n hx hb dX12_node_60 rfl (lv_at hl 1 rfl) ?_
  refine gt_107 E hM hq1 lk_6_21 dX12_node_61 ?_
  obtain ⟨r27, hr28, hf⟩ := jb hf
  rw [hr28]
  show W p l e _ s m args below meth c H locs 0 0 _ (F0 m _ ls (.ref (g.2.2 + r27) :: _))
  refine lv_iload_n hx hb dX12_node_64 rfl (lv_at hl 0 rfl) ?_
  refine lv_lconst (v := (0 : Int64)) hx hb dX12_node_65 (by decide) ?_
  obtain ⟨ha29, hf⟩ := jif hf
  refine jlast E hM ha29 dX12_node_66 (fun H locs S30 eS30 hM => ?_)
  have hf := jlet_y eS30 hf
  refine lv_iload_n hx hb dX12_node_67 rfl (lv_at hl 0 rfl) ?_
  exact jireti (jr2 hf) E hM dX12_node_68
set_option maxRecDepth 100000 in
theorem C_X12_node {l : Launch} {g : jG} {a0 : Nat} {a1 : Int32} {S : jM} {rr : Int32} {SS : jM} (hf : f_X12_node a0 a1 S = some (rr, SS)) : jMet l g yX12_node cX12_node 3 (some .int) 1 0 0 [.ref (g.2.2 + a0), .int a1] S (jQi g rr SS) := by
  refine jof (by decide +kernel) (Nat.le_of_ble_eq_true rfl) ?_
  intro p e s m below meth c E hM ls hl
  have hl : lv_has ls 3 [(0, .ref (g.2.2 + a0)),(1, .int a1)] := hl
  exact B_X12_node_0 E hf hM hl
-- PensionHouseModel.want(I)V  mode M
noncomputable def f_X12_want (v0 : Nat) (v1 : Int32) (S : jM) : Option jM := if jK v0 = 10 then if (jI S 101 v0) = 0 then (jR S 95 v0).bind (fun r3 => if jA r3 13 (jI S 100 v0) = true then if (jAI S r3 (jI S 100 v0).toNatClampNeg) = v1 then jlet (jsI S 100 v0 ((jI S 100 v0) + (1 : Int32))) (fun S9 => some S9) else (f_X12_wrong v0 S).bind (fun S7 => some S7) else none) else some S else none
set_option maxRecDepth 100000 in
set_option maxHeartbeats 4000000 in
theorem B_X12_want_0 {p : Program} {l : Launch} {e : Env} {s : State} {m : MethodId} {args : Array Value} {below : List Frame} {meth : Method} {c : Code} {g : jG} {SS : jM} {v0 : Nat} {v1 : Int32} {S : jM} (E : jEnv p s m args meth c cX12_want "PensionHouseModel" none 2 g)  {H : Heap} {locs : List Loc} {ls : Array Slot} (hf : f_X12_want v0 v1 S = some SS) (hM : jAt g S s H locs) (hl : lv_has ls 2 [(0, .ref (g.2.2 + v0)), (1, .int v1)]) : W p l e (jRm 3 0 0) s m args below meth c H locs 0 0 (MQ below (jQv g SS) args s 0 0 (jA0 g)) (F0 m 0 ls []) := by
  obtain ⟨hx, hb, hml, -, hts, hown, hK, -, hstr⟩ := id E
  unfold f_X12_want at hf
  refine lv_aload_n hx hb dX12_want_0 rfl (lv_at hl 0 rfl) ?_
  obtain ⟨hq1, hf⟩ := jif hf
  refine gt_101 E hM hq1 lk_6_15 dX12_want_1 ?_
  refine lv_if_ne (tgt := 37) hx hb dX12_want_4 (by decide) (fun c2 => ?_) (fun c2 => ?_)
  · have hf := jf c2 hf
    exact jvret (jrv hf) E hM dX12_want_37
  · have hf := jt c2 hf
    refine lv_aload_n hx hb dX12_want_7 rfl (lv_at hl 0 rfl) ?_
    refine gt_95 E hM hq1 lk_6_9 dX12_want_8 ?_
    obtain ⟨r3, hr4, hf⟩ := jb hf
    rw [hr4]
    show W p l e _ s m args below meth c H locs 0 0 _ (F0 m _ ls (.ref (g.2.2 + r3) :: _))
    refine lv_aload_n hx hb dX12_want_11 rfl (lv_at hl 0 rfl) ?_
    refine gt_100 E hM hq1 lk_6_14 dX12_want_12 ?_
    obtain ⟨ha5, hf⟩ := jif hf
    refine jiald E hM ha5 dX12_want_15 ?_
    refine lv_iload_n hx hb dX12_want_16 rfl (lv_at hl 1 rfl) ?_
    refine lv_icmp_ne (tgt := 33) hx hb dX12_want_17 (by decide) (fun c6 => ?_) (fun c6 => ?_)
    · have hf := jf c6 hf
      refine lv_aload_n hx hb dX12_want_33 rfl (lv_at hl 0 rfl) ?_
      obtain ⟨S7, hc8, hf⟩ := jb hf
      refine jbackV hM (jrunV E hM ci_X12_wrong (C_X12_wrong hc8) lk_7_213 hq1 (by decide) rfl hl.1 rfl rfl (Nat.le_of_ble_eq_true rfl) ⟨Nat.le_of_ble_eq_true rfl, Nat.le_of_ble_eq_true rfl⟩ ⟨Nat.le_refl _, Nat.le_refl _⟩ dX12_want_34) (fun H locs hM => ?_)
      exact jvret (jrv hf) E hM dX12_want_37
    · have hf := jt c6 hf
      refine lv_aload_n hx hb dX12_want_20 rfl (lv_at hl 0 rfl) ?_
      refine lv_dup hx hb dX12_want_21 rfl ?_
      refine gt_100 E hM hq1 lk_6_14 dX12_want_22 ?_
      refine lv_iconst (v := (1 : Int32)) hx hb dX12_want_25 (by decide) ?_
      refine lv_iadd hx hb dX12_want_26 ?_
      refine pt_100 E hM hq1 lk_6_14 dX12_want_27 (fun H locs S9 eS9 hM => ?_)
      have hf := jlet_y eS9 hf
      refine lv_goto (tgt := 37) hx hb dX12_want_30 (by decide) ?_
      exact jvret (jrv hf) E hM dX12_want_37
set_option maxRecDepth 100000 in
theorem C_X12_want {l : Launch} {g : jG} {a0 : Nat} {a1 : Int32} {S : jM} {SS : jM} (hf : f_X12_want a0 a1 S = some SS) : jMet l g yX12_want cX12_want 2 none 3 0 0 [.ref (g.2.2 + a0), .int a1] S (jQv g SS) := by
  refine jof (by decide +kernel) (Nat.le_of_ble_eq_true rfl) ?_
  intro p e s m below meth c E hM ls hl
  have hl : lv_has ls 2 [(0, .ref (g.2.2 + a0)),(1, .int a1)] := hl
  exact B_X12_want_0 E hf hM hl
-- PensionHouseModel.operator(I)I  mode M
noncomputable def f_X12_operator (v0 : Nat) (v1 : Int32) (S : jM) : Option (Int32 × jM) := if jK v0 = 10 then jbd (f_X12_part v0 S) (fun x1 S2 => if x1 = 0 then some ((-1 : Int32), S2) else (f_X12_now v0 S2).bind (fun x6 => jbd (f_X12_node v0 x6 S2) (fun x8 S9 => jlet (jsI S9 100 v0 ((jI S9 100 v0) + (1 : Int32))) (fun S11 => (jR S11 104 v0).bind (fun r12 => if jA r12 13 x8 = true then jlet (jrI S11 r12 (upd (jAI S11 r12) (x8).toNatClampNeg v1)) (fun S15 => some (x8, S15)) else none))))) else none
set_option maxRecDepth 100000 in
set_option maxHeartbeats 4000000 in
theorem B_X12_operator_0 {p : Program} {l : Launch} {e : Env} {s : State} {m : MethodId} {args : Array Value} {below : List Frame} {meth : Method} {c : Code} {g : jG} {rr : Int32} {SS : jM} {v0 : Nat} {v1 : Int32} {S : jM} (E : jEnv p s m args meth c cX12_operator "PensionHouseModel" (some .int) 3 g)  {H : Heap} {locs : List Loc} {ls : Array Slot} (hf : f_X12_operator v0 v1 S = some (rr, SS)) (hM : jAt g S s H locs) (hl : lv_has ls 3 [(0, .ref (g.2.2 + v0)), (1, .int v1)]) : W p l e (jRm 3 0 0) s m args below meth c H locs 0 0 (MQ below (jQi g rr SS) args s 0 0 (jA0 g)) (F0 m 0 ls []) := by
  obtain ⟨hx, hb, hml, -, hts, hown, hK, -, hstr⟩ := id E
  unfold f_X12_operator at hf
  refine lv_aload_n hx hb dX12_operator_0 rfl (lv_at hl 0 rfl) ?_
  obtain ⟨hq4, hf⟩ := jif hf
  obtain ⟨x1, S2, hc3, hf⟩ := jbd_e hf
  refine jbackI hM (jrunV E hM ci_X12_part (C_X12_part hc3) lk_8_11 hq4 (by decide) rfl hl.1 rfl rfl (Nat.le_of_ble_eq_true rfl) ⟨Nat.le_of_ble_eq_true rfl, Nat.le_of_ble_eq_true rfl⟩ ⟨Nat.le_refl _, Nat.le_refl _⟩ dX12_operator_1) (fun H locs hM => ?_)
  refine lv_if_ne (tgt := 9) hx hb dX12_operator_4 (by decide) (fun c5 => ?_) (fun c5 => ?_)
  · have hf := jf c5 hf
    refine lv_aload_n hx hb dX12_operator_9 rfl (lv_at hl 0 rfl) ?_
    refine lv_aload_n hx hb dX12_operator_10 rfl (lv_at hl 0 rfl) ?_
    obtain ⟨x6, hc7, hf⟩ := jb hf
    refine jbackI hM (jrunV E hM ci_X12_now (C_X12_now hc7) lk_7_209 hq4 (by decide) rfl hl.1 rfl rfl (Nat.le_of_ble_eq_true rfl) ⟨Nat.le_of_ble_eq_true rfl, Nat.le_of_ble_eq_true rfl⟩ ⟨Nat.le_refl _, Nat.le_refl _⟩ dX12_operator_11) (fun H locs hM => ?_)
    obtain ⟨x8, S9, hc10, hf⟩ := jbd_e hf
    refine jbackI hM (jrunV E hM ci_X12_node (C_X12_node hc10) lk_8_15 hq4 (by decide) rfl hl.1 rfl rfl (Nat.le_of_ble_eq_true rfl) ⟨Nat.le_of_ble_eq_true rfl, Nat.le_of_ble_eq_true rfl⟩ ⟨Nat.le_refl _, Nat.le_refl _⟩ dX12_operator_14) (fun H locs hM => ?_)
    refine lv_istore_n (lv' := [(2, .int x8), (0, .ref (g.2.2 + v0)), (1, .int v1)]) hx hb dX12_operator_17 rfl hl (by decide) rfl (fun ls hl => ?_)
    refine lv_aload_n hx hb dX12_operator_18 rfl (lv_at hl 1 rfl) ?_
    refine lv_dup hx hb dX12_operator_19 rfl ?_
    refine gt_100 E hM hq4 lk_6_14 dX12_operator_20 ?_
    refine lv_iconst (v := (1 : Int32)) hx hb dX12_operator_23 (by decide) ?_
    refine lv_iadd hx hb dX12_operator_24 ?_
    refine pt_100 E hM hq4 lk_6_14 dX12_operator_25 (fun H locs S11 eS11 hM => ?_)
    have hf := jlet_y eS11 hf
    refine lv_aload_n hx hb dX12_operator_28 rfl (lv_at hl 1 rfl) ?_
    refine gt_104 E hM hq4 lk_6_18 dX12_operator_29 ?_
    obtain ⟨r12, hr13, hf⟩ := jb hf
    rw [hr13]
    show W p l e _ s m args below meth c H locs 0 0 _ (F0 m _ ls (.ref (g.2.2 + r12) :: _))
    refine lv_iload_n hx hb dX12_operator_32 rfl (lv_at hl 0 rfl) ?_
    refine lv_iload_n hx hb dX12_operator_33 rfl (lv_at hl 2 rfl) ?_
    obtain ⟨ha14, hf⟩ := jif hf
    refine jiast E hM ha14 dX12_operator_34 (fun H locs S15 eS15 hM => ?_)
    have hf := jlet_y eS15 hf
    refine lv_iload_n hx hb dX12_operator_35 rfl (lv_at hl 0 rfl) ?_
    exact jireti (jr2 hf) E hM dX12_operator_36
  · have hf := jt c5 hf
    refine lv_iconst (v := (-1 : Int32)) hx hb dX12_operator_7 (by decide) ?_
    exact jireti (jr2 hf) E hM dX12_operator_8
set_option maxRecDepth 100000 in
theorem C_X12_operator {l : Launch} {g : jG} {a0 : Nat} {a1 : Int32} {S : jM} {rr : Int32} {SS : jM} (hf : f_X12_operator a0 a1 S = some (rr, SS)) : jMet l g yX12_operator cX12_operator 3 (some .int) 3 0 0 [.ref (g.2.2 + a0), .int a1] S (jQi g rr SS) := by
  refine jof (by decide +kernel) (Nat.le_of_ble_eq_true rfl) ?_
  intro p e s m below meth c E hM ls hl
  have hl : lv_has ls 3 [(0, .ref (g.2.2 + a0)),(1, .int a1)] := hl
  exact B_X12_operator_0 E hf hM hl
-- PensionHouseModel.findRule(IJ)I  mode R
noncomputable def f_X12_findRule_3 : Nat → Nat → Int32 → Int64 → Int32 → jM → Option Int32
  | 0, _, _, _, _, _ => none
  | n + 1, v0, v1, v2, v4, S => if jK v0 = 10 then (jR S 110 v0).bind (fun r2 => if jA r2 13 v1 = true then if (jAI S r2 (v1).toNatClampNeg) ≤ v4 then some (-1 : Int32) else (jR S 111 v0).bind (fun r6 => if jA r6 14 (((24 : Int32) * v1) + v4) = true then if (jAL S r6 (((24 : Int32) * v1) + v4).toNatClampNeg) = v2 then some v4 else jlet (v4 + (1 : Int32)) (fun x10 => (f_X12_findRule_3 n) v0 v1 v2 x10 S) else none) else none) else none
noncomputable def f_X12_findRule (v0 : Nat) (v1 : Int32) (v2 : Int64) (S : jM) : Option Int32 := f_X12_findRule_3 1100000 v0 v1 v2 (0 : Int32) S
set_option maxRecDepth 100000 in
set_option maxHeartbeats 4000000 in
theorem B_X12_findRule_3 {p : Program} {l : Launch} {e : Env} {s : State} {m : MethodId} {args : Array Value} {below : List Frame} {meth : Method} {c : Code} {g : jG} {rr : Int32} {S : jM} (E : jEnv p s m args meth c cX12_findRule "PensionHouseModel" (some .int) 5 g)  : ∀ (n : Nat) (v0 : Nat) (v1 : Int32) (v2 : Int64) (v4 : Int32) (H : Heap) (locs : List Loc) (ls : Array Slot), f_X12_findRule_3 n v0 v1 v2 v4 S = some rr → jAt g S s H locs → lv_has ls 5 [(0, .ref (g.2.2 + v0)), (1, .int v1), (2, .long v2), (4, .int v4)] → W p l e (jRm 1 0 0) s m args below meth c H locs 0 0 (MQ below (jQi g rr S) args s 0 0 (jA0 g)) (F0 m 3 ls []) := by
  obtain ⟨hx, hb, hml, -, hts, hown, hK, -, hstr⟩ := id E
  intro n
  induction n with
  | zero => intro v0 v1 v2 v4 H locs ls hf hM hl; rw [f_X12_findRule_3] at hf; cases hf
  | succ n ih =>
    intro v0 v1 v2 v4 H locs ls hf hM hl
    rw [f_X12_findRule_3] at hf
    refine lv_iload hx hb dX12_findRule_3 (lv_at hl 3 rfl) ?_
    refine lv_aload_n hx hb dX12_findRule_5 rfl (lv_at hl 0 rfl) ?_
    obtain ⟨hq1, hf⟩ := jif hf
    refine gt_110 E hM hq1 lk_6_24 dX12_findRule_6 ?_
    obtain ⟨r2, hr3, hf⟩ := jb hf
    rw [hr3]
    show W p l e _ s m args below meth c H locs 0 0 _ (F0 m _ ls (.ref (g.2.2 + r2) :: _))
    refine lv_iload_n hx hb dX12_findRule_9 rfl (lv_at hl 1 rfl) ?_
    obtain ⟨ha4, hf⟩ := jif hf
    refine jiald E hM ha4 dX12_findRule_10 ?_
    refine lv_icmp_ge (tgt := 40) hx hb dX12_findRule_11 (by decide) (fun c5 => ?_) (fun c5 => ?_)
    · have hf := jt c5 hf
      refine lv_iconst (v := (-1 : Int32)) hx hb dX12_findRule_40 (by decide) ?_
      exact jireti (jr1 hf) E hM dX12_findRule_41
    · have hf := jf c5 hf
      refine lv_aload_n hx hb dX12_findRule_14 rfl (lv_at hl 0 rfl) ?_
      refine gt_111 E hM hq1 lk_6_25 dX12_findRule_15 ?_
      obtain ⟨r6, hr7, hf⟩ := jb hf
      rw [hr7]
      show W p l e _ s m args below meth c H locs 0 0 _ (F0 m _ ls (.ref (g.2.2 + r6) :: _))
      refine lv_bipush (v := (24 : Int32)) hx hb dX12_findRule_18 (by decide) ?_
      refine lv_iload_n hx hb dX12_findRule_20 rfl (lv_at hl 1 rfl) ?_
      refine lv_imul hx hb dX12_findRule_21 ?_
      refine lv_iload hx hb dX12_findRule_22 (lv_at hl 3 rfl) ?_
      refine lv_iadd hx hb dX12_findRule_24 ?_
      obtain ⟨ha8, hf⟩ := jif hf
      refine jlald E hM ha8 dX12_findRule_25 ?_
      refine lv_lload_n hx hb dX12_findRule_26 rfl (lv_at hl 2 rfl) ?_
      refine jl_ne (tgt := 34) hx hb dX12_findRule_27 dX12_findRule_28 (by decide) (fun c9 => ?_) (fun c9 => ?_)
      · have hf := jf c9 hf
        obtain ⟨x10, ex10⟩ : ∃ z, z = v4 + (1 : Int32) := ⟨_, rfl⟩
        have hf := jlet_y ex10 hf
        refine lv_iinc (v := x10) (lv' := [(4, .int x10), (0, .ref (g.2.2 + v0)), (1, .int v1), (2, .long v2)]) hx hb dX12_findRule_34 hl (k := 3) rfl (by rw [ex10]; rfl) (by decide) rfl (fun ls hl => ?_)
        refine lv_goto (tgt := 3) hx hb dX12_findRule_37 (by decide) ?_
        exact ih v0 v1 v2 x10 _ _ _ hf hM (lv_sub hl [1, 2, 3, 0] rfl)
      · have hf := jt c9 hf
        refine lv_iload hx hb dX12_findRule_31 (lv_at hl 3 rfl) ?_
        exact jireti (jr1 hf) E hM dX12_findRule_33
set_option maxRecDepth 100000 in
set_option maxHeartbeats 4000000 in
theorem B_X12_findRule_0 {p : Program} {l : Launch} {e : Env} {s : State} {m : MethodId} {args : Array Value} {below : List Frame} {meth : Method} {c : Code} {g : jG} {rr : Int32} {S : jM} {v0 : Nat} {v1 : Int32} {v2 : Int64} (E : jEnv p s m args meth c cX12_findRule "PensionHouseModel" (some .int) 5 g)  {H : Heap} {locs : List Loc} {ls : Array Slot} (hf : f_X12_findRule v0 v1 v2 S = some rr) (hM : jAt g S s H locs) (hl : lv_has ls 5 [(0, .ref (g.2.2 + v0)), (1, .int v1), (2, .long v2)]) : W p l e (jRm 1 0 0) s m args below meth c H locs 0 0 (MQ below (jQi g rr S) args s 0 0 (jA0 g)) (F0 m 0 ls []) := by
  obtain ⟨hx, hb, hml, -, hts, hown, hK, -, hstr⟩ := id E
  unfold f_X12_findRule at hf
  refine lv_iconst (v := (0 : Int32)) hx hb dX12_findRule_0 (by decide) ?_
  refine lv_istore (lv' := [(4, .int (0 : Int32)), (0, .ref (g.2.2 + v0)), (1, .int v1), (2, .long v2)]) hx hb dX12_findRule_1 hl (by decide) rfl (fun ls hl => ?_)
  exact B_X12_findRule_3 E  1100000 v0 v1 v2 (0 : Int32) _ _ _ hf hM (lv_sub hl [1, 2, 3, 0] rfl)
set_option maxRecDepth 100000 in
theorem C_X12_findRule {l : Launch} {g : jG} {a0 : Nat} {a1 : Int32} {a2 : Int64} {S : jM} {rr : Int32} (hf : f_X12_findRule a0 a1 a2 S = some rr) : jMet l g yX12_findRule cX12_findRule 5 (some .int) 1 0 0 [.ref (g.2.2 + a0), .int a1, .long a2] S (jQi g rr S) := by
  refine jof (by decide +kernel) (Nat.le_of_ble_eq_true rfl) ?_
  intro p e s m below meth c E hM ls hl
  have hl : lv_has ls 5 [(0, .ref (g.2.2 + a0)),(1, .int a1),(2, .long a2)] := hl
  exact B_X12_findRule_0 E hf hM hl
-- PensionHouseModel.named()I  mode M
noncomputable def f_X12_named_97 (v0 : Nat) (v1 : Int64) (v5 : Int32) (t0 : Nat) (t1 : Int32) (t2 : Int32) (S : jM) : Option (Int32 × jM) := if jA t0 13 t1 = true then jlet (jrI S t0 (upd (jAI S t0) (t1).toNatClampNeg t2)) (fun S2 => if jK v0 = 10 then (jR S2 107 v0).bind (fun r4 => if jA r4 14 v5 = true then jlet (jrL S2 r4 (vp_updL (jAL S2 r4) (v5).toNatClampNeg v1)) (fun S7 => jlet (jsI S7 100 v0 ((jI S7 100 v0) + (1 : Int32))) (fun S8 => some (v5, S8))) else none) else none) else none
noncomputable def f_X12_named_71 (v0 : Nat) (v1 : Int64) (v3 : Int32) (v4 : Int32) (t0 : Nat) (t1 : Int32) (S : jM) : Option (Int32 × jM) := if jK t0 = 10 then jbd (f_X12_node t0 t1 S) (fun x9 S10 => if jK v0 = 10 then (jR S10 104 v0).bind (fun r14 => if v3 < 0 then f_X12_named_97 v0 v1 x9 r14 x9 v4 S10 else (jR S10 116 v0).bind (fun r17 => if jA r17 13 v3 = true then f_X12_named_97 v0 v1 x9 r14 x9 (jAI S10 r17 (v3).toNatClampNeg) S10 else none)) else none) else none
noncomputable def f_X12_named_38 (v0 : Nat) (v1 : Int64) (v3 : Int32) (S : jM) : Option (Int32 × jM) := if jK v0 = 10 then (f_X12_findRule v0 (jI S 113 v0) v1 S).bind (fun x21 => if v3 < 0 then if x21 < 0 then f_X12_named_71 v0 v1 v3 x21 v0 (50 : Int32) S else f_X12_named_71 v0 v1 v3 x21 v0 (49 : Int32) S else f_X12_named_71 v0 v1 v3 x21 v0 (48 : Int32) S) else none
noncomputable def f_X12_named_17 : Nat → Nat → Int64 → Int32 → jM → Option (Int32 × jM)
  | 0, _, _, _, _ => none
  | n + 1, v0, v1, v3, S => if v3 < 0 then f_X12_named_38 v0 v1 v3 S else if jK v0 = 10 then (jR S 115 v0).bind (fun r27 => if jA r27 14 v3 = true then if (jAL S r27 (v3).toNatClampNeg) = v1 then f_X12_named_38 v0 v1 v3 S else jlet (v3 + (-1 : Int32)) (fun x31 => (f_X12_named_17 n) v0 v1 x31 S) else none) else none
noncomputable def f_X12_named (v0 : Nat) (S : jM) : Option (Int32 × jM) := if jK v0 = 10 then (jR S 97 v0).bind (fun r33 => if jA r33 14 (jI S 100 v0) = true then jlet (jAL S r33 (jI S 100 v0).toNatClampNeg) (fun x36 => jlet ((jI S 117 v0) - (1 : Int32)) (fun x37 => f_X12_named_17 1100000 v0 x36 x37 S)) else none) else none
set_option maxRecDepth 100000 in
set_option maxHeartbeats 4000000 in
theorem B_X12_named_97 {p : Program} {l : Launch} {e : Env} {s : State} {m : MethodId} {args : Array Value} {below : List Frame} {meth : Method} {c : Code} {g : jG} {rr : Int32} {SS : jM} {v0 : Nat} {v1 : Int64} {v5 : Int32} {t0 : Nat} {t1 : Int32} {t2 : Int32} {S : jM} (E : jEnv p s m args meth c cX12_named "PensionHouseModel" (some .int) 6 g)  {H : Heap} {locs : List Loc} {ls : Array Slot} (hf : f_X12_named_97 v0 v1 v5 t0 t1 t2 S = some (rr, SS)) (hM : jAt g S s H locs) (hl : lv_has ls 6 [(0, .ref (g.2.2 + v0)), (1, .long v1), (5, .int v5)]) : W p l e (jRm 2 0 0) s m args below meth c H locs 0 0 (MQ below (jQi g rr SS) args s 0 0 (jA0 g)) (F0 m 97 ls [.int t2, .int t1, .ref (g.2.2 + t0)]) := by
  obtain ⟨hx, hb, hml, -, hts, hown, hK, -, hstr⟩ := id E
  unfold f_X12_named_97 at hf
  obtain ⟨ha1, hf⟩ := jif hf
  refine jiast E hM ha1 dX12_named_97 (fun H locs S2 eS2 hM => ?_)
  have hf := jlet_y eS2 hf
  refine lv_aload_n hx hb dX12_named_98 rfl (lv_at hl 0 rfl) ?_
  obtain ⟨hq3, hf⟩ := jif hf
  refine gt_107 E hM hq3 lk_6_21 dX12_named_99 ?_
  obtain ⟨r4, hr5, hf⟩ := jb hf
  rw [hr5]
  show W p l e _ s m args below meth c H locs 0 0 _ (F0 m _ ls (.ref (g.2.2 + r4) :: _))
  refine lv_iload hx hb dX12_named_102 (lv_at hl 2 rfl) ?_
  refine lv_lload_n hx hb dX12_named_104 rfl (lv_at hl 1 rfl) ?_
  obtain ⟨ha6, hf⟩ := jif hf
  refine jlast E hM ha6 dX12_named_105 (fun H locs S7 eS7 hM => ?_)
  have hf := jlet_y eS7 hf
  refine lv_aload_n hx hb dX12_named_106 rfl (lv_at hl 0 rfl) ?_
  refine lv_dup hx hb dX12_named_107 rfl ?_
  refine gt_100 E hM hq3 lk_6_14 dX12_named_108 ?_
  refine lv_iconst (v := (1 : Int32)) hx hb dX12_named_111 (by decide) ?_
  refine lv_iadd hx hb dX12_named_112 ?_
  refine pt_100 E hM hq3 lk_6_14 dX12_named_113 (fun H locs S8 eS8 hM => ?_)
  have hf := jlet_y eS8 hf
  refine lv_iload hx hb dX12_named_116 (lv_at hl 2 rfl) ?_
  exact jireti (jr2 hf) E hM dX12_named_118
set_option maxRecDepth 100000 in
set_option maxHeartbeats 4000000 in
theorem B_X12_named_71 {p : Program} {l : Launch} {e : Env} {s : State} {m : MethodId} {args : Array Value} {below : List Frame} {meth : Method} {c : Code} {g : jG} {rr : Int32} {SS : jM} {v0 : Nat} {v1 : Int64} {v3 : Int32} {v4 : Int32} {t0 : Nat} {t1 : Int32} {S : jM} (E : jEnv p s m args meth c cX12_named "PensionHouseModel" (some .int) 6 g)  {H : Heap} {locs : List Loc} {ls : Array Slot} (hf : f_X12_named_71 v0 v1 v3 v4 t0 t1 S = some (rr, SS)) (hM : jAt g S s H locs) (hl : lv_has ls 6 [(0, .ref (g.2.2 + v0)), (1, .long v1), (3, .int v3), (4, .int v4)]) : W p l e (jRm 2 0 0) s m args below meth c H locs 0 0 (MQ below (jQi g rr SS) args s 0 0 (jA0 g)) (F0 m 71 ls [.int t1, .ref (g.2.2 + t0)]) := by
  obtain ⟨hx, hb, hml, -, hts, hown, hK, -, hstr⟩ := id E
  unfold f_X12_named_71 at hf
  obtain ⟨hq12, hf⟩ := jif hf
  obtain ⟨x9, S10, hc11, hf⟩ := jbd_e hf
  refine jbackI hM (jrunV E hM ci_X12_node (C_X12_node hc11) lk_8_15 hq12 (by decide) rfl hl.1 rfl rfl (Nat.le_of_ble_eq_true rfl) ⟨Nat.le_of_ble_eq_true rfl, Nat.le_of_ble_eq_true rfl⟩ ⟨Nat.le_refl _, Nat.le_refl _⟩ dX12_named_71) (fun H locs hM => ?_)
  refine lv_istore (lv' := [(5, .int x9), (0, .ref (g.2.2 + v0)), (1, .long v1), (3, .int v3), (4, .int v4)]) hx hb dX12_named_74 hl (by decide) rfl (fun ls hl => ?_)
  refine lv_aload_n hx hb dX12_named_76 rfl (lv_at hl 1 rfl) ?_
  obtain ⟨hq13, hf⟩ := jif hf
  refine gt_104 E hM hq13 lk_6_18 dX12_named_77 ?_
  obtain ⟨r14, hr15, hf⟩ := jb hf
  rw [hr15]
  show W p l e _ s m args below meth c H locs 0 0 _ (F0 m _ ls (.ref (g.2.2 + r14) :: _))
  refine lv_iload hx hb dX12_named_80 (lv_at hl 0 rfl) ?_
  refine lv_iload_n hx hb dX12_named_82 rfl (lv_at hl 3 rfl) ?_
  refine lv_if_lt (tgt := 95) hx hb dX12_named_83 (by decide) (fun c16 => ?_) (fun c16 => ?_)
  · have hf := jt c16 hf
    refine lv_iload hx hb dX12_named_95 (lv_at hl 4 rfl) ?_
    exact B_X12_named_97 E  hf hM (lv_sub hl [1, 2, 0] rfl)
  · have hf := jf c16 hf
    refine lv_aload_n hx hb dX12_named_86 rfl (lv_at hl 1 rfl) ?_
    refine gt_116 E hM hq13 lk_6_30 dX12_named_87 ?_
    obtain ⟨r17, hr18, hf⟩ := jb hf
    rw [hr18]
    show W p l e _ s m args below meth c H locs 0 0 _ (F0 m _ ls (.ref (g.2.2 + r17) :: _))
    refine lv_iload_n hx hb dX12_named_90 rfl (lv_at hl 3 rfl) ?_
    obtain ⟨ha19, hf⟩ := jif hf
    refine jiald E hM ha19 dX12_named_91 ?_
    refine lv_goto (tgt := 97) hx hb dX12_named_92 (by decide) ?_
    exact B_X12_named_97 E  hf hM (lv_sub hl [1, 2, 0] rfl)
set_option maxRecDepth 100000 in
set_option maxHeartbeats 4000000 in
theorem B_X12_named_38 {p : Program} {l : Launch} {e : Env} {s : State} {m : MethodId} {args : Array Value} {below : List Frame} {meth : Method} {c : Code} {g : jG} {rr : Int32} {SS : jM} {v0 : Nat} {v1 : Int64} {v3 : Int32} {S : jM} (E : jEnv p s m args meth c cX12_named "PensionHouseModel" (some .int) 6 g)  {H : Heap} {locs : List Loc} {ls : Array Slot} (hf : f_X12_named_38 v0 v1 v3 S = some (rr, SS)) (hM : jAt g S s H locs) (hl : lv_has ls 6 [(0, .ref (g.2.2 + v0)), (1, .long v1), (3, .int v3)]) : W p l e (jRm 2 0 0) s m args below meth c H locs 0 0 (MQ below (jQi g rr SS) args s 0 0 (jA0 g)) (F0 m 38 ls []) := by
  obtain ⟨hx, hb, hml, -, hts, hown, hK, -, hstr⟩ := id E
  unfold f_X12_named_38 at hf
  refine lv_aload_n hx hb dX12_named_38 rfl (lv_at hl 0 rfl) ?_
  refine lv_aload_n hx hb dX12_named_39 rfl (lv_at hl 0 rfl) ?_
  obtain ⟨hq20, hf⟩ := jif hf
  refine gt_113 E hM hq20 lk_6_27 dX12_named_40 ?_
  refine lv_lload_n hx hb dX12_named_43 rfl (lv_at hl 1 rfl) ?_
  obtain ⟨x21, hc22, hf⟩ := jb hf
  refine jbackI hM (jrunV E hM ci_X12_findRule (C_X12_findRule hc22) lk_7_229 hq20 (by decide) rfl hl.1 rfl rfl (Nat.le_of_ble_eq_true rfl) ⟨Nat.le_of_ble_eq_true rfl, Nat.le_of_ble_eq_true rfl⟩ ⟨Nat.le_refl _, Nat.le_refl _⟩ dX12_named_44) (fun H locs hM => ?_)
  refine lv_istore (lv' := [(4, .int x21), (0, .ref (g.2.2 + v0)), (1, .long v1), (3, .int v3)]) hx hb dX12_named_47 hl (by decide) rfl (fun ls hl => ?_)
  refine lv_aload_n hx hb dX12_named_49 rfl (lv_at hl 1 rfl) ?_
  refine lv_iload_n hx hb dX12_named_50 rfl (lv_at hl 3 rfl) ?_
  refine lv_if_lt (tgt := 59) hx hb dX12_named_51 (by decide) (fun c23 => ?_) (fun c23 => ?_)
  · have hf := jt c23 hf
    refine lv_iload hx hb dX12_named_59 (lv_at hl 0 rfl) ?_
    refine lv_if_lt (tgt := 69) hx hb dX12_named_61 (by decide) (fun c24 => ?_) (fun c24 => ?_)
    · have hf := jt c24 hf
      refine lv_bipush (v := (50 : Int32)) hx hb dX12_named_69 (by decide) ?_
      exact B_X12_named_71 E  hf hM (lv_sub hl [1, 2, 3, 0] rfl)
    · have hf := jf c24 hf
      refine lv_bipush (v := (49 : Int32)) hx hb dX12_named_64 (by decide) ?_
      refine lv_goto (tgt := 71) hx hb dX12_named_66 (by decide) ?_
      exact B_X12_named_71 E  hf hM (lv_sub hl [1, 2, 3, 0] rfl)
  · have hf := jf c23 hf
    refine lv_bipush (v := (48 : Int32)) hx hb dX12_named_54 (by decide) ?_
    refine lv_goto (tgt := 71) hx hb dX12_named_56 (by decide) ?_
    exact B_X12_named_71 E  hf hM (lv_sub hl [1, 2, 3, 0] rfl)
set_option maxRecDepth 100000 in
set_option maxHeartbeats 4000000 in
theorem B_X12_named_17 {p : Program} {l : Launch} {e : Env} {s : State} {m : MethodId} {args : Array Value} {below : List Frame} {meth : Method} {c : Code} {g : jG} {rr : Int32} {SS : jM} (E : jEnv p s m args meth c cX12_named "PensionHouseModel" (some .int) 6 g)  : ∀ (n : Nat) (v0 : Nat) (v1 : Int64) (v3 : Int32) (S : jM) (H : Heap) (locs : List Loc) (ls : Array Slot), f_X12_named_17 n v0 v1 v3 S = some (rr, SS) → jAt g S s H locs → lv_has ls 6 [(0, .ref (g.2.2 + v0)), (1, .long v1), (3, .int v3)] → W p l e (jRm 2 0 0) s m args below meth c H locs 0 0 (MQ below (jQi g rr SS) args s 0 0 (jA0 g)) (F0 m 17 ls []) := by
  obtain ⟨hx, hb, hml, -, hts, hown, hK, -, hstr⟩ := id E
  intro n
  induction n with
  | zero => intro v0 v1 v3 S H locs ls hf hM hl; rw [f_X12_named_17] at hf; cases hf
  | succ n ih =>
    intro v0 v1 v3 S H locs ls hf hM hl
    rw [f_X12_named_17] at hf
    refine lv_iload_n hx hb dX12_named_17 rfl (lv_at hl 2 rfl) ?_
    refine lv_if_lt (tgt := 38) hx hb dX12_named_18 (by decide) (fun c25 => ?_) (fun c25 => ?_)
    · have hf := jt c25 hf
      exact B_X12_named_38 E  hf hM (lv_sub hl [0, 1, 2] rfl)
    · have hf := jf c25 hf
      refine lv_aload_n hx hb dX12_named_21 rfl (lv_at hl 0 rfl) ?_
      obtain ⟨hq26, hf⟩ := jif hf
      refine gt_115 E hM hq26 lk_6_29 dX12_named_22 ?_
      obtain ⟨r27, hr28, hf⟩ := jb hf
      rw [hr28]
      show W p l e _ s m args below meth c H locs 0 0 _ (F0 m _ ls (.ref (g.2.2 + r27) :: _))
      refine lv_iload_n hx hb dX12_named_25 rfl (lv_at hl 2 rfl) ?_
      obtain ⟨ha29, hf⟩ := jif hf
      refine jlald E hM ha29 dX12_named_26 ?_
      refine lv_lload_n hx hb dX12_named_27 rfl (lv_at hl 1 rfl) ?_
      refine jl_eq (tgt := 38) hx hb dX12_named_28 dX12_named_29 (by decide) (fun c30 => ?_) (fun c30 => ?_)
      · have hf := jt c30 hf
        exact B_X12_named_38 E  hf hM (lv_sub hl [0, 1, 2] rfl)
      · have hf := jf c30 hf
        obtain ⟨x31, ex31⟩ : ∃ z, z = v3 + (-1 : Int32) := ⟨_, rfl⟩
        have hf := jlet_y ex31 hf
        refine lv_iinc (v := x31) (lv' := [(3, .int x31), (0, .ref (g.2.2 + v0)), (1, .long v1)]) hx hb dX12_named_32 hl (k := 2) rfl (by rw [ex31]; rfl) (by decide) rfl (fun ls hl => ?_)
        refine lv_goto (tgt := 17) hx hb dX12_named_35 (by decide) ?_
        exact ih v0 v1 x31 S _ _ _ hf hM (lv_sub hl [1, 2, 0] rfl)
set_option maxRecDepth 100000 in
set_option maxHeartbeats 4000000 in
theorem B_X12_named_0 {p : Program} {l : Launch} {e : Env} {s : State} {m : MethodId} {args : Array Value} {below : List Frame} {meth : Method} {c : Code} {g : jG} {rr : Int32} {SS : jM} {v0 : Nat} {S : jM} (E : jEnv p s m args meth c cX12_named "PensionHouseModel" (some .int) 6 g)  {H : Heap} {locs : List Loc} {ls : Array Slot} (hf : f_X12_named v0 S = some (rr, SS)) (hM : jAt g S s H locs) (hl : lv_has ls 6 [(0, .ref (g.2.2 + v0))]) : W p l e (jRm 2 0 0) s m args below meth c H locs 0 0 (MQ below (jQi g rr SS) args s 0 0 (jA0 g)) (F0 m 0 ls []) := by
  obtain ⟨hx, hb, hml, -, hts, hown, hK, -, hstr⟩ := id E
  unfold f_X12_named at hf
  refine lv_aload_n hx hb dX12_named_0 rfl (lv_at hl 0 rfl) ?_
  obtain ⟨hq32, hf⟩ := jif hf
  refine gt_97 E hM hq32 lk_6_11 dX12_named_1 ?_
  obtain ⟨r33, hr34, hf⟩ := jb hf
  rw [hr34]
  show W p l e _ s m args below meth c H locs 0 0 _ (F0 m _ ls (.ref (g.2.2 + r33) :: _))
  refine lv_aload_n hx hb dX12_named_4 rfl (lv_at hl 0 rfl) ?_
  refine gt_100 E hM hq32 lk_6_14 dX12_named_5 ?_
  obtain ⟨ha35, hf⟩ := jif hf
  refine jlald E hM ha35 dX12_named_8 ?_
  refine lv_topl (fun x36 ex36 => ?_)
  have hf := jlet_y ex36 hf
  refine lv_lstore_n (lv' := [(1, .long x36), (0, .ref (g.2.2 + v0))]) hx hb dX12_named_9 rfl hl (by decide) rfl (fun ls hl => ?_)
  refine lv_aload_n hx hb dX12_named_10 rfl (lv_at hl 1 rfl) ?_
  refine gt_117 E hM hq32 lk_6_31 dX12_named_11 ?_
  refine lv_iconst (v := (1 : Int32)) hx hb dX12_named_14 (by decide) ?_
  refine lv_isub hx hb dX12_named_15 ?_
  refine lv_topi (fun x37 ex37 => ?_)
  have hf := jlet_y ex37 hf
  refine lv_istore_n (lv' := [(3, .int x37), (1, .long x36), (0, .ref (g.2.2 + v0))]) hx hb dX12_named_16 rfl hl (by decide) rfl (fun ls hl => ?_)
  exact B_X12_named_17 E  1100000 v0 x36 x37 S _ _ _ hf hM (lv_sub hl [2, 1, 0] rfl)
set_option maxRecDepth 100000 in
theorem C_X12_named {l : Launch} {g : jG} {a0 : Nat} {S : jM} {rr : Int32} {SS : jM} (hf : f_X12_named a0 S = some (rr, SS)) : jMet l g yX12_named cX12_named 6 (some .int) 2 0 0 [.ref (g.2.2 + a0)] S (jQi g rr SS) := by
  refine jof (by decide +kernel) (Nat.le_of_ble_eq_true rfl) ?_
  intro p e s m below meth c E hM ls hl
  have hl : lv_has ls 6 [(0, .ref (g.2.2 + a0))] := hl
  exact B_X12_named_0 E hf hM hl
-- PensionHouseModel.in(JJJ)Z  mode T
noncomputable def f_X12_in (v0 : Int64) (v2 : Int64) (v4 : Int64) : Int32 := if v0 < v2 then (0 : Int32) else if v4 < v0 then (0 : Int32) else (1 : Int32)
set_option maxRecDepth 100000 in
set_option maxHeartbeats 4000000 in
theorem B_X12_in_0 {p : Program} {l : Launch} {e : Env} {s : State} {m : MethodId} {args : Array Value} {below : List Frame} {meth : Method} {c : Code} {g : jG} {rr : Int32} {S : jM} {v0 : Int64} {v2 : Int64} {v4 : Int64} (E : jEnv p s m args meth c cX12_in "PensionHouseModel" (some .boolean) 6 g)  {H : Heap} {locs : List Loc} {ls : Array Slot} (hf : f_X12_in v0 v2 v4 = rr) (hM : jAt g S s H locs) (hl : lv_has ls 6 [(0, .long v0), (2, .long v2), (4, .long v4)]) : W p l e (jRm 1 0 0) s m args below meth c H locs 0 0 (MQ below (jQi g rr S) args s 0 0 (jA0 g)) (F0 m 0 ls []) := by
  obtain ⟨hx, hb, hml, -, hts, hown, hK, -, hstr⟩ := id E
  unfold f_X12_in at hf
  refine lv_lload_n hx hb dX12_in_0 rfl (lv_at hl 0 rfl) ?_
  refine lv_lload_n hx hb dX12_in_1 rfl (lv_at hl 1 rfl) ?_
  refine jl_lt (tgt := 17) hx hb dX12_in_2 dX12_in_3 (by decide) (fun c1 => ?_) (fun c1 => ?_)
  · have hf := jt c1 hf
    refine lv_iconst (v := (0 : Int32)) hx hb dX12_in_17 (by decide) ?_
    exact jiretz (jr0 hf) E hM (by decide) dX12_in_18
  · have hf := jf c1 hf
    refine lv_lload_n hx hb dX12_in_6 rfl (lv_at hl 0 rfl) ?_
    refine lv_lload hx hb dX12_in_7 (lv_at hl 2 rfl) ?_
    refine jl_gt (tgt := 17) hx hb dX12_in_9 dX12_in_10 (by decide) (fun c2 => ?_) (fun c2 => ?_)
    · have hf := jt c2 hf
      refine lv_iconst (v := (0 : Int32)) hx hb dX12_in_17 (by decide) ?_
      exact jiretz (jr0 hf) E hM (by decide) dX12_in_18
    · have hf := jf c2 hf
      refine lv_iconst (v := (1 : Int32)) hx hb dX12_in_13 (by decide) ?_
      refine lv_goto (tgt := 18) hx hb dX12_in_14 (by decide) ?_
      exact jiretz (jr0 hf) E hM (by decide) dX12_in_18
set_option maxRecDepth 100000 in
theorem C_X12_in {l : Launch} {g : jG} {a0 : Int64} {a2 : Int64} {a4 : Int64} {S : jM} {rr : Int32} (hf : f_X12_in a0 a2 a4 = rr) : jMet l g yX12_in cX12_in 6 (some .boolean) 1 0 0 [.long a0, .long a2, .long a4] S (jQi g rr S) := by
  refine jof (by decide +kernel) (Nat.le_of_ble_eq_true rfl) ?_
  intro p e s m below meth c E hM ls hl
  have hl : lv_has ls 6 [(0, .long a0),(2, .long a2),(4, .long a4)] := hl
  exact B_X12_in_0 E hf hM hl
-- PensionHouseModel.failing(I)I  mode M
noncomputable def f_X12_failing (v0 : Nat) (v1 : Int32) (S : jM) : Option (Int32 × jM) := if jK v0 = 10 then jlet (jsI S 126 v0 v1) (fun S2 => jlet (jsI S2 127 v0 (jI S2 122 v0)) (fun S3 => some ((-1 : Int32), S3))) else none
set_option maxRecDepth 100000 in
set_option maxHeartbeats 4000000 in
theorem B_X12_failing_0 {p : Program} {l : Launch} {e : Env} {s : State} {m : MethodId} {args : Array Value} {below : List Frame} {meth : Method} {c : Code} {g : jG} {rr : Int32} {SS : jM} {v0 : Nat} {v1 : Int32} {S : jM} (E : jEnv p s m args meth c cX12_failing "PensionHouseModel" (some .int) 2 g)  {H : Heap} {locs : List Loc} {ls : Array Slot} (hf : f_X12_failing v0 v1 S = some (rr, SS)) (hM : jAt g S s H locs) (hl : lv_has ls 2 [(0, .ref (g.2.2 + v0)), (1, .int v1)]) : W p l e (jRm 1 0 0) s m args below meth c H locs 0 0 (MQ below (jQi g rr SS) args s 0 0 (jA0 g)) (F0 m 0 ls []) := by
  obtain ⟨hx, hb, hml, -, hts, hown, hK, -, hstr⟩ := id E
  unfold f_X12_failing at hf
  refine lv_aload_n hx hb dX12_failing_0 rfl (lv_at hl 0 rfl) ?_
  refine lv_iload_n hx hb dX12_failing_1 rfl (lv_at hl 1 rfl) ?_
  obtain ⟨hq1, hf⟩ := jif hf
  refine pt_126 E hM hq1 lk_6_40 dX12_failing_2 (fun H locs S2 eS2 hM => ?_)
  have hf := jlet_y eS2 hf
  refine lv_aload_n hx hb dX12_failing_5 rfl (lv_at hl 0 rfl) ?_
  refine lv_aload_n hx hb dX12_failing_6 rfl (lv_at hl 0 rfl) ?_
  refine gt_122 E hM hq1 lk_6_36 dX12_failing_7 ?_
  refine pt_127 E hM hq1 lk_6_41 dX12_failing_10 (fun H locs S3 eS3 hM => ?_)
  have hf := jlet_y eS3 hf
  refine lv_iconst (v := (-1 : Int32)) hx hb dX12_failing_13 (by decide) ?_
  exact jireti (jr2 hf) E hM dX12_failing_14
set_option maxRecDepth 100000 in
theorem C_X12_failing {l : Launch} {g : jG} {a0 : Nat} {a1 : Int32} {S : jM} {rr : Int32} {SS : jM} (hf : f_X12_failing a0 a1 S = some (rr, SS)) : jMet l g yX12_failing cX12_failing 2 (some .int) 1 0 0 [.ref (g.2.2 + a0), .int a1] S (jQi g rr SS) := by
  refine jof (by decide +kernel) (Nat.le_of_ble_eq_true rfl) ?_
  intro p e s m below meth c E hM ls hl
  have hl : lv_has ls 2 [(0, .ref (g.2.2 + a0)),(1, .int a1)] := hl
  exact B_X12_failing_0 E hf hM hl
-- PensionHouseModel.counted(I)Z  mode M
noncomputable def f_X12_counted (v0 : Nat) (v1 : Int32) (S : jM) : Option (Int32 × jM) := if jK v0 = 10 then if ((jI S 123 v0) + v1) ≤ (400 : Int32) then jlet (jsI S 123 v0 ((jI S 123 v0) + v1)) (fun S3 => some ((1 : Int32), S3)) else jbd (f_X12_failing v0 (7 : Int32) S) (fun x4 S5 => some ((0 : Int32), S5)) else none
set_option maxRecDepth 100000 in
set_option maxHeartbeats 4000000 in
theorem B_X12_counted_0 {p : Program} {l : Launch} {e : Env} {s : State} {m : MethodId} {args : Array Value} {below : List Frame} {meth : Method} {c : Code} {g : jG} {rr : Int32} {SS : jM} {v0 : Nat} {v1 : Int32} {S : jM} (E : jEnv p s m args meth c cX12_counted "PensionHouseModel" (some .boolean) 2 g)  {H : Heap} {locs : List Loc} {ls : Array Slot} (hf : f_X12_counted v0 v1 S = some (rr, SS)) (hM : jAt g S s H locs) (hl : lv_has ls 2 [(0, .ref (g.2.2 + v0)), (1, .int v1)]) : W p l e (jRm 2 0 0) s m args below meth c H locs 0 0 (MQ below (jQi g rr SS) args s 0 0 (jA0 g)) (F0 m 0 ls []) := by
  obtain ⟨hx, hb, hml, -, hts, hown, hK, -, hstr⟩ := id E
  unfold f_X12_counted at hf
  refine lv_aload_n hx hb dX12_counted_0 rfl (lv_at hl 0 rfl) ?_
  obtain ⟨hq1, hf⟩ := jif hf
  refine gt_123 E hM hq1 lk_6_37 dX12_counted_1 ?_
  refine lv_iload_n hx hb dX12_counted_4 rfl (lv_at hl 1 rfl) ?_
  refine lv_iadd hx hb dX12_counted_5 ?_
  refine lv_sipush (v := (400 : Int32)) hx hb dX12_counted_6 (by decide) ?_
  refine lv_icmp_le (tgt := 21) hx hb dX12_counted_9 (by decide) (fun c2 => ?_) (fun c2 => ?_)
  · have hf := jt c2 hf
    refine lv_aload_n hx hb dX12_counted_21 rfl (lv_at hl 0 rfl) ?_
    refine lv_dup hx hb dX12_counted_22 rfl ?_
    refine gt_123 E hM hq1 lk_6_37 dX12_counted_23 ?_
    refine lv_iload_n hx hb dX12_counted_26 rfl (lv_at hl 1 rfl) ?_
    refine lv_iadd hx hb dX12_counted_27 ?_
    refine pt_123 E hM hq1 lk_6_37 dX12_counted_28 (fun H locs S3 eS3 hM => ?_)
    have hf := jlet_y eS3 hf
    refine lv_iconst (v := (1 : Int32)) hx hb dX12_counted_31 (by decide) ?_
    exact jiretz (jr2 hf) E hM (by decide) dX12_counted_32
  · have hf := jf c2 hf
    refine lv_aload_n hx hb dX12_counted_12 rfl (lv_at hl 0 rfl) ?_
    refine lv_bipush (v := (7 : Int32)) hx hb dX12_counted_13 (by decide) ?_
    obtain ⟨x4, S5, hc6, hf⟩ := jbd_e hf
    refine jbackI hM (jrunV E hM ci_X12_failing (C_X12_failing hc6) lk_8_87 hq1 (by decide) rfl hl.1 rfl rfl (Nat.le_of_ble_eq_true rfl) ⟨Nat.le_of_ble_eq_true rfl, Nat.le_of_ble_eq_true rfl⟩ ⟨Nat.le_refl _, Nat.le_refl _⟩ dX12_counted_15) (fun H locs hM => ?_)
    refine lv_pop hx hb dX12_counted_18 rfl ?_
    refine lv_iconst (v := (0 : Int32)) hx hb dX12_counted_19 (by decide) ?_
    exact jiretz (jr2 hf) E hM (by decide) dX12_counted_20
set_option maxRecDepth 100000 in
theorem C_X12_counted {l : Launch} {g : jG} {a0 : Nat} {a1 : Int32} {S : jM} {rr : Int32} {SS : jM} (hf : f_X12_counted a0 a1 S = some (rr, SS)) : jMet l g yX12_counted cX12_counted 2 (some .boolean) 2 0 0 [.ref (g.2.2 + a0), .int a1] S (jQi g rr SS) := by
  refine jof (by decide +kernel) (Nat.le_of_ble_eq_true rfl) ?_
  intro p e s m below meth c E hM ls hl
  have hl : lv_has ls 2 [(0, .ref (g.2.2 + a0)),(1, .int a1)] := hl
  exact B_X12_counted_0 E hf hM hl
-- PensionHouseModel.isKin(I)Z  mode T
noncomputable def f_X12_isKin (v0 : Int32) : Int32 := if v0 < (5 : Int32) then (0 : Int32) else if (7 : Int32) < v0 then (0 : Int32) else (1 : Int32)
set_option maxRecDepth 100000 in
set_option maxHeartbeats 4000000 in
theorem B_X12_isKin_0 {p : Program} {l : Launch} {e : Env} {s : State} {m : MethodId} {args : Array Value} {below : List Frame} {meth : Method} {c : Code} {g : jG} {rr : Int32} {S : jM} {v0 : Int32} (E : jEnv p s m args meth c cX12_isKin "PensionHouseModel" (some .boolean) 1 g)  {H : Heap} {locs : List Loc} {ls : Array Slot} (hf : f_X12_isKin v0 = rr) (hM : jAt g S s H locs) (hl : lv_has ls 1 [(0, .int v0)]) : W p l e (jRm 1 0 0) s m args below meth c H locs 0 0 (MQ below (jQi g rr S) args s 0 0 (jA0 g)) (F0 m 0 ls []) := by
  obtain ⟨hx, hb, hml, -, hts, hown, hK, -, hstr⟩ := id E
  unfold f_X12_isKin at hf
  refine lv_iload_n hx hb dX12_isKin_0 rfl (lv_at hl 0 rfl) ?_
  refine lv_iconst (v := (5 : Int32)) hx hb dX12_isKin_1 (by decide) ?_
  refine lv_icmp_lt (tgt := 15) hx hb dX12_isKin_2 (by decide) (fun c1 => ?_) (fun c1 => ?_)
  · have hf := jt c1 hf
    refine lv_iconst (v := (0 : Int32)) hx hb dX12_isKin_15 (by decide) ?_
    exact jiretz (jr0 hf) E hM (by decide) dX12_isKin_16
  · have hf := jf c1 hf
    refine lv_iload_n hx hb dX12_isKin_5 rfl (lv_at hl 0 rfl) ?_
    refine lv_bipush (v := (7 : Int32)) hx hb dX12_isKin_6 (by decide) ?_
    refine lv_icmp_gt (tgt := 15) hx hb dX12_isKin_8 (by decide) (fun c2 => ?_) (fun c2 => ?_)
    · have hf := jt c2 hf
      refine lv_iconst (v := (0 : Int32)) hx hb dX12_isKin_15 (by decide) ?_
      exact jiretz (jr0 hf) E hM (by decide) dX12_isKin_16
    · have hf := jf c2 hf
      refine lv_iconst (v := (1 : Int32)) hx hb dX12_isKin_11 (by decide) ?_
      refine lv_goto (tgt := 16) hx hb dX12_isKin_12 (by decide) ?_
      exact jiretz (jr0 hf) E hM (by decide) dX12_isKin_16
set_option maxRecDepth 100000 in
theorem C_X12_isKin {l : Launch} {g : jG} {a0 : Int32} {S : jM} {rr : Int32} (hf : f_X12_isKin a0 = rr) : jMet l g yX12_isKin cX12_isKin 1 (some .boolean) 1 0 0 [.int a0] S (jQi g rr S) := by
  refine jof (by decide +kernel) (Nat.le_of_ble_eq_true rfl) ?_
  intro p e s m below meth c E hM ls hl
  have hl : lv_has ls 1 [(0, .int a0)] := hl
  exact B_X12_isKin_0 E hf hM hl
-- PensionHouseModel.shape(III)V  mode M
noncomputable def f_X12_shape_49 (k17 : Nat → Int32 → Int32 → Int32 → jM → Option jM) (v0 : Nat) (v1 : Int32) (v2 : Int32) (v4 : Int32) (t0 : Nat) (t1 : Int32) (t2 : Int64) (S : jM) : Option jM := if jA t0 14 t1 = true then jlet (jrL S t0 (vp_updL (jAL S t0) (t1).toNatClampNeg t2)) (fun S2 => if jK v0 = 10 then (jR S2 91 v0).bind (fun r4 => if jA r4 12 (((12 : Int32) * v1) + v4) = true then jlet (jrD S2 r4 (vf_upd (jAD S2 r4) (((12 : Int32) * v1) + v4).toNatClampNeg (FP.dconst0))) (fun S7 => jlet (v4 + (1 : Int32)) (fun x8 => k17 v0 v1 v2 x8 S7)) else none) else none) else none
noncomputable def f_X12_shape_17 : Nat → Nat → Int32 → Int32 → Int32 → jM → Option jM
  | 0, _, _, _, _, _ => none
  | n + 1, v0, v1, v2, v4, S => if (12 : Int32) ≤ v4 then some S else if jK v0 = 10 then (jR S 90 v0).bind (fun r11 => if (f_X12_isKin v2) = 0 then f_X12_shape_49 (f_X12_shape_17 n) v0 v1 v2 v4 r11 (((12 : Int32) * v1) + v4) (0 : Int64) S else f_X12_shape_49 (f_X12_shape_17 n) v0 v1 v2 v4 r11 (((12 : Int32) * v1) + v4) (-1 : Int64) S) else none
noncomputable def f_X12_shape (v0 : Nat) (v1 : Int32) (v2 : Int32) (v3 : Int32) (S : jM) : Option jM := if jK v0 = 10 then (jR S 88 v0).bind (fun r15 => if jA r15 13 v1 = true then jlet (jrI S r15 (upd (jAI S r15) (v1).toNatClampNeg v2)) (fun S18 => (jR S18 89 v0).bind (fun r19 => if jA r19 13 v1 = true then jlet (jrI S18 r19 (upd (jAI S18 r19) (v1).toNatClampNeg v3)) (fun S22 => f_X12_shape_17 1100000 v0 v1 v2 (0 : Int32) S22) else none)) else none) else none
set_option maxRecDepth 100000 in
set_option maxHeartbeats 4000000 in
theorem B_X12_shape_49 {p : Program} {l : Launch} {e : Env} {s : State} {m : MethodId} {args : Array Value} {below : List Frame} {meth : Method} {c : Code} {g : jG} {SS : jM} {v0 : Nat} {v1 : Int32} {v2 : Int32} {v4 : Int32} {t0 : Nat} {t1 : Int32} {t2 : Int64} {S : jM} {k17 : Nat → Int32 → Int32 → Int32 → jM → Option jM} (E : jEnv p s m args meth c cX12_shape "PensionHouseModel" none 5 g) (hk17 : ∀ (v0 : Nat) (v1 : Int32) (v2 : Int32) (v4 : Int32) (S : jM) (H : Heap) (locs : List Loc) (ls : Array Slot), k17 v0 v1 v2 v4 S = some SS → jAt g S s H locs → lv_has ls 5 [(0, .ref (g.2.2 + v0)), (1, .int v1), (2, .int v2), (4, .int v4)] → W p l e (jRm 2 0 0) s m args below meth c H locs 0 0 (MQ below (jQv g SS) args s 0 0 (jA0 g)) (F0 m 17 ls [])) {H : Heap} {locs : List Loc} {ls : Array Slot} (hf : f_X12_shape_49 k17 v0 v1 v2 v4 t0 t1 t2 S = some SS) (hM : jAt g S s H locs) (hl : lv_has ls 5 [(0, .ref (g.2.2 + v0)), (1, .int v1), (2, .int v2), (4, .int v4)]) : W p l e (jRm 2 0 0) s m args below meth c H locs 0 0 (MQ below (jQv g SS) args s 0 0 (jA0 g)) (F0 m 49 ls [.long t2, .int t1, .ref (g.2.2 + t0)]) := by
  obtain ⟨hx, hb, hml, -, hts, hown, hK, -, hstr⟩ := id E
  unfold f_X12_shape_49 at hf
  obtain ⟨ha1, hf⟩ := jif hf
  refine jlast E hM ha1 dX12_shape_49 (fun H locs S2 eS2 hM => ?_)
  have hf := jlet_y eS2 hf
  refine lv_aload_n hx hb dX12_shape_50 rfl (lv_at hl 0 rfl) ?_
  obtain ⟨hq3, hf⟩ := jif hf
  refine gt_91 E hM hq3 lk_6_5 dX12_shape_51 ?_
  obtain ⟨r4, hr5, hf⟩ := jb hf
  rw [hr5]
  show W p l e _ s m args below meth c H locs 0 0 _ (F0 m _ ls (.ref (g.2.2 + r4) :: _))
  refine lv_bipush (v := (12 : Int32)) hx hb dX12_shape_54 (by decide) ?_
  refine lv_iload_n hx hb dX12_shape_56 rfl (lv_at hl 1 rfl) ?_
  refine lv_imul hx hb dX12_shape_57 ?_
  refine lv_iload hx hb dX12_shape_58 (lv_at hl 3 rfl) ?_
  refine lv_iadd hx hb dX12_shape_60 ?_
  refine lv_dconst0 hx hb dX12_shape_61 ?_
  obtain ⟨ha6, hf⟩ := jif hf
  refine jdast E hM ha6 dX12_shape_62 (fun H locs S7 eS7 hM => ?_)
  have hf := jlet_y eS7 hf
  obtain ⟨x8, ex8⟩ : ∃ z, z = v4 + (1 : Int32) := ⟨_, rfl⟩
  have hf := jlet_y ex8 hf
  refine lv_iinc (v := x8) (lv' := [(4, .int x8), (0, .ref (g.2.2 + v0)), (1, .int v1), (2, .int v2)]) hx hb dX12_shape_63 hl (k := 3) rfl (by rw [ex8]; rfl) (by decide) rfl (fun ls hl => ?_)
  refine lv_goto (tgt := 17) hx hb dX12_shape_66 (by decide) ?_
  exact hk17 v0 v1 v2 x8 S7 _ _ _ hf hM (lv_sub hl [1, 2, 3, 0] rfl)
set_option maxRecDepth 100000 in
set_option maxHeartbeats 4000000 in
theorem B_X12_shape_17 {p : Program} {l : Launch} {e : Env} {s : State} {m : MethodId} {args : Array Value} {below : List Frame} {meth : Method} {c : Code} {g : jG} {SS : jM} (E : jEnv p s m args meth c cX12_shape "PensionHouseModel" none 5 g)  : ∀ (n : Nat) (v0 : Nat) (v1 : Int32) (v2 : Int32) (v4 : Int32) (S : jM) (H : Heap) (locs : List Loc) (ls : Array Slot), f_X12_shape_17 n v0 v1 v2 v4 S = some SS → jAt g S s H locs → lv_has ls 5 [(0, .ref (g.2.2 + v0)), (1, .int v1), (2, .int v2), (4, .int v4)] → W p l e (jRm 2 0 0) s m args below meth c H locs 0 0 (MQ below (jQv g SS) args s 0 0 (jA0 g)) (F0 m 17 ls []) := by
  obtain ⟨hx, hb, hml, -, hts, hown, hK, -, hstr⟩ := id E
  intro n
  induction n with
  | zero => intro v0 v1 v2 v4 S H locs ls hf hM hl; rw [f_X12_shape_17] at hf; cases hf
  | succ n ih =>
    intro v0 v1 v2 v4 S H locs ls hf hM hl
    rw [f_X12_shape_17] at hf
    refine lv_iload hx hb dX12_shape_17 (lv_at hl 3 rfl) ?_
    refine lv_bipush (v := (12 : Int32)) hx hb dX12_shape_19 (by decide) ?_
    refine lv_icmp_ge (tgt := 69) hx hb dX12_shape_21 (by decide) (fun c9 => ?_) (fun c9 => ?_)
    · have hf := jt c9 hf
      exact jvret (jrv hf) E hM dX12_shape_69
    · have hf := jf c9 hf
      refine lv_aload_n hx hb dX12_shape_24 rfl (lv_at hl 0 rfl) ?_
      obtain ⟨hq10, hf⟩ := jif hf
      refine gt_90 E hM hq10 lk_6_4 dX12_shape_25 ?_
      obtain ⟨r11, hr12, hf⟩ := jb hf
      rw [hr12]
      show W p l e _ s m args below meth c H locs 0 0 _ (F0 m _ ls (.ref (g.2.2 + r11) :: _))
      refine lv_bipush (v := (12 : Int32)) hx hb dX12_shape_28 (by decide) ?_
      refine lv_iload_n hx hb dX12_shape_30 rfl (lv_at hl 1 rfl) ?_
      refine lv_imul hx hb dX12_shape_31 ?_
      refine lv_iload hx hb dX12_shape_32 (lv_at hl 3 rfl) ?_
      refine lv_iadd hx hb dX12_shape_34 ?_
      refine lv_iload_n hx hb dX12_shape_35 rfl (lv_at hl 2 rfl) ?_
      refine jbackI hM (jrunS E hM ci_X12_isKin (C_X12_isKin rfl) lk_7_63 hl.1 rfl rfl (Nat.le_of_ble_eq_true rfl) ⟨Nat.le_of_ble_eq_true rfl, Nat.le_of_ble_eq_true rfl⟩ ⟨Nat.le_refl _, Nat.le_refl _⟩ dX12_shape_36) (fun H locs hM => ?_)
      refine lv_if_eq (tgt := 48) hx hb dX12_shape_39 (by decide) (fun c13 => ?_) (fun c13 => ?_)
      · have hf := jt c13 hf
        refine lv_lconst (v := (0 : Int64)) hx hb dX12_shape_48 (by decide) ?_
        exact B_X12_shape_49 E ih hf hM (lv_sub hl [0, 1, 2, 3] rfl)
      · have hf := jf c13 hf
        refine lv_ldc2 (v := (-1 : Int64)) hx hb hown (hts _ lk_7_66) dX12_shape_42 ?_
        refine lv_goto (tgt := 49) hx hb dX12_shape_45 (by decide) ?_
        exact B_X12_shape_49 E ih hf hM (lv_sub hl [0, 1, 2, 3] rfl)
set_option maxRecDepth 100000 in
set_option maxHeartbeats 4000000 in
theorem B_X12_shape_0 {p : Program} {l : Launch} {e : Env} {s : State} {m : MethodId} {args : Array Value} {below : List Frame} {meth : Method} {c : Code} {g : jG} {SS : jM} {v0 : Nat} {v1 : Int32} {v2 : Int32} {v3 : Int32} {S : jM} (E : jEnv p s m args meth c cX12_shape "PensionHouseModel" none 5 g)  {H : Heap} {locs : List Loc} {ls : Array Slot} (hf : f_X12_shape v0 v1 v2 v3 S = some SS) (hM : jAt g S s H locs) (hl : lv_has ls 5 [(0, .ref (g.2.2 + v0)), (1, .int v1), (2, .int v2), (3, .int v3)]) : W p l e (jRm 2 0 0) s m args below meth c H locs 0 0 (MQ below (jQv g SS) args s 0 0 (jA0 g)) (F0 m 0 ls []) := by
  obtain ⟨hx, hb, hml, -, hts, hown, hK, -, hstr⟩ := id E
  unfold f_X12_shape at hf
  refine lv_aload_n hx hb dX12_shape_0 rfl (lv_at hl 0 rfl) ?_
  obtain ⟨hq14, hf⟩ := jif hf
  refine gt_88 E hM hq14 lk_6_2 dX12_shape_1 ?_
  obtain ⟨r15, hr16, hf⟩ := jb hf
  rw [hr16]
  show W p l e _ s m args below meth c H locs 0 0 _ (F0 m _ ls (.ref (g.2.2 + r15) :: _))
  refine lv_iload_n hx hb dX12_shape_4 rfl (lv_at hl 1 rfl) ?_
  refine lv_iload_n hx hb dX12_shape_5 rfl (lv_at hl 2 rfl) ?_
  obtain ⟨ha17, hf⟩ := jif hf
  refine jiast E hM ha17 dX12_shape_6 (fun H locs S18 eS18 hM => ?_)
  have hf := jlet_y eS18 hf
  refine lv_aload_n hx hb dX12_shape_7 rfl (lv_at hl 0 rfl) ?_
  refine gt_89 E hM hq14 lk_6_3 dX12_shape_8 ?_
  obtain ⟨r19, hr20, hf⟩ := jb hf
  rw [hr20]
  show W p l e _ s m args below meth c H locs 0 0 _ (F0 m _ ls (.ref (g.2.2 + r19) :: _))
  refine lv_iload_n hx hb dX12_shape_11 rfl (lv_at hl 1 rfl) ?_
  refine lv_iload_n hx hb dX12_shape_12 rfl (lv_at hl 3 rfl) ?_
  obtain ⟨ha21, hf⟩ := jif hf
  refine jiast E hM ha21 dX12_shape_13 (fun H locs S22 eS22 hM => ?_)
  have hf := jlet_y eS22 hf
  refine lv_iconst (v := (0 : Int32)) hx hb dX12_shape_14 (by decide) ?_
  refine lv_istore (lv' := [(4, .int (0 : Int32)), (0, .ref (g.2.2 + v0)), (1, .int v1), (2, .int v2), (3, .int v3)]) hx hb dX12_shape_15 hl (by decide) rfl (fun ls hl => ?_)
  exact B_X12_shape_17 E  1100000 v0 v1 v2 (0 : Int32) S22 _ _ _ hf hM (lv_sub hl [1, 2, 3, 0] rfl)
set_option maxRecDepth 100000 in
theorem C_X12_shape {l : Launch} {g : jG} {a0 : Nat} {a1 : Int32} {a2 : Int32} {a3 : Int32} {S : jM} {SS : jM} (hf : f_X12_shape a0 a1 a2 a3 S = some SS) : jMet l g yX12_shape cX12_shape 5 none 2 0 0 [.ref (g.2.2 + a0), .int a1, .int a2, .int a3] S (jQv g SS) := by
  refine jof (by decide +kernel) (Nat.le_of_ble_eq_true rfl) ?_
  intro p e s m below meth c E hM ls hl
  have hl : lv_has ls 5 [(0, .ref (g.2.2 + a0)),(1, .int a1),(2, .int a2),(3, .int a3)] := hl
  exact B_X12_shape_0 E hf hM hl
-- PensionHouseModel.made(II)I  mode M
noncomputable def f_X12_made (v0 : Nat) (v1 : Int32) (v2 : Int32) (S : jM) : Option (Int32 × jM) := if jK v0 = 10 then jlet (jI S 92 v0) (fun x2 => jlet (jsI S 92 v0 ((jI S 92 v0) + (1 : Int32))) (fun S3 => (f_X12_shape v0 x2 v1 v2 S3).bind (fun S4 => some (x2, S4)))) else none
set_option maxRecDepth 100000 in
set_option maxHeartbeats 4000000 in
theorem B_X12_made_0 {p : Program} {l : Launch} {e : Env} {s : State} {m : MethodId} {args : Array Value} {below : List Frame} {meth : Method} {c : Code} {g : jG} {rr : Int32} {SS : jM} {v0 : Nat} {v1 : Int32} {v2 : Int32} {S : jM} (E : jEnv p s m args meth c cX12_made "PensionHouseModel" (some .int) 4 g)  {H : Heap} {locs : List Loc} {ls : Array Slot} (hf : f_X12_made v0 v1 v2 S = some (rr, SS)) (hM : jAt g S s H locs) (hl : lv_has ls 4 [(0, .ref (g.2.2 + v0)), (1, .int v1), (2, .int v2)]) : W p l e (jRm 3 0 0) s m args below meth c H locs 0 0 (MQ below (jQi g rr SS) args s 0 0 (jA0 g)) (F0 m 0 ls []) := by
  obtain ⟨hx, hb, hml, -, hts, hown, hK, -, hstr⟩ := id E
  unfold f_X12_made at hf
  refine lv_aload_n hx hb dX12_made_0 rfl (lv_at hl 0 rfl) ?_
  obtain ⟨hq1, hf⟩ := jif hf
  refine gt_92 E hM hq1 lk_6_6 dX12_made_1 ?_
  refine lv_topi (fun x2 ex2 => ?_)
  have hf := jlet_y ex2 hf
  refine lv_istore_n (lv' := [(3, .int x2), (0, .ref (g.2.2 + v0)), (1, .int v1), (2, .int v2)]) hx hb dX12_made_4 rfl hl (by decide) rfl (fun ls hl => ?_)
  refine lv_aload_n hx hb dX12_made_5 rfl (lv_at hl 1 rfl) ?_
  refine lv_dup hx hb dX12_made_6 rfl ?_
  refine gt_92 E hM hq1 lk_6_6 dX12_made_7 ?_
  refine lv_iconst (v := (1 : Int32)) hx hb dX12_made_10 (by decide) ?_
  refine lv_iadd hx hb dX12_made_11 ?_
  refine pt_92 E hM hq1 lk_6_6 dX12_made_12 (fun H locs S3 eS3 hM => ?_)
  have hf := jlet_y eS3 hf
  refine lv_aload_n hx hb dX12_made_15 rfl (lv_at hl 1 rfl) ?_
  refine lv_iload_n hx hb dX12_made_16 rfl (lv_at hl 0 rfl) ?_
  refine lv_iload_n hx hb dX12_made_17 rfl (lv_at hl 2 rfl) ?_
  refine lv_iload_n hx hb dX12_made_18 rfl (lv_at hl 3 rfl) ?_
  obtain ⟨S4, hc5, hf⟩ := jb hf
  refine jbackV hM (jrunV E hM ci_X12_shape (C_X12_shape hc5) lk_7_59 hq1 (by decide) rfl hl.1 rfl rfl (Nat.le_of_ble_eq_true rfl) ⟨Nat.le_of_ble_eq_true rfl, Nat.le_of_ble_eq_true rfl⟩ ⟨Nat.le_refl _, Nat.le_refl _⟩ dX12_made_19) (fun H locs hM => ?_)
  refine lv_iload_n hx hb dX12_made_22 rfl (lv_at hl 0 rfl) ?_
  exact jireti (jr2 hf) E hM dX12_made_23
set_option maxRecDepth 100000 in
theorem C_X12_made {l : Launch} {g : jG} {a0 : Nat} {a1 : Int32} {a2 : Int32} {S : jM} {rr : Int32} {SS : jM} (hf : f_X12_made a0 a1 a2 S = some (rr, SS)) : jMet l g yX12_made cX12_made 4 (some .int) 3 0 0 [.ref (g.2.2 + a0), .int a1, .int a2] S (jQi g rr SS) := by
  refine jof (by decide +kernel) (Nat.le_of_ble_eq_true rfl) ?_
  intro p e s m below meth c E hM ls hl
  have hl : lv_has ls 4 [(0, .ref (g.2.2 + a0)),(1, .int a1),(2, .int a2)] := hl
  exact B_X12_made_0 E hf hM hl
-- PensionHouseModel.ofWhole(J)I  mode M
noncomputable def f_X12_ofWhole (v0 : Nat) (v1 : Int64) (S : jM) : Option (Int32 × jM) := if jK v0 = 10 then jbd (f_X12_made v0 (0 : Int32) (0 : Int32) S) (fun x1 S2 => (jR S2 90 v0).bind (fun r5 => if jA r5 14 ((12 : Int32) * x1) = true then jlet (jrL S2 r5 (vp_updL (jAL S2 r5) ((12 : Int32) * x1).toNatClampNeg v1)) (fun S8 => some (x1, S8)) else none)) else none
set_option maxRecDepth 100000 in
set_option maxHeartbeats 4000000 in
theorem B_X12_ofWhole_0 {p : Program} {l : Launch} {e : Env} {s : State} {m : MethodId} {args : Array Value} {below : List Frame} {meth : Method} {c : Code} {g : jG} {rr : Int32} {SS : jM} {v0 : Nat} {v1 : Int64} {S : jM} (E : jEnv p s m args meth c cX12_ofWhole "PensionHouseModel" (some .int) 4 g)  {H : Heap} {locs : List Loc} {ls : Array Slot} (hf : f_X12_ofWhole v0 v1 S = some (rr, SS)) (hM : jAt g S s H locs) (hl : lv_has ls 4 [(0, .ref (g.2.2 + v0)), (1, .long v1)]) : W p l e (jRm 4 0 0) s m args below meth c H locs 0 0 (MQ below (jQi g rr SS) args s 0 0 (jA0 g)) (F0 m 0 ls []) := by
  obtain ⟨hx, hb, hml, -, hts, hown, hK, -, hstr⟩ := id E
  unfold f_X12_ofWhole at hf
  refine lv_aload_n hx hb dX12_ofWhole_0 rfl (lv_at hl 0 rfl) ?_
  refine lv_iconst (v := (0 : Int32)) hx hb dX12_ofWhole_1 (by decide) ?_
  refine lv_iconst (v := (0 : Int32)) hx hb dX12_ofWhole_2 (by decide) ?_
  obtain ⟨hq4, hf⟩ := jif hf
  obtain ⟨x1, S2, hc3, hf⟩ := jbd_e hf
  refine jbackI hM (jrunV E hM ci_X12_made (C_X12_made hc3) lk_8_95 hq4 (by decide) rfl hl.1 rfl rfl (Nat.le_of_ble_eq_true rfl) ⟨Nat.le_of_ble_eq_true rfl, Nat.le_of_ble_eq_true rfl⟩ ⟨Nat.le_refl _, Nat.le_refl _⟩ dX12_ofWhole_3) (fun H locs hM => ?_)
  refine lv_istore_n (lv' := [(3, .int x1), (0, .ref (g.2.2 + v0)), (1, .long v1)]) hx hb dX12_ofWhole_6 rfl hl (by decide) rfl (fun ls hl => ?_)
  refine lv_aload_n hx hb dX12_ofWhole_7 rfl (lv_at hl 1 rfl) ?_
  refine gt_90 E hM hq4 lk_6_4 dX12_ofWhole_8 ?_
  obtain ⟨r5, hr6, hf⟩ := jb hf
  rw [hr6]
  show W p l e _ s m args below meth c H locs 0 0 _ (F0 m _ ls (.ref (g.2.2 + r5) :: _))
  refine lv_bipush (v := (12 : Int32)) hx hb dX12_ofWhole_11 (by decide) ?_
  refine lv_iload_n hx hb dX12_ofWhole_13 rfl (lv_at hl 0 rfl) ?_
  refine lv_imul hx hb dX12_ofWhole_14 ?_
  refine lv_lload_n hx hb dX12_ofWhole_15 rfl (lv_at hl 2 rfl) ?_
  obtain ⟨ha7, hf⟩ := jif hf
  refine jlast E hM ha7 dX12_ofWhole_16 (fun H locs S8 eS8 hM => ?_)
  have hf := jlet_y eS8 hf
  refine lv_iload_n hx hb dX12_ofWhole_17 rfl (lv_at hl 0 rfl) ?_
  exact jireti (jr2 hf) E hM dX12_ofWhole_18
set_option maxRecDepth 100000 in
theorem C_X12_ofWhole {l : Launch} {g : jG} {a0 : Nat} {a1 : Int64} {S : jM} {rr : Int32} {SS : jM} (hf : f_X12_ofWhole a0 a1 S = some (rr, SS)) : jMet l g yX12_ofWhole cX12_ofWhole 4 (some .int) 4 0 0 [.ref (g.2.2 + a0), .long a1] S (jQi g rr SS) := by
  refine jof (by decide +kernel) (Nat.le_of_ble_eq_true rfl) ?_
  intro p e s m below meth c E hM ls hl
  have hl : lv_has ls 4 [(0, .ref (g.2.2 + a0)),(1, .long a1)] := hl
  exact B_X12_ofWhole_0 E hf hM hl
-- PensionHouseModel.decimal(JI)D  mode P
noncomputable def f_X12_decimal_5 : Nat → Int64 → Int32 → UInt64 → Int32 → Option UInt64
  | 0, _, _, _, _ => none
  | n + 1, v0, v2, v3, v5 => if v2 ≤ v5 then if jnn (FP.ddiv (FP.l2d v0) v3) = true then some (FP.ddiv (FP.l2d v0) v3) else none else if jnn (FP.dmul v3 (4621819117588971520 : UInt64)) = true then jlet (FP.dmul v3 (4621819117588971520 : UInt64)) (fun x4 => jlet (v5 + (1 : Int32)) (fun x5 => (f_X12_decimal_5 n) v0 v2 x4 x5)) else none
noncomputable def f_X12_decimal (v0 : Int64) (v2 : Int32) : Option UInt64 := jlet (FP.dconst1) (fun x6 => f_X12_decimal_5 1100000 v0 v2 x6 (0 : Int32))
set_option maxRecDepth 100000 in
set_option maxHeartbeats 4000000 in
theorem B_X12_decimal_5 {p : Program} {l : Launch} {e : Env} {s : State} {m : MethodId} {args : Array Value} {below : List Frame} {meth : Method} {c : Code} {g : jG} {rr : UInt64} {S : jM} (E : jEnv p s m args meth c cX12_decimal "PensionHouseModel" (some .double) 6 g)  : ∀ (n : Nat) (v0 : Int64) (v2 : Int32) (v3 : UInt64) (v5 : Int32) (H : Heap) (locs : List Loc) (ls : Array Slot), f_X12_decimal_5 n v0 v2 v3 v5 = some rr → jAt g S s H locs → lv_has ls 6 [(0, .long v0), (2, .int v2), (3, .double v3), (5, .int v5)] → W p l e (jRm 1 0 0) s m args below meth c H locs 0 0 (MQ below (jQd g rr S) args s 0 0 (jA0 g)) (F0 m 5 ls []) := by
  obtain ⟨hx, hb, hml, -, hts, hown, hK, -, hstr⟩ := id E
  intro n
  induction n with
  | zero => intro v0 v2 v3 v5 H locs ls hf hM hl; rw [f_X12_decimal_5] at hf; cases hf
  | succ n ih =>
    intro v0 v2 v3 v5 H locs ls hf hM hl
    rw [f_X12_decimal_5] at hf
    refine lv_iload hx hb dX12_decimal_5 (lv_at hl 3 rfl) ?_
    refine lv_iload_n hx hb dX12_decimal_7 rfl (lv_at hl 1 rfl) ?_
    refine lv_icmp_ge (tgt := 23) hx hb dX12_decimal_8 (by decide) (fun c1 => ?_) (fun c1 => ?_)
    · have hf := jt c1 hf
      refine lv_lload_n hx hb dX12_decimal_23 rfl (lv_at hl 0 rfl) ?_
      refine lv_l2d hx hb dX12_decimal_24 ?_
      refine lv_dload_n hx hb dX12_decimal_25 rfl (lv_at hl 2 rfl) ?_
      obtain ⟨hn2, hf⟩ := jif hf
      refine lv_ddiv hx hb dX12_decimal_26 (jnn_ok hn2) ?_
      exact jdret (jr1 hf) E hM dX12_decimal_27
    · have hf := jf c1 hf
      refine lv_dload_n hx hb dX12_decimal_11 rfl (lv_at hl 2 rfl) ?_
      refine lv_ldc2d (v := (4621819117588971520 : UInt64)) hx hb hown (hts _ lk_8_102) dX12_decimal_12 ?_
      obtain ⟨hn3, hf⟩ := jif hf
      refine lv_dmul hx hb dX12_decimal_15 (jnn_ok hn3) ?_
      refine lv_topd (fun x4 ex4 => ?_)
      have hf := jlet_y ex4 hf
      refine lv_dstore_n (lv' := [(3, .double x4), (0, .long v0), (2, .int v2), (5, .int v5)]) hx hb dX12_decimal_16 rfl hl (by decide) rfl (fun ls hl => ?_)
      obtain ⟨x5, ex5⟩ : ∃ z, z = v5 + (1 : Int32) := ⟨_, rfl⟩
      have hf := jlet_y ex5 hf
      refine lv_iinc (v := x5) (lv' := [(5, .int x5), (3, .double x4), (0, .long v0), (2, .int v2)]) hx hb dX12_decimal_17 hl (k := 3) rfl (by rw [ex5]; rfl) (by decide) rfl (fun ls hl => ?_)
      refine lv_goto (tgt := 5) hx hb dX12_decimal_20 (by decide) ?_
      exact ih v0 v2 x4 x5 _ _ _ hf hM (lv_sub hl [2, 3, 1, 0] rfl)
set_option maxRecDepth 100000 in
set_option maxHeartbeats 4000000 in
theorem B_X12_decimal_0 {p : Program} {l : Launch} {e : Env} {s : State} {m : MethodId} {args : Array Value} {below : List Frame} {meth : Method} {c : Code} {g : jG} {rr : UInt64} {S : jM} {v0 : Int64} {v2 : Int32} (E : jEnv p s m args meth c cX12_decimal "PensionHouseModel" (some .double) 6 g)  {H : Heap} {locs : List Loc} {ls : Array Slot} (hf : f_X12_decimal v0 v2 = some rr) (hM : jAt g S s H locs) (hl : lv_has ls 6 [(0, .long v0), (2, .int v2)]) : W p l e (jRm 1 0 0) s m args below meth c H locs 0 0 (MQ below (jQd g rr S) args s 0 0 (jA0 g)) (F0 m 0 ls []) := by
  obtain ⟨hx, hb, hml, -, hts, hown, hK, -, hstr⟩ := id E
  unfold f_X12_decimal at hf
  refine lv_dconst1 hx hb dX12_decimal_0 ?_
  refine lv_topd (fun x6 ex6 => ?_)
  have hf := jlet_y ex6 hf
  refine lv_dstore_n (lv' := [(3, .double x6), (0, .long v0), (2, .int v2)]) hx hb dX12_decimal_1 rfl hl (by decide) rfl (fun ls hl => ?_)
  refine lv_iconst (v := (0 : Int32)) hx hb dX12_decimal_2 (by decide) ?_
  refine lv_istore (lv' := [(5, .int (0 : Int32)), (3, .double x6), (0, .long v0), (2, .int v2)]) hx hb dX12_decimal_3 hl (by decide) rfl (fun ls hl => ?_)
  exact B_X12_decimal_5 E  1100000 v0 v2 x6 (0 : Int32) _ _ _ hf hM (lv_sub hl [2, 3, 1, 0] rfl)
set_option maxRecDepth 100000 in
theorem C_X12_decimal {l : Launch} {g : jG} {a0 : Int64} {a2 : Int32} {S : jM} {rr : UInt64} (hf : f_X12_decimal a0 a2 = some rr) : jMet l g yX12_decimal cX12_decimal 6 (some .double) 1 0 0 [.long a0, .int a2] S (jQd g rr S) := by
  refine jof (by decide +kernel) (Nat.le_of_ble_eq_true rfl) ?_
  intro p e s m below meth c E hM ls hl
  have hl : lv_has ls 6 [(0, .long a0),(2, .int a2)] := hl
  exact B_X12_decimal_0 E hf hM hl
-- PensionHouseModel.ofReal(D)I  mode M
noncomputable def f_X12_ofReal (v0 : Nat) (v1 : UInt64) (S : jM) : Option (Int32 × jM) := if jK v0 = 10 then jbd (f_X12_made v0 (1 : Int32) (0 : Int32) S) (fun x1 S2 => (jR S2 91 v0).bind (fun r5 => if jA r5 12 ((12 : Int32) * x1) = true then jlet (jrD S2 r5 (vf_upd (jAD S2 r5) ((12 : Int32) * x1).toNatClampNeg v1)) (fun S8 => some (x1, S8)) else none)) else none
set_option maxRecDepth 100000 in
set_option maxHeartbeats 4000000 in
theorem B_X12_ofReal_0 {p : Program} {l : Launch} {e : Env} {s : State} {m : MethodId} {args : Array Value} {below : List Frame} {meth : Method} {c : Code} {g : jG} {rr : Int32} {SS : jM} {v0 : Nat} {v1 : UInt64} {S : jM} (E : jEnv p s m args meth c cX12_ofReal "PensionHouseModel" (some .int) 4 g)  {H : Heap} {locs : List Loc} {ls : Array Slot} (hf : f_X12_ofReal v0 v1 S = some (rr, SS)) (hM : jAt g S s H locs) (hl : lv_has ls 4 [(0, .ref (g.2.2 + v0)), (1, .double v1)]) : W p l e (jRm 4 0 0) s m args below meth c H locs 0 0 (MQ below (jQi g rr SS) args s 0 0 (jA0 g)) (F0 m 0 ls []) := by
  obtain ⟨hx, hb, hml, -, hts, hown, hK, -, hstr⟩ := id E
  unfold f_X12_ofReal at hf
  refine lv_aload_n hx hb dX12_ofReal_0 rfl (lv_at hl 0 rfl) ?_
  refine lv_iconst (v := (1 : Int32)) hx hb dX12_ofReal_1 (by decide) ?_
  refine lv_iconst (v := (0 : Int32)) hx hb dX12_ofReal_2 (by decide) ?_
  obtain ⟨hq4, hf⟩ := jif hf
  obtain ⟨x1, S2, hc3, hf⟩ := jbd_e hf
  refine jbackI hM (jrunV E hM ci_X12_made (C_X12_made hc3) lk_8_95 hq4 (by decide) rfl hl.1 rfl rfl (Nat.le_of_ble_eq_true rfl) ⟨Nat.le_of_ble_eq_true rfl, Nat.le_of_ble_eq_true rfl⟩ ⟨Nat.le_refl _, Nat.le_refl _⟩ dX12_ofReal_3) (fun H locs hM => ?_)
  refine lv_istore_n (lv' := [(3, .int x1), (0, .ref (g.2.2 + v0)), (1, .double v1)]) hx hb dX12_ofReal_6 rfl hl (by decide) rfl (fun ls hl => ?_)
  refine lv_aload_n hx hb dX12_ofReal_7 rfl (lv_at hl 1 rfl) ?_
  refine gt_91 E hM hq4 lk_6_5 dX12_ofReal_8 ?_
  obtain ⟨r5, hr6, hf⟩ := jb hf
  rw [hr6]
  show W p l e _ s m args below meth c H locs 0 0 _ (F0 m _ ls (.ref (g.2.2 + r5) :: _))
  refine lv_bipush (v := (12 : Int32)) hx hb dX12_ofReal_11 (by decide) ?_
  refine lv_iload_n hx hb dX12_ofReal_13 rfl (lv_at hl 0 rfl) ?_
  refine lv_imul hx hb dX12_ofReal_14 ?_
  refine lv_dload_n hx hb dX12_ofReal_15 rfl (lv_at hl 2 rfl) ?_
  obtain ⟨ha7, hf⟩ := jif hf
  refine jdast E hM ha7 dX12_ofReal_16 (fun H locs S8 eS8 hM => ?_)
  have hf := jlet_y eS8 hf
  refine lv_iload_n hx hb dX12_ofReal_17 rfl (lv_at hl 0 rfl) ?_
  exact jireti (jr2 hf) E hM dX12_ofReal_18
set_option maxRecDepth 100000 in
theorem C_X12_ofReal {l : Launch} {g : jG} {a0 : Nat} {a1 : UInt64} {S : jM} {rr : Int32} {SS : jM} (hf : f_X12_ofReal a0 a1 S = some (rr, SS)) : jMet l g yX12_ofReal cX12_ofReal 4 (some .int) 4 0 0 [.ref (g.2.2 + a0), .double a1] S (jQi g rr SS) := by
  refine jof (by decide +kernel) (Nat.le_of_ble_eq_true rfl) ?_
  intro p e s m below meth c E hM ls hl
  have hl : lv_has ls 4 [(0, .ref (g.2.2 + a0)),(1, .double a1)] := hl
  exact B_X12_ofReal_0 E hf hM hl
-- PensionHouseModel.findKnown(IJII)I  mode R
noncomputable def f_X12_findKnown_110 (k8 : Nat → Int32 → Int64 → Int32 → Int32 → Int32 → jM → Option Int32) (v0 : Nat) (v1 : Int32) (v2 : Int64) (v4 : Int32) (v5 : Int32) (v6 : Int32) (S : jM) : Option Int32 := jlet (v6 + (-1 : Int32)) (fun x1 => k8 v0 v1 v2 v4 v5 x1 S)
noncomputable def f_X12_findKnown_52 (k8 : Nat → Int32 → Int64 → Int32 → Int32 → Int32 → jM → Option Int32) (v0 : Nat) (v1 : Int32) (v2 : Int64) (v4 : Int32) (v5 : Int32) (v6 : Int32) (t0 : Int32) (S : jM) : Option Int32 := if t0 = 0 then f_X12_findKnown_110 k8 v0 v1 v2 v4 v5 v6 S else if jK v0 = 10 then (jR S 140 v0).bind (fun r4 => if jA r4 13 v6 = true then if (jAI S r4 (v6).toNatClampNeg) = v1 then (jR S 141 v0).bind (fun r8 => if jA r8 14 v6 = true then if (jAL S r8 (v6).toNatClampNeg) = v2 then (jR S 142 v0).bind (fun r12 => if jA r12 13 v6 = true then (jR S 143 v0).bind (fun r15 => if jA r15 13 v6 = true then if (f_X12_in (v4.toInt64) ((jAI S r12 (v6).toNatClampNeg).toInt64) ((jAI S r15 (v6).toNatClampNeg).toInt64)) = 0 then f_X12_findKnown_110 k8 v0 v1 v2 v4 v5 v6 S else some v6 else none) else none) else f_X12_findKnown_110 k8 v0 v1 v2 v4 v5 v6 S else none) else f_X12_findKnown_110 k8 v0 v1 v2 v4 v5 v6 S else none) else none
noncomputable def f_X12_findKnown_51 (k8 : Nat → Int32 → Int64 → Int32 → Int32 → Int32 → jM → Option Int32) (v0 : Nat) (v1 : Int32) (v2 : Int64) (v4 : Int32) (v5 : Int32) (v6 : Int32) (S : jM) : Option Int32 := f_X12_findKnown_52 k8 v0 v1 v2 v4 v5 v6 (0 : Int32) S
noncomputable def f_X12_findKnown_47 (k8 : Nat → Int32 → Int64 → Int32 → Int32 → Int32 → jM → Option Int32) (v0 : Nat) (v1 : Int32) (v2 : Int64) (v4 : Int32) (v5 : Int32) (v6 : Int32) (S : jM) : Option Int32 := f_X12_findKnown_52 k8 v0 v1 v2 v4 v5 v6 (1 : Int32) S
noncomputable def f_X12_findKnown_8 : Nat → Nat → Int32 → Int64 → Int32 → Int32 → Int32 → jM → Option Int32
  | 0, _, _, _, _, _, _, _ => none
  | n + 1, v0, v1, v2, v4, v5, v6, S => if v6 < 0 then some (-1 : Int32) else if jK v0 = 10 then (jR S 144 v0).bind (fun r21 => if jA r21 13 v6 = true then if v5 < (jAI S r21 (v6).toNatClampNeg) then f_X12_findKnown_51 (f_X12_findKnown_8 n) v0 v1 v2 v4 v5 v6 S else (jR S 145 v0).bind (fun r25 => if jA r25 13 v6 = true then if (jAI S r25 (v6).toNatClampNeg) < 0 then f_X12_findKnown_47 (f_X12_findKnown_8 n) v0 v1 v2 v4 v5 v6 S else (jR S 145 v0).bind (fun r29 => if jA r29 13 v6 = true then if (jAI S r29 (v6).toNatClampNeg) ≤ v5 then f_X12_findKnown_51 (f_X12_findKnown_8 n) v0 v1 v2 v4 v5 v6 S else f_X12_findKnown_47 (f_X12_findKnown_8 n) v0 v1 v2 v4 v5 v6 S else none) else none) else none) else none
noncomputable def f_X12_findKnown (v0 : Nat) (v1 : Int32) (v2 : Int64) (v4 : Int32) (v5 : Int32) (S : jM) : Option Int32 := if jK v0 = 10 then jlet ((jI S 146 v0) - (1 : Int32)) (fun x34 => f_X12_findKnown_8 1100000 v0 v1 v2 v4 v5 x34 S) else none
set_option maxRecDepth 100000 in
set_option maxHeartbeats 4000000 in
theorem B_X12_findKnown_110 {p : Program} {l : Launch} {e : Env} {s : State} {m : MethodId} {args : Array Value} {below : List Frame} {meth : Method} {c : Code} {g : jG} {rr : Int32} {S : jM} {v0 : Nat} {v1 : Int32} {v2 : Int64} {v4 : Int32} {v5 : Int32} {v6 : Int32} {k8 : Nat → Int32 → Int64 → Int32 → Int32 → Int32 → jM → Option Int32} (E : jEnv p s m args meth c cX12_findKnown "PensionHouseModel" (some .int) 8 g) (hk8 : ∀ (v0 : Nat) (v1 : Int32) (v2 : Int64) (v4 : Int32) (v5 : Int32) (v6 : Int32) (H : Heap) (locs : List Loc) (ls : Array Slot), k8 v0 v1 v2 v4 v5 v6 S = some rr → jAt g S s H locs → lv_has ls 8 [(0, .ref (g.2.2 + v0)), (1, .int v1), (2, .long v2), (4, .int v4), (5, .int v5), (6, .int v6)] → W p l e (jRm 2 0 0) s m args below meth c H locs 0 0 (MQ below (jQi g rr S) args s 0 0 (jA0 g)) (F0 m 8 ls [])) {H : Heap} {locs : List Loc} {ls : Array Slot} (hf : f_X12_findKnown_110 k8 v0 v1 v2 v4 v5 v6 S = some rr) (hM : jAt g S s H locs) (hl : lv_has ls 8 [(0, .ref (g.2.2 + v0)), (1, .int v1), (2, .long v2), (4, .int v4), (5, .int v5), (6, .int v6)]) : W p l e (jRm 2 0 0) s m args below meth c H locs 0 0 (MQ below (jQi g rr S) args s 0 0 (jA0 g)) (F0 m 110 ls []) := by
  obtain ⟨hx, hb, hml, -, hts, hown, hK, -, hstr⟩ := id E
  unfold f_X12_findKnown_110 at hf
  obtain ⟨x1, ex1⟩ : ∃ z, z = v6 + (-1 : Int32) := ⟨_, rfl⟩
  have hf := jlet_y ex1 hf
  refine lv_iinc (v := x1) (lv' := [(6, .int x1), (0, .ref (g.2.2 + v0)), (1, .int v1), (2, .long v2), (4, .int v4), (5, .int v5)]) hx hb dX12_findKnown_110 hl (k := 5) rfl (by rw [ex1]; rfl) (by decide) rfl (fun ls hl => ?_)
  refine lv_goto (tgt := 8) hx hb dX12_findKnown_113 (by decide) ?_
  exact hk8 v0 v1 v2 v4 v5 x1 _ _ _ hf hM (lv_sub hl [1, 2, 3, 4, 5, 0] rfl)
set_option maxRecDepth 100000 in
set_option maxHeartbeats 4000000 in
theorem B_X12_findKnown_52 {p : Program} {l : Launch} {e : Env} {s : State} {m : MethodId} {args : Array Value} {below : List Frame} {meth : Method} {c : Code} {g : jG} {rr : Int32} {S : jM} {v0 : Nat} {v1 : Int32} {v2 : Int64} {v4 : Int32} {v5 : Int32} {v6 : Int32} {t0 : Int32} {k8 : Nat → Int32 → Int64 → Int32 → Int32 → Int32 → jM → Option Int32} (E : jEnv p s m args meth c cX12_findKnown "PensionHouseModel" (some .int) 8 g) (hk8 : ∀ (v0 : Nat) (v1 : Int32) (v2 : Int64) (v4 : Int32) (v5 : Int32) (v6 : Int32) (H : Heap) (locs : List Loc) (ls : Array Slot), k8 v0 v1 v2 v4 v5 v6 S = some rr → jAt g S s H locs → lv_has ls 8 [(0, .ref (g.2.2 + v0)), (1, .int v1), (2, .long v2), (4, .int v4), (5, .int v5), (6, .int v6)] → W p l e (jRm 2 0 0) s m args below meth c H locs 0 0 (MQ below (jQi g rr S) args s 0 0 (jA0 g)) (F0 m 8 ls [])) {H : Heap} {locs : List Loc} {ls : Array Slot} (hf : f_X12_findKnown_52 k8 v0 v1 v2 v4 v5 v6 t0 S = some rr) (hM : jAt g S s H locs) (hl : lv_has ls 8 [(0, .ref (g.2.2 + v0)), (1, .int v1), (2, .long v2), (4, .int v4), (5, .int v5), (6, .int v6)]) : W p l e (jRm 2 0 0) s m args below meth c H locs 0 0 (MQ below (jQi g rr S) args s 0 0 (jA0 g)) (F0 m 52 ls [.int t0]) := by
  obtain ⟨hx, hb, hml, -, hts, hown, hK, -, hstr⟩ := id E
  unfold f_X12_findKnown_52 at hf
  refine lv_istore (lv' := [(7, .int t0), (0, .ref (g.2.2 + v0)), (1, .int v1), (2, .long v2), (4, .int v4), (5, .int v5), (6, .int v6)]) hx hb dX12_findKnown_52 hl (by decide) rfl (fun ls hl => ?_)
  refine lv_iload hx hb dX12_findKnown_54 (lv_at hl 0 rfl) ?_
  refine lv_if_eq (tgt := 110) hx hb dX12_findKnown_56 (by decide) (fun c2 => ?_) (fun c2 => ?_)
  · have hf := jt c2 hf
    exact B_X12_findKnown_110 E hk8 hf hM (lv_sub hl [1, 2, 3, 4, 5, 6] rfl)
  · have hf := jf c2 hf
    refine lv_aload_n hx hb dX12_findKnown_59 rfl (lv_at hl 1 rfl) ?_
    obtain ⟨hq3, hf⟩ := jif hf
    refine gt_140 E hM hq3 lk_6_54 dX12_findKnown_60 ?_
    obtain ⟨r4, hr5, hf⟩ := jb hf
    rw [hr5]
    show W p l e _ s m args below meth c H locs 0 0 _ (F0 m _ ls (.ref (g.2.2 + r4) :: _))
    refine lv_iload hx hb dX12_findKnown_63 (lv_at hl 6 rfl) ?_
    obtain ⟨ha6, hf⟩ := jif hf
    refine jiald E hM ha6 dX12_findKnown_65 ?_
    refine lv_iload_n hx hb dX12_findKnown_66 rfl (lv_at hl 2 rfl) ?_
    refine lv_icmp_ne (tgt := 110) hx hb dX12_findKnown_67 (by decide) (fun c7 => ?_) (fun c7 => ?_)
    · have hf := jf c7 hf
      exact B_X12_findKnown_110 E hk8 hf hM (lv_sub hl [1, 2, 3, 4, 5, 6] rfl)
    · have hf := jt c7 hf
      refine lv_aload_n hx hb dX12_findKnown_70 rfl (lv_at hl 1 rfl) ?_
      refine gt_141 E hM hq3 lk_6_55 dX12_findKnown_71 ?_
      obtain ⟨r8, hr9, hf⟩ := jb hf
      rw [hr9]
      show W p l e _ s m args below meth c H locs 0 0 _ (F0 m _ ls (.ref (g.2.2 + r8) :: _))
      refine lv_iload hx hb dX12_findKnown_74 (lv_at hl 6 rfl) ?_
      obtain ⟨ha10, hf⟩ := jif hf
      refine jlald E hM ha10 dX12_findKnown_76 ?_
      refine lv_lload_n hx hb dX12_findKnown_77 rfl (lv_at hl 3 rfl) ?_
      refine jl_ne (tgt := 110) hx hb dX12_findKnown_78 dX12_findKnown_79 (by decide) (fun c11 => ?_) (fun c11 => ?_)
      · have hf := jf c11 hf
        exact B_X12_findKnown_110 E hk8 hf hM (lv_sub hl [1, 2, 3, 4, 5, 6] rfl)
      · have hf := jt c11 hf
        refine lv_iload hx hb dX12_findKnown_82 (lv_at hl 4 rfl) ?_
        refine lv_i2l hx hb dX12_findKnown_84 rfl ?_
        refine lv_aload_n hx hb dX12_findKnown_85 rfl (lv_at hl 1 rfl) ?_
        refine gt_142 E hM hq3 lk_6_56 dX12_findKnown_86 ?_
        obtain ⟨r12, hr13, hf⟩ := jb hf
        rw [hr13]
        show W p l e _ s m args below meth c H locs 0 0 _ (F0 m _ ls (.ref (g.2.2 + r12) :: _))
        refine lv_iload hx hb dX12_findKnown_89 (lv_at hl 6 rfl) ?_
        obtain ⟨ha14, hf⟩ := jif hf
        refine jiald E hM ha14 dX12_findKnown_91 ?_
        refine lv_i2l hx hb dX12_findKnown_92 rfl ?_
        refine lv_aload_n hx hb dX12_findKnown_93 rfl (lv_at hl 1 rfl) ?_
        refine gt_143 E hM hq3 lk_6_57 dX12_findKnown_94 ?_
        obtain ⟨r15, hr16, hf⟩ := jb hf
        rw [hr16]
        show W p l e _ s m args below meth c H locs 0 0 _ (F0 m _ ls (.ref (g.2.2 + r15) :: _))
        refine lv_iload hx hb dX12_findKnown_97 (lv_at hl 6 rfl) ?_
        obtain ⟨ha17, hf⟩ := jif hf
        refine jiald E hM ha17 dX12_findKnown_99 ?_
        refine lv_i2l hx hb dX12_findKnown_100 rfl ?_
        refine jbackI hM (jrunS E hM ci_X12_in (C_X12_in rfl) lk_7_36 hl.1 rfl rfl (Nat.le_of_ble_eq_true rfl) ⟨Nat.le_of_ble_eq_true rfl, Nat.le_of_ble_eq_true rfl⟩ ⟨Nat.le_refl _, Nat.le_refl _⟩ dX12_findKnown_101) (fun H locs hM => ?_)
        refine lv_if_eq (tgt := 110) hx hb dX12_findKnown_104 (by decide) (fun c18 => ?_) (fun c18 => ?_)
        · have hf := jt c18 hf
          exact B_X12_findKnown_110 E hk8 hf hM (lv_sub hl [1, 2, 3, 4, 5, 6] rfl)
        · have hf := jf c18 hf
          refine lv_iload hx hb dX12_findKnown_107 (lv_at hl 6 rfl) ?_
          exact jireti (jr1 hf) E hM dX12_findKnown_109
set_option maxRecDepth 100000 in
set_option maxHeartbeats 4000000 in
theorem B_X12_findKnown_51 {p : Program} {l : Launch} {e : Env} {s : State} {m : MethodId} {args : Array Value} {below : List Frame} {meth : Method} {c : Code} {g : jG} {rr : Int32} {S : jM} {v0 : Nat} {v1 : Int32} {v2 : Int64} {v4 : Int32} {v5 : Int32} {v6 : Int32} {k8 : Nat → Int32 → Int64 → Int32 → Int32 → Int32 → jM → Option Int32} (E : jEnv p s m args meth c cX12_findKnown "PensionHouseModel" (some .int) 8 g) (hk8 : ∀ (v0 : Nat) (v1 : Int32) (v2 : Int64) (v4 : Int32) (v5 : Int32) (v6 : Int32) (H : Heap) (locs : List Loc) (ls : Array Slot), k8 v0 v1 v2 v4 v5 v6 S = some rr → jAt g S s H locs → lv_has ls 8 [(0, .ref (g.2.2 + v0)), (1, .int v1), (2, .long v2), (4, .int v4), (5, .int v5), (6, .int v6)] → W p l e (jRm 2 0 0) s m args below meth c H locs 0 0 (MQ below (jQi g rr S) args s 0 0 (jA0 g)) (F0 m 8 ls [])) {H : Heap} {locs : List Loc} {ls : Array Slot} (hf : f_X12_findKnown_51 k8 v0 v1 v2 v4 v5 v6 S = some rr) (hM : jAt g S s H locs) (hl : lv_has ls 8 [(0, .ref (g.2.2 + v0)), (1, .int v1), (2, .long v2), (4, .int v4), (5, .int v5), (6, .int v6)]) : W p l e (jRm 2 0 0) s m args below meth c H locs 0 0 (MQ below (jQi g rr S) args s 0 0 (jA0 g)) (F0 m 51 ls []) := by
  obtain ⟨hx, hb, hml, -, hts, hown, hK, -, hstr⟩ := id E
  unfold f_X12_findKnown_51 at hf
  refine lv_iconst (v := (0 : Int32)) hx hb dX12_findKnown_51 (by decide) ?_
  exact B_X12_findKnown_52 E hk8 hf hM (lv_sub hl [0, 1, 2, 3, 4, 5] rfl)
set_option maxRecDepth 100000 in
set_option maxHeartbeats 4000000 in
theorem B_X12_findKnown_47 {p : Program} {l : Launch} {e : Env} {s : State} {m : MethodId} {args : Array Value} {below : List Frame} {meth : Method} {c : Code} {g : jG} {rr : Int32} {S : jM} {v0 : Nat} {v1 : Int32} {v2 : Int64} {v4 : Int32} {v5 : Int32} {v6 : Int32} {k8 : Nat → Int32 → Int64 → Int32 → Int32 → Int32 → jM → Option Int32} (E : jEnv p s m args meth c cX12_findKnown "PensionHouseModel" (some .int) 8 g) (hk8 : ∀ (v0 : Nat) (v1 : Int32) (v2 : Int64) (v4 : Int32) (v5 : Int32) (v6 : Int32) (H : Heap) (locs : List Loc) (ls : Array Slot), k8 v0 v1 v2 v4 v5 v6 S = some rr → jAt g S s H locs → lv_has ls 8 [(0, .ref (g.2.2 + v0)), (1, .int v1), (2, .long v2), (4, .int v4), (5, .int v5), (6, .int v6)] → W p l e (jRm 2 0 0) s m args below meth c H locs 0 0 (MQ below (jQi g rr S) args s 0 0 (jA0 g)) (F0 m 8 ls [])) {H : Heap} {locs : List Loc} {ls : Array Slot} (hf : f_X12_findKnown_47 k8 v0 v1 v2 v4 v5 v6 S = some rr) (hM : jAt g S s H locs) (hl : lv_has ls 8 [(0, .ref (g.2.2 + v0)), (1, .int v1), (2, .long v2), (4, .int v4), (5, .int v5), (6, .int v6)]) : W p l e (jRm 2 0 0) s m args below meth c H locs 0 0 (MQ below (jQi g rr S) args s 0 0 (jA0 g)) (F0 m 47 ls []) := by
  obtain ⟨hx, hb, hml, -, hts, hown, hK, -, hstr⟩ := id E
  unfold f_X12_findKnown_47 at hf
  refine lv_iconst (v := (1 : Int32)) hx hb dX12_findKnown_47 (by decide) ?_
  refine lv_goto (tgt := 52) hx hb dX12_findKnown_48 (by decide) ?_
  exact B_X12_findKnown_52 E hk8 hf hM (lv_sub hl [0, 1, 2, 3, 4, 5] rfl)
set_option maxRecDepth 100000 in
set_option maxHeartbeats 4000000 in
theorem B_X12_findKnown_8 {p : Program} {l : Launch} {e : Env} {s : State} {m : MethodId} {args : Array Value} {below : List Frame} {meth : Method} {c : Code} {g : jG} {rr : Int32} {S : jM} (E : jEnv p s m args meth c cX12_findKnown "PensionHouseModel" (some .int) 8 g)  : ∀ (n : Nat) (v0 : Nat) (v1 : Int32) (v2 : Int64) (v4 : Int32) (v5 : Int32) (v6 : Int32) (H : Heap) (locs : List Loc) (ls : Array Slot), f_X12_findKnown_8 n v0 v1 v2 v4 v5 v6 S = some rr → jAt g S s H locs → lv_has ls 8 [(0, .ref (g.2.2 + v0)), (1, .int v1), (2, .long v2), (4, .int v4), (5, .int v5), (6, .int v6)] → W p l e (jRm 2 0 0) s m args below meth c H locs 0 0 (MQ below (jQi g rr S) args s 0 0 (jA0 g)) (F0 m 8 ls []) := by
  obtain ⟨hx, hb, hml, -, hts, hown, hK, -, hstr⟩ := id E
  intro n
  induction n with
  | zero => intro v0 v1 v2 v4 v5 v6 H locs ls hf hM hl; rw [f_X12_findKnown_8] at hf; cases hf
  | succ n ih =>
    intro v0 v1 v2 v4 v5 v6 H locs ls hf hM hl
    rw [f_X12_findKnown_8] at hf
    refine lv_iload hx hb dX12_findKnown_8 (lv_at hl 5 rfl) ?_
    refine lv_if_lt (tgt := 116) hx hb dX12_findKnown_10 (by decide) (fun c19 => ?_) (fun c19 => ?_)
    · have hf := jt c19 hf
      refine lv_iconst (v := (-1 : Int32)) hx hb dX12_findKnown_116 (by decide) ?_
      exact jireti (jr1 hf) E hM dX12_findKnown_117
    · have hf := jf c19 hf
      refine lv_aload_n hx hb dX12_findKnown_13 rfl (lv_at hl 0 rfl) ?_
      obtain ⟨hq20, hf⟩ := jif hf
      refine gt_144 E hM hq20 lk_6_58 dX12_findKnown_14 ?_
      obtain ⟨r21, hr22, hf⟩ := jb hf
      rw [hr22]
      show W p l e _ s m args below meth c H locs 0 0 _ (F0 m _ ls (.ref (g.2.2 + r21) :: _))
      refine lv_iload hx hb dX12_findKnown_17 (lv_at hl 5 rfl) ?_
      obtain ⟨ha23, hf⟩ := jif hf
      refine jiald E hM ha23 dX12_findKnown_19 ?_
      refine lv_iload hx hb dX12_findKnown_20 (lv_at hl 4 rfl) ?_
      refine lv_icmp_gt (tgt := 51) hx hb dX12_findKnown_22 (by decide) (fun c24 => ?_) (fun c24 => ?_)
      · have hf := jt c24 hf
        exact B_X12_findKnown_51 E ih hf hM (lv_sub hl [0, 1, 2, 3, 4, 5] rfl)
      · have hf := jf c24 hf
        refine lv_aload_n hx hb dX12_findKnown_25 rfl (lv_at hl 0 rfl) ?_
        refine gt_145 E hM hq20 lk_6_59 dX12_findKnown_26 ?_
        obtain ⟨r25, hr26, hf⟩ := jb hf
        rw [hr26]
        show W p l e _ s m args below meth c H locs 0 0 _ (F0 m _ ls (.ref (g.2.2 + r25) :: _))
        refine lv_iload hx hb dX12_findKnown_29 (lv_at hl 5 rfl) ?_
        obtain ⟨ha27, hf⟩ := jif hf
        refine jiald E hM ha27 dX12_findKnown_31 ?_
        refine lv_if_lt (tgt := 47) hx hb dX12_findKnown_32 (by decide) (fun c28 => ?_) (fun c28 => ?_)
        · have hf := jt c28 hf
          exact B_X12_findKnown_47 E ih hf hM (lv_sub hl [0, 1, 2, 3, 4, 5] rfl)
        · have hf := jf c28 hf
          refine lv_aload_n hx hb dX12_findKnown_35 rfl (lv_at hl 0 rfl) ?_
          refine gt_145 E hM hq20 lk_6_59 dX12_findKnown_36 ?_
          obtain ⟨r29, hr30, hf⟩ := jb hf
          rw [hr30]
          show W p l e _ s m args below meth c H locs 0 0 _ (F0 m _ ls (.ref (g.2.2 + r29) :: _))
          refine lv_iload hx hb dX12_findKnown_39 (lv_at hl 5 rfl) ?_
          obtain ⟨ha31, hf⟩ := jif hf
          refine jiald E hM ha31 dX12_findKnown_41 ?_
          refine lv_iload hx hb dX12_findKnown_42 (lv_at hl 4 rfl) ?_
          refine lv_icmp_le (tgt := 51) hx hb dX12_findKnown_44 (by decide) (fun c32 => ?_) (fun c32 => ?_)
          · have hf := jt c32 hf
            exact B_X12_findKnown_51 E ih hf hM (lv_sub hl [0, 1, 2, 3, 4, 5] rfl)
          · have hf := jf c32 hf
            exact B_X12_findKnown_47 E ih hf hM (lv_sub hl [0, 1, 2, 3, 4, 5] rfl)
set_option maxRecDepth 100000 in
set_option maxHeartbeats 4000000 in
theorem B_X12_findKnown_0 {p : Program} {l : Launch} {e : Env} {s : State} {m : MethodId} {args : Array Value} {below : List Frame} {meth : Method} {c : Code} {g : jG} {rr : Int32} {S : jM} {v0 : Nat} {v1 : Int32} {v2 : Int64} {v4 : Int32} {v5 : Int32} (E : jEnv p s m args meth c cX12_findKnown "PensionHouseModel" (some .int) 8 g)  {H : Heap} {locs : List Loc} {ls : Array Slot} (hf : f_X12_findKnown v0 v1 v2 v4 v5 S = some rr) (hM : jAt g S s H locs) (hl : lv_has ls 8 [(0, .ref (g.2.2 + v0)), (1, .int v1), (2, .long v2), (4, .int v4), (5, .int v5)]) : W p l e (jRm 2 0 0) s m args below meth c H locs 0 0 (MQ below (jQi g rr S) args s 0 0 (jA0 g)) (F0 m 0 ls []) := by
  obtain ⟨hx, hb, hml, -, hts, hown, hK, -, hstr⟩ := id E
  unfold f_X12_findKnown at hf
  refine lv_aload_n hx hb dX12_findKnown_0 rfl (lv_at hl 0 rfl) ?_
  obtain ⟨hq33, hf⟩ := jif hf
  refine gt_146 E hM hq33 lk_6_60 dX12_findKnown_1 ?_
  refine lv_iconst (v := (1 : Int32)) hx hb dX12_findKnown_4 (by decide) ?_
  refine lv_isub hx hb dX12_findKnown_5 ?_
  refine lv_topi (fun x34 ex34 => ?_)
  have hf := jlet_y ex34 hf
  refine lv_istore (lv' := [(6, .int x34), (0, .ref (g.2.2 + v0)), (1, .int v1), (2, .long v2), (4, .int v4), (5, .int v5)]) hx hb dX12_findKnown_6 hl (by decide) rfl (fun ls hl => ?_)
  exact B_X12_findKnown_8 E  1100000 v0 v1 v2 v4 v5 x34 _ _ _ hf hM (lv_sub hl [1, 2, 3, 4, 5, 0] rfl)
set_option maxRecDepth 100000 in
theorem C_X12_findKnown {l : Launch} {g : jG} {a0 : Nat} {a1 : Int32} {a2 : Int64} {a4 : Int32} {a5 : Int32} {S : jM} {rr : Int32} (hf : f_X12_findKnown a0 a1 a2 a4 a5 S = some rr) : jMet l g yX12_findKnown cX12_findKnown 8 (some .int) 2 0 0 [.ref (g.2.2 + a0), .int a1, .long a2, .int a4, .int a5] S (jQi g rr S) := by
  refine jof (by decide +kernel) (Nat.le_of_ble_eq_true rfl) ?_
  intro p e s m below meth c E hM ls hl
  have hl : lv_has ls 8 [(0, .ref (g.2.2 + a0)),(1, .int a1),(2, .long a2),(4, .int a4),(5, .int a5)] := hl
  exact B_X12_findKnown_0 E hf hM hl
-- PensionHouseModel.workFact(J)I  mode M
noncomputable def f_X12_workFact (v0 : Nat) (v1 : Int64) (S : jM) : Option (Int32 × jM) := if jK v0 = 10 then jlet (jsI S 124 v0 ((jI S 124 v0) + (1 : Int32))) (fun S2 => (f_X12_findKnown v0 (jI S2 119 v0) v1 (jI S2 120 v0) (jI S2 121 v0) S2).bind (fun x3 => if 0 ≤ x3 then some ((1 : Int32) + x3, S2) else jbd (f_X12_failing v0 (1 : Int32) S2) (fun x6 S7 => some (x6, S7)))) else none
set_option maxRecDepth 100000 in
set_option maxHeartbeats 4000000 in
theorem B_X12_workFact_0 {p : Program} {l : Launch} {e : Env} {s : State} {m : MethodId} {args : Array Value} {below : List Frame} {meth : Method} {c : Code} {g : jG} {rr : Int32} {SS : jM} {v0 : Nat} {v1 : Int64} {S : jM} (E : jEnv p s m args meth c cX12_workFact "PensionHouseModel" (some .int) 4 g)  {H : Heap} {locs : List Loc} {ls : Array Slot} (hf : f_X12_workFact v0 v1 S = some (rr, SS)) (hM : jAt g S s H locs) (hl : lv_has ls 4 [(0, .ref (g.2.2 + v0)), (1, .long v1)]) : W p l e (jRm 3 0 0) s m args below meth c H locs 0 0 (MQ below (jQi g rr SS) args s 0 0 (jA0 g)) (F0 m 0 ls []) := by
  obtain ⟨hx, hb, hml, -, hts, hown, hK, -, hstr⟩ := id E
  unfold f_X12_workFact at hf
  refine lv_aload_n hx hb dX12_workFact_0 rfl (lv_at hl 0 rfl) ?_
  refine lv_dup hx hb dX12_workFact_1 rfl ?_
  obtain ⟨hq1, hf⟩ := jif hf
  refine gt_124 E hM hq1 lk_6_38 dX12_workFact_2 ?_
  refine lv_iconst (v := (1 : Int32)) hx hb dX12_workFact_5 (by decide) ?_
  refine lv_iadd hx hb dX12_workFact_6 ?_
  refine pt_124 E hM hq1 lk_6_38 dX12_workFact_7 (fun H locs S2 eS2 hM => ?_)
  have hf := jlet_y eS2 hf
  refine lv_aload_n hx hb dX12_workFact_10 rfl (lv_at hl 0 rfl) ?_
  refine lv_aload_n hx hb dX12_workFact_11 rfl (lv_at hl 0 rfl) ?_
  refine gt_119 E hM hq1 lk_6_33 dX12_workFact_12 ?_
  refine lv_lload_n hx hb dX12_workFact_15 rfl (lv_at hl 1 rfl) ?_
  refine lv_aload_n hx hb dX12_workFact_16 rfl (lv_at hl 0 rfl) ?_
  refine gt_120 E hM hq1 lk_6_34 dX12_workFact_17 ?_
  refine lv_aload_n hx hb dX12_workFact_20 rfl (lv_at hl 0 rfl) ?_
  refine gt_121 E hM hq1 lk_6_35 dX12_workFact_21 ?_
  obtain ⟨x3, hc4, hf⟩ := jb hf
  refine jbackI hM (jrunV E hM ci_X12_findKnown (C_X12_findKnown hc4) lk_7_192 hq1 (by decide) rfl hl.1 rfl rfl (Nat.le_of_ble_eq_true rfl) ⟨Nat.le_of_ble_eq_true rfl, Nat.le_of_ble_eq_true rfl⟩ ⟨Nat.le_refl _, Nat.le_refl _⟩ dX12_workFact_24) (fun H locs hM => ?_)
  refine lv_istore_n (lv' := [(3, .int x3), (0, .ref (g.2.2 + v0)), (1, .long v1)]) hx hb dX12_workFact_27 rfl hl (by decide) rfl (fun ls hl => ?_)
  refine lv_iload_n hx hb dX12_workFact_28 rfl (lv_at hl 0 rfl) ?_
  refine lv_if_ge (tgt := 40) hx hb dX12_workFact_29 (by decide) (fun c5 => ?_) (fun c5 => ?_)
  · have hf := jt c5 hf
    refine lv_iconst (v := (1 : Int32)) hx hb dX12_workFact_40 (by decide) ?_
    refine lv_iload_n hx hb dX12_workFact_41 rfl (lv_at hl 0 rfl) ?_
    refine lv_iadd hx hb dX12_workFact_42 ?_
    exact jireti (jr2 hf) E hM dX12_workFact_43
  · have hf := jf c5 hf
    refine lv_aload_n hx hb dX12_workFact_32 rfl (lv_at hl 1 rfl) ?_
    refine lv_iconst (v := (1 : Int32)) hx hb dX12_workFact_33 (by decide) ?_
    obtain ⟨x6, S7, hc8, hf⟩ := jbd_e hf
    refine jbackI hM (jrunV E hM ci_X12_failing (C_X12_failing hc8) lk_8_87 hq1 (by decide) rfl hl.1 rfl rfl (Nat.le_of_ble_eq_true rfl) ⟨Nat.le_of_ble_eq_true rfl, Nat.le_of_ble_eq_true rfl⟩ ⟨Nat.le_refl _, Nat.le_refl _⟩ dX12_workFact_34) (fun H locs hM => ?_)
    refine lv_goto (tgt := 43) hx hb dX12_workFact_37 (by decide) ?_
    exact jireti (jr2 hf) E hM dX12_workFact_43
set_option maxRecDepth 100000 in
theorem C_X12_workFact {l : Launch} {g : jG} {a0 : Nat} {a1 : Int64} {S : jM} {rr : Int32} {SS : jM} (hf : f_X12_workFact a0 a1 S = some (rr, SS)) : jMet l g yX12_workFact cX12_workFact 4 (some .int) 3 0 0 [.ref (g.2.2 + a0), .long a1] S (jQi g rr SS) := by
  refine jof (by decide +kernel) (Nat.le_of_ble_eq_true rfl) ?_
  intro p e s m below meth c E hM ls hl
  have hl : lv_has ls 4 [(0, .ref (g.2.2 + a0)),(1, .long a1)] := hl
  exact B_X12_workFact_0 E hf hM hl
-- PensionHouseModel.isNumber(I)Z  mode T
noncomputable def f_X12_isNumber (v0 : Int32) : Int32 := if (2 : Int32) ≤ v0 then (0 : Int32) else (1 : Int32)
set_option maxRecDepth 100000 in
set_option maxHeartbeats 4000000 in
theorem B_X12_isNumber_0 {p : Program} {l : Launch} {e : Env} {s : State} {m : MethodId} {args : Array Value} {below : List Frame} {meth : Method} {c : Code} {g : jG} {rr : Int32} {S : jM} {v0 : Int32} (E : jEnv p s m args meth c cX12_isNumber "PensionHouseModel" (some .boolean) 1 g)  {H : Heap} {locs : List Loc} {ls : Array Slot} (hf : f_X12_isNumber v0 = rr) (hM : jAt g S s H locs) (hl : lv_has ls 1 [(0, .int v0)]) : W p l e (jRm 1 0 0) s m args below meth c H locs 0 0 (MQ below (jQi g rr S) args s 0 0 (jA0 g)) (F0 m 0 ls []) := by
  obtain ⟨hx, hb, hml, -, hts, hown, hK, -, hstr⟩ := id E
  unfold f_X12_isNumber at hf
  refine lv_iload_n hx hb dX12_isNumber_0 rfl (lv_at hl 0 rfl) ?_
  refine lv_iconst (v := (2 : Int32)) hx hb dX12_isNumber_1 (by decide) ?_
  refine lv_icmp_ge (tgt := 9) hx hb dX12_isNumber_2 (by decide) (fun c1 => ?_) (fun c1 => ?_)
  · have hf := jt c1 hf
    refine lv_iconst (v := (0 : Int32)) hx hb dX12_isNumber_9 (by decide) ?_
    exact jiretz (jr0 hf) E hM (by decide) dX12_isNumber_10
  · have hf := jf c1 hf
    refine lv_iconst (v := (1 : Int32)) hx hb dX12_isNumber_5 (by decide) ?_
    refine lv_goto (tgt := 10) hx hb dX12_isNumber_6 (by decide) ?_
    exact jiretz (jr0 hf) E hM (by decide) dX12_isNumber_10
set_option maxRecDepth 100000 in
theorem C_X12_isNumber {l : Launch} {g : jG} {a0 : Int32} {S : jM} {rr : Int32} (hf : f_X12_isNumber a0 = rr) : jMet l g yX12_isNumber cX12_isNumber 1 (some .boolean) 1 0 0 [.int a0] S (jQi g rr S) := by
  refine jof (by decide +kernel) (Nat.le_of_ble_eq_true rfl) ?_
  intro p e s m below meth c E hM ls hl
  have hl : lv_has ls 1 [(0, .int a0)] := hl
  exact B_X12_isNumber_0 E hf hM hl
-- PensionHouseModel.negative(I)I  mode M
noncomputable def f_X12_negative_109 (v0 : Nat) (v2 : Int64) (S : jM) : Option (Int32 × jM) := if jK v0 = 10 then jbd (f_X12_ofWhole v0 (-v2) S) (fun x1 S2 => some (x1, S2)) else none
noncomputable def f_X12_negative_73 (t0 : Nat) (t1 : UInt64) (S : jM) : Option (Int32 × jM) := if jK t0 = 10 then jbd (f_X12_ofReal t0 t1 S) (fun x5 S6 => some (x5, S6)) else none
noncomputable def f_X12_negative (v0 : Nat) (v1 : Int32) (S : jM) : Option (Int32 × jM) := if 0 ≤ v1 then if jK v0 = 10 then (jR S 88 v0).bind (fun r11 => if jA r11 13 v1 = true then if (f_X12_isNumber (jAI S r11 (v1).toNatClampNeg)) = 0 then jbd (f_X12_failing v0 (2 : Int32) S) (fun x38 S39 => some (x38, S39)) else (jR S 88 v0).bind (fun r15 => if jA r15 13 v1 = true then if (jAI S r15 (v1).toNatClampNeg) = (1 : Int32) then (jR S 91 v0).bind (fun r28 => if jA r28 12 ((12 : Int32) * v1) = true then (jR S 91 v0).bind (fun r31 => if jA r31 12 ((12 : Int32) * v1) = true then if (Op.cmpValue (FP.dcmp (jAD S r28 ((12 : Int32) * v1).toNatClampNeg) (jAD S r31 ((12 : Int32) * v1).toNatClampNeg)) .l) = 0 then (jR S 91 v0).bind (fun r35 => if jA r35 12 ((12 : Int32) * v1) = true then f_X12_negative_73 v0 (FP.dneg (jAD S r35 ((12 : Int32) * v1).toNatClampNeg)) S else none) else f_X12_negative_73 v0 (9221120237041090560 : UInt64) S else none) else none) else (jR S 90 v0).bind (fun r19 => if jA r19 14 ((12 : Int32) * v1) = true then jlet (jAL S r19 ((12 : Int32) * v1).toNatClampNeg) (fun x22 => if x22 = (-x22) then if x22 = (0 : Int64) then f_X12_negative_109 v0 x22 S else jbd (f_X12_failing v0 (6 : Int32) S) (fun x25 S26 => some (x25, S26)) else f_X12_negative_109 v0 x22 S) else none) else none) else none) else none else some (v1, S)
set_option maxRecDepth 100000 in
set_option maxHeartbeats 4000000 in
theorem B_X12_negative_109 {p : Program} {l : Launch} {e : Env} {s : State} {m : MethodId} {args : Array Value} {below : List Frame} {meth : Method} {c : Code} {g : jG} {rr : Int32} {SS : jM} {v0 : Nat} {v2 : Int64} {S : jM} (E : jEnv p s m args meth c cX12_negative "PensionHouseModel" (some .int) 4 g)  {H : Heap} {locs : List Loc} {ls : Array Slot} (hf : f_X12_negative_109 v0 v2 S = some (rr, SS)) (hM : jAt g S s H locs) (hl : lv_has ls 4 [(0, .ref (g.2.2 + v0)), (2, .long v2)]) : W p l e (jRm 5 0 0) s m args below meth c H locs 0 0 (MQ below (jQi g rr SS) args s 0 0 (jA0 g)) (F0 m 109 ls []) := by
  obtain ⟨hx, hb, hml, -, hts, hown, hK, -, hstr⟩ := id E
  unfold f_X12_negative_109 at hf
  refine lv_aload_n hx hb dX12_negative_109 rfl (lv_at hl 0 rfl) ?_
  refine lv_lload_n hx hb dX12_negative_110 rfl (lv_at hl 1 rfl) ?_
  refine lv_lneg hx hb dX12_negative_111 ?_
  obtain ⟨hq4, hf⟩ := jif hf
  obtain ⟨x1, S2, hc3, hf⟩ := jbd_e hf
  refine jbackI hM (jrunV E hM ci_X12_ofWhole (C_X12_ofWhole hc3) lk_8_91 hq4 (by decide) rfl hl.1 rfl rfl (Nat.le_of_ble_eq_true rfl) ⟨Nat.le_of_ble_eq_true rfl, Nat.le_of_ble_eq_true rfl⟩ ⟨Nat.le_refl _, Nat.le_refl _⟩ dX12_negative_112) (fun H locs hM => ?_)
  exact jireti (jr2 hf) E hM dX12_negative_115
set_option maxRecDepth 100000 in
set_option maxHeartbeats 4000000 in
theorem B_X12_negative_73 {p : Program} {l : Launch} {e : Env} {s : State} {m : MethodId} {args : Array Value} {below : List Frame} {meth : Method} {c : Code} {g : jG} {rr : Int32} {SS : jM} {t0 : Nat} {t1 : UInt64} {S : jM} (E : jEnv p s m args meth c cX12_negative "PensionHouseModel" (some .int) 4 g)  {H : Heap} {locs : List Loc} {ls : Array Slot} (hf : f_X12_negative_73 t0 t1 S = some (rr, SS)) (hM : jAt g S s H locs) (hl : lv_has ls 4 []) : W p l e (jRm 5 0 0) s m args below meth c H locs 0 0 (MQ below (jQi g rr SS) args s 0 0 (jA0 g)) (F0 m 73 ls [.double t1, .ref (g.2.2 + t0)]) := by
  obtain ⟨hx, hb, hml, -, hts, hown, hK, -, hstr⟩ := id E
  unfold f_X12_negative_73 at hf
  obtain ⟨hq8, hf⟩ := jif hf
  obtain ⟨x5, S6, hc7, hf⟩ := jbd_e hf
  refine jbackI hM (jrunV E hM ci_X12_ofReal (C_X12_ofReal hc7) lk_8_103 hq8 (by decide) rfl hl.1 rfl rfl (Nat.le_of_ble_eq_true rfl) ⟨Nat.le_of_ble_eq_true rfl, Nat.le_of_ble_eq_true rfl⟩ ⟨Nat.le_refl _, Nat.le_refl _⟩ dX12_negative_73) (fun H locs hM => ?_)
  exact jireti (jr2 hf) E hM dX12_negative_76
set_option maxRecDepth 100000 in
set_option maxHeartbeats 4000000 in
theorem B_X12_negative_0 {p : Program} {l : Launch} {e : Env} {s : State} {m : MethodId} {args : Array Value} {below : List Frame} {meth : Method} {c : Code} {g : jG} {rr : Int32} {SS : jM} {v0 : Nat} {v1 : Int32} {S : jM} (E : jEnv p s m args meth c cX12_negative "PensionHouseModel" (some .int) 4 g)  {H : Heap} {locs : List Loc} {ls : Array Slot} (hf : f_X12_negative v0 v1 S = some (rr, SS)) (hM : jAt g S s H locs) (hl : lv_has ls 4 [(0, .ref (g.2.2 + v0)), (1, .int v1)]) : W p l e (jRm 5 0 0) s m args below meth c H locs 0 0 (MQ below (jQi g rr SS) args s 0 0 (jA0 g)) (F0 m 0 ls []) := by
  obtain ⟨hx, hb, hml, -, hts, hown, hK, -, hstr⟩ := id E
  unfold f_X12_negative at hf
  refine lv_iload_n hx hb dX12_negative_0 rfl (lv_at hl 1 rfl) ?_
  refine lv_if_ge (tgt := 6) hx hb dX12_negative_1 (by decide) (fun c9 => ?_) (fun c9 => ?_)
  · have hf := jt c9 hf
    refine lv_aload_n hx hb dX12_negative_6 rfl (lv_at hl 0 rfl) ?_
    obtain ⟨hq10, hf⟩ := jif hf
    refine gt_88 E hM hq10 lk_6_2 dX12_negative_7 ?_
    obtain ⟨r11, hr12, hf⟩ := jb hf
    rw [hr12]
    show W p l e _ s m args below meth c H locs 0 0 _ (F0 m _ ls (.ref (g.2.2 + r11) :: _))
    refine lv_iload_n hx hb dX12_negative_10 rfl (lv_at hl 1 rfl) ?_
    obtain ⟨ha13, hf⟩ := jif hf
    refine jiald E hM ha13 dX12_negative_11 ?_
    refine jbackI hM (jrunS E hM ci_X12_isNumber (C_X12_isNumber rfl) lk_8_115 hl.1 rfl rfl (Nat.le_of_ble_eq_true rfl) ⟨Nat.le_of_ble_eq_true rfl, Nat.le_of_ble_eq_true rfl⟩ ⟨Nat.le_refl _, Nat.le_refl _⟩ dX12_negative_12) (fun H locs hM => ?_)
    refine lv_if_ne (tgt := 24) hx hb dX12_negative_15 (by decide) (fun c14 => ?_) (fun c14 => ?_)
    · have hf := jf c14 hf
      refine lv_aload_n hx hb dX12_negative_24 rfl (lv_at hl 0 rfl) ?_
      refine gt_88 E hM hq10 lk_6_2 dX12_negative_25 ?_
      obtain ⟨r15, hr16, hf⟩ := jb hf
      rw [hr16]
      show W p l e _ s m args below meth c H locs 0 0 _ (F0 m _ ls (.ref (g.2.2 + r15) :: _))
      refine lv_iload_n hx hb dX12_negative_28 rfl (lv_at hl 1 rfl) ?_
      obtain ⟨ha17, hf⟩ := jif hf
      refine jiald E hM ha17 dX12_negative_29 ?_
      refine lv_iconst (v := (1 : Int32)) hx hb dX12_negative_30 (by decide) ?_
      refine lv_icmp_ne (tgt := 77) hx hb dX12_negative_31 (by decide) (fun c18 => ?_) (fun c18 => ?_)
      · have hf := jf c18 hf
        refine lv_aload_n hx hb dX12_negative_77 rfl (lv_at hl 0 rfl) ?_
        refine gt_90 E hM hq10 lk_6_4 dX12_negative_78 ?_
        obtain ⟨r19, hr20, hf⟩ := jb hf
        rw [hr20]
        show W p l e _ s m args below meth c H locs 0 0 _ (F0 m _ ls (.ref (g.2.2 + r19) :: _))
        refine lv_bipush (v := (12 : Int32)) hx hb dX12_negative_81 (by decide) ?_
        refine lv_iload_n hx hb dX12_negative_83 rfl (lv_at hl 1 rfl) ?_
        refine lv_imul hx hb dX12_negative_84 ?_
        obtain ⟨ha21, hf⟩ := jif hf
        refine jlald E hM ha21 dX12_negative_85 ?_
        refine lv_topl (fun x22 ex22 => ?_)
        have hf := jlet_y ex22 hf
        refine lv_lstore_n (lv' := [(2, .long x22), (0, .ref (g.2.2 + v0)), (1, .int v1)]) hx hb dX12_negative_86 rfl hl (by decide) rfl (fun ls hl => ?_)
        refine lv_lload_n hx hb dX12_negative_87 rfl (lv_at hl 0 rfl) ?_
        refine lv_lload_n hx hb dX12_negative_88 rfl (lv_at hl 0 rfl) ?_
        refine lv_lneg hx hb dX12_negative_89 ?_
        refine jl_ne (tgt := 109) hx hb dX12_negative_90 dX12_negative_91 (by decide) (fun c23 => ?_) (fun c23 => ?_)
        · have hf := jf c23 hf
          exact B_X12_negative_109 E  hf hM (lv_sub hl [1, 0] rfl)
        · have hf := jt c23 hf
          refine lv_lload_n hx hb dX12_negative_94 rfl (lv_at hl 0 rfl) ?_
          refine lv_lconst (v := (0 : Int64)) hx hb dX12_negative_95 (by decide) ?_
          refine jl_eq (tgt := 109) hx hb dX12_negative_96 dX12_negative_97 (by decide) (fun c24 => ?_) (fun c24 => ?_)
          · have hf := jt c24 hf
            exact B_X12_negative_109 E  hf hM (lv_sub hl [1, 0] rfl)
          · have hf := jf c24 hf
            refine lv_aload_n hx hb dX12_negative_100 rfl (lv_at hl 1 rfl) ?_
            refine lv_bipush (v := (6 : Int32)) hx hb dX12_negative_101 (by decide) ?_
            obtain ⟨x25, S26, hc27, hf⟩ := jbd_e hf
            refine jbackI hM (jrunV E hM ci_X12_failing (C_X12_failing hc27) lk_8_87 hq10 (by decide) rfl hl.1 rfl rfl (Nat.le_of_ble_eq_true rfl) ⟨Nat.le_of_ble_eq_true rfl, Nat.le_of_ble_eq_true rfl⟩ ⟨Nat.le_refl _, Nat.le_refl _⟩ dX12_negative_103) (fun H locs hM => ?_)
            refine lv_goto (tgt := 115) hx hb dX12_negative_106 (by decide) ?_
            exact jireti (jr2 hf) E hM dX12_negative_115
      · have hf := jt c18 hf
        refine lv_aload_n hx hb dX12_negative_34 rfl (lv_at hl 0 rfl) ?_
        refine lv_aload_n hx hb dX12_negative_35 rfl (lv_at hl 0 rfl) ?_
        refine gt_91 E hM hq10 lk_6_5 dX12_negative_36 ?_
        obtain ⟨r28, hr29, hf⟩ := jb hf
        rw [hr29]
        show W p l e _ s m args below meth c H locs 0 0 _ (F0 m _ ls (.ref (g.2.2 + r28) :: _))
        refine lv_bipush (v := (12 : Int32)) hx hb dX12_negative_39 (by decide) ?_
        refine lv_iload_n hx hb dX12_negative_41 rfl (lv_at hl 1 rfl) ?_
        refine lv_imul hx hb dX12_negative_42 ?_
        obtain ⟨ha30, hf⟩ := jif hf
        refine jdald E hM ha30 dX12_negative_43 ?_
        refine lv_aload_n hx hb dX12_negative_44 rfl (lv_at hl 0 rfl) ?_
        refine gt_91 E hM hq10 lk_6_5 dX12_negative_45 ?_
        obtain ⟨r31, hr32, hf⟩ := jb hf
        rw [hr32]
        show W p l e _ s m args below meth c H locs 0 0 _ (F0 m _ ls (.ref (g.2.2 + r31) :: _))
        refine lv_bipush (v := (12 : Int32)) hx hb dX12_negative_48 (by decide) ?_
        refine lv_iload_n hx hb dX12_negative_50 rfl (lv_at hl 1 rfl) ?_
        refine lv_imul hx hb dX12_negative_51 ?_
        obtain ⟨ha33, hf⟩ := jif hf
        refine jdald E hM ha33 dX12_negative_52 ?_
        refine lv_dcmp hx hb dX12_negative_53 ?_
        refine lv_if_eq (tgt := 63) hx hb dX12_negative_54 (by decide) (fun c34 => ?_) (fun c34 => ?_)
        · have hf := jt c34 hf
          refine lv_aload_n hx hb dX12_negative_63 rfl (lv_at hl 0 rfl) ?_
          refine gt_91 E hM hq10 lk_6_5 dX12_negative_64 ?_
          obtain ⟨r35, hr36, hf⟩ := jb hf
          rw [hr36]
          show W p l e _ s m args below meth c H locs 0 0 _ (F0 m _ ls (.ref (g.2.2 + r35) :: _))
          refine lv_bipush (v := (12 : Int32)) hx hb dX12_negative_67 (by decide) ?_
          refine lv_iload_n hx hb dX12_negative_69 rfl (lv_at hl 1 rfl) ?_
          refine lv_imul hx hb dX12_negative_70 ?_
          obtain ⟨ha37, hf⟩ := jif hf
          refine jdald E hM ha37 dX12_negative_71 ?_
          refine lv_dneg hx hb dX12_negative_72 ?_
          exact B_X12_negative_73 E  hf hM (lv_sub hl [] rfl)
        · have hf := jf c34 hf
          refine lv_ldc2d (v := (9221120237041090560 : UInt64)) hx hb hown (hts _ lk_7_80) dX12_negative_57 ?_
          refine lv_goto (tgt := 73) hx hb dX12_negative_60 (by decide) ?_
          exact B_X12_negative_73 E  hf hM (lv_sub hl [] rfl)
    · have hf := jt c14 hf
      refine lv_aload_n hx hb dX12_negative_18 rfl (lv_at hl 0 rfl) ?_
      refine lv_iconst (v := (2 : Int32)) hx hb dX12_negative_19 (by decide) ?_
      obtain ⟨x38, S39, hc40, hf⟩ := jbd_e hf
      refine jbackI hM (jrunV E hM ci_X12_failing (C_X12_failing hc40) lk_8_87 hq10 (by decide) rfl hl.1 rfl rfl (Nat.le_of_ble_eq_true rfl) ⟨Nat.le_of_ble_eq_true rfl, Nat.le_of_ble_eq_true rfl⟩ ⟨Nat.le_refl _, Nat.le_refl _⟩ dX12_negative_20) (fun H locs hM => ?_)
      exact jireti (jr2 hf) E hM dX12_negative_23
  · have hf := jf c9 hf
    refine lv_iload_n hx hb dX12_negative_4 rfl (lv_at hl 1 rfl) ?_
    exact jireti (jr2 hf) E hM dX12_negative_5
set_option maxRecDepth 100000 in
theorem C_X12_negative {l : Launch} {g : jG} {a0 : Nat} {a1 : Int32} {S : jM} {rr : Int32} {SS : jM} (hf : f_X12_negative a0 a1 S = some (rr, SS)) : jMet l g yX12_negative cX12_negative 4 (some .int) 5 0 0 [.ref (g.2.2 + a0), .int a1] S (jQi g rr SS) := by
  refine jof (by decide +kernel) (Nat.le_of_ble_eq_true rfl) ?_
  intro p e s m below meth c E hM ls hl
  have hl : lv_has ls 4 [(0, .ref (g.2.2 + a0)),(1, .int a1)] := hl
  exact B_X12_negative_0 E hf hM hl
-- PensionHouseModel.asReal(I)D  mode R
noncomputable def f_X12_asReal (v0 : Nat) (v1 : Int32) (S : jM) : Option UInt64 := if jK v0 = 10 then (jR S 88 v0).bind (fun r2 => if jA r2 13 v1 = true then if (jAI S r2 (v1).toNatClampNeg) = (1 : Int32) then (jR S 91 v0).bind (fun r9 => if jA r9 12 ((12 : Int32) * v1) = true then some (jAD S r9 ((12 : Int32) * v1).toNatClampNeg) else none) else (jR S 90 v0).bind (fun r6 => if jA r6 14 ((12 : Int32) * v1) = true then some (FP.l2d (jAL S r6 ((12 : Int32) * v1).toNatClampNeg)) else none) else none) else none
set_option maxRecDepth 100000 in
set_option maxHeartbeats 4000000 in
theorem B_X12_asReal_0 {p : Program} {l : Launch} {e : Env} {s : State} {m : MethodId} {args : Array Value} {below : List Frame} {meth : Method} {c : Code} {g : jG} {rr : UInt64} {S : jM} {v0 : Nat} {v1 : Int32} (E : jEnv p s m args meth c cX12_asReal "PensionHouseModel" (some .double) 2 g)  {H : Heap} {locs : List Loc} {ls : Array Slot} (hf : f_X12_asReal v0 v1 S = some rr) (hM : jAt g S s H locs) (hl : lv_has ls 2 [(0, .ref (g.2.2 + v0)), (1, .int v1)]) : W p l e (jRm 1 0 0) s m args below meth c H locs 0 0 (MQ below (jQd g rr S) args s 0 0 (jA0 g)) (F0 m 0 ls []) := by
  obtain ⟨hx, hb, hml, -, hts, hown, hK, -, hstr⟩ := id E
  unfold f_X12_asReal at hf
  refine lv_aload_n hx hb dX12_asReal_0 rfl (lv_at hl 0 rfl) ?_
  obtain ⟨hq1, hf⟩ := jif hf
  refine gt_88 E hM hq1 lk_6_2 dX12_asReal_1 ?_
  obtain ⟨r2, hr3, hf⟩ := jb hf
  rw [hr3]
  show W p l e _ s m args below meth c H locs 0 0 _ (F0 m _ ls (.ref (g.2.2 + r2) :: _))
  refine lv_iload_n hx hb dX12_asReal_4 rfl (lv_at hl 1 rfl) ?_
  obtain ⟨ha4, hf⟩ := jif hf
  refine jiald E hM ha4 dX12_asReal_5 ?_
  refine lv_iconst (v := (1 : Int32)) hx hb dX12_asReal_6 (by decide) ?_
  refine lv_icmp_ne (tgt := 22) hx hb dX12_asReal_7 (by decide) (fun c5 => ?_) (fun c5 => ?_)
  · have hf := jf c5 hf
    refine lv_aload_n hx hb dX12_asReal_22 rfl (lv_at hl 0 rfl) ?_
    refine gt_90 E hM hq1 lk_6_4 dX12_asReal_23 ?_
    obtain ⟨r6, hr7, hf⟩ := jb hf
    rw [hr7]
    show W p l e _ s m args below meth c H locs 0 0 _ (F0 m _ ls (.ref (g.2.2 + r6) :: _))
    refine lv_bipush (v := (12 : Int32)) hx hb dX12_asReal_26 (by decide) ?_
    refine lv_iload_n hx hb dX12_asReal_28 rfl (lv_at hl 1 rfl) ?_
    refine lv_imul hx hb dX12_asReal_29 ?_
    obtain ⟨ha8, hf⟩ := jif hf
    refine jlald E hM ha8 dX12_asReal_30 ?_
    refine lv_l2d hx hb dX12_asReal_31 ?_
    exact jdret (jr1 hf) E hM dX12_asReal_32
  · have hf := jt c5 hf
    refine lv_aload_n hx hb dX12_asReal_10 rfl (lv_at hl 0 rfl) ?_
    refine gt_91 E hM hq1 lk_6_5 dX12_asReal_11 ?_
    obtain ⟨r9, hr10, hf⟩ := jb hf
    rw [hr10]
    show W p l e _ s m args below meth c H locs 0 0 _ (F0 m _ ls (.ref (g.2.2 + r9) :: _))
    refine lv_bipush (v := (12 : Int32)) hx hb dX12_asReal_14 (by decide) ?_
    refine lv_iload_n hx hb dX12_asReal_16 rfl (lv_at hl 1 rfl) ?_
    refine lv_imul hx hb dX12_asReal_17 ?_
    obtain ⟨ha11, hf⟩ := jif hf
    refine jdald E hM ha11 dX12_asReal_18 ?_
    refine lv_goto (tgt := 32) hx hb dX12_asReal_19 (by decide) ?_
    exact jdret (jr1 hf) E hM dX12_asReal_32
set_option maxRecDepth 100000 in
theorem C_X12_asReal {l : Launch} {g : jG} {a0 : Nat} {a1 : Int32} {S : jM} {rr : UInt64} (hf : f_X12_asReal a0 a1 S = some rr) : jMet l g yX12_asReal cX12_asReal 2 (some .double) 1 0 0 [.ref (g.2.2 + a0), .int a1] S (jQd g rr S) := by
  refine jof (by decide +kernel) (Nat.le_of_ble_eq_true rfl) ?_
  intro p e s m below meth c E hM ls hl
  have hl : lv_has ls 2 [(0, .ref (g.2.2 + a0)),(1, .int a1)] := hl
  exact B_X12_asReal_0 E hf hM hl
-- PensionHouseModel.isEndless(D)Z  mode T
noncomputable def f_X12_isEndless_16 : Int32 := (1 : Int32)
noncomputable def f_X12_isEndless (v0 : UInt64) : Int32 := if (Op.cmpValue (FP.dcmp v0 (9218868437227405312 : UInt64)) .l) = 0 then f_X12_isEndless_16  else if (Op.cmpValue (FP.dcmp v0 (18442240474082181120 : UInt64)) .l) = 0 then f_X12_isEndless_16  else (0 : Int32)
set_option maxRecDepth 100000 in
set_option maxHeartbeats 4000000 in
theorem B_X12_isEndless_16 {p : Program} {l : Launch} {e : Env} {s : State} {m : MethodId} {args : Array Value} {below : List Frame} {meth : Method} {c : Code} {g : jG} {rr : Int32} {S : jM} (E : jEnv p s m args meth c cX12_isEndless "PensionHouseModel" (some .boolean) 2 g)  {H : Heap} {locs : List Loc} {ls : Array Slot} (hf : f_X12_isEndless_16  = rr) (hM : jAt g S s H locs) (hl : lv_has ls 2 []) : W p l e (jRm 1 0 0) s m args below meth c H locs 0 0 (MQ below (jQi g rr S) args s 0 0 (jA0 g)) (F0 m 16 ls []) := by
  obtain ⟨hx, hb, hml, -, hts, hown, hK, -, hstr⟩ := id E
  unfold f_X12_isEndless_16 at hf
  refine lv_iconst (v := (1 : Int32)) hx hb dX12_isEndless_16 (by decide) ?_
  refine lv_goto (tgt := 21) hx hb dX12_isEndless_17 (by decide) ?_
  exact jiretz (jr0 hf) E hM (by decide) dX12_isEndless_21
set_option maxRecDepth 100000 in
set_option maxHeartbeats 4000000 in
theorem B_X12_isEndless_0 {p : Program} {l : Launch} {e : Env} {s : State} {m : MethodId} {args : Array Value} {below : List Frame} {meth : Method} {c : Code} {g : jG} {rr : Int32} {S : jM} {v0 : UInt64} (E : jEnv p s m args meth c cX12_isEndless "PensionHouseModel" (some .boolean) 2 g)  {H : Heap} {locs : List Loc} {ls : Array Slot} (hf : f_X12_isEndless v0 = rr) (hM : jAt g S s H locs) (hl : lv_has ls 2 [(0, .double v0)]) : W p l e (jRm 1 0 0) s m args below meth c H locs 0 0 (MQ below (jQi g rr S) args s 0 0 (jA0 g)) (F0 m 0 ls []) := by
  obtain ⟨hx, hb, hml, -, hts, hown, hK, -, hstr⟩ := id E
  unfold f_X12_isEndless at hf
  refine lv_dload_n hx hb dX12_isEndless_0 rfl (lv_at hl 0 rfl) ?_
  refine lv_ldc2d (v := (9218868437227405312 : UInt64)) hx hb hown (hts _ lk_7_79) dX12_isEndless_1 ?_
  refine lv_dcmp hx hb dX12_isEndless_4 ?_
  refine lv_if_eq (tgt := 16) hx hb dX12_isEndless_5 (by decide) (fun c1 => ?_) (fun c1 => ?_)
  · have hf := jt c1 hf
    exact B_X12_isEndless_16 E  hf hM (lv_sub hl [] rfl)
  · have hf := jf c1 hf
    refine lv_dload_n hx hb dX12_isEndless_8 rfl (lv_at hl 0 rfl) ?_
    refine lv_ldc2d (v := (18442240474082181120 : UInt64)) hx hb hown (hts _ lk_7_78) dX12_isEndless_9 ?_
    refine lv_dcmp hx hb dX12_isEndless_12 ?_
    refine lv_if_ne (tgt := 20) hx hb dX12_isEndless_13 (by decide) (fun c2 => ?_) (fun c2 => ?_)
    · have hf := jf c2 hf
      refine lv_iconst (v := (0 : Int32)) hx hb dX12_isEndless_20 (by decide) ?_
      exact jiretz (jr0 hf) E hM (by decide) dX12_isEndless_21
    · have hf := jt c2 hf
      exact B_X12_isEndless_16 E  hf hM (lv_sub hl [] rfl)
set_option maxRecDepth 100000 in
theorem C_X12_isEndless {l : Launch} {g : jG} {a0 : UInt64} {S : jM} {rr : Int32} (hf : f_X12_isEndless a0 = rr) : jMet l g yX12_isEndless cX12_isEndless 2 (some .boolean) 1 0 0 [.double a0] S (jQi g rr S) := by
  refine jof (by decide +kernel) (Nat.le_of_ble_eq_true rfl) ?_
  intro p e s m below meth c E hM ls hl
  have hl : lv_has ls 2 [(0, .double a0)] := hl
  exact B_X12_isEndless_0 E hf hM hl
-- PensionHouseModel.plus(DD)D  mode P
noncomputable def f_X12_plus_37 (v0 : UInt64) (v2 : UInt64) (t0 : Int32) : Option UInt64 := if t0 = 0 then if jnn (FP.dadd v0 v2) = true then some (FP.dadd v0 v2) else none else some (9221120237041090560 : UInt64)
noncomputable def f_X12_plus_36 (v0 : UInt64) (v2 : UInt64) : Option UInt64 := f_X12_plus_37 v0 v2 (0 : Int32)
noncomputable def f_X12_plus_32 (v0 : UInt64) (v2 : UInt64) : Option UInt64 := f_X12_plus_37 v0 v2 (1 : Int32)
noncomputable def f_X12_plus (v0 : UInt64) (v2 : UInt64) : Option UInt64 := if (Op.cmpValue (FP.dcmp v0 v0) .l) = 0 then if (Op.cmpValue (FP.dcmp v2 v2) .l) = 0 then if (f_X12_isEndless v0) = 0 then f_X12_plus_36 v0 v2 else if (f_X12_isEndless v2) = 0 then f_X12_plus_36 v0 v2 else if (Op.cmpValue (FP.dcmp v0 v2) .l) = 0 then f_X12_plus_36 v0 v2 else f_X12_plus_32 v0 v2 else f_X12_plus_32 v0 v2 else f_X12_plus_32 v0 v2
set_option maxRecDepth 100000 in
set_option maxHeartbeats 4000000 in
theorem B_X12_plus_37 {p : Program} {l : Launch} {e : Env} {s : State} {m : MethodId} {args : Array Value} {below : List Frame} {meth : Method} {c : Code} {g : jG} {rr : UInt64} {S : jM} {v0 : UInt64} {v2 : UInt64} {t0 : Int32} (E : jEnv p s m args meth c cX12_plus "PensionHouseModel" (some .double) 5 g)  {H : Heap} {locs : List Loc} {ls : Array Slot} (hf : f_X12_plus_37 v0 v2 t0 = some rr) (hM : jAt g S s H locs) (hl : lv_has ls 5 [(0, .double v0), (2, .double v2)]) : W p l e (jRm 2 0 0) s m args below meth c H locs 0 0 (MQ below (jQd g rr S) args s 0 0 (jA0 g)) (F0 m 37 ls [.int t0]) := by
  obtain ⟨hx, hb, hml, -, hts, hown, hK, -, hstr⟩ := id E
  unfold f_X12_plus_37 at hf
  refine lv_istore (lv' := [(4, .int t0), (0, .double v0), (2, .double v2)]) hx hb dX12_plus_37 hl (by decide) rfl (fun ls hl => ?_)
  refine lv_iload hx hb dX12_plus_39 (lv_at hl 0 rfl) ?_
  refine lv_if_eq (tgt := 50) hx hb dX12_plus_41 (by decide) (fun c1 => ?_) (fun c1 => ?_)
  · have hf := jt c1 hf
    refine lv_dload_n hx hb dX12_plus_50 rfl (lv_at hl 1 rfl) ?_
    refine lv_dload_n hx hb dX12_plus_51 rfl (lv_at hl 2 rfl) ?_
    obtain ⟨hn2, hf⟩ := jif hf
    refine lv_dadd hx hb dX12_plus_52 (jnn_ok hn2) ?_
    exact jdret (jr1 hf) E hM dX12_plus_53
  · have hf := jf c1 hf
    refine lv_ldc2d (v := (9221120237041090560 : UInt64)) hx hb hown (hts _ lk_7_80) dX12_plus_44 ?_
    refine lv_goto (tgt := 53) hx hb dX12_plus_47 (by decide) ?_
    exact jdret (jr1 hf) E hM dX12_plus_53
set_option maxRecDepth 100000 in
set_option maxHeartbeats 4000000 in
theorem B_X12_plus_36 {p : Program} {l : Launch} {e : Env} {s : State} {m : MethodId} {args : Array Value} {below : List Frame} {meth : Method} {c : Code} {g : jG} {rr : UInt64} {S : jM} {v0 : UInt64} {v2 : UInt64} (E : jEnv p s m args meth c cX12_plus "PensionHouseModel" (some .double) 5 g)  {H : Heap} {locs : List Loc} {ls : Array Slot} (hf : f_X12_plus_36 v0 v2 = some rr) (hM : jAt g S s H locs) (hl : lv_has ls 5 [(0, .double v0), (2, .double v2)]) : W p l e (jRm 2 0 0) s m args below meth c H locs 0 0 (MQ below (jQd g rr S) args s 0 0 (jA0 g)) (F0 m 36 ls []) := by
  obtain ⟨hx, hb, hml, -, hts, hown, hK, -, hstr⟩ := id E
  unfold f_X12_plus_36 at hf
  refine lv_iconst (v := (0 : Int32)) hx hb dX12_plus_36 (by decide) ?_
  exact B_X12_plus_37 E  hf hM (lv_sub hl [0, 1] rfl)
set_option maxRecDepth 100000 in
set_option maxHeartbeats 4000000 in
theorem B_X12_plus_32 {p : Program} {l : Launch} {e : Env} {s : State} {m : MethodId} {args : Array Value} {below : List Frame} {meth : Method} {c : Code} {g : jG} {rr : UInt64} {S : jM} {v0 : UInt64} {v2 : UInt64} (E : jEnv p s m args meth c cX12_plus "PensionHouseModel" (some .double) 5 g)  {H : Heap} {locs : List Loc} {ls : Array Slot} (hf : f_X12_plus_32 v0 v2 = some rr) (hM : jAt g S s H locs) (hl : lv_has ls 5 [(0, .double v0), (2, .double v2)]) : W p l e (jRm 2 0 0) s m args below meth c H locs 0 0 (MQ below (jQd g rr S) args s 0 0 (jA0 g)) (F0 m 32 ls []) := by
  obtain ⟨hx, hb, hml, -, hts, hown, hK, -, hstr⟩ := id E
  unfold f_X12_plus_32 at hf
  refine lv_iconst (v := (1 : Int32)) hx hb dX12_plus_32 (by decide) ?_
  refine lv_goto (tgt := 37) hx hb dX12_plus_33 (by decide) ?_
  exact B_X12_plus_37 E  hf hM (lv_sub hl [0, 1] rfl)
set_option maxRecDepth 100000 in
set_option maxHeartbeats 4000000 in
theorem B_X12_plus_0 {p : Program} {l : Launch} {e : Env} {s : State} {m : MethodId} {args : Array Value} {below : List Frame} {meth : Method} {c : Code} {g : jG} {rr : UInt64} {S : jM} {v0 : UInt64} {v2 : UInt64} (E : jEnv p s m args meth c cX12_plus "PensionHouseModel" (some .double) 5 g)  {H : Heap} {locs : List Loc} {ls : Array Slot} (hf : f_X12_plus v0 v2 = some rr) (hM : jAt g S s H locs) (hl : lv_has ls 5 [(0, .double v0), (2, .double v2)]) : W p l e (jRm 2 0 0) s m args below meth c H locs 0 0 (MQ below (jQd g rr S) args s 0 0 (jA0 g)) (F0 m 0 ls []) := by
  obtain ⟨hx, hb, hml, -, hts, hown, hK, -, hstr⟩ := id E
  unfold f_X12_plus at hf
  refine lv_dload_n hx hb dX12_plus_0 rfl (lv_at hl 0 rfl) ?_
  refine lv_dload_n hx hb dX12_plus_1 rfl (lv_at hl 0 rfl) ?_
  refine lv_dcmp hx hb dX12_plus_2 ?_
  refine lv_if_ne (tgt := 32) hx hb dX12_plus_3 (by decide) (fun c3 => ?_) (fun c3 => ?_)
  · have hf := jf c3 hf
    exact B_X12_plus_32 E  hf hM (lv_sub hl [0, 1] rfl)
  · have hf := jt c3 hf
    refine lv_dload_n hx hb dX12_plus_6 rfl (lv_at hl 1 rfl) ?_
    refine lv_dload_n hx hb dX12_plus_7 rfl (lv_at hl 1 rfl) ?_
    refine lv_dcmp hx hb dX12_plus_8 ?_
    refine lv_if_ne (tgt := 32) hx hb dX12_plus_9 (by decide) (fun c4 => ?_) (fun c4 => ?_)
    · have hf := jf c4 hf
      exact B_X12_plus_32 E  hf hM (lv_sub hl [0, 1] rfl)
    · have hf := jt c4 hf
      refine lv_dload_n hx hb dX12_plus_12 rfl (lv_at hl 0 rfl) ?_
      refine jbackI hM (jrunS E hM ci_X12_isEndless (C_X12_isEndless rfl) lk_8_141 hl.1 rfl rfl (Nat.le_of_ble_eq_true rfl) ⟨Nat.le_of_ble_eq_true rfl, Nat.le_of_ble_eq_true rfl⟩ ⟨Nat.le_refl _, Nat.le_refl _⟩ dX12_plus_13) (fun H locs hM => ?_)
      refine lv_if_eq (tgt := 36) hx hb dX12_plus_16 (by decide) (fun c5 => ?_) (fun c5 => ?_)
      · have hf := jt c5 hf
        exact B_X12_plus_36 E  hf hM (lv_sub hl [0, 1] rfl)
      · have hf := jf c5 hf
        refine lv_dload_n hx hb dX12_plus_19 rfl (lv_at hl 1 rfl) ?_
        refine jbackI hM (jrunS E hM ci_X12_isEndless (C_X12_isEndless rfl) lk_8_141 hl.1 rfl rfl (Nat.le_of_ble_eq_true rfl) ⟨Nat.le_of_ble_eq_true rfl, Nat.le_of_ble_eq_true rfl⟩ ⟨Nat.le_refl _, Nat.le_refl _⟩ dX12_plus_20) (fun H locs hM => ?_)
        refine lv_if_eq (tgt := 36) hx hb dX12_plus_23 (by decide) (fun c6 => ?_) (fun c6 => ?_)
        · have hf := jt c6 hf
          exact B_X12_plus_36 E  hf hM (lv_sub hl [0, 1] rfl)
        · have hf := jf c6 hf
          refine lv_dload_n hx hb dX12_plus_26 rfl (lv_at hl 0 rfl) ?_
          refine lv_dload_n hx hb dX12_plus_27 rfl (lv_at hl 1 rfl) ?_
          refine lv_dcmp hx hb dX12_plus_28 ?_
          refine lv_if_eq (tgt := 36) hx hb dX12_plus_29 (by decide) (fun c7 => ?_) (fun c7 => ?_)
          · have hf := jt c7 hf
            exact B_X12_plus_36 E  hf hM (lv_sub hl [0, 1] rfl)
          · have hf := jf c7 hf
            exact B_X12_plus_32 E  hf hM (lv_sub hl [0, 1] rfl)
set_option maxRecDepth 100000 in
theorem C_X12_plus {l : Launch} {g : jG} {a0 : UInt64} {a2 : UInt64} {S : jM} {rr : UInt64} (hf : f_X12_plus a0 a2 = some rr) : jMet l g yX12_plus cX12_plus 5 (some .double) 2 0 0 [.double a0, .double a2] S (jQd g rr S) := by
  refine jof (by decide +kernel) (Nat.le_of_ble_eq_true rfl) ?_
  intro p e s m below meth c E hM ls hl
  have hl : lv_has ls 5 [(0, .double a0),(2, .double a2)] := hl
  exact B_X12_plus_0 E hf hM hl
-- PensionHouseModel.minus(DD)D  mode P
noncomputable def f_X12_minus_37 (v0 : UInt64) (v2 : UInt64) (t0 : Int32) : Option UInt64 := if t0 = 0 then if jnn (FP.dsub v0 v2) = true then some (FP.dsub v0 v2) else none else some (9221120237041090560 : UInt64)
noncomputable def f_X12_minus_36 (v0 : UInt64) (v2 : UInt64) : Option UInt64 := f_X12_minus_37 v0 v2 (0 : Int32)
noncomputable def f_X12_minus_32 (v0 : UInt64) (v2 : UInt64) : Option UInt64 := f_X12_minus_37 v0 v2 (1 : Int32)
noncomputable def f_X12_minus (v0 : UInt64) (v2 : UInt64) : Option UInt64 := if (Op.cmpValue (FP.dcmp v0 v0) .l) = 0 then if (Op.cmpValue (FP.dcmp v2 v2) .l) = 0 then if (f_X12_isEndless v0) = 0 then f_X12_minus_36 v0 v2 else if (f_X12_isEndless v2) = 0 then f_X12_minus_36 v0 v2 else if (Op.cmpValue (FP.dcmp v0 v2) .l) = 0 then f_X12_minus_32 v0 v2 else f_X12_minus_36 v0 v2 else f_X12_minus_32 v0 v2 else f_X12_minus_32 v0 v2
set_option maxRecDepth 100000 in
set_option maxHeartbeats 4000000 in
theorem B_X12_minus_37 {p : Program} {l : Launch} {e : Env} {s : State} {m : MethodId} {args : Array Value} {below : List Frame} {meth : Method} {c : Code} {g : jG} {rr : UInt64} {S : jM} {v0 : UInt64} {v2 : UInt64} {t0 : Int32} (E : jEnv p s m args meth c cX12_minus "PensionHouseModel" (some .double) 5 g)  {H : Heap} {locs : List Loc} {ls : Array Slot} (hf : f_X12_minus_37 v0 v2 t0 = some rr) (hM : jAt g S s H locs) (hl : lv_has ls 5 [(0, .double v0), (2, .double v2)]) : W p l e (jRm 2 0 0) s m args below meth c H locs 0 0 (MQ below (jQd g rr S) args s 0 0 (jA0 g)) (F0 m 37 ls [.int t0]) := by
  obtain ⟨hx, hb, hml, -, hts, hown, hK, -, hstr⟩ := id E
  unfold f_X12_minus_37 at hf
  refine lv_istore (lv' := [(4, .int t0), (0, .double v0), (2, .double v2)]) hx hb dX12_minus_37 hl (by decide) rfl (fun ls hl => ?_)
  refine lv_iload hx hb dX12_minus_39 (lv_at hl 0 rfl) ?_
  refine lv_if_eq (tgt := 50) hx hb dX12_minus_41 (by decide) (fun c1 => ?_) (fun c1 => ?_)
  · have hf := jt c1 hf
    refine lv_dload_n hx hb dX12_minus_50 rfl (lv_at hl 1 rfl) ?_
    refine lv_dload_n hx hb dX12_minus_51 rfl (lv_at hl 2 rfl) ?_
    obtain ⟨hn2, hf⟩ := jif hf
    refine lv_dsub hx hb dX12_minus_52 (jnn_ok hn2) ?_
    exact jdret (jr1 hf) E hM dX12_minus_53
  · have hf := jf c1 hf
    refine lv_ldc2d (v := (9221120237041090560 : UInt64)) hx hb hown (hts _ lk_7_80) dX12_minus_44 ?_
    refine lv_goto (tgt := 53) hx hb dX12_minus_47 (by decide) ?_
    exact jdret (jr1 hf) E hM dX12_minus_53
set_option maxRecDepth 100000 in
set_option maxHeartbeats 4000000 in
theorem B_X12_minus_36 {p : Program} {l : Launch} {e : Env} {s : State} {m : MethodId} {args : Array Value} {below : List Frame} {meth : Method} {c : Code} {g : jG} {rr : UInt64} {S : jM} {v0 : UInt64} {v2 : UInt64} (E : jEnv p s m args meth c cX12_minus "PensionHouseModel" (some .double) 5 g)  {H : Heap} {locs : List Loc} {ls : Array Slot} (hf : f_X12_minus_36 v0 v2 = some rr) (hM : jAt g S s H locs) (hl : lv_has ls 5 [(0, .double v0), (2, .double v2)]) : W p l e (jRm 2 0 0) s m args below meth c H locs 0 0 (MQ below (jQd g rr S) args s 0 0 (jA0 g)) (F0 m 36 ls []) := by
  obtain ⟨hx, hb, hml, -, hts, hown, hK, -, hstr⟩ := id E
  unfold f_X12_minus_36 at hf
  refine lv_iconst (v := (0 : Int32)) hx hb dX12_minus_36 (by decide) ?_
  exact B_X12_minus_37 E  hf hM (lv_sub hl [0, 1] rfl)
set_option maxRecDepth 100000 in
set_option maxHeartbeats 4000000 in
theorem B_X12_minus_32 {p : Program} {l : Launch} {e : Env} {s : State} {m : MethodId} {args : Array Value} {below : List Frame} {meth : Method} {c : Code} {g : jG} {rr : UInt64} {S : jM} {v0 : UInt64} {v2 : UInt64} (E : jEnv p s m args meth c cX12_minus "PensionHouseModel" (some .double) 5 g)  {H : Heap} {locs : List Loc} {ls : Array Slot} (hf : f_X12_minus_32 v0 v2 = some rr) (hM : jAt g S s H locs) (hl : lv_has ls 5 [(0, .double v0), (2, .double v2)]) : W p l e (jRm 2 0 0) s m args below meth c H locs 0 0 (MQ below (jQd g rr S) args s 0 0 (jA0 g)) (F0 m 32 ls []) := by
  obtain ⟨hx, hb, hml, -, hts, hown, hK, -, hstr⟩ := id E
  unfold f_X12_minus_32 at hf
  refine lv_iconst (v := (1 : Int32)) hx hb dX12_minus_32 (by decide) ?_
  refine lv_goto (tgt := 37) hx hb dX12_minus_33 (by decide) ?_
  exact B_X12_minus_37 E  hf hM (lv_sub hl [0, 1] rfl)
set_option maxRecDepth 100000 in
set_option maxHeartbeats 4000000 in
theorem B_X12_minus_0 {p : Program} {l : Launch} {e : Env} {s : State} {m : MethodId} {args : Array Value} {below : List Frame} {meth : Method} {c : Code} {g : jG} {rr : UInt64} {S : jM} {v0 : UInt64} {v2 : UInt64} (E : jEnv p s m args meth c cX12_minus "PensionHouseModel" (some .double) 5 g)  {H : Heap} {locs : List Loc} {ls : Array Slot} (hf : f_X12_minus v0 v2 = some rr) (hM : jAt g S s H locs) (hl : lv_has ls 5 [(0, .double v0), (2, .double v2)]) : W p l e (jRm 2 0 0) s m args below meth c H locs 0 0 (MQ below (jQd g rr S) args s 0 0 (jA0 g)) (F0 m 0 ls []) := by
  obtain ⟨hx, hb, hml, -, hts, hown, hK, -, hstr⟩ := id E
  unfold f_X12_minus at hf
  refine lv_dload_n hx hb dX12_minus_0 rfl (lv_at hl 0 rfl) ?_
  refine lv_dload_n hx hb dX12_minus_1 rfl (lv_at hl 0 rfl) ?_
  refine lv_dcmp hx hb dX12_minus_2 ?_
  refine lv_if_ne (tgt := 32) hx hb dX12_minus_3 (by decide) (fun c3 => ?_) (fun c3 => ?_)
  · have hf := jf c3 hf
    exact B_X12_minus_32 E  hf hM (lv_sub hl [0, 1] rfl)
  · have hf := jt c3 hf
    refine lv_dload_n hx hb dX12_minus_6 rfl (lv_at hl 1 rfl) ?_
    refine lv_dload_n hx hb dX12_minus_7 rfl (lv_at hl 1 rfl) ?_
    refine lv_dcmp hx hb dX12_minus_8 ?_
    refine lv_if_ne (tgt := 32) hx hb dX12_minus_9 (by decide) (fun c4 => ?_) (fun c4 => ?_)
    · have hf := jf c4 hf
      exact B_X12_minus_32 E  hf hM (lv_sub hl [0, 1] rfl)
    · have hf := jt c4 hf
      refine lv_dload_n hx hb dX12_minus_12 rfl (lv_at hl 0 rfl) ?_
      refine jbackI hM (jrunS E hM ci_X12_isEndless (C_X12_isEndless rfl) lk_8_141 hl.1 rfl rfl (Nat.le_of_ble_eq_true rfl) ⟨Nat.le_of_ble_eq_true rfl, Nat.le_of_ble_eq_true rfl⟩ ⟨Nat.le_refl _, Nat.le_refl _⟩ dX12_minus_13) (fun H locs hM => ?_)
      refine lv_if_eq (tgt := 36) hx hb dX12_minus_16 (by decide) (fun c5 => ?_) (fun c5 => ?_)
      · have hf := jt c5 hf
        exact B_X12_minus_36 E  hf hM (lv_sub hl [0, 1] rfl)
      · have hf := jf c5 hf
        refine lv_dload_n hx hb dX12_minus_19 rfl (lv_at hl 1 rfl) ?_
        refine jbackI hM (jrunS E hM ci_X12_isEndless (C_X12_isEndless rfl) lk_8_141 hl.1 rfl rfl (Nat.le_of_ble_eq_true rfl) ⟨Nat.le_of_ble_eq_true rfl, Nat.le_of_ble_eq_true rfl⟩ ⟨Nat.le_refl _, Nat.le_refl _⟩ dX12_minus_20) (fun H locs hM => ?_)
        refine lv_if_eq (tgt := 36) hx hb dX12_minus_23 (by decide) (fun c6 => ?_) (fun c6 => ?_)
        · have hf := jt c6 hf
          exact B_X12_minus_36 E  hf hM (lv_sub hl [0, 1] rfl)
        · have hf := jf c6 hf
          refine lv_dload_n hx hb dX12_minus_26 rfl (lv_at hl 0 rfl) ?_
          refine lv_dload_n hx hb dX12_minus_27 rfl (lv_at hl 1 rfl) ?_
          refine lv_dcmp hx hb dX12_minus_28 ?_
          refine lv_if_ne (tgt := 36) hx hb dX12_minus_29 (by decide) (fun c7 => ?_) (fun c7 => ?_)
          · have hf := jf c7 hf
            exact B_X12_minus_36 E  hf hM (lv_sub hl [0, 1] rfl)
          · have hf := jt c7 hf
            exact B_X12_minus_32 E  hf hM (lv_sub hl [0, 1] rfl)
set_option maxRecDepth 100000 in
theorem C_X12_minus {l : Launch} {g : jG} {a0 : UInt64} {a2 : UInt64} {S : jM} {rr : UInt64} (hf : f_X12_minus a0 a2 = some rr) : jMet l g yX12_minus cX12_minus 5 (some .double) 2 0 0 [.double a0, .double a2] S (jQd g rr S) := by
  refine jof (by decide +kernel) (Nat.le_of_ble_eq_true rfl) ?_
  intro p e s m below meth c E hM ls hl
  have hl : lv_has ls 5 [(0, .double a0),(2, .double a2)] := hl
  exact B_X12_minus_0 E hf hM hl
-- PensionHouseModel.times(DD)D  mode P
noncomputable def f_X12_times_43 (v0 : UInt64) (v2 : UInt64) (t0 : Int32) : Option UInt64 := if t0 = 0 then if jnn (FP.dmul v0 v2) = true then some (FP.dmul v0 v2) else none else some (9221120237041090560 : UInt64)
noncomputable def f_X12_times_42 (v0 : UInt64) (v2 : UInt64) : Option UInt64 := f_X12_times_43 v0 v2 (0 : Int32)
noncomputable def f_X12_times_38 (v0 : UInt64) (v2 : UInt64) : Option UInt64 := f_X12_times_43 v0 v2 (1 : Int32)
noncomputable def f_X12_times_25 (v0 : UInt64) (v2 : UInt64) : Option UInt64 := if (Op.cmpValue (FP.dcmp v2 (FP.dconst0)) .l) = 0 then if (f_X12_isEndless v0) = 0 then f_X12_times_42 v0 v2 else f_X12_times_38 v0 v2 else f_X12_times_42 v0 v2
noncomputable def f_X12_times (v0 : UInt64) (v2 : UInt64) : Option UInt64 := if (Op.cmpValue (FP.dcmp v0 v0) .l) = 0 then if (Op.cmpValue (FP.dcmp v2 v2) .l) = 0 then if (Op.cmpValue (FP.dcmp v0 (FP.dconst0)) .l) = 0 then if (f_X12_isEndless v2) = 0 then f_X12_times_25 v0 v2 else f_X12_times_38 v0 v2 else f_X12_times_25 v0 v2 else f_X12_times_38 v0 v2 else f_X12_times_38 v0 v2
set_option maxRecDepth 100000 in
set_option maxHeartbeats 4000000 in
theorem B_X12_times_43 {p : Program} {l : Launch} {e : Env} {s : State} {m : MethodId} {args : Array Value} {below : List Frame} {meth : Method} {c : Code} {g : jG} {rr : UInt64} {S : jM} {v0 : UInt64} {v2 : UInt64} {t0 : Int32} (E : jEnv p s m args meth c cX12_times "PensionHouseModel" (some .double) 5 g)  {H : Heap} {locs : List Loc} {ls : Array Slot} (hf : f_X12_times_43 v0 v2 t0 = some rr) (hM : jAt g S s H locs) (hl : lv_has ls 5 [(0, .double v0), (2, .double v2)]) : W p l e (jRm 2 0 0) s m args below meth c H locs 0 0 (MQ below (jQd g rr S) args s 0 0 (jA0 g)) (F0 m 43 ls [.int t0]) := by
  obtain ⟨hx, hb, hml, -, hts, hown, hK, -, hstr⟩ := id E
  unfold f_X12_times_43 at hf
  refine lv_istore (lv' := [(4, .int t0), (0, .double v0), (2, .double v2)]) hx hb dX12_times_43 hl (by decide) rfl (fun ls hl => ?_)
  refine lv_iload hx hb dX12_times_45 (lv_at hl 0 rfl) ?_
  refine lv_if_eq (tgt := 56) hx hb dX12_times_47 (by decide) (fun c1 => ?_) (fun c1 => ?_)
  · have hf := jt c1 hf
    refine lv_dload_n hx hb dX12_times_56 rfl (lv_at hl 1 rfl) ?_
    refine lv_dload_n hx hb dX12_times_57 rfl (lv_at hl 2 rfl) ?_
    obtain ⟨hn2, hf⟩ := jif hf
    refine lv_dmul hx hb dX12_times_58 (jnn_ok hn2) ?_
    exact jdret (jr1 hf) E hM dX12_times_59
  · have hf := jf c1 hf
    refine lv_ldc2d (v := (9221120237041090560 : UInt64)) hx hb hown (hts _ lk_7_80) dX12_times_50 ?_
    refine lv_goto (tgt := 59) hx hb dX12_times_53 (by decide) ?_
    exact jdret (jr1 hf) E hM dX12_times_59
set_option maxRecDepth 100000 in
set_option maxHeartbeats 4000000 in
theorem B_X12_times_42 {p : Program} {l : Launch} {e : Env} {s : State} {m : MethodId} {args : Array Value} {below : List Frame} {meth : Method} {c : Code} {g : jG} {rr : UInt64} {S : jM} {v0 : UInt64} {v2 : UInt64} (E : jEnv p s m args meth c cX12_times "PensionHouseModel" (some .double) 5 g)  {H : Heap} {locs : List Loc} {ls : Array Slot} (hf : f_X12_times_42 v0 v2 = some rr) (hM : jAt g S s H locs) (hl : lv_has ls 5 [(0, .double v0), (2, .double v2)]) : W p l e (jRm 2 0 0) s m args below meth c H locs 0 0 (MQ below (jQd g rr S) args s 0 0 (jA0 g)) (F0 m 42 ls []) := by
  obtain ⟨hx, hb, hml, -, hts, hown, hK, -, hstr⟩ := id E
  unfold f_X12_times_42 at hf
  refine lv_iconst (v := (0 : Int32)) hx hb dX12_times_42 (by decide) ?_
  exact B_X12_times_43 E  hf hM (lv_sub hl [0, 1] rfl)
set_option maxRecDepth 100000 in
set_option maxHeartbeats 4000000 in
theorem B_X12_times_38 {p : Program} {l : Launch} {e : Env} {s : State} {m : MethodId} {args : Array Value} {below : List Frame} {meth : Method} {c : Code} {g : jG} {rr : UInt64} {S : jM} {v0 : UInt64} {v2 : UInt64} (E : jEnv p s m args meth c cX12_times "PensionHouseModel" (some .double) 5 g)  {H : Heap} {locs : List Loc} {ls : Array Slot} (hf : f_X12_times_38 v0 v2 = some rr) (hM : jAt g S s H locs) (hl : lv_has ls 5 [(0, .double v0), (2, .double v2)]) : W p l e (jRm 2 0 0) s m args below meth c H locs 0 0 (MQ below (jQd g rr S) args s 0 0 (jA0 g)) (F0 m 38 ls []) := by
  obtain ⟨hx, hb, hml, -, hts, hown, hK, -, hstr⟩ := id E
  unfold f_X12_times_38 at hf
  refine lv_iconst (v := (1 : Int32)) hx hb dX12_times_38 (by decide) ?_
  refine lv_goto (tgt := 43) hx hb dX12_times_39 (by decide) ?_
  exact B_X12_times_43 E  hf hM (lv_sub hl [0, 1] rfl)
set_option maxRecDepth 100000 in
set_option maxHeartbeats 4000000 in
theorem B_X12_times_25 {p : Program} {l : Launch} {e : Env} {s : State} {m : MethodId} {args : Array Value} {below : List Frame} {meth : Method} {c : Code} {g : jG} {rr : UInt64} {S : jM} {v0 : UInt64} {v2 : UInt64} (E : jEnv p s m args meth c cX12_times "PensionHouseModel" (some .double) 5 g)  {H : Heap} {locs : List Loc} {ls : Array Slot} (hf : f_X12_times_25 v0 v2 = some rr) (hM : jAt g S s H locs) (hl : lv_has ls 5 [(0, .double v0), (2, .double v2)]) : W p l e (jRm 2 0 0) s m args below meth c H locs 0 0 (MQ below (jQd g rr S) args s 0 0 (jA0 g)) (F0 m 25 ls []) := by
  obtain ⟨hx, hb, hml, -, hts, hown, hK, -, hstr⟩ := id E
  unfold f_X12_times_25 at hf
  refine lv_dload_n hx hb dX12_times_25 rfl (lv_at hl 1 rfl) ?_
  refine lv_dconst0 hx hb dX12_times_26 ?_
  refine lv_dcmp hx hb dX12_times_27 ?_
  refine lv_if_ne (tgt := 42) hx hb dX12_times_28 (by decide) (fun c3 => ?_) (fun c3 => ?_)
  · have hf := jf c3 hf
    exact B_X12_times_42 E  hf hM (lv_sub hl [0, 1] rfl)
  · have hf := jt c3 hf
    refine lv_dload_n hx hb dX12_times_31 rfl (lv_at hl 0 rfl) ?_
    refine jbackI hM (jrunS E hM ci_X12_isEndless (C_X12_isEndless rfl) lk_8_141 hl.1 rfl rfl (Nat.le_of_ble_eq_true rfl) ⟨Nat.le_of_ble_eq_true rfl, Nat.le_of_ble_eq_true rfl⟩ ⟨Nat.le_refl _, Nat.le_refl _⟩ dX12_times_32) (fun H locs hM => ?_)
    refine lv_if_eq (tgt := 42) hx hb dX12_times_35 (by decide) (fun c4 => ?_) (fun c4 => ?_)
    · have hf := jt c4 hf
      exact B_X12_times_42 E  hf hM (lv_sub hl [0, 1] rfl)
    · have hf := jf c4 hf
      exact B_X12_times_38 E  hf hM (lv_sub hl [0, 1] rfl)
set_option maxRecDepth 100000 in
set_option maxHeartbeats 4000000 in
theorem B_X12_times_0 {p : Program} {l : Launch} {e : Env} {s : State} {m : MethodId} {args : Array Value} {below : List Frame} {meth : Method} {c : Code} {g : jG} {rr : UInt64} {S : jM} {v0 : UInt64} {v2 : UInt64} (E : jEnv p s m args meth c cX12_times "PensionHouseModel" (some .double) 5 g)  {H : Heap} {locs : List Loc} {ls : Array Slot} (hf : f_X12_times v0 v2 = some rr) (hM : jAt g S s H locs) (hl : lv_has ls 5 [(0, .double v0), (2, .double v2)]) : W p l e (jRm 2 0 0) s m args below meth c H locs 0 0 (MQ below (jQd g rr S) args s 0 0 (jA0 g)) (F0 m 0 ls []) := by
  obtain ⟨hx, hb, hml, -, hts, hown, hK, -, hstr⟩ := id E
  unfold f_X12_times at hf
  refine lv_dload_n hx hb dX12_times_0 rfl (lv_at hl 0 rfl) ?_
  refine lv_dload_n hx hb dX12_times_1 rfl (lv_at hl 0 rfl) ?_
  refine lv_dcmp hx hb dX12_times_2 ?_
  refine lv_if_ne (tgt := 38) hx hb dX12_times_3 (by decide) (fun c5 => ?_) (fun c5 => ?_)
  · have hf := jf c5 hf
    exact B_X12_times_38 E  hf hM (lv_sub hl [0, 1] rfl)
  · have hf := jt c5 hf
    refine lv_dload_n hx hb dX12_times_6 rfl (lv_at hl 1 rfl) ?_
    refine lv_dload_n hx hb dX12_times_7 rfl (lv_at hl 1 rfl) ?_
    refine lv_dcmp hx hb dX12_times_8 ?_
    refine lv_if_ne (tgt := 38) hx hb dX12_times_9 (by decide) (fun c6 => ?_) (fun c6 => ?_)
    · have hf := jf c6 hf
      exact B_X12_times_38 E  hf hM (lv_sub hl [0, 1] rfl)
    · have hf := jt c6 hf
      refine lv_dload_n hx hb dX12_times_12 rfl (lv_at hl 0 rfl) ?_
      refine lv_dconst0 hx hb dX12_times_13 ?_
      refine lv_dcmp hx hb dX12_times_14 ?_
      refine lv_if_ne (tgt := 25) hx hb dX12_times_15 (by decide) (fun c7 => ?_) (fun c7 => ?_)
      · have hf := jf c7 hf
        exact B_X12_times_25 E  hf hM (lv_sub hl [0, 1] rfl)
      · have hf := jt c7 hf
        refine lv_dload_n hx hb dX12_times_18 rfl (lv_at hl 1 rfl) ?_
        refine jbackI hM (jrunS E hM ci_X12_isEndless (C_X12_isEndless rfl) lk_8_141 hl.1 rfl rfl (Nat.le_of_ble_eq_true rfl) ⟨Nat.le_of_ble_eq_true rfl, Nat.le_of_ble_eq_true rfl⟩ ⟨Nat.le_refl _, Nat.le_refl _⟩ dX12_times_19) (fun H locs hM => ?_)
        refine lv_if_ne (tgt := 38) hx hb dX12_times_22 (by decide) (fun c8 => ?_) (fun c8 => ?_)
        · have hf := jf c8 hf
          exact B_X12_times_38 E  hf hM (lv_sub hl [0, 1] rfl)
        · have hf := jt c8 hf
          exact B_X12_times_25 E  hf hM (lv_sub hl [0, 1] rfl)
set_option maxRecDepth 100000 in
theorem C_X12_times {l : Launch} {g : jG} {a0 : UInt64} {a2 : UInt64} {S : jM} {rr : UInt64} (hf : f_X12_times a0 a2 = some rr) : jMet l g yX12_times cX12_times 5 (some .double) 2 0 0 [.double a0, .double a2] S (jQd g rr S) := by
  refine jof (by decide +kernel) (Nat.le_of_ble_eq_true rfl) ?_
  intro p e s m below meth c E hM ls hl
  have hl : lv_has ls 5 [(0, .double a0),(2, .double a2)] := hl
  exact B_X12_times_0 E hf hM hl
-- PensionHouseModel.by(DD)D  mode P
noncomputable def f_X12_by_43 (v0 : UInt64) (v2 : UInt64) (t0 : Int32) : Option UInt64 := if t0 = 0 then if jnn (FP.ddiv v0 v2) = true then some (FP.ddiv v0 v2) else none else some (9221120237041090560 : UInt64)
noncomputable def f_X12_by_42 (v0 : UInt64) (v2 : UInt64) : Option UInt64 := f_X12_by_43 v0 v2 (0 : Int32)
noncomputable def f_X12_by_38 (v0 : UInt64) (v2 : UInt64) : Option UInt64 := f_X12_by_43 v0 v2 (1 : Int32)
noncomputable def f_X12_by_24 (v0 : UInt64) (v2 : UInt64) : Option UInt64 := if (f_X12_isEndless v0) = 0 then f_X12_by_42 v0 v2 else if (f_X12_isEndless v2) = 0 then f_X12_by_42 v0 v2 else f_X12_by_38 v0 v2
noncomputable def f_X12_by (v0 : UInt64) (v2 : UInt64) : Option UInt64 := if (Op.cmpValue (FP.dcmp v0 v0) .l) = 0 then if (Op.cmpValue (FP.dcmp v2 v2) .l) = 0 then if (Op.cmpValue (FP.dcmp v0 (FP.dconst0)) .l) = 0 then if (Op.cmpValue (FP.dcmp v2 (FP.dconst0)) .l) = 0 then f_X12_by_38 v0 v2 else f_X12_by_24 v0 v2 else f_X12_by_24 v0 v2 else f_X12_by_38 v0 v2 else f_X12_by_38 v0 v2
set_option maxRecDepth 100000 in
set_option maxHeartbeats 4000000 in
theorem B_X12_by_43 {p : Program} {l : Launch} {e : Env} {s : State} {m : MethodId} {args : Array Value} {below : List Frame} {meth : Method} {c : Code} {g : jG} {rr : UInt64} {S : jM} {v0 : UInt64} {v2 : UInt64} {t0 : Int32} (E : jEnv p s m args meth c cX12_by "PensionHouseModel" (some .double) 5 g)  {H : Heap} {locs : List Loc} {ls : Array Slot} (hf : f_X12_by_43 v0 v2 t0 = some rr) (hM : jAt g S s H locs) (hl : lv_has ls 5 [(0, .double v0), (2, .double v2)]) : W p l e (jRm 2 0 0) s m args below meth c H locs 0 0 (MQ below (jQd g rr S) args s 0 0 (jA0 g)) (F0 m 43 ls [.int t0]) := by
  obtain ⟨hx, hb, hml, -, hts, hown, hK, -, hstr⟩ := id E
  unfold f_X12_by_43 at hf
  refine lv_istore (lv' := [(4, .int t0), (0, .double v0), (2, .double v2)]) hx hb dX12_by_43 hl (by decide) rfl (fun ls hl => ?_)
  refine lv_iload hx hb dX12_by_45 (lv_at hl 0 rfl) ?_
  refine lv_if_eq (tgt := 56) hx hb dX12_by_47 (by decide) (fun c1 => ?_) (fun c1 => ?_)
  · have hf := jt c1 hf
    refine lv_dload_n hx hb dX12_by_56 rfl (lv_at hl 1 rfl) ?_
    refine lv_dload_n hx hb dX12_by_57 rfl (lv_at hl 2 rfl) ?_
    obtain ⟨hn2, hf⟩ := jif hf
    refine lv_ddiv hx hb dX12_by_58 (jnn_ok hn2) ?_
    exact jdret (jr1 hf) E hM dX12_by_59
  · have hf := jf c1 hf
    refine lv_ldc2d (v := (9221120237041090560 : UInt64)) hx hb hown (hts _ lk_7_80) dX12_by_50 ?_
    refine lv_goto (tgt := 59) hx hb dX12_by_53 (by decide) ?_
    exact jdret (jr1 hf) E hM dX12_by_59
set_option maxRecDepth 100000 in
set_option maxHeartbeats 4000000 in
theorem B_X12_by_42 {p : Program} {l : Launch} {e : Env} {s : State} {m : MethodId} {args : Array Value} {below : List Frame} {meth : Method} {c : Code} {g : jG} {rr : UInt64} {S : jM} {v0 : UInt64} {v2 : UInt64} (E : jEnv p s m args meth c cX12_by "PensionHouseModel" (some .double) 5 g)  {H : Heap} {locs : List Loc} {ls : Array Slot} (hf : f_X12_by_42 v0 v2 = some rr) (hM : jAt g S s H locs) (hl : lv_has ls 5 [(0, .double v0), (2, .double v2)]) : W p l e (jRm 2 0 0) s m args below meth c H locs 0 0 (MQ below (jQd g rr S) args s 0 0 (jA0 g)) (F0 m 42 ls []) := by
  obtain ⟨hx, hb, hml, -, hts, hown, hK, -, hstr⟩ := id E
  unfold f_X12_by_42 at hf
  refine lv_iconst (v := (0 : Int32)) hx hb dX12_by_42 (by decide) ?_
  exact B_X12_by_43 E  hf hM (lv_sub hl [0, 1] rfl)
set_option maxRecDepth 100000 in
set_option maxHeartbeats 4000000 in
theorem B_X12_by_38 {p : Program} {l : Launch} {e : Env} {s : State} {m : MethodId} {args : Array Value} {below : List Frame} {meth : Method} {c : Code} {g : jG} {rr : UInt64} {S : jM} {v0 : UInt64} {v2 : UInt64} (E : jEnv p s m args meth c cX12_by "PensionHouseModel" (some .double) 5 g)  {H : Heap} {locs : List Loc} {ls : Array Slot} (hf : f_X12_by_38 v0 v2 = some rr) (hM : jAt g S s H locs) (hl : lv_has ls 5 [(0, .double v0), (2, .double v2)]) : W p l e (jRm 2 0 0) s m args below meth c H locs 0 0 (MQ below (jQd g rr S) args s 0 0 (jA0 g)) (F0 m 38 ls []) := by
  obtain ⟨hx, hb, hml, -, hts, hown, hK, -, hstr⟩ := id E
  unfold f_X12_by_38 at hf
  refine lv_iconst (v := (1 : Int32)) hx hb dX12_by_38 (by decide) ?_
  refine lv_goto (tgt := 43) hx hb dX12_by_39 (by decide) ?_
  exact B_X12_by_43 E  hf hM (lv_sub hl [0, 1] rfl)
set_option maxRecDepth 100000 in
set_option maxHeartbeats 4000000 in
theorem B_X12_by_24 {p : Program} {l : Launch} {e : Env} {s : State} {m : MethodId} {args : Array Value} {below : List Frame} {meth : Method} {c : Code} {g : jG} {rr : UInt64} {S : jM} {v0 : UInt64} {v2 : UInt64} (E : jEnv p s m args meth c cX12_by "PensionHouseModel" (some .double) 5 g)  {H : Heap} {locs : List Loc} {ls : Array Slot} (hf : f_X12_by_24 v0 v2 = some rr) (hM : jAt g S s H locs) (hl : lv_has ls 5 [(0, .double v0), (2, .double v2)]) : W p l e (jRm 2 0 0) s m args below meth c H locs 0 0 (MQ below (jQd g rr S) args s 0 0 (jA0 g)) (F0 m 24 ls []) := by
  obtain ⟨hx, hb, hml, -, hts, hown, hK, -, hstr⟩ := id E
  unfold f_X12_by_24 at hf
  refine lv_dload_n hx hb dX12_by_24 rfl (lv_at hl 0 rfl) ?_
  refine jbackI hM (jrunS E hM ci_X12_isEndless (C_X12_isEndless rfl) lk_8_141 hl.1 rfl rfl (Nat.le_of_ble_eq_true rfl) ⟨Nat.le_of_ble_eq_true rfl, Nat.le_of_ble_eq_true rfl⟩ ⟨Nat.le_refl _, Nat.le_refl _⟩ dX12_by_25) (fun H locs hM => ?_)
  refine lv_if_eq (tgt := 42) hx hb dX12_by_28 (by decide) (fun c3 => ?_) (fun c3 => ?_)
  · have hf := jt c3 hf
    exact B_X12_by_42 E  hf hM (lv_sub hl [0, 1] rfl)
  · have hf := jf c3 hf
    refine lv_dload_n hx hb dX12_by_31 rfl (lv_at hl 1 rfl) ?_
    refine jbackI hM (jrunS E hM ci_X12_isEndless (C_X12_isEndless rfl) lk_8_141 hl.1 rfl rfl (Nat.le_of_ble_eq_true rfl) ⟨Nat.le_of_ble_eq_true rfl, Nat.le_of_ble_eq_true rfl⟩ ⟨Nat.le_refl _, Nat.le_refl _⟩ dX12_by_32) (fun H locs hM => ?_)
    refine lv_if_eq (tgt := 42) hx hb dX12_by_35 (by decide) (fun c4 => ?_) (fun c4 => ?_)
    · have hf := jt c4 hf
      exact B_X12_by_42 E  hf hM (lv_sub hl [0, 1] rfl)
    · have hf := jf c4 hf
      exact B_X12_by_38 E  hf hM (lv_sub hl [0, 1] rfl)
set_option maxRecDepth 100000 in
set_option maxHeartbeats 4000000 in
theorem B_X12_by_0 {p : Program} {l : Launch} {e : Env} {s : State} {m : MethodId} {args : Array Value} {below : List Frame} {meth : Method} {c : Code} {g : jG} {rr : UInt64} {S : jM} {v0 : UInt64} {v2 : UInt64} (E : jEnv p s m args meth c cX12_by "PensionHouseModel" (some .double) 5 g)  {H : Heap} {locs : List Loc} {ls : Array Slot} (hf : f_X12_by v0 v2 = some rr) (hM : jAt g S s H locs) (hl : lv_has ls 5 [(0, .double v0), (2, .double v2)]) : W p l e (jRm 2 0 0) s m args below meth c H locs 0 0 (MQ below (jQd g rr S) args s 0 0 (jA0 g)) (F0 m 0 ls []) := by
  obtain ⟨hx, hb, hml, -, hts, hown, hK, -, hstr⟩ := id E
  unfold f_X12_by at hf
  refine lv_dload_n hx hb dX12_by_0 rfl (lv_at hl 0 rfl) ?_
  refine lv_dload_n hx hb dX12_by_1 rfl (lv_at hl 0 rfl) ?_
  refine lv_dcmp hx hb dX12_by_2 ?_
  refine lv_if_ne (tgt := 38) hx hb dX12_by_3 (by decide) (fun c5 => ?_) (fun c5 => ?_)
  · have hf := jf c5 hf
    exact B_X12_by_38 E  hf hM (lv_sub hl [0, 1] rfl)
  · have hf := jt c5 hf
    refine lv_dload_n hx hb dX12_by_6 rfl (lv_at hl 1 rfl) ?_
    refine lv_dload_n hx hb dX12_by_7 rfl (lv_at hl 1 rfl) ?_
    refine lv_dcmp hx hb dX12_by_8 ?_
    refine lv_if_ne (tgt := 38) hx hb dX12_by_9 (by decide) (fun c6 => ?_) (fun c6 => ?_)
    · have hf := jf c6 hf
      exact B_X12_by_38 E  hf hM (lv_sub hl [0, 1] rfl)
    · have hf := jt c6 hf
      refine lv_dload_n hx hb dX12_by_12 rfl (lv_at hl 0 rfl) ?_
      refine lv_dconst0 hx hb dX12_by_13 ?_
      refine lv_dcmp hx hb dX12_by_14 ?_
      refine lv_if_ne (tgt := 24) hx hb dX12_by_15 (by decide) (fun c7 => ?_) (fun c7 => ?_)
      · have hf := jf c7 hf
        exact B_X12_by_24 E  hf hM (lv_sub hl [0, 1] rfl)
      · have hf := jt c7 hf
        refine lv_dload_n hx hb dX12_by_18 rfl (lv_at hl 1 rfl) ?_
        refine lv_dconst0 hx hb dX12_by_19 ?_
        refine lv_dcmp hx hb dX12_by_20 ?_
        refine lv_if_eq (tgt := 38) hx hb dX12_by_21 (by decide) (fun c8 => ?_) (fun c8 => ?_)
        · have hf := jt c8 hf
          exact B_X12_by_38 E  hf hM (lv_sub hl [0, 1] rfl)
        · have hf := jf c8 hf
          exact B_X12_by_24 E  hf hM (lv_sub hl [0, 1] rfl)
set_option maxRecDepth 100000 in
theorem C_X12_by {l : Launch} {g : jG} {a0 : UInt64} {a2 : UInt64} {S : jM} {rr : UInt64} (hf : f_X12_by a0 a2 = some rr) : jMet l g yX12_by cX12_by 5 (some .double) 2 0 0 [.double a0, .double a2] S (jQd g rr S) := by
  refine jof (by decide +kernel) (Nat.le_of_ble_eq_true rfl) ?_
  intro p e s m below meth c E hM ls hl
  have hl : lv_has ls 5 [(0, .double a0),(2, .double a2)] := hl
  exact B_X12_by_0 E hf hM hl
-- PensionHouseModel.rest(DD)D  mode P
noncomputable def f_X12_rest_30 (v0 : UInt64) (v2 : UInt64) (t0 : Int32) : Option UInt64 := if t0 = 0 then if jnn (FP.drem v0 v2) = true then some (FP.drem v0 v2) else none else some (9221120237041090560 : UInt64)
noncomputable def f_X12_rest_25 (v0 : UInt64) (v2 : UInt64) : Option UInt64 := f_X12_rest_30 v0 v2 (1 : Int32)
noncomputable def f_X12_rest (v0 : UInt64) (v2 : UInt64) : Option UInt64 := if (Op.cmpValue (FP.dcmp v0 v0) .l) = 0 then if (Op.cmpValue (FP.dcmp v2 v2) .l) = 0 then if (f_X12_isEndless v0) = 0 then if (Op.cmpValue (FP.dcmp v2 (FP.dconst0)) .l) = 0 then f_X12_rest_25 v0 v2 else f_X12_rest_30 v0 v2 (0 : Int32) else f_X12_rest_25 v0 v2 else f_X12_rest_25 v0 v2 else f_X12_rest_25 v0 v2
set_option maxRecDepth 100000 in
set_option maxHeartbeats 4000000 in
theorem B_X12_rest_30 {p : Program} {l : Launch} {e : Env} {s : State} {m : MethodId} {args : Array Value} {below : List Frame} {meth : Method} {c : Code} {g : jG} {rr : UInt64} {S : jM} {v0 : UInt64} {v2 : UInt64} {t0 : Int32} (E : jEnv p s m args meth c cX12_rest "PensionHouseModel" (some .double) 5 g)  {H : Heap} {locs : List Loc} {ls : Array Slot} (hf : f_X12_rest_30 v0 v2 t0 = some rr) (hM : jAt g S s H locs) (hl : lv_has ls 5 [(0, .double v0), (2, .double v2)]) : W p l e (jRm 2 0 0) s m args below meth c H locs 0 0 (MQ below (jQd g rr S) args s 0 0 (jA0 g)) (F0 m 30 ls [.int t0]) := by
  obtain ⟨hx, hb, hml, -, hts, hown, hK, -, hstr⟩ := id E
  unfold f_X12_rest_30 at hf
  refine lv_istore (lv' := [(4, .int t0), (0, .double v0), (2, .double v2)]) hx hb dX12_rest_30 hl (by decide) rfl (fun ls hl => ?_)
  refine lv_iload hx hb dX12_rest_32 (lv_at hl 0 rfl) ?_
  refine lv_if_eq (tgt := 43) hx hb dX12_rest_34 (by decide) (fun c1 => ?_) (fun c1 => ?_)
  · have hf := jt c1 hf
    refine lv_dload_n hx hb dX12_rest_43 rfl (lv_at hl 1 rfl) ?_
    refine lv_dload_n hx hb dX12_rest_44 rfl (lv_at hl 2 rfl) ?_
    obtain ⟨hn2, hf⟩ := jif hf
    refine lv_drem hx hb dX12_rest_45 (jnn_ok hn2) ?_
    exact jdret (jr1 hf) E hM dX12_rest_46
  · have hf := jf c1 hf
    refine lv_ldc2d (v := (9221120237041090560 : UInt64)) hx hb hown (hts _ lk_7_80) dX12_rest_37 ?_
    refine lv_goto (tgt := 46) hx hb dX12_rest_40 (by decide) ?_
    exact jdret (jr1 hf) E hM dX12_rest_46
set_option maxRecDepth 100000 in
set_option maxHeartbeats 4000000 in
theorem B_X12_rest_25 {p : Program} {l : Launch} {e : Env} {s : State} {m : MethodId} {args : Array Value} {below : List Frame} {meth : Method} {c : Code} {g : jG} {rr : UInt64} {S : jM} {v0 : UInt64} {v2 : UInt64} (E : jEnv p s m args meth c cX12_rest "PensionHouseModel" (some .double) 5 g)  {H : Heap} {locs : List Loc} {ls : Array Slot} (hf : f_X12_rest_25 v0 v2 = some rr) (hM : jAt g S s H locs) (hl : lv_has ls 5 [(0, .double v0), (2, .double v2)]) : W p l e (jRm 2 0 0) s m args below meth c H locs 0 0 (MQ below (jQd g rr S) args s 0 0 (jA0 g)) (F0 m 25 ls []) := by
  obtain ⟨hx, hb, hml, -, hts, hown, hK, -, hstr⟩ := id E
  unfold f_X12_rest_25 at hf
  refine lv_iconst (v := (1 : Int32)) hx hb dX12_rest_25 (by decide) ?_
  refine lv_goto (tgt := 30) hx hb dX12_rest_26 (by decide) ?_
  exact B_X12_rest_30 E  hf hM (lv_sub hl [0, 1] rfl)
set_option maxRecDepth 100000 in
set_option maxHeartbeats 4000000 in
theorem B_X12_rest_0 {p : Program} {l : Launch} {e : Env} {s : State} {m : MethodId} {args : Array Value} {below : List Frame} {meth : Method} {c : Code} {g : jG} {rr : UInt64} {S : jM} {v0 : UInt64} {v2 : UInt64} (E : jEnv p s m args meth c cX12_rest "PensionHouseModel" (some .double) 5 g)  {H : Heap} {locs : List Loc} {ls : Array Slot} (hf : f_X12_rest v0 v2 = some rr) (hM : jAt g S s H locs) (hl : lv_has ls 5 [(0, .double v0), (2, .double v2)]) : W p l e (jRm 2 0 0) s m args below meth c H locs 0 0 (MQ below (jQd g rr S) args s 0 0 (jA0 g)) (F0 m 0 ls []) := by
  obtain ⟨hx, hb, hml, -, hts, hown, hK, -, hstr⟩ := id E
  unfold f_X12_rest at hf
  refine lv_dload_n hx hb dX12_rest_0 rfl (lv_at hl 0 rfl) ?_
  refine lv_dload_n hx hb dX12_rest_1 rfl (lv_at hl 0 rfl) ?_
  refine lv_dcmp hx hb dX12_rest_2 ?_
  refine lv_if_ne (tgt := 25) hx hb dX12_rest_3 (by decide) (fun c3 => ?_) (fun c3 => ?_)
  · have hf := jf c3 hf
    exact B_X12_rest_25 E  hf hM (lv_sub hl [0, 1] rfl)
  · have hf := jt c3 hf
    refine lv_dload_n hx hb dX12_rest_6 rfl (lv_at hl 1 rfl) ?_
    refine lv_dload_n hx hb dX12_rest_7 rfl (lv_at hl 1 rfl) ?_
    refine lv_dcmp hx hb dX12_rest_8 ?_
    refine lv_if_ne (tgt := 25) hx hb dX12_rest_9 (by decide) (fun c4 => ?_) (fun c4 => ?_)
    · have hf := jf c4 hf
      exact B_X12_rest_25 E  hf hM (lv_sub hl [0, 1] rfl)
    · have hf := jt c4 hf
      refine lv_dload_n hx hb dX12_rest_12 rfl (lv_at hl 0 rfl) ?_
      refine jbackI hM (jrunS E hM ci_X12_isEndless (C_X12_isEndless rfl) lk_8_141 hl.1 rfl rfl (Nat.le_of_ble_eq_true rfl) ⟨Nat.le_of_ble_eq_true rfl, Nat.le_of_ble_eq_true rfl⟩ ⟨Nat.le_refl _, Nat.le_refl _⟩ dX12_rest_13) (fun H locs hM => ?_)
      refine lv_if_ne (tgt := 25) hx hb dX12_rest_16 (by decide) (fun c5 => ?_) (fun c5 => ?_)
      · have hf := jf c5 hf
        exact B_X12_rest_25 E  hf hM (lv_sub hl [0, 1] rfl)
      · have hf := jt c5 hf
        refine lv_dload_n hx hb dX12_rest_19 rfl (lv_at hl 1 rfl) ?_
        refine lv_dconst0 hx hb dX12_rest_20 ?_
        refine lv_dcmp hx hb dX12_rest_21 ?_
        refine lv_if_ne (tgt := 29) hx hb dX12_rest_22 (by decide) (fun c6 => ?_) (fun c6 => ?_)
        · have hf := jf c6 hf
          refine lv_iconst (v := (0 : Int32)) hx hb dX12_rest_29 (by decide) ?_
          exact B_X12_rest_30 E  hf hM (lv_sub hl [0, 1] rfl)
        · have hf := jt c6 hf
          exact B_X12_rest_25 E  hf hM (lv_sub hl [0, 1] rfl)
set_option maxRecDepth 100000 in
theorem C_X12_rest {l : Launch} {g : jG} {a0 : UInt64} {a2 : UInt64} {S : jM} {rr : UInt64} (hf : f_X12_rest a0 a2 = some rr) : jMet l g yX12_rest cX12_rest 5 (some .double) 2 0 0 [.double a0, .double a2] S (jQd g rr S) := by
  refine jof (by decide +kernel) (Nat.le_of_ble_eq_true rfl) ?_
  intro p e s m below meth c E hM ls hl
  have hl : lv_has ls 5 [(0, .double a0),(2, .double a2)] := hl
  exact B_X12_rest_0 E hf hM hl
-- PensionHouseModel.whole(IJJ)I  mode M
noncomputable def f_X12_whole_194 (t0 : Nat) (t1 : Int64) (S : jM) : Option (Int32 × jM) := if jK t0 = 10 then jbd (f_X12_ofWhole t0 t1 S) (fun x1 S2 => some (x1, S2)) else none
noncomputable def f_X12_whole_154 (v0 : Nat) (v6 : Int64) (S : jM) : Option (Int32 × jM) := if jK v0 = 10 then jbd (f_X12_ofWhole v0 v6 S) (fun x5 S6 => some (x5, S6)) else none
noncomputable def f_X12_whole_145 (v0 : Nat) (S : jM) : Option (Int32 × jM) := if jK v0 = 10 then jbd (f_X12_failing v0 (6 : Int32) S) (fun x9 S10 => some (x9, S10)) else none
noncomputable def f_X12_whole_122 (v0 : Nat) (v2 : Int64) (v4 : Int64) (v6 : Int64) (t0 : Int32) (S : jM) : Option (Int32 × jM) := if v2 = (0 : Int64) then f_X12_whole_154 v0 v6 S else if t0 = 0 then if ¬ v2 = 0 then if (v6 / v2) = v4 then f_X12_whole_154 v0 v6 S else f_X12_whole_145 v0 S else none else f_X12_whole_145 v0 S
noncomputable def f_X12_whole_121 (v0 : Nat) (v2 : Int64) (v4 : Int64) (v6 : Int64) (S : jM) : Option (Int32 × jM) := f_X12_whole_122 v0 v2 v4 v6 (0 : Int32) S
noncomputable def f_X12_whole (v0 : Nat) (v1 : Int32) (v2 : Int64) (v4 : Int64) (S : jM) : Option (Int32 × jM) := if v1 = (143 : Int32) then jlet (v2 + v4) (fun x41 => if (0 : Int64) ≤ ((v2 ^^^ x41) &&& (v4 ^^^ x41)) then if jK v0 = 10 then jbd (f_X12_ofWhole v0 x41 S) (fun x43 S44 => some (x43, S44)) else none else if jK v0 = 10 then jbd (f_X12_failing v0 (6 : Int32) S) (fun x47 S48 => some (x47, S48)) else none) else if v1 = (145 : Int32) then jlet (v2 - v4) (fun x31 => if (0 : Int64) ≤ ((v2 ^^^ v4) &&& (v2 ^^^ x31)) then if jK v0 = 10 then jbd (f_X12_ofWhole v0 x31 S) (fun x33 S34 => some (x33, S34)) else none else if jK v0 = 10 then jbd (f_X12_failing v0 (6 : Int32) S) (fun x37 S38 => some (x37, S38)) else none) else if v1 = (142 : Int32) then jlet (v2 * v4) (fun x28 => if v2 = (-1 : Int64) then if v4 = (-9223372036854775808 : Int64) then f_X12_whole_122 v0 v2 v4 x28 (1 : Int32) S else f_X12_whole_121 v0 v2 v4 x28 S else f_X12_whole_121 v0 v2 v4 x28 S) else if v4 = (0 : Int64) then if jK v0 = 10 then jbd (f_X12_failing v0 (6 : Int32) S) (fun x24 S25 => some (x24, S25)) else none else if v1 = (147 : Int32) then if ¬ v4 = 0 then f_X12_whole_194 v0 (v2 / v4) S else none else if ¬ v4 = 0 then f_X12_whole_194 v0 (v2 - v2 / v4 * v4) S else none
set_option maxRecDepth 100000 in
set_option maxHeartbeats 4000000 in
theorem B_X12_whole_194 {p : Program} {l : Launch} {e : Env} {s : State} {m : MethodId} {args : Array Value} {below : List Frame} {meth : Method} {c : Code} {g : jG} {rr : Int32} {SS : jM} {t0 : Nat} {t1 : Int64} {S : jM} (E : jEnv p s m args meth c cX12_whole "PensionHouseModel" (some .int) 9 g)  {H : Heap} {locs : List Loc} {ls : Array Slot} (hf : f_X12_whole_194 t0 t1 S = some (rr, SS)) (hM : jAt g S s H locs) (hl : lv_has ls 9 []) : W p l e (jRm 5 0 0) s m args below meth c H locs 0 0 (MQ below (jQi g rr SS) args s 0 0 (jA0 g)) (F0 m 194 ls [.long t1, .ref (g.2.2 + t0)]) := by
  obtain ⟨hx, hb, hml, -, hts, hown, hK, -, hstr⟩ := id E
  unfold f_X12_whole_194 at hf
  obtain ⟨hq4, hf⟩ := jif hf
  obtain ⟨x1, S2, hc3, hf⟩ := jbd_e hf
  refine jbackI hM (jrunV E hM ci_X12_ofWhole (C_X12_ofWhole hc3) lk_8_91 hq4 (by decide) rfl hl.1 rfl rfl (Nat.le_of_ble_eq_true rfl) ⟨Nat.le_of_ble_eq_true rfl, Nat.le_of_ble_eq_true rfl⟩ ⟨Nat.le_refl _, Nat.le_refl _⟩ dX12_whole_194) (fun H locs hM => ?_)
  exact jireti (jr2 hf) E hM dX12_whole_197
set_option maxRecDepth 100000 in
set_option maxHeartbeats 4000000 in
theorem B_X12_whole_154 {p : Program} {l : Launch} {e : Env} {s : State} {m : MethodId} {args : Array Value} {below : List Frame} {meth : Method} {c : Code} {g : jG} {rr : Int32} {SS : jM} {v0 : Nat} {v6 : Int64} {S : jM} (E : jEnv p s m args meth c cX12_whole "PensionHouseModel" (some .int) 9 g)  {H : Heap} {locs : List Loc} {ls : Array Slot} (hf : f_X12_whole_154 v0 v6 S = some (rr, SS)) (hM : jAt g S s H locs) (hl : lv_has ls 9 [(0, .ref (g.2.2 + v0)), (6, .long v6)]) : W p l e (jRm 5 0 0) s m args below meth c H locs 0 0 (MQ below (jQi g rr SS) args s 0 0 (jA0 g)) (F0 m 154 ls []) := by
  obtain ⟨hx, hb, hml, -, hts, hown, hK, -, hstr⟩ := id E
  unfold f_X12_whole_154 at hf
  refine lv_aload_n hx hb dX12_whole_154 rfl (lv_at hl 0 rfl) ?_
  refine lv_lload hx hb dX12_whole_155 (lv_at hl 1 rfl) ?_
  obtain ⟨hq8, hf⟩ := jif hf
  obtain ⟨x5, S6, hc7, hf⟩ := jbd_e hf
  refine jbackI hM (jrunV E hM ci_X12_ofWhole (C_X12_ofWhole hc7) lk_8_91 hq8 (by decide) rfl hl.1 rfl rfl (Nat.le_of_ble_eq_true rfl) ⟨Nat.le_of_ble_eq_true rfl, Nat.le_of_ble_eq_true rfl⟩ ⟨Nat.le_refl _, Nat.le_refl _⟩ dX12_whole_157) (fun H locs hM => ?_)
  exact jireti (jr2 hf) E hM dX12_whole_160
set_option maxRecDepth 100000 in
set_option maxHeartbeats 4000000 in
theorem B_X12_whole_145 {p : Program} {l : Launch} {e : Env} {s : State} {m : MethodId} {args : Array Value} {below : List Frame} {meth : Method} {c : Code} {g : jG} {rr : Int32} {SS : jM} {v0 : Nat} {S : jM} (E : jEnv p s m args meth c cX12_whole "PensionHouseModel" (some .int) 9 g)  {H : Heap} {locs : List Loc} {ls : Array Slot} (hf : f_X12_whole_145 v0 S = some (rr, SS)) (hM : jAt g S s H locs) (hl : lv_has ls 9 [(0, .ref (g.2.2 + v0))]) : W p l e (jRm 5 0 0) s m args below meth c H locs 0 0 (MQ below (jQi g rr SS) args s 0 0 (jA0 g)) (F0 m 145 ls []) := by
  obtain ⟨hx, hb, hml, -, hts, hown, hK, -, hstr⟩ := id E
  unfold f_X12_whole_145 at hf
  refine lv_aload_n hx hb dX12_whole_145 rfl (lv_at hl 0 rfl) ?_
  refine lv_bipush (v := (6 : Int32)) hx hb dX12_whole_146 (by decide) ?_
  obtain ⟨hq12, hf⟩ := jif hf
  obtain ⟨x9, S10, hc11, hf⟩ := jbd_e hf
  refine jbackI hM (jrunV E hM ci_X12_failing (C_X12_failing hc11) lk_8_87 hq12 (by decide) rfl hl.1 rfl rfl (Nat.le_of_ble_eq_true rfl) ⟨Nat.le_of_ble_eq_true rfl, Nat.le_of_ble_eq_true rfl⟩ ⟨Nat.le_refl _, Nat.le_refl _⟩ dX12_whole_148) (fun H locs hM => ?_)
  refine lv_goto (tgt := 160) hx hb dX12_whole_151 (by decide) ?_
  exact jireti (jr2 hf) E hM dX12_whole_160
set_option maxRecDepth 100000 in
set_option maxHeartbeats 4000000 in
theorem B_X12_whole_122 {p : Program} {l : Launch} {e : Env} {s : State} {m : MethodId} {args : Array Value} {below : List Frame} {meth : Method} {c : Code} {g : jG} {rr : Int32} {SS : jM} {v0 : Nat} {v2 : Int64} {v4 : Int64} {v6 : Int64} {t0 : Int32} {S : jM} (E : jEnv p s m args meth c cX12_whole "PensionHouseModel" (some .int) 9 g)  {H : Heap} {locs : List Loc} {ls : Array Slot} (hf : f_X12_whole_122 v0 v2 v4 v6 t0 S = some (rr, SS)) (hM : jAt g S s H locs) (hl : lv_has ls 9 [(0, .ref (g.2.2 + v0)), (2, .long v2), (4, .long v4), (6, .long v6)]) : W p l e (jRm 5 0 0) s m args below meth c H locs 0 0 (MQ below (jQi g rr SS) args s 0 0 (jA0 g)) (F0 m 122 ls [.int t0]) := by
  obtain ⟨hx, hb, hml, -, hts, hown, hK, -, hstr⟩ := id E
  unfold f_X12_whole_122 at hf
  refine lv_istore (lv' := [(8, .int t0), (0, .ref (g.2.2 + v0)), (2, .long v2), (4, .long v4), (6, .long v6)]) hx hb dX12_whole_122 hl (by decide) rfl (fun ls hl => ?_)
  refine lv_lload_n hx hb dX12_whole_124 rfl (lv_at hl 2 rfl) ?_
  refine lv_lconst (v := (0 : Int64)) hx hb dX12_whole_125 (by decide) ?_
  refine jl_eq (tgt := 154) hx hb dX12_whole_126 dX12_whole_127 (by decide) (fun c13 => ?_) (fun c13 => ?_)
  · have hf := jt c13 hf
    exact B_X12_whole_154 E  hf hM (lv_sub hl [1, 4] rfl)
  · have hf := jf c13 hf
    refine lv_iload hx hb dX12_whole_130 (lv_at hl 0 rfl) ?_
    refine lv_if_ne (tgt := 145) hx hb dX12_whole_132 (by decide) (fun c14 => ?_) (fun c14 => ?_)
    · have hf := jf c14 hf
      exact B_X12_whole_145 E  hf hM (lv_sub hl [1] rfl)
    · have hf := jt c14 hf
      refine lv_lload hx hb dX12_whole_135 (lv_at hl 4 rfl) ?_
      refine lv_lload_n hx hb dX12_whole_137 rfl (lv_at hl 2 rfl) ?_
      obtain ⟨hn15, hf⟩ := jif hf
      refine lv_ldiv hx hb dX12_whole_138 hn15 ?_
      refine lv_lload hx hb dX12_whole_139 (lv_at hl 3 rfl) ?_
      refine jl_eq (tgt := 154) hx hb dX12_whole_141 dX12_whole_142 (by decide) (fun c16 => ?_) (fun c16 => ?_)
      · have hf := jt c16 hf
        exact B_X12_whole_154 E  hf hM (lv_sub hl [1, 4] rfl)
      · have hf := jf c16 hf
        exact B_X12_whole_145 E  hf hM (lv_sub hl [1] rfl)
set_option maxRecDepth 100000 in
set_option maxHeartbeats 4000000 in
theorem B_X12_whole_121 {p : Program} {l : Launch} {e : Env} {s : State} {m : MethodId} {args : Array Value} {below : List Frame} {meth : Method} {c : Code} {g : jG} {rr : Int32} {SS : jM} {v0 : Nat} {v2 : Int64} {v4 : Int64} {v6 : Int64} {S : jM} (E : jEnv p s m args meth c cX12_whole "PensionHouseModel" (some .int) 9 g)  {H : Heap} {locs : List Loc} {ls : Array Slot} (hf : f_X12_whole_121 v0 v2 v4 v6 S = some (rr, SS)) (hM : jAt g S s H locs) (hl : lv_has ls 9 [(0, .ref (g.2.2 + v0)), (2, .long v2), (4, .long v4), (6, .long v6)]) : W p l e (jRm 5 0 0) s m args below meth c H locs 0 0 (MQ below (jQi g rr SS) args s 0 0 (jA0 g)) (F0 m 121 ls []) := by
  obtain ⟨hx, hb, hml, -, hts, hown, hK, -, hstr⟩ := id E
  unfold f_X12_whole_121 at hf
  refine lv_iconst (v := (0 : Int32)) hx hb dX12_whole_121 (by decide) ?_
  exact B_X12_whole_122 E  hf hM (lv_sub hl [0, 1, 2, 3] rfl)
set_option maxRecDepth 100000 in
set_option maxHeartbeats 4000000 in
theorem B_X12_whole_0 {p : Program} {l : Launch} {e : Env} {s : State} {m : MethodId} {args : Array Value} {below : List Frame} {meth : Method} {c : Code} {g : jG} {rr : Int32} {SS : jM} {v0 : Nat} {v1 : Int32} {v2 : Int64} {v4 : Int64} {S : jM} (E : jEnv p s m args meth c cX12_whole "PensionHouseModel" (some .int) 9 g)  {H : Heap} {locs : List Loc} {ls : Array Slot} (hf : f_X12_whole v0 v1 v2 v4 S = some (rr, SS)) (hM : jAt g S s H locs) (hl : lv_has ls 9 [(0, .ref (g.2.2 + v0)), (1, .int v1), (2, .long v2), (4, .long v4)]) : W p l e (jRm 5 0 0) s m args below meth c H locs 0 0 (MQ below (jQi g rr SS) args s 0 0 (jA0 g)) (F0 m 0 ls []) := by
  obtain ⟨hx, hb, hml, -, hts, hown, hK, -, hstr⟩ := id E
  unfold f_X12_whole at hf
  refine lv_iload_n hx hb dX12_whole_0 rfl (lv_at hl 1 rfl) ?_
  refine lv_sipush (v := (143 : Int32)) hx hb dX12_whole_1 (by decide) ?_
  refine lv_icmp_ne (tgt := 44) hx hb dX12_whole_4 (by decide) (fun c17 => ?_) (fun c17 => ?_)
  · have hf := jf c17 hf
    refine lv_iload_n hx hb dX12_whole_44 rfl (lv_at hl 1 rfl) ?_
    refine lv_sipush (v := (145 : Int32)) hx hb dX12_whole_45 (by decide) ?_
    refine lv_icmp_ne (tgt := 87) hx hb dX12_whole_48 (by decide) (fun c18 => ?_) (fun c18 => ?_)
    · have hf := jf c18 hf
      refine lv_iload_n hx hb dX12_whole_87 rfl (lv_at hl 1 rfl) ?_
      refine lv_sipush (v := (142 : Int32)) hx hb dX12_whole_88 (by decide) ?_
      refine lv_icmp_ne (tgt := 161) hx hb dX12_whole_91 (by decide) (fun c19 => ?_) (fun c19 => ?_)
      · have hf := jf c19 hf
        refine lv_lload hx hb dX12_whole_161 (lv_at hl 3 rfl) ?_
        refine lv_lconst (v := (0 : Int64)) hx hb dX12_whole_163 (by decide) ?_
        refine jl_ne (tgt := 175) hx hb dX12_whole_164 dX12_whole_165 (by decide) (fun c20 => ?_) (fun c20 => ?_)
        · have hf := jf c20 hf
          refine lv_aload_n hx hb dX12_whole_175 rfl (lv_at hl 0 rfl) ?_
          refine lv_iload_n hx hb dX12_whole_176 rfl (lv_at hl 1 rfl) ?_
          refine lv_sipush (v := (147 : Int32)) hx hb dX12_whole_177 (by decide) ?_
          refine lv_icmp_ne (tgt := 190) hx hb dX12_whole_180 (by decide) (fun c21 => ?_) (fun c21 => ?_)
          · have hf := jf c21 hf
            refine lv_lload_n hx hb dX12_whole_190 rfl (lv_at hl 2 rfl) ?_
            refine lv_lload hx hb dX12_whole_191 (lv_at hl 3 rfl) ?_
            obtain ⟨hn22, hf⟩ := jif hf
            refine lv_lrem hx hb dX12_whole_193 hn22 ?_
            exact B_X12_whole_194 E  hf hM (lv_sub hl [] rfl)
          · have hf := jt c21 hf
            refine lv_lload_n hx hb dX12_whole_183 rfl (lv_at hl 2 rfl) ?_
            refine lv_lload hx hb dX12_whole_184 (lv_at hl 3 rfl) ?_
            obtain ⟨hn23, hf⟩ := jif hf
            refine lv_ldiv hx hb dX12_whole_186 hn23 ?_
            refine lv_goto (tgt := 194) hx hb dX12_whole_187 (by decide) ?_
            exact B_X12_whole_194 E  hf hM (lv_sub hl [] rfl)
        · have hf := jt c20 hf
          refine lv_aload_n hx hb dX12_whole_168 rfl (lv_at hl 0 rfl) ?_
          refine lv_bipush (v := (6 : Int32)) hx hb dX12_whole_169 (by decide) ?_
          obtain ⟨hq27, hf⟩ := jif hf
          obtain ⟨x24, S25, hc26, hf⟩ := jbd_e hf
          refine jbackI hM (jrunV E hM ci_X12_failing (C_X12_failing hc26) lk_8_87 hq27 (by decide) rfl hl.1 rfl rfl (Nat.le_of_ble_eq_true rfl) ⟨Nat.le_of_ble_eq_true rfl, Nat.le_of_ble_eq_true rfl⟩ ⟨Nat.le_refl _, Nat.le_refl _⟩ dX12_whole_171) (fun H locs hM => ?_)
          exact jireti (jr2 hf) E hM dX12_whole_174
      · have hf := jt c19 hf
        refine lv_lload_n hx hb dX12_whole_94 rfl (lv_at hl 2 rfl) ?_
        refine lv_lload hx hb dX12_whole_95 (lv_at hl 3 rfl) ?_
        refine lv_lmul hx hb dX12_whole_97 ?_
        refine lv_topl (fun x28 ex28 => ?_)
        have hf := jlet_y ex28 hf
        refine lv_lstore (lv' := [(6, .long x28), (0, .ref (g.2.2 + v0)), (1, .int v1), (2, .long v2), (4, .long v4)]) hx hb dX12_whole_98 hl (by decide) rfl (fun ls hl => ?_)
        refine lv_lload_n hx hb dX12_whole_100 rfl (lv_at hl 3 rfl) ?_
        refine lv_ldc2 (v := (-1 : Int64)) hx hb hown (hts _ lk_7_66) dX12_whole_101 ?_
        refine jl_ne (tgt := 121) hx hb dX12_whole_104 dX12_whole_105 (by decide) (fun c29 => ?_) (fun c29 => ?_)
        · have hf := jf c29 hf
          exact B_X12_whole_121 E  hf hM (lv_sub hl [1, 3, 4, 0] rfl)
        · have hf := jt c29 hf
          refine lv_lload hx hb dX12_whole_108 (lv_at hl 4 rfl) ?_
          refine lv_ldc2 (v := (-9223372036854775808 : Int64)) hx hb hown (hts _ lk_7_111) dX12_whole_110 ?_
          refine jl_ne (tgt := 121) hx hb dX12_whole_113 dX12_whole_114 (by decide) (fun c30 => ?_) (fun c30 => ?_)
          · have hf := jf c30 hf
            exact B_X12_whole_121 E  hf hM (lv_sub hl [1, 3, 4, 0] rfl)
          · have hf := jt c30 hf
            refine lv_iconst (v := (1 : Int32)) hx hb dX12_whole_117 (by decide) ?_
            refine lv_goto (tgt := 122) hx hb dX12_whole_118 (by decide) ?_
            exact B_X12_whole_122 E  hf hM (lv_sub hl [1, 3, 4, 0] rfl)
    · have hf := jt c18 hf
      refine lv_lload_n hx hb dX12_whole_51 rfl (lv_at hl 2 rfl) ?_
      refine lv_lload hx hb dX12_whole_52 (lv_at hl 3 rfl) ?_
      refine lv_lsub hx hb dX12_whole_54 ?_
      refine lv_topl (fun x31 ex31 => ?_)
      have hf := jlet_y ex31 hf
      refine lv_lstore (lv' := [(6, .long x31), (0, .ref (g.2.2 + v0)), (1, .int v1), (2, .long v2), (4, .long v4)]) hx hb dX12_whole_55 hl (by decide) rfl (fun ls hl => ?_)
      refine lv_lload_n hx hb dX12_whole_57 rfl (lv_at hl 3 rfl) ?_
      refine lv_lload hx hb dX12_whole_58 (lv_at hl 4 rfl) ?_
      refine lv_lxor hx hb dX12_whole_60 ?_
      refine lv_lload_n hx hb dX12_whole_61 rfl (lv_at hl 3 rfl) ?_
      refine lv_lload hx hb dX12_whole_62 (lv_at hl 0 rfl) ?_
      refine lv_lxor hx hb dX12_whole_64 ?_
      refine lv_land hx hb dX12_whole_65 ?_
      refine lv_lconst (v := (0 : Int64)) hx hb dX12_whole_66 (by decide) ?_
      refine jl_ge (tgt := 80) hx hb dX12_whole_67 dX12_whole_68 (by decide) (fun c32 => ?_) (fun c32 => ?_)
      · have hf := jt c32 hf
        refine lv_aload_n hx hb dX12_whole_80 rfl (lv_at hl 1 rfl) ?_
        refine lv_lload hx hb dX12_whole_81 (lv_at hl 0 rfl) ?_
        obtain ⟨hq36, hf⟩ := jif hf
        obtain ⟨x33, S34, hc35, hf⟩ := jbd_e hf
        refine jbackI hM (jrunV E hM ci_X12_ofWhole (C_X12_ofWhole hc35) lk_8_91 hq36 (by decide) rfl hl.1 rfl rfl (Nat.le_of_ble_eq_true rfl) ⟨Nat.le_of_ble_eq_true rfl, Nat.le_of_ble_eq_true rfl⟩ ⟨Nat.le_refl _, Nat.le_refl _⟩ dX12_whole_83) (fun H locs hM => ?_)
        exact jireti (jr2 hf) E hM dX12_whole_86
      · have hf := jf c32 hf
        refine lv_aload_n hx hb dX12_whole_71 rfl (lv_at hl 1 rfl) ?_
        refine lv_bipush (v := (6 : Int32)) hx hb dX12_whole_72 (by decide) ?_
        obtain ⟨hq40, hf⟩ := jif hf
        obtain ⟨x37, S38, hc39, hf⟩ := jbd_e hf
        refine jbackI hM (jrunV E hM ci_X12_failing (C_X12_failing hc39) lk_8_87 hq40 (by decide) rfl hl.1 rfl rfl (Nat.le_of_ble_eq_true rfl) ⟨Nat.le_of_ble_eq_true rfl, Nat.le_of_ble_eq_true rfl⟩ ⟨Nat.le_refl _, Nat.le_refl _⟩ dX12_whole_74) (fun H locs hM => ?_)
        refine lv_goto (tgt := 86) hx hb dX12_whole_77 (by decide) ?_
        exact jireti (jr2 hf) E hM dX12_whole_86
  · have hf := jt c17 hf
    refine lv_lload_n hx hb dX12_whole_7 rfl (lv_at hl 2 rfl) ?_
    refine lv_lload hx hb dX12_whole_8 (lv_at hl 3 rfl) ?_
    refine lv_ladd hx hb dX12_whole_10 ?_
    refine lv_topl (fun x41 ex41 => ?_)
    have hf := jlet_y ex41 hf
    refine lv_lstore (lv' := [(6, .long x41), (0, .ref (g.2.2 + v0)), (1, .int v1), (2, .long v2), (4, .long v4)]) hx hb dX12_whole_11 hl (by decide) rfl (fun ls hl => ?_)
    refine lv_lload_n hx hb dX12_whole_13 rfl (lv_at hl 3 rfl) ?_
    refine lv_lload hx hb dX12_whole_14 (lv_at hl 0 rfl) ?_
    refine lv_lxor hx hb dX12_whole_16 ?_
    refine lv_lload hx hb dX12_whole_17 (lv_at hl 4 rfl) ?_
    refine lv_lload hx hb dX12_whole_19 (lv_at hl 0 rfl) ?_
    refine lv_lxor hx hb dX12_whole_21 ?_
    refine lv_land hx hb dX12_whole_22 ?_
    refine lv_lconst (v := (0 : Int64)) hx hb dX12_whole_23 (by decide) ?_
    refine jl_ge (tgt := 37) hx hb dX12_whole_24 dX12_whole_25 (by decide) (fun c42 => ?_) (fun c42 => ?_)
    · have hf := jt c42 hf
      refine lv_aload_n hx hb dX12_whole_37 rfl (lv_at hl 1 rfl) ?_
      refine lv_lload hx hb dX12_whole_38 (lv_at hl 0 rfl) ?_
      obtain ⟨hq46, hf⟩ := jif hf
      obtain ⟨x43, S44, hc45, hf⟩ := jbd_e hf
      refine jbackI hM (jrunV E hM ci_X12_ofWhole (C_X12_ofWhole hc45) lk_8_91 hq46 (by decide) rfl hl.1 rfl rfl (Nat.le_of_ble_eq_true rfl) ⟨Nat.le_of_ble_eq_true rfl, Nat.le_of_ble_eq_true rfl⟩ ⟨Nat.le_refl _, Nat.le_refl _⟩ dX12_whole_40) (fun H locs hM => ?_)
      exact jireti (jr2 hf) E hM dX12_whole_43
    · have hf := jf c42 hf
      refine lv_aload_n hx hb dX12_whole_28 rfl (lv_at hl 1 rfl) ?_
      refine lv_bipush (v := (6 : Int32)) hx hb dX12_whole_29 (by decide) ?_
      obtain ⟨hq50, hf⟩ := jif hf
      obtain ⟨x47, S48, hc49, hf⟩ := jbd_e hf
      refine jbackI hM (jrunV E hM ci_X12_failing (C_X12_failing hc49) lk_8_87 hq50 (by decide) rfl hl.1 rfl rfl (Nat.le_of_ble_eq_true rfl) ⟨Nat.le_of_ble_eq_true rfl, Nat.le_of_ble_eq_true rfl⟩ ⟨Nat.le_refl _, Nat.le_refl _⟩ dX12_whole_31) (fun H locs hM => ?_)
      refine lv_goto (tgt := 43) hx hb dX12_whole_34 (by decide) ?_
      exact jireti (jr2 hf) E hM dX12_whole_43
set_option maxRecDepth 100000 in
theorem C_X12_whole {l : Launch} {g : jG} {a0 : Nat} {a1 : Int32} {a2 : Int64} {a4 : Int64} {S : jM} {rr : Int32} {SS : jM} (hf : f_X12_whole a0 a1 a2 a4 S = some (rr, SS)) : jMet l g yX12_whole cX12_whole 9 (some .int) 5 0 0 [.ref (g.2.2 + a0), .int a1, .long a2, .long a4] S (jQi g rr SS) := by
  refine jof (by decide +kernel) (Nat.le_of_ble_eq_true rfl) ?_
  intro p e s m below meth c E hM ls hl
  have hl : lv_has ls 9 [(0, .ref (g.2.2 + a0)),(1, .int a1),(2, .long a2),(4, .long a4)] := hl
  exact B_X12_whole_0 E hf hM hl
-- PensionHouseModel.arithmetic(III)I  mode M
noncomputable def f_X12_arithmetic_140 (t0 : Nat) (t1 : UInt64) (S : jM) : Option (Int32 × jM) := if jK t0 = 10 then jbd (f_X12_ofReal t0 t1 S) (fun x1 S2 => some (x1, S2)) else none
noncomputable def f_X12_arithmetic_50 (v0 : Nat) (v1 : Int32) (v2 : Int32) (v3 : Int32) (S : jM) : Option (Int32 × jM) := if jK v0 = 10 then (f_X12_asReal v0 v2 S).bind (fun x5 => (f_X12_asReal v0 v3 S).bind (fun x8 => if v1 = (143 : Int32) then (f_X12_plus x5 x8).bind (fun x22 => f_X12_arithmetic_140 v0 x22 S) else if v1 = (145 : Int32) then (f_X12_minus x5 x8).bind (fun x20 => f_X12_arithmetic_140 v0 x20 S) else if v1 = (142 : Int32) then (f_X12_times x5 x8).bind (fun x18 => f_X12_arithmetic_140 v0 x18 S) else if v1 = (147 : Int32) then (f_X12_by x5 x8).bind (fun x16 => f_X12_arithmetic_140 v0 x16 S) else (f_X12_rest x5 x8).bind (fun x14 => f_X12_arithmetic_140 v0 x14 S))) else none
noncomputable def f_X12_arithmetic_24 (v0 : Nat) (S : jM) : Option (Int32 × jM) := if jK v0 = 10 then jbd (f_X12_failing v0 (2 : Int32) S) (fun x24 S25 => some (x24, S25)) else none
noncomputable def f_X12_arithmetic (v0 : Nat) (v1 : Int32) (v2 : Int32) (v3 : Int32) (S : jM) : Option (Int32 × jM) := if jK v0 = 10 then (jR S 88 v0).bind (fun r29 => if jA r29 13 v2 = true then if (f_X12_isNumber (jAI S r29 (v2).toNatClampNeg)) = 0 then f_X12_arithmetic_24 v0 S else (jR S 88 v0).bind (fun r33 => if jA r33 13 v3 = true then if (f_X12_isNumber (jAI S r33 (v3).toNatClampNeg)) = 0 then f_X12_arithmetic_24 v0 S else (jR S 88 v0).bind (fun r37 => if jA r37 13 v2 = true then if (jAI S r37 (v2).toNatClampNeg) = (1 : Int32) then f_X12_arithmetic_50 v0 v1 v2 v3 S else (jR S 88 v0).bind (fun r41 => if jA r41 13 v3 = true then if (jAI S r41 (v3).toNatClampNeg) = (1 : Int32) then f_X12_arithmetic_50 v0 v1 v2 v3 S else (jR S 90 v0).bind (fun r45 => if jA r45 14 ((12 : Int32) * v2) = true then (jR S 90 v0).bind (fun r48 => if jA r48 14 ((12 : Int32) * v3) = true then jbd (f_X12_whole v0 v1 (jAL S r45 ((12 : Int32) * v2).toNatClampNeg) (jAL S r48 ((12 : Int32) * v3).toNatClampNeg) S) (fun x51 S52 => some (x51, S52)) else none) else none) else none) else none) else none) else none) else none
set_option maxRecDepth 100000 in
set_option maxHeartbeats 4000000 in
theorem B_X12_arithmetic_140 {p : Program} {l : Launch} {e : Env} {s : State} {m : MethodId} {args : Array Value} {below : List Frame} {meth : Method} {c : Code} {g : jG} {rr : Int32} {SS : jM} {t0 : Nat} {t1 : UInt64} {S : jM} (E : jEnv p s m args meth c cX12_arithmetic "PensionHouseModel" (some .int) 8 g)  {H : Heap} {locs : List Loc} {ls : Array Slot} (hf : f_X12_arithmetic_140 t0 t1 S = some (rr, SS)) (hM : jAt g S s H locs) (hl : lv_has ls 8 []) : W p l e (jRm 6 0 0) s m args below meth c H locs 0 0 (MQ below (jQi g rr SS) args s 0 0 (jA0 g)) (F0 m 140 ls [.double t1, .ref (g.2.2 + t0)]) := by
  obtain ⟨hx, hb, hml, -, hts, hown, hK, -, hstr⟩ := id E
  unfold f_X12_arithmetic_140 at hf
  obtain ⟨hq4, hf⟩ := jif hf
  obtain ⟨x1, S2, hc3, hf⟩ := jbd_e hf
  refine jbackI hM (jrunV E hM ci_X12_ofReal (C_X12_ofReal hc3) lk_8_103 hq4 (by decide) rfl hl.1 rfl rfl (Nat.le_of_ble_eq_true rfl) ⟨Nat.le_of_ble_eq_true rfl, Nat.le_of_ble_eq_true rfl⟩ ⟨Nat.le_refl _, Nat.le_refl _⟩ dX12_arithmetic_140) (fun H locs hM => ?_)
  exact jireti (jr2 hf) E hM dX12_arithmetic_143
set_option maxRecDepth 100000 in
set_option maxHeartbeats 4000000 in
theorem B_X12_arithmetic_50 {p : Program} {l : Launch} {e : Env} {s : State} {m : MethodId} {args : Array Value} {below : List Frame} {meth : Method} {c : Code} {g : jG} {rr : Int32} {SS : jM} {v0 : Nat} {v1 : Int32} {v2 : Int32} {v3 : Int32} {S : jM} (E : jEnv p s m args meth c cX12_arithmetic "PensionHouseModel" (some .int) 8 g)  {H : Heap} {locs : List Loc} {ls : Array Slot} (hf : f_X12_arithmetic_50 v0 v1 v2 v3 S = some (rr, SS)) (hM : jAt g S s H locs) (hl : lv_has ls 8 [(0, .ref (g.2.2 + v0)), (1, .int v1), (2, .int v2), (3, .int v3)]) : W p l e (jRm 6 0 0) s m args below meth c H locs 0 0 (MQ below (jQi g rr SS) args s 0 0 (jA0 g)) (F0 m 50 ls []) := by
  obtain ⟨hx, hb, hml, -, hts, hown, hK, -, hstr⟩ := id E
  unfold f_X12_arithmetic_50 at hf
  refine lv_aload_n hx hb dX12_arithmetic_50 rfl (lv_at hl 0 rfl) ?_
  refine lv_iload_n hx hb dX12_arithmetic_51 rfl (lv_at hl 2 rfl) ?_
  obtain ⟨hq7, hf⟩ := jif hf
  obtain ⟨x5, hc6, hf⟩ := jb hf
  refine jbackD hM (jrunV E hM ci_X12_asReal (C_X12_asReal hc6) lk_8_134 hq7 (by decide) rfl hl.1 rfl rfl (Nat.le_of_ble_eq_true rfl) ⟨Nat.le_of_ble_eq_true rfl, Nat.le_of_ble_eq_true rfl⟩ ⟨Nat.le_refl _, Nat.le_refl _⟩ dX12_arithmetic_52) (fun H locs hM => ?_)
  refine lv_dstore (lv' := [(4, .double x5), (0, .ref (g.2.2 + v0)), (1, .int v1), (2, .int v2), (3, .int v3)]) hx hb dX12_arithmetic_55 hl (by decide) rfl (fun ls hl => ?_)
  refine lv_aload_n hx hb dX12_arithmetic_57 rfl (lv_at hl 1 rfl) ?_
  refine lv_iload_n hx hb dX12_arithmetic_58 rfl (lv_at hl 4 rfl) ?_
  obtain ⟨x8, hc9, hf⟩ := jb hf
  refine jbackD hM (jrunV E hM ci_X12_asReal (C_X12_asReal hc9) lk_8_134 hq7 (by decide) rfl hl.1 rfl rfl (Nat.le_of_ble_eq_true rfl) ⟨Nat.le_of_ble_eq_true rfl, Nat.le_of_ble_eq_true rfl⟩ ⟨Nat.le_refl _, Nat.le_refl _⟩ dX12_arithmetic_59) (fun H locs hM => ?_)
  refine lv_dstore (lv' := [(6, .double x8), (4, .double x5), (0, .ref (g.2.2 + v0)), (1, .int v1), (2, .int v2), (3, .int v3)]) hx hb dX12_arithmetic_62 hl (by decide) rfl (fun ls hl => ?_)
  refine lv_aload_n hx hb dX12_arithmetic_64 rfl (lv_at hl 2 rfl) ?_
  refine lv_iload_n hx hb dX12_arithmetic_65 rfl (lv_at hl 3 rfl) ?_
  refine lv_sipush (v := (143 : Int32)) hx hb dX12_arithmetic_66 (by decide) ?_
  refine lv_icmp_ne (tgt := 82) hx hb dX12_arithmetic_69 (by decide) (fun c10 => ?_) (fun c10 => ?_)
  · have hf := jf c10 hf
    refine lv_iload_n hx hb dX12_arithmetic_82 rfl (lv_at hl 3 rfl) ?_
    refine lv_sipush (v := (145 : Int32)) hx hb dX12_arithmetic_83 (by decide) ?_
    refine lv_icmp_ne (tgt := 99) hx hb dX12_arithmetic_86 (by decide) (fun c11 => ?_) (fun c11 => ?_)
    · have hf := jf c11 hf
      refine lv_iload_n hx hb dX12_arithmetic_99 rfl (lv_at hl 3 rfl) ?_
      refine lv_sipush (v := (142 : Int32)) hx hb dX12_arithmetic_100 (by decide) ?_
      refine lv_icmp_ne (tgt := 116) hx hb dX12_arithmetic_103 (by decide) (fun c12 => ?_) (fun c12 => ?_)
      · have hf := jf c12 hf
        refine lv_iload_n hx hb dX12_arithmetic_116 rfl (lv_at hl 3 rfl) ?_
        refine lv_sipush (v := (147 : Int32)) hx hb dX12_arithmetic_117 (by decide) ?_
        refine lv_icmp_ne (tgt := 133) hx hb dX12_arithmetic_120 (by decide) (fun c13 => ?_) (fun c13 => ?_)
        · have hf := jf c13 hf
          refine lv_dload hx hb dX12_arithmetic_133 (lv_at hl 1 rfl) ?_
          refine lv_dload hx hb dX12_arithmetic_135 (lv_at hl 0 rfl) ?_
          obtain ⟨x14, hc15, hf⟩ := jb hf
          refine jbackD hM (jrunS E hM ci_X12_rest (C_X12_rest hc15) lk_8_153 hl.1 rfl rfl (Nat.le_of_ble_eq_true rfl) ⟨Nat.le_of_ble_eq_true rfl, Nat.le_of_ble_eq_true rfl⟩ ⟨Nat.le_refl _, Nat.le_refl _⟩ dX12_arithmetic_137) (fun H locs hM => ?_)
          exact B_X12_arithmetic_140 E  hf hM (lv_sub hl [] rfl)
        · have hf := jt c13 hf
          refine lv_dload hx hb dX12_arithmetic_123 (lv_at hl 1 rfl) ?_
          refine lv_dload hx hb dX12_arithmetic_125 (lv_at hl 0 rfl) ?_
          obtain ⟨x16, hc17, hf⟩ := jb hf
          refine jbackD hM (jrunS E hM ci_X12_by (C_X12_by hc17) lk_8_150 hl.1 rfl rfl (Nat.le_of_ble_eq_true rfl) ⟨Nat.le_of_ble_eq_true rfl, Nat.le_of_ble_eq_true rfl⟩ ⟨Nat.le_refl _, Nat.le_refl _⟩ dX12_arithmetic_127) (fun H locs hM => ?_)
          refine lv_goto (tgt := 140) hx hb dX12_arithmetic_130 (by decide) ?_
          exact B_X12_arithmetic_140 E  hf hM (lv_sub hl [] rfl)
      · have hf := jt c12 hf
        refine lv_dload hx hb dX12_arithmetic_106 (lv_at hl 1 rfl) ?_
        refine lv_dload hx hb dX12_arithmetic_108 (lv_at hl 0 rfl) ?_
        obtain ⟨x18, hc19, hf⟩ := jb hf
        refine jbackD hM (jrunS E hM ci_X12_times (C_X12_times hc19) lk_8_147 hl.1 rfl rfl (Nat.le_of_ble_eq_true rfl) ⟨Nat.le_of_ble_eq_true rfl, Nat.le_of_ble_eq_true rfl⟩ ⟨Nat.le_refl _, Nat.le_refl _⟩ dX12_arithmetic_110) (fun H locs hM => ?_)
        refine lv_goto (tgt := 140) hx hb dX12_arithmetic_113 (by decide) ?_
        exact B_X12_arithmetic_140 E  hf hM (lv_sub hl [] rfl)
    · have hf := jt c11 hf
      refine lv_dload hx hb dX12_arithmetic_89 (lv_at hl 1 rfl) ?_
      refine lv_dload hx hb dX12_arithmetic_91 (lv_at hl 0 rfl) ?_
      obtain ⟨x20, hc21, hf⟩ := jb hf
      refine jbackD hM (jrunS E hM ci_X12_minus (C_X12_minus hc21) lk_8_144 hl.1 rfl rfl (Nat.le_of_ble_eq_true rfl) ⟨Nat.le_of_ble_eq_true rfl, Nat.le_of_ble_eq_true rfl⟩ ⟨Nat.le_refl _, Nat.le_refl _⟩ dX12_arithmetic_93) (fun H locs hM => ?_)
      refine lv_goto (tgt := 140) hx hb dX12_arithmetic_96 (by decide) ?_
      exact B_X12_arithmetic_140 E  hf hM (lv_sub hl [] rfl)
  · have hf := jt c10 hf
    refine lv_dload hx hb dX12_arithmetic_72 (lv_at hl 1 rfl) ?_
    refine lv_dload hx hb dX12_arithmetic_74 (lv_at hl 0 rfl) ?_
    obtain ⟨x22, hc23, hf⟩ := jb hf
    refine jbackD hM (jrunS E hM ci_X12_plus (C_X12_plus hc23) lk_8_138 hl.1 rfl rfl (Nat.le_of_ble_eq_true rfl) ⟨Nat.le_of_ble_eq_true rfl, Nat.le_of_ble_eq_true rfl⟩ ⟨Nat.le_refl _, Nat.le_refl _⟩ dX12_arithmetic_76) (fun H locs hM => ?_)
    refine lv_goto (tgt := 140) hx hb dX12_arithmetic_79 (by decide) ?_
    exact B_X12_arithmetic_140 E  hf hM (lv_sub hl [] rfl)
set_option maxRecDepth 100000 in
set_option maxHeartbeats 4000000 in
theorem B_X12_arithmetic_24 {p : Program} {l : Launch} {e : Env} {s : State} {m : MethodId} {args : Array Value} {below : List Frame} {meth : Method} {c : Code} {g : jG} {rr : Int32} {SS : jM} {v0 : Nat} {S : jM} (E : jEnv p s m args meth c cX12_arithmetic "PensionHouseModel" (some .int) 8 g)  {H : Heap} {locs : List Loc} {ls : Array Slot} (hf : f_X12_arithmetic_24 v0 S = some (rr, SS)) (hM : jAt g S s H locs) (hl : lv_has ls 8 [(0, .ref (g.2.2 + v0))]) : W p l e (jRm 6 0 0) s m args below meth c H locs 0 0 (MQ below (jQi g rr SS) args s 0 0 (jA0 g)) (F0 m 24 ls []) := by
  obtain ⟨hx, hb, hml, -, hts, hown, hK, -, hstr⟩ := id E
  unfold f_X12_arithmetic_24 at hf
  refine lv_aload_n hx hb dX12_arithmetic_24 rfl (lv_at hl 0 rfl) ?_
  refine lv_iconst (v := (2 : Int32)) hx hb dX12_arithmetic_25 (by decide) ?_
  obtain ⟨hq27, hf⟩ := jif hf
  obtain ⟨x24, S25, hc26, hf⟩ := jbd_e hf
  refine jbackI hM (jrunV E hM ci_X12_failing (C_X12_failing hc26) lk_8_87 hq27 (by decide) rfl hl.1 rfl rfl (Nat.le_of_ble_eq_true rfl) ⟨Nat.le_of_ble_eq_true rfl, Nat.le_of_ble_eq_true rfl⟩ ⟨Nat.le_refl _, Nat.le_refl _⟩ dX12_arithmetic_26) (fun H locs hM => ?_)
  exact jireti (jr2 hf) E hM dX12_arithmetic_29
set_option maxRecDepth 100000 in
set_option maxHeartbeats 4000000 in
theorem B_X12_arithmetic_0 {p : Program} {l : Launch} {e : Env} {s : State} {m : MethodId} {args : Array Value} {below : List Frame} {meth : Method} {c : Code} {g : jG} {rr : Int32} {SS : jM} {v0 : Nat} {v1 : Int32} {v2 : Int32} {v3 : Int32} {S : jM} (E : jEnv p s m args meth c cX12_arithmetic "PensionHouseModel" (some .int) 8 g)  {H : Heap} {locs : List Loc} {ls : Array Slot} (hf : f_X12_arithmetic v0 v1 v2 v3 S = some (rr, SS)) (hM : jAt g S s H locs) (hl : lv_has ls 8 [(0, .ref (g.2.2 + v0)), (1, .int v1), (2, .int v2), (3, .int v3)]) : W p l e (jRm 6 0 0) s m args below meth c H locs 0 0 (MQ below (jQi g rr SS) args s 0 0 (jA0 g)) (F0 m 0 ls []) := by
  obtain ⟨hx, hb, hml, -, hts, hown, hK, -, hstr⟩ := id E
  unfold f_X12_arithmetic at hf
  refine lv_aload_n hx hb dX12_arithmetic_0 rfl (lv_at hl 0 rfl) ?_
  obtain ⟨hq28, hf⟩ := jif hf
  refine gt_88 E hM hq28 lk_6_2 dX12_arithmetic_1 ?_
  obtain ⟨r29, hr30, hf⟩ := jb hf
  rw [hr30]
  show W p l e _ s m args below meth c H locs 0 0 _ (F0 m _ ls (.ref (g.2.2 + r29) :: _))
  refine lv_iload_n hx hb dX12_arithmetic_4 rfl (lv_at hl 2 rfl) ?_
  obtain ⟨ha31, hf⟩ := jif hf
  refine jiald E hM ha31 dX12_arithmetic_5 ?_
  refine jbackI hM (jrunS E hM ci_X12_isNumber (C_X12_isNumber rfl) lk_8_115 hl.1 rfl rfl (Nat.le_of_ble_eq_true rfl) ⟨Nat.le_of_ble_eq_true rfl, Nat.le_of_ble_eq_true rfl⟩ ⟨Nat.le_refl _, Nat.le_refl _⟩ dX12_arithmetic_6) (fun H locs hM => ?_)
  refine lv_if_eq (tgt := 24) hx hb dX12_arithmetic_9 (by decide) (fun c32 => ?_) (fun c32 => ?_)
  · have hf := jt c32 hf
    exact B_X12_arithmetic_24 E  hf hM (lv_sub hl [0] rfl)
  · have hf := jf c32 hf
    refine lv_aload_n hx hb dX12_arithmetic_12 rfl (lv_at hl 0 rfl) ?_
    refine gt_88 E hM hq28 lk_6_2 dX12_arithmetic_13 ?_
    obtain ⟨r33, hr34, hf⟩ := jb hf
    rw [hr34]
    show W p l e _ s m args below meth c H locs 0 0 _ (F0 m _ ls (.ref (g.2.2 + r33) :: _))
    refine lv_iload_n hx hb dX12_arithmetic_16 rfl (lv_at hl 3 rfl) ?_
    obtain ⟨ha35, hf⟩ := jif hf
    refine jiald E hM ha35 dX12_arithmetic_17 ?_
    refine jbackI hM (jrunS E hM ci_X12_isNumber (C_X12_isNumber rfl) lk_8_115 hl.1 rfl rfl (Nat.le_of_ble_eq_true rfl) ⟨Nat.le_of_ble_eq_true rfl, Nat.le_of_ble_eq_true rfl⟩ ⟨Nat.le_refl _, Nat.le_refl _⟩ dX12_arithmetic_18) (fun H locs hM => ?_)
    refine lv_if_ne (tgt := 30) hx hb dX12_arithmetic_21 (by decide) (fun c36 => ?_) (fun c36 => ?_)
    · have hf := jf c36 hf
      refine lv_aload_n hx hb dX12_arithmetic_30 rfl (lv_at hl 0 rfl) ?_
      refine gt_88 E hM hq28 lk_6_2 dX12_arithmetic_31 ?_
      obtain ⟨r37, hr38, hf⟩ := jb hf
      rw [hr38]
      show W p l e _ s m args below meth c H locs 0 0 _ (F0 m _ ls (.ref (g.2.2 + r37) :: _))
      refine lv_iload_n hx hb dX12_arithmetic_34 rfl (lv_at hl 2 rfl) ?_
      obtain ⟨ha39, hf⟩ := jif hf
      refine jiald E hM ha39 dX12_arithmetic_35 ?_
      refine lv_iconst (v := (1 : Int32)) hx hb dX12_arithmetic_36 (by decide) ?_
      refine lv_icmp_eq (tgt := 50) hx hb dX12_arithmetic_37 (by decide) (fun c40 => ?_) (fun c40 => ?_)
      · have hf := jt c40 hf
        exact B_X12_arithmetic_50 E  hf hM (lv_sub hl [0, 1, 2, 3] rfl)
      · have hf := jf c40 hf
        refine lv_aload_n hx hb dX12_arithmetic_40 rfl (lv_at hl 0 rfl) ?_
        refine gt_88 E hM hq28 lk_6_2 dX12_arithmetic_41 ?_
        obtain ⟨r41, hr42, hf⟩ := jb hf
        rw [hr42]
        show W p l e _ s m args below meth c H locs 0 0 _ (F0 m _ ls (.ref (g.2.2 + r41) :: _))
        refine lv_iload_n hx hb dX12_arithmetic_44 rfl (lv_at hl 3 rfl) ?_
        obtain ⟨ha43, hf⟩ := jif hf
        refine jiald E hM ha43 dX12_arithmetic_45 ?_
        refine lv_iconst (v := (1 : Int32)) hx hb dX12_arithmetic_46 (by decide) ?_
        refine lv_icmp_ne (tgt := 144) hx hb dX12_arithmetic_47 (by decide) (fun c44 => ?_) (fun c44 => ?_)
        · have hf := jf c44 hf
          refine lv_aload_n hx hb dX12_arithmetic_144 rfl (lv_at hl 0 rfl) ?_
          refine lv_iload_n hx hb dX12_arithmetic_145 rfl (lv_at hl 1 rfl) ?_
          refine lv_aload_n hx hb dX12_arithmetic_146 rfl (lv_at hl 0 rfl) ?_
          refine gt_90 E hM hq28 lk_6_4 dX12_arithmetic_147 ?_
          obtain ⟨r45, hr46, hf⟩ := jb hf
          rw [hr46]
          show W p l e _ s m args below meth c H locs 0 0 _ (F0 m _ ls (.ref (g.2.2 + r45) :: _))
          refine lv_bipush (v := (12 : Int32)) hx hb dX12_arithmetic_150 (by decide) ?_
          refine lv_iload_n hx hb dX12_arithmetic_152 rfl (lv_at hl 2 rfl) ?_
          refine lv_imul hx hb dX12_arithmetic_153 ?_
          obtain ⟨ha47, hf⟩ := jif hf
          refine jlald E hM ha47 dX12_arithmetic_154 ?_
          refine lv_aload_n hx hb dX12_arithmetic_155 rfl (lv_at hl 0 rfl) ?_
          refine gt_90 E hM hq28 lk_6_4 dX12_arithmetic_156 ?_
          obtain ⟨r48, hr49, hf⟩ := jb hf
          rw [hr49]
          show W p l e _ s m args below meth c H locs 0 0 _ (F0 m _ ls (.ref (g.2.2 + r48) :: _))
          refine lv_bipush (v := (12 : Int32)) hx hb dX12_arithmetic_159 (by decide) ?_
          refine lv_iload_n hx hb dX12_arithmetic_161 rfl (lv_at hl 3 rfl) ?_
          refine lv_imul hx hb dX12_arithmetic_162 ?_
          obtain ⟨ha50, hf⟩ := jif hf
          refine jlald E hM ha50 dX12_arithmetic_163 ?_
          obtain ⟨x51, S52, hc53, hf⟩ := jbd_e hf
          refine jbackI hM (jrunV E hM ci_X12_whole (C_X12_whole hc53) lk_8_156 hq28 (by decide) rfl hl.1 rfl rfl (Nat.le_of_ble_eq_true rfl) ⟨Nat.le_of_ble_eq_true rfl, Nat.le_of_ble_eq_true rfl⟩ ⟨Nat.le_refl _, Nat.le_refl _⟩ dX12_arithmetic_164) (fun H locs hM => ?_)
          exact jireti (jr2 hf) E hM dX12_arithmetic_167
        · have hf := jt c44 hf
          exact B_X12_arithmetic_50 E  hf hM (lv_sub hl [0, 1, 2, 3] rfl)
    · have hf := jt c36 hf
      exact B_X12_arithmetic_24 E  hf hM (lv_sub hl [0] rfl)
set_option maxRecDepth 100000 in
theorem C_X12_arithmetic {l : Launch} {g : jG} {a0 : Nat} {a1 : Int32} {a2 : Int32} {a3 : Int32} {S : jM} {rr : Int32} {SS : jM} (hf : f_X12_arithmetic a0 a1 a2 a3 S = some (rr, SS)) : jMet l g yX12_arithmetic cX12_arithmetic 8 (some .int) 6 0 0 [.ref (g.2.2 + a0), .int a1, .int a2, .int a3] S (jQi g rr SS) := by
  refine jof (by decide +kernel) (Nat.le_of_ble_eq_true rfl) ?_
  intro p e s m below meth c E hM ls hl
  have hl : lv_has ls 8 [(0, .ref (g.2.2 + a0)),(1, .int a1),(2, .int a2),(3, .int a3)] := hl
  exact B_X12_arithmetic_0 E hf hM hl
-- PensionHouseModel.compare(III)I  mode M
noncomputable def f_X12_compare_266 (t0 : Nat) (t1 : Int64) (S : jM) : Option (Int32 × jM) := if jK t0 = 10 then jbd (f_X12_ofWhole t0 t1 S) (fun x1 S2 => some (x1, S2)) else none
noncomputable def f_X12_compare_255 (v0 : Nat) (v4 : Int32) (S : jM) : Option (Int32 × jM) := if v4 = 0 then f_X12_compare_266 v0 (0 : Int64) S else f_X12_compare_266 v0 (1 : Int64) S
noncomputable def f_X12_compare_253 (v0 : Nat) (t0 : Int32) (S : jM) : Option (Int32 × jM) := f_X12_compare_255 v0 t0 S
noncomputable def f_X12_compare_145 (v0 : Nat) (t0 : Int32) (S : jM) : Option (Int32 × jM) := f_X12_compare_255 v0 t0 S
noncomputable def f_X12_compare_50 (v0 : Nat) (v1 : Int32) (v2 : Int32) (v3 : Int32) (S : jM) : Option (Int32 × jM) := if jK v0 = 10 then (f_X12_asReal v0 v2 S).bind (fun x6 => (f_X12_asReal v0 v3 S).bind (fun x9 => if v1 = (160 : Int32) then if 0 ≤ (Op.cmpValue (FP.dcmp x6 x9) .g) then f_X12_compare_145 v0 (0 : Int32) S else f_X12_compare_145 v0 (1 : Int32) S else if v1 = (46 : Int32) then if 0 < (Op.cmpValue (FP.dcmp x6 x9) .g) then f_X12_compare_145 v0 (0 : Int32) S else f_X12_compare_145 v0 (1 : Int32) S else if v1 = (161 : Int32) then if (Op.cmpValue (FP.dcmp x6 x9) .l) = 0 then f_X12_compare_145 v0 (1 : Int32) S else f_X12_compare_145 v0 (0 : Int32) S else if (Op.cmpValue (FP.dcmp x6 x9) .l) = 0 then f_X12_compare_145 v0 (0 : Int32) S else f_X12_compare_145 v0 (1 : Int32) S)) else none
noncomputable def f_X12_compare_24 (v0 : Nat) (S : jM) : Option (Int32 × jM) := if jK v0 = 10 then jbd (f_X12_failing v0 (2 : Int32) S) (fun x18 S19 => some (x18, S19)) else none
noncomputable def f_X12_compare (v0 : Nat) (v1 : Int32) (v2 : Int32) (v3 : Int32) (S : jM) : Option (Int32 × jM) := if jK v0 = 10 then (jR S 88 v0).bind (fun r23 => if jA r23 13 v2 = true then if (f_X12_isNumber (jAI S r23 (v2).toNatClampNeg)) = 0 then f_X12_compare_24 v0 S else (jR S 88 v0).bind (fun r27 => if jA r27 13 v3 = true then if (f_X12_isNumber (jAI S r27 (v3).toNatClampNeg)) = 0 then f_X12_compare_24 v0 S else (jR S 88 v0).bind (fun r31 => if jA r31 13 v2 = true then if (jAI S r31 (v2).toNatClampNeg) = (1 : Int32) then f_X12_compare_50 v0 v1 v2 v3 S else (jR S 88 v0).bind (fun r35 => if jA r35 13 v3 = true then if (jAI S r35 (v3).toNatClampNeg) = (1 : Int32) then f_X12_compare_50 v0 v1 v2 v3 S else (jR S 90 v0).bind (fun r39 => if jA r39 14 ((12 : Int32) * v2) = true then jlet (jAL S r39 ((12 : Int32) * v2).toNatClampNeg) (fun x42 => (jR S 90 v0).bind (fun r43 => if jA r43 14 ((12 : Int32) * v3) = true then jlet (jAL S r43 ((12 : Int32) * v3).toNatClampNeg) (fun x46 => if v1 = (160 : Int32) then if x46 ≤ x42 then f_X12_compare_253 v0 (0 : Int32) S else f_X12_compare_253 v0 (1 : Int32) S else if v1 = (46 : Int32) then if x46 < x42 then f_X12_compare_253 v0 (0 : Int32) S else f_X12_compare_253 v0 (1 : Int32) S else if v1 = (161 : Int32) then if x42 = x46 then f_X12_compare_253 v0 (1 : Int32) S else f_X12_compare_253 v0 (0 : Int32) S else if x42 = x46 then f_X12_compare_253 v0 (0 : Int32) S else f_X12_compare_253 v0 (1 : Int32) S) else none)) else none) else none) else none) else none) else none) else none
set_option maxRecDepth 100000 in
set_option maxHeartbeats 4000000 in
theorem B_X12_compare_266 {p : Program} {l : Launch} {e : Env} {s : State} {m : MethodId} {args : Array Value} {below : List Frame} {meth : Method} {c : Code} {g : jG} {rr : Int32} {SS : jM} {t0 : Nat} {t1 : Int64} {S : jM} (E : jEnv p s m args meth c cX12_compare "PensionHouseModel" (some .int) 9 g)  {H : Heap} {locs : List Loc} {ls : Array Slot} (hf : f_X12_compare_266 t0 t1 S = some (rr, SS)) (hM : jAt g S s H locs) (hl : lv_has ls 9 []) : W p l e (jRm 5 0 0) s m args below meth c H locs 0 0 (MQ below (jQi g rr SS) args s 0 0 (jA0 g)) (F0 m 266 ls [.long t1, .ref (g.2.2 + t0)]) := by
  obtain ⟨hx, hb, hml, -, hts, hown, hK, -, hstr⟩ := id E
  unfold f_X12_compare_266 at hf
  obtain ⟨hq4, hf⟩ := jif hf
  obtain ⟨x1, S2, hc3, hf⟩ := jbd_e hf
  refine jbackI hM (jrunV E hM ci_X12_ofWhole (C_X12_ofWhole hc3) lk_8_91 hq4 (by decide) rfl hl.1 rfl rfl (Nat.le_of_ble_eq_true rfl) ⟨Nat.le_of_ble_eq_true rfl, Nat.le_of_ble_eq_true rfl⟩ ⟨Nat.le_refl _, Nat.le_refl _⟩ dX12_compare_266) (fun H locs hM => ?_)
  exact jireti (jr2 hf) E hM dX12_compare_269
set_option maxRecDepth 100000 in
set_option maxHeartbeats 4000000 in
theorem B_X12_compare_255 {p : Program} {l : Launch} {e : Env} {s : State} {m : MethodId} {args : Array Value} {below : List Frame} {meth : Method} {c : Code} {g : jG} {rr : Int32} {SS : jM} {v0 : Nat} {v4 : Int32} {S : jM} (E : jEnv p s m args meth c cX12_compare "PensionHouseModel" (some .int) 9 g)  {H : Heap} {locs : List Loc} {ls : Array Slot} (hf : f_X12_compare_255 v0 v4 S = some (rr, SS)) (hM : jAt g S s H locs) (hl : lv_has ls 9 [(0, .ref (g.2.2 + v0)), (4, .int v4)]) : W p l e (jRm 5 0 0) s m args below meth c H locs 0 0 (MQ below (jQi g rr SS) args s 0 0 (jA0 g)) (F0 m 255 ls []) := by
  obtain ⟨hx, hb, hml, -, hts, hown, hK, -, hstr⟩ := id E
  unfold f_X12_compare_255 at hf
  refine lv_aload_n hx hb dX12_compare_255 rfl (lv_at hl 0 rfl) ?_
  refine lv_iload hx hb dX12_compare_256 (lv_at hl 1 rfl) ?_
  refine lv_if_eq (tgt := 265) hx hb dX12_compare_258 (by decide) (fun c5 => ?_) (fun c5 => ?_)
  · have hf := jt c5 hf
    refine lv_lconst (v := (0 : Int64)) hx hb dX12_compare_265 (by decide) ?_
    exact B_X12_compare_266 E  hf hM (lv_sub hl [] rfl)
  · have hf := jf c5 hf
    refine lv_lconst (v := (1 : Int64)) hx hb dX12_compare_261 (by decide) ?_
    refine lv_goto (tgt := 266) hx hb dX12_compare_262 (by decide) ?_
    exact B_X12_compare_266 E  hf hM (lv_sub hl [] rfl)
set_option maxRecDepth 100000 in
set_option maxHeartbeats 4000000 in
theorem B_X12_compare_253 {p : Program} {l : Launch} {e : Env} {s : State} {m : MethodId} {args : Array Value} {below : List Frame} {meth : Method} {c : Code} {g : jG} {rr : Int32} {SS : jM} {v0 : Nat} {t0 : Int32} {S : jM} (E : jEnv p s m args meth c cX12_compare "PensionHouseModel" (some .int) 9 g)  {H : Heap} {locs : List Loc} {ls : Array Slot} (hf : f_X12_compare_253 v0 t0 S = some (rr, SS)) (hM : jAt g S s H locs) (hl : lv_has ls 9 [(0, .ref (g.2.2 + v0))]) : W p l e (jRm 5 0 0) s m args below meth c H locs 0 0 (MQ below (jQi g rr SS) args s 0 0 (jA0 g)) (F0 m 253 ls [.int t0]) := by
  obtain ⟨hx, hb, hml, -, hts, hown, hK, -, hstr⟩ := id E
  unfold f_X12_compare_253 at hf
  refine lv_istore (lv' := [(4, .int t0), (0, .ref (g.2.2 + v0))]) hx hb dX12_compare_253 hl (by decide) rfl (fun ls hl => ?_)
  exact B_X12_compare_255 E  hf hM (lv_sub hl [1, 0] rfl)
set_option maxRecDepth 100000 in
set_option maxHeartbeats 4000000 in
theorem B_X12_compare_145 {p : Program} {l : Launch} {e : Env} {s : State} {m : MethodId} {args : Array Value} {below : List Frame} {meth : Method} {c : Code} {g : jG} {rr : Int32} {SS : jM} {v0 : Nat} {t0 : Int32} {S : jM} (E : jEnv p s m args meth c cX12_compare "PensionHouseModel" (some .int) 9 g)  {H : Heap} {locs : List Loc} {ls : Array Slot} (hf : f_X12_compare_145 v0 t0 S = some (rr, SS)) (hM : jAt g S s H locs) (hl : lv_has ls 9 [(0, .ref (g.2.2 + v0))]) : W p l e (jRm 5 0 0) s m args below meth c H locs 0 0 (MQ below (jQi g rr SS) args s 0 0 (jA0 g)) (F0 m 145 ls [.int t0]) := by
  obtain ⟨hx, hb, hml, -, hts, hown, hK, -, hstr⟩ := id E
  unfold f_X12_compare_145 at hf
  refine lv_istore (lv' := [(4, .int t0), (0, .ref (g.2.2 + v0))]) hx hb dX12_compare_145 hl (by decide) rfl (fun ls hl => ?_)
  refine lv_goto (tgt := 255) hx hb dX12_compare_147 (by decide) ?_
  exact B_X12_compare_255 E  hf hM (lv_sub hl [1, 0] rfl)
set_option maxRecDepth 100000 in
set_option maxHeartbeats 4000000 in
theorem B_X12_compare_50 {p : Program} {l : Launch} {e : Env} {s : State} {m : MethodId} {args : Array Value} {below : List Frame} {meth : Method} {c : Code} {g : jG} {rr : Int32} {SS : jM} {v0 : Nat} {v1 : Int32} {v2 : Int32} {v3 : Int32} {S : jM} (E : jEnv p s m args meth c cX12_compare "PensionHouseModel" (some .int) 9 g)  {H : Heap} {locs : List Loc} {ls : Array Slot} (hf : f_X12_compare_50 v0 v1 v2 v3 S = some (rr, SS)) (hM : jAt g S s H locs) (hl : lv_has ls 9 [(0, .ref (g.2.2 + v0)), (1, .int v1), (2, .int v2), (3, .int v3)]) : W p l e (jRm 5 0 0) s m args below meth c H locs 0 0 (MQ below (jQi g rr SS) args s 0 0 (jA0 g)) (F0 m 50 ls []) := by
  obtain ⟨hx, hb, hml, -, hts, hown, hK, -, hstr⟩ := id E
  unfold f_X12_compare_50 at hf
  refine lv_aload_n hx hb dX12_compare_50 rfl (lv_at hl 0 rfl) ?_
  refine lv_iload_n hx hb dX12_compare_51 rfl (lv_at hl 2 rfl) ?_
  obtain ⟨hq8, hf⟩ := jif hf
  obtain ⟨x6, hc7, hf⟩ := jb hf
  refine jbackD hM (jrunV E hM ci_X12_asReal (C_X12_asReal hc7) lk_8_134 hq8 (by decide) rfl hl.1 rfl rfl (Nat.le_of_ble_eq_true rfl) ⟨Nat.le_of_ble_eq_true rfl, Nat.le_of_ble_eq_true rfl⟩ ⟨Nat.le_refl _, Nat.le_refl _⟩ dX12_compare_52) (fun H locs hM => ?_)
  refine lv_dstore (lv' := [(5, .double x6), (0, .ref (g.2.2 + v0)), (1, .int v1), (2, .int v2), (3, .int v3)]) hx hb dX12_compare_55 hl (by decide) rfl (fun ls hl => ?_)
  refine lv_aload_n hx hb dX12_compare_57 rfl (lv_at hl 1 rfl) ?_
  refine lv_iload_n hx hb dX12_compare_58 rfl (lv_at hl 4 rfl) ?_
  obtain ⟨x9, hc10, hf⟩ := jb hf
  refine jbackD hM (jrunV E hM ci_X12_asReal (C_X12_asReal hc10) lk_8_134 hq8 (by decide) rfl hl.1 rfl rfl (Nat.le_of_ble_eq_true rfl) ⟨Nat.le_of_ble_eq_true rfl, Nat.le_of_ble_eq_true rfl⟩ ⟨Nat.le_refl _, Nat.le_refl _⟩ dX12_compare_59) (fun H locs hM => ?_)
  refine lv_dstore (lv' := [(7, .double x9), (5, .double x6), (0, .ref (g.2.2 + v0)), (1, .int v1), (2, .int v2), (3, .int v3)]) hx hb dX12_compare_62 hl (by decide) rfl (fun ls hl => ?_)
  refine lv_iload_n hx hb dX12_compare_64 rfl (lv_at hl 3 rfl) ?_
  refine lv_sipush (v := (160 : Int32)) hx hb dX12_compare_65 (by decide) ?_
  refine lv_icmp_ne (tgt := 87) hx hb dX12_compare_68 (by decide) (fun c11 => ?_) (fun c11 => ?_)
  · have hf := jf c11 hf
    refine lv_iload_n hx hb dX12_compare_87 rfl (lv_at hl 3 rfl) ?_
    refine lv_bipush (v := (46 : Int32)) hx hb dX12_compare_88 (by decide) ?_
    refine lv_icmp_ne (tgt := 109) hx hb dX12_compare_90 (by decide) (fun c12 => ?_) (fun c12 => ?_)
    · have hf := jf c12 hf
      refine lv_iload_n hx hb dX12_compare_109 rfl (lv_at hl 3 rfl) ?_
      refine lv_sipush (v := (161 : Int32)) hx hb dX12_compare_110 (by decide) ?_
      refine lv_icmp_ne (tgt := 132) hx hb dX12_compare_113 (by decide) (fun c13 => ?_) (fun c13 => ?_)
      · have hf := jf c13 hf
        refine lv_dload hx hb dX12_compare_132 (lv_at hl 1 rfl) ?_
        refine lv_dload hx hb dX12_compare_134 (lv_at hl 0 rfl) ?_
        refine lv_dcmp hx hb dX12_compare_136 ?_
        refine lv_if_eq (tgt := 144) hx hb dX12_compare_137 (by decide) (fun c14 => ?_) (fun c14 => ?_)
        · have hf := jt c14 hf
          refine lv_iconst (v := (0 : Int32)) hx hb dX12_compare_144 (by decide) ?_
          exact B_X12_compare_145 E  hf hM (lv_sub hl [2] rfl)
        · have hf := jf c14 hf
          refine lv_iconst (v := (1 : Int32)) hx hb dX12_compare_140 (by decide) ?_
          refine lv_goto (tgt := 145) hx hb dX12_compare_141 (by decide) ?_
          exact B_X12_compare_145 E  hf hM (lv_sub hl [2] rfl)
      · have hf := jt c13 hf
        refine lv_dload hx hb dX12_compare_116 (lv_at hl 1 rfl) ?_
        refine lv_dload hx hb dX12_compare_118 (lv_at hl 0 rfl) ?_
        refine lv_dcmp hx hb dX12_compare_120 ?_
        refine lv_if_ne (tgt := 128) hx hb dX12_compare_121 (by decide) (fun c15 => ?_) (fun c15 => ?_)
        · have hf := jf c15 hf
          refine lv_iconst (v := (0 : Int32)) hx hb dX12_compare_128 (by decide) ?_
          refine lv_goto (tgt := 145) hx hb dX12_compare_129 (by decide) ?_
          exact B_X12_compare_145 E  hf hM (lv_sub hl [2] rfl)
        · have hf := jt c15 hf
          refine lv_iconst (v := (1 : Int32)) hx hb dX12_compare_124 (by decide) ?_
          refine lv_goto (tgt := 145) hx hb dX12_compare_125 (by decide) ?_
          exact B_X12_compare_145 E  hf hM (lv_sub hl [2] rfl)
    · have hf := jt c12 hf
      refine lv_dload hx hb dX12_compare_93 (lv_at hl 1 rfl) ?_
      refine lv_dload hx hb dX12_compare_95 (lv_at hl 0 rfl) ?_
      refine lv_dcmp hx hb dX12_compare_97 ?_
      refine lv_if_gt (tgt := 105) hx hb dX12_compare_98 (by decide) (fun c16 => ?_) (fun c16 => ?_)
      · have hf := jt c16 hf
        refine lv_iconst (v := (0 : Int32)) hx hb dX12_compare_105 (by decide) ?_
        refine lv_goto (tgt := 145) hx hb dX12_compare_106 (by decide) ?_
        exact B_X12_compare_145 E  hf hM (lv_sub hl [2] rfl)
      · have hf := jf c16 hf
        refine lv_iconst (v := (1 : Int32)) hx hb dX12_compare_101 (by decide) ?_
        refine lv_goto (tgt := 145) hx hb dX12_compare_102 (by decide) ?_
        exact B_X12_compare_145 E  hf hM (lv_sub hl [2] rfl)
  · have hf := jt c11 hf
    refine lv_dload hx hb dX12_compare_71 (lv_at hl 1 rfl) ?_
    refine lv_dload hx hb dX12_compare_73 (lv_at hl 0 rfl) ?_
    refine lv_dcmp hx hb dX12_compare_75 ?_
    refine lv_if_ge (tgt := 83) hx hb dX12_compare_76 (by decide) (fun c17 => ?_) (fun c17 => ?_)
    · have hf := jt c17 hf
      refine lv_iconst (v := (0 : Int32)) hx hb dX12_compare_83 (by decide) ?_
      refine lv_goto (tgt := 145) hx hb dX12_compare_84 (by decide) ?_
      exact B_X12_compare_145 E  hf hM (lv_sub hl [2] rfl)
    · have hf := jf c17 hf
      refine lv_iconst (v := (1 : Int32)) hx hb dX12_compare_79 (by decide) ?_
      refine lv_goto (tgt := 145) hx hb dX12_compare_80 (by decide) ?_
      exact B_X12_compare_145 E  hf hM (lv_sub hl [2] rfl)
set_option maxRecDepth 100000 in
set_option maxHeartbeats 4000000 in
theorem B_X12_compare_24 {p : Program} {l : Launch} {e : Env} {s : State} {m : MethodId} {args : Array Value} {below : List Frame} {meth : Method} {c : Code} {g : jG} {rr : Int32} {SS : jM} {v0 : Nat} {S : jM} (E : jEnv p s m args meth c cX12_compare "PensionHouseModel" (some .int) 9 g)  {H : Heap} {locs : List Loc} {ls : Array Slot} (hf : f_X12_compare_24 v0 S = some (rr, SS)) (hM : jAt g S s H locs) (hl : lv_has ls 9 [(0, .ref (g.2.2 + v0))]) : W p l e (jRm 5 0 0) s m args below meth c H locs 0 0 (MQ below (jQi g rr SS) args s 0 0 (jA0 g)) (F0 m 24 ls []) := by
  obtain ⟨hx, hb, hml, -, hts, hown, hK, -, hstr⟩ := id E
  unfold f_X12_compare_24 at hf
  refine lv_aload_n hx hb dX12_compare_24 rfl (lv_at hl 0 rfl) ?_
  refine lv_iconst (v := (2 : Int32)) hx hb dX12_compare_25 (by decide) ?_
  obtain ⟨hq21, hf⟩ := jif hf
  obtain ⟨x18, S19, hc20, hf⟩ := jbd_e hf
  refine jbackI hM (jrunV E hM ci_X12_failing (C_X12_failing hc20) lk_8_87 hq21 (by decide) rfl hl.1 rfl rfl (Nat.le_of_ble_eq_true rfl) ⟨Nat.le_of_ble_eq_true rfl, Nat.le_of_ble_eq_true rfl⟩ ⟨Nat.le_refl _, Nat.le_refl _⟩ dX12_compare_26) (fun H locs hM => ?_)
  exact jireti (jr2 hf) E hM dX12_compare_29
set_option maxRecDepth 100000 in
set_option maxHeartbeats 4000000 in
theorem B_X12_compare_0 {p : Program} {l : Launch} {e : Env} {s : State} {m : MethodId} {args : Array Value} {below : List Frame} {meth : Method} {c : Code} {g : jG} {rr : Int32} {SS : jM} {v0 : Nat} {v1 : Int32} {v2 : Int32} {v3 : Int32} {S : jM} (E : jEnv p s m args meth c cX12_compare "PensionHouseModel" (some .int) 9 g)  {H : Heap} {locs : List Loc} {ls : Array Slot} (hf : f_X12_compare v0 v1 v2 v3 S = some (rr, SS)) (hM : jAt g S s H locs) (hl : lv_has ls 9 [(0, .ref (g.2.2 + v0)), (1, .int v1), (2, .int v2), (3, .int v3)]) : W p l e (jRm 5 0 0) s m args below meth c H locs 0 0 (MQ below (jQi g rr SS) args s 0 0 (jA0 g)) (F0 m 0 ls []) := by
  obtain ⟨hx, hb, hml, -, hts, hown, hK, -, hstr⟩ := id E
  unfold f_X12_compare at hf
  refine lv_aload_n hx hb dX12_compare_0 rfl (lv_at hl 0 rfl) ?_
  obtain ⟨hq22, hf⟩ := jif hf
  refine gt_88 E hM hq22 lk_6_2 dX12_compare_1 ?_
  obtain ⟨r23, hr24, hf⟩ := jb hf
  rw [hr24]
  show W p l e _ s m args below meth c H locs 0 0 _ (F0 m _ ls (.ref (g.2.2 + r23) :: _))
  refine lv_iload_n hx hb dX12_compare_4 rfl (lv_at hl 2 rfl) ?_
  obtain ⟨ha25, hf⟩ := jif hf
  refine jiald E hM ha25 dX12_compare_5 ?_
  refine jbackI hM (jrunS E hM ci_X12_isNumber (C_X12_isNumber rfl) lk_8_115 hl.1 rfl rfl (Nat.le_of_ble_eq_true rfl) ⟨Nat.le_of_ble_eq_true rfl, Nat.le_of_ble_eq_true rfl⟩ ⟨Nat.le_refl _, Nat.le_refl _⟩ dX12_compare_6) (fun H locs hM => ?_)
  refine lv_if_eq (tgt := 24) hx hb dX12_compare_9 (by decide) (fun c26 => ?_) (fun c26 => ?_)
  · have hf := jt c26 hf
    exact B_X12_compare_24 E  hf hM (lv_sub hl [0] rfl)
  · have hf := jf c26 hf
    refine lv_aload_n hx hb dX12_compare_12 rfl (lv_at hl 0 rfl) ?_
    refine gt_88 E hM hq22 lk_6_2 dX12_compare_13 ?_
    obtain ⟨r27, hr28, hf⟩ := jb hf
    rw [hr28]
    show W p l e _ s m args below meth c H locs 0 0 _ (F0 m _ ls (.ref (g.2.2 + r27) :: _))
    refine lv_iload_n hx hb dX12_compare_16 rfl (lv_at hl 3 rfl) ?_
    obtain ⟨ha29, hf⟩ := jif hf
    refine jiald E hM ha29 dX12_compare_17 ?_
    refine jbackI hM (jrunS E hM ci_X12_isNumber (C_X12_isNumber rfl) lk_8_115 hl.1 rfl rfl (Nat.le_of_ble_eq_true rfl) ⟨Nat.le_of_ble_eq_true rfl, Nat.le_of_ble_eq_true rfl⟩ ⟨Nat.le_refl _, Nat.le_refl _⟩ dX12_compare_18) (fun H locs hM => ?_)
    refine lv_if_ne (tgt := 30) hx hb dX12_compare_21 (by decide) (fun c30 => ?_) (fun c30 => ?_)
    · have hf := jf c30 hf
      refine lv_aload_n hx hb dX12_compare_30 rfl (lv_at hl 0 rfl) ?_
      refine gt_88 E hM hq22 lk_6_2 dX12_compare_31 ?_
      obtain ⟨r31, hr32, hf⟩ := jb hf
      rw [hr32]
      show W p l e _ s m args below meth c H locs 0 0 _ (F0 m _ ls (.ref (g.2.2 + r31) :: _))
      refine lv_iload_n hx hb dX12_compare_34 rfl (lv_at hl 2 rfl) ?_
      obtain ⟨ha33, hf⟩ := jif hf
      refine jiald E hM ha33 dX12_compare_35 ?_
      refine lv_iconst (v := (1 : Int32)) hx hb dX12_compare_36 (by decide) ?_
      refine lv_icmp_eq (tgt := 50) hx hb dX12_compare_37 (by decide) (fun c34 => ?_) (fun c34 => ?_)
      · have hf := jt c34 hf
        exact B_X12_compare_50 E  hf hM (lv_sub hl [0, 1, 2, 3] rfl)
      · have hf := jf c34 hf
        refine lv_aload_n hx hb dX12_compare_40 rfl (lv_at hl 0 rfl) ?_
        refine gt_88 E hM hq22 lk_6_2 dX12_compare_41 ?_
        obtain ⟨r35, hr36, hf⟩ := jb hf
        rw [hr36]
        show W p l e _ s m args below meth c H locs 0 0 _ (F0 m _ ls (.ref (g.2.2 + r35) :: _))
        refine lv_iload_n hx hb dX12_compare_44 rfl (lv_at hl 3 rfl) ?_
        obtain ⟨ha37, hf⟩ := jif hf
        refine jiald E hM ha37 dX12_compare_45 ?_
        refine lv_iconst (v := (1 : Int32)) hx hb dX12_compare_46 (by decide) ?_
        refine lv_icmp_ne (tgt := 150) hx hb dX12_compare_47 (by decide) (fun c38 => ?_) (fun c38 => ?_)
        · have hf := jf c38 hf
          refine lv_aload_n hx hb dX12_compare_150 rfl (lv_at hl 0 rfl) ?_
          refine gt_90 E hM hq22 lk_6_4 dX12_compare_151 ?_
          obtain ⟨r39, hr40, hf⟩ := jb hf
          rw [hr40]
          show W p l e _ s m args below meth c H locs 0 0 _ (F0 m _ ls (.ref (g.2.2 + r39) :: _))
          refine lv_bipush (v := (12 : Int32)) hx hb dX12_compare_154 (by decide) ?_
          refine lv_iload_n hx hb dX12_compare_156 rfl (lv_at hl 2 rfl) ?_
          refine lv_imul hx hb dX12_compare_157 ?_
          obtain ⟨ha41, hf⟩ := jif hf
          refine jlald E hM ha41 dX12_compare_158 ?_
          refine lv_topl (fun x42 ex42 => ?_)
          have hf := jlet_y ex42 hf
          refine lv_lstore (lv' := [(5, .long x42), (0, .ref (g.2.2 + v0)), (1, .int v1), (2, .int v2), (3, .int v3)]) hx hb dX12_compare_159 hl (by decide) rfl (fun ls hl => ?_)
          refine lv_aload_n hx hb dX12_compare_161 rfl (lv_at hl 1 rfl) ?_
          refine gt_90 E hM hq22 lk_6_4 dX12_compare_162 ?_
          obtain ⟨r43, hr44, hf⟩ := jb hf
          rw [hr44]
          show W p l e _ s m args below meth c H locs 0 0 _ (F0 m _ ls (.ref (g.2.2 + r43) :: _))
          refine lv_bipush (v := (12 : Int32)) hx hb dX12_compare_165 (by decide) ?_
          refine lv_iload_n hx hb dX12_compare_167 rfl (lv_at hl 4 rfl) ?_
          refine lv_imul hx hb dX12_compare_168 ?_
          obtain ⟨ha45, hf⟩ := jif hf
          refine jlald E hM ha45 dX12_compare_169 ?_
          refine lv_topl (fun x46 ex46 => ?_)
          have hf := jlet_y ex46 hf
          refine lv_lstore (lv' := [(7, .long x46), (5, .long x42), (0, .ref (g.2.2 + v0)), (1, .int v1), (2, .int v2), (3, .int v3)]) hx hb dX12_compare_170 hl (by decide) rfl (fun ls hl => ?_)
          refine lv_iload_n hx hb dX12_compare_172 rfl (lv_at hl 3 rfl) ?_
          refine lv_sipush (v := (160 : Int32)) hx hb dX12_compare_173 (by decide) ?_
          refine lv_icmp_ne (tgt := 195) hx hb dX12_compare_176 (by decide) (fun c47 => ?_) (fun c47 => ?_)
          · have hf := jf c47 hf
            refine lv_iload_n hx hb dX12_compare_195 rfl (lv_at hl 3 rfl) ?_
            refine lv_bipush (v := (46 : Int32)) hx hb dX12_compare_196 (by decide) ?_
            refine lv_icmp_ne (tgt := 217) hx hb dX12_compare_198 (by decide) (fun c48 => ?_) (fun c48 => ?_)
            · have hf := jf c48 hf
              refine lv_iload_n hx hb dX12_compare_217 rfl (lv_at hl 3 rfl) ?_
              refine lv_sipush (v := (161 : Int32)) hx hb dX12_compare_218 (by decide) ?_
              refine lv_icmp_ne (tgt := 240) hx hb dX12_compare_221 (by decide) (fun c49 => ?_) (fun c49 => ?_)
              · have hf := jf c49 hf
                refine lv_lload hx hb dX12_compare_240 (lv_at hl 1 rfl) ?_
                refine lv_lload hx hb dX12_compare_242 (lv_at hl 0 rfl) ?_
                refine jl_eq (tgt := 252) hx hb dX12_compare_244 dX12_compare_245 (by decide) (fun c50 => ?_) (fun c50 => ?_)
                · have hf := jt c50 hf
                  refine lv_iconst (v := (0 : Int32)) hx hb dX12_compare_252 (by decide) ?_
                  exact B_X12_compare_253 E  hf hM (lv_sub hl [2] rfl)
                · have hf := jf c50 hf
                  refine lv_iconst (v := (1 : Int32)) hx hb dX12_compare_248 (by decide) ?_
                  refine lv_goto (tgt := 253) hx hb dX12_compare_249 (by decide) ?_
                  exact B_X12_compare_253 E  hf hM (lv_sub hl [2] rfl)
              · have hf := jt c49 hf
                refine lv_lload hx hb dX12_compare_224 (lv_at hl 1 rfl) ?_
                refine lv_lload hx hb dX12_compare_226 (lv_at hl 0 rfl) ?_
                refine jl_ne (tgt := 236) hx hb dX12_compare_228 dX12_compare_229 (by decide) (fun c51 => ?_) (fun c51 => ?_)
                · have hf := jf c51 hf
                  refine lv_iconst (v := (0 : Int32)) hx hb dX12_compare_236 (by decide) ?_
                  refine lv_goto (tgt := 253) hx hb dX12_compare_237 (by decide) ?_
                  exact B_X12_compare_253 E  hf hM (lv_sub hl [2] rfl)
                · have hf := jt c51 hf
                  refine lv_iconst (v := (1 : Int32)) hx hb dX12_compare_232 (by decide) ?_
                  refine lv_goto (tgt := 253) hx hb dX12_compare_233 (by decide) ?_
                  exact B_X12_compare_253 E  hf hM (lv_sub hl [2] rfl)
            · have hf := jt c48 hf
              refine lv_lload hx hb dX12_compare_201 (lv_at hl 1 rfl) ?_
              refine lv_lload hx hb dX12_compare_203 (lv_at hl 0 rfl) ?_
              refine jl_gt (tgt := 213) hx hb dX12_compare_205 dX12_compare_206 (by decide) (fun c52 => ?_) (fun c52 => ?_)
              · have hf := jt c52 hf
                refine lv_iconst (v := (0 : Int32)) hx hb dX12_compare_213 (by decide) ?_
                refine lv_goto (tgt := 253) hx hb dX12_compare_214 (by decide) ?_
                exact B_X12_compare_253 E  hf hM (lv_sub hl [2] rfl)
              · have hf := jf c52 hf
                refine lv_iconst (v := (1 : Int32)) hx hb dX12_compare_209 (by decide) ?_
                refine lv_goto (tgt := 253) hx hb dX12_compare_210 (by decide) ?_
                exact B_X12_compare_253 E  hf hM (lv_sub hl [2] rfl)
          · have hf := jt c47 hf
            refine lv_lload hx hb dX12_compare_179 (lv_at hl 1 rfl) ?_
            refine lv_lload hx hb dX12_compare_181 (lv_at hl 0 rfl) ?_
            refine jl_ge (tgt := 191) hx hb dX12_compare_183 dX12_compare_184 (by decide) (fun c53 => ?_) (fun c53 => ?_)
            · have hf := jt c53 hf
              refine lv_iconst (v := (0 : Int32)) hx hb dX12_compare_191 (by decide) ?_
              refine lv_goto (tgt := 253) hx hb dX12_compare_192 (by decide) ?_
              exact B_X12_compare_253 E  hf hM (lv_sub hl [2] rfl)
            · have hf := jf c53 hf
              refine lv_iconst (v := (1 : Int32)) hx hb dX12_compare_187 (by decide) ?_
              refine lv_goto (tgt := 253) hx hb dX12_compare_188 (by decide) ?_
              exact B_X12_compare_253 E  hf hM (lv_sub hl [2] rfl)
        · have hf := jt c38 hf
          exact B_X12_compare_50 E  hf hM (lv_sub hl [0, 1, 2, 3] rfl)
    · have hf := jt c30 hf
      exact B_X12_compare_24 E  hf hM (lv_sub hl [0] rfl)
set_option maxRecDepth 100000 in
theorem C_X12_compare {l : Launch} {g : jG} {a0 : Nat} {a1 : Int32} {a2 : Int32} {a3 : Int32} {S : jM} {rr : Int32} {SS : jM} (hf : f_X12_compare a0 a1 a2 a3 S = some (rr, SS)) : jMet l g yX12_compare cX12_compare 9 (some .int) 5 0 0 [.ref (g.2.2 + a0), .int a1, .int a2, .int a3] S (jQi g rr SS) := by
  refine jof (by decide +kernel) (Nat.le_of_ble_eq_true rfl) ?_
  intro p e s m below meth c E hM ls hl
  have hl : lv_has ls 9 [(0, .ref (g.2.2 + a0)),(1, .int a1),(2, .int a2),(3, .int a3)] := hl
  exact B_X12_compare_0 E hf hM hl
-- PensionHouseModel.isRow(I)Z  mode T
noncomputable def f_X12_isRow (v0 : Int32) : Int32 := if v0 < (2 : Int32) then (0 : Int32) else if (7 : Int32) < v0 then (0 : Int32) else (1 : Int32)
set_option maxRecDepth 100000 in
set_option maxHeartbeats 4000000 in
theorem B_X12_isRow_0 {p : Program} {l : Launch} {e : Env} {s : State} {m : MethodId} {args : Array Value} {below : List Frame} {meth : Method} {c : Code} {g : jG} {rr : Int32} {S : jM} {v0 : Int32} (E : jEnv p s m args meth c cX12_isRow "PensionHouseModel" (some .boolean) 1 g)  {H : Heap} {locs : List Loc} {ls : Array Slot} (hf : f_X12_isRow v0 = rr) (hM : jAt g S s H locs) (hl : lv_has ls 1 [(0, .int v0)]) : W p l e (jRm 1 0 0) s m args below meth c H locs 0 0 (MQ below (jQi g rr S) args s 0 0 (jA0 g)) (F0 m 0 ls []) := by
  obtain ⟨hx, hb, hml, -, hts, hown, hK, -, hstr⟩ := id E
  unfold f_X12_isRow at hf
  refine lv_iload_n hx hb dX12_isRow_0 rfl (lv_at hl 0 rfl) ?_
  refine lv_iconst (v := (2 : Int32)) hx hb dX12_isRow_1 (by decide) ?_
  refine lv_icmp_lt (tgt := 15) hx hb dX12_isRow_2 (by decide) (fun c1 => ?_) (fun c1 => ?_)
  · have hf := jt c1 hf
    refine lv_iconst (v := (0 : Int32)) hx hb dX12_isRow_15 (by decide) ?_
    exact jiretz (jr0 hf) E hM (by decide) dX12_isRow_16
  · have hf := jf c1 hf
    refine lv_iload_n hx hb dX12_isRow_5 rfl (lv_at hl 0 rfl) ?_
    refine lv_bipush (v := (7 : Int32)) hx hb dX12_isRow_6 (by decide) ?_
    refine lv_icmp_gt (tgt := 15) hx hb dX12_isRow_8 (by decide) (fun c2 => ?_) (fun c2 => ?_)
    · have hf := jt c2 hf
      refine lv_iconst (v := (0 : Int32)) hx hb dX12_isRow_15 (by decide) ?_
      exact jiretz (jr0 hf) E hM (by decide) dX12_isRow_16
    · have hf := jf c2 hf
      refine lv_iconst (v := (1 : Int32)) hx hb dX12_isRow_11 (by decide) ?_
      refine lv_goto (tgt := 16) hx hb dX12_isRow_12 (by decide) ?_
      exact jiretz (jr0 hf) E hM (by decide) dX12_isRow_16
set_option maxRecDepth 100000 in
theorem C_X12_isRow {l : Launch} {g : jG} {a0 : Int32} {S : jM} {rr : Int32} (hf : f_X12_isRow a0 = rr) : jMet l g yX12_isRow cX12_isRow 1 (some .boolean) 1 0 0 [.int a0] S (jQi g rr S) := by
  refine jof (by decide +kernel) (Nat.le_of_ble_eq_true rfl) ?_
  intro p e s m below meth c E hM ls hl
  have hl : lv_has ls 1 [(0, .int a0)] := hl
  exact B_X12_isRow_0 E hf hM hl
-- PensionHouseModel.item(II)I  mode M
noncomputable def f_X12_item_21 (v0 : Nat) (S : jM) : Option (Int32 × jM) := if jK v0 = 10 then jbd (f_X12_failing v0 (2 : Int32) S) (fun x1 S2 => some (x1, S2)) else none
noncomputable def f_X12_item (v0 : Nat) (v1 : Int32) (v2 : Int32) (S : jM) : Option (Int32 × jM) := if jK v0 = 10 then (jR S 88 v0).bind (fun r6 => if jA r6 13 v1 = true then if (f_X12_isRow (jAI S r6 (v1).toNatClampNeg)) = 0 then f_X12_item_21 v0 S else (jR S 88 v0).bind (fun r10 => if jA r10 13 v2 = true then if (jAI S r10 (v2).toNatClampNeg) = 0 then (jR S 90 v0).bind (fun r14 => if jA r14 14 ((12 : Int32) * v2) = true then jlet (jAL S r14 ((12 : Int32) * v2).toNatClampNeg) (fun x17 => (jR S 89 v0).bind (fun r18 => if jA r18 13 v1 = true then if (f_X12_in x17 (0 : Int64) (((jAI S r18 (v1).toNatClampNeg).toInt64) - (1 : Int64))) = 0 then jbd (f_X12_failing v0 (3 : Int32) S) (fun x60 S61 => some (x60, S61)) else jlet (((12 : Int32) * v1) + (x17.toInt32)) (fun x22 => (jR S 88 v0).bind (fun r23 => if jA r23 13 v1 = true then if (jAI S r23 (v1).toNatClampNeg) = (4 : Int32) then (jR S 91 v0).bind (fun r54 => if jA r54 12 x22 = true then jbd (f_X12_ofReal v0 (jAD S r54 (x22).toNatClampNeg) S) (fun x57 S58 => some (x57, S58)) else none) else (jR S 88 v0).bind (fun r27 => if jA r27 13 v1 = true then if (f_X12_isKin (jAI S r27 (v1).toNatClampNeg)) = 0 then (jR S 90 v0).bind (fun r48 => if jA r48 14 x22 = true then jbd (f_X12_ofWhole v0 (jAL S r48 (x22).toNatClampNeg) S) (fun x51 S52 => some (x51, S52)) else none) else (jR S 90 v0).bind (fun r31 => if jA r31 14 x22 = true then if (0 : Int64) ≤ (jAL S r31 (x22).toNatClampNeg) then jbd (f_X12_made v0 (8 : Int32) (0 : Int32) S) (fun x35 S36 => (jR S36 90 v0).bind (fun r38 => (jR S36 90 v0).bind (fun r40 => if jA r40 14 x22 = true then if jA r38 14 ((12 : Int32) * x35) = true then jlet (jrL S36 r38 (vp_updL (jAL S36 r38) ((12 : Int32) * x35).toNatClampNeg (jAL S36 r40 (x22).toNatClampNeg))) (fun S44 => some (x35, S44)) else none else none))) else jbd (f_X12_failing v0 (1 : Int32) S) (fun x45 S46 => some (x45, S46)) else none) else none) else none)) else none)) else none) else f_X12_item_21 v0 S else none) else none) else none
set_option maxRecDepth 100000 in
set_option maxHeartbeats 4000000 in
theorem B_X12_item_21 {p : Program} {l : Launch} {e : Env} {s : State} {m : MethodId} {args : Array Value} {below : List Frame} {meth : Method} {c : Code} {g : jG} {rr : Int32} {SS : jM} {v0 : Nat} {S : jM} (E : jEnv p s m args meth c cX12_item "PensionHouseModel" (some .int) 7 g)  {H : Heap} {locs : List Loc} {ls : Array Slot} (hf : f_X12_item_21 v0 S = some (rr, SS)) (hM : jAt g S s H locs) (hl : lv_has ls 7 [(0, .ref (g.2.2 + v0))]) : W p l e (jRm 5 0 0) s m args below meth c H locs 0 0 (MQ below (jQi g rr SS) args s 0 0 (jA0 g)) (F0 m 21 ls []) := by
  obtain ⟨hx, hb, hml, -, hts, hown, hK, -, hstr⟩ := id E
  unfold f_X12_item_21 at hf
  refine lv_aload_n hx hb dX12_item_21 rfl (lv_at hl 0 rfl) ?_
  refine lv_iconst (v := (2 : Int32)) hx hb dX12_item_22 (by decide) ?_
  obtain ⟨hq4, hf⟩ := jif hf
  obtain ⟨x1, S2, hc3, hf⟩ := jbd_e hf
  refine jbackI hM (jrunV E hM ci_X12_failing (C_X12_failing hc3) lk_8_87 hq4 (by decide) rfl hl.1 rfl rfl (Nat.le_of_ble_eq_true rfl) ⟨Nat.le_of_ble_eq_true rfl, Nat.le_of_ble_eq_true rfl⟩ ⟨Nat.le_refl _, Nat.le_refl _⟩ dX12_item_23) (fun H locs hM => ?_)
  exact jireti (jr2 hf) E hM dX12_item_26
set_option maxRecDepth 100000 in
set_option maxHeartbeats 4000000 in
theorem B_X12_item_0 {p : Program} {l : Launch} {e : Env} {s : State} {m : MethodId} {args : Array Value} {below : List Frame} {meth : Method} {c : Code} {g : jG} {rr : Int32} {SS : jM} {v0 : Nat} {v1 : Int32} {v2 : Int32} {S : jM} (E : jEnv p s m args meth c cX12_item "PensionHouseModel" (some .int) 7 g)  {H : Heap} {locs : List Loc} {ls : Array Slot} (hf : f_X12_item v0 v1 v2 S = some (rr, SS)) (hM : jAt g S s H locs) (hl : lv_has ls 7 [(0, .ref (g.2.2 + v0)), (1, .int v1), (2, .int v2)]) : W p l e (jRm 5 0 0) s m args below meth c H locs 0 0 (MQ below (jQi g rr SS) args s 0 0 (jA0 g)) (F0 m 0 ls []) := by
  obtain ⟨hx, hb, hml, -, hts, hown, hK, -, hstr⟩ := id E
  unfold f_X12_item at hf
  refine lv_aload_n hx hb dX12_item_0 rfl (lv_at hl 0 rfl) ?_
  obtain ⟨hq5, hf⟩ := jif hf
  refine gt_88 E hM hq5 lk_6_2 dX12_item_1 ?_
  obtain ⟨r6, hr7, hf⟩ := jb hf
  rw [hr7]
  show W p l e _ s m args below meth c H locs 0 0 _ (F0 m _ ls (.ref (g.2.2 + r6) :: _))
  refine lv_iload_n hx hb dX12_item_4 rfl (lv_at hl 1 rfl) ?_
  obtain ⟨ha8, hf⟩ := jif hf
  refine jiald E hM ha8 dX12_item_5 ?_
  refine jbackI hM (jrunS E hM ci_X12_isRow (C_X12_isRow rfl) lk_7_100 hl.1 rfl rfl (Nat.le_of_ble_eq_true rfl) ⟨Nat.le_of_ble_eq_true rfl, Nat.le_of_ble_eq_true rfl⟩ ⟨Nat.le_refl _, Nat.le_refl _⟩ dX12_item_6) (fun H locs hM => ?_)
  refine lv_if_eq (tgt := 21) hx hb dX12_item_9 (by decide) (fun c9 => ?_) (fun c9 => ?_)
  · have hf := jt c9 hf
    exact B_X12_item_21 E  hf hM (lv_sub hl [0] rfl)
  · have hf := jf c9 hf
    refine lv_aload_n hx hb dX12_item_12 rfl (lv_at hl 0 rfl) ?_
    refine gt_88 E hM hq5 lk_6_2 dX12_item_13 ?_
    obtain ⟨r10, hr11, hf⟩ := jb hf
    rw [hr11]
    show W p l e _ s m args below meth c H locs 0 0 _ (F0 m _ ls (.ref (g.2.2 + r10) :: _))
    refine lv_iload_n hx hb dX12_item_16 rfl (lv_at hl 2 rfl) ?_
    obtain ⟨ha12, hf⟩ := jif hf
    refine jiald E hM ha12 dX12_item_17 ?_
    refine lv_if_eq (tgt := 27) hx hb dX12_item_18 (by decide) (fun c13 => ?_) (fun c13 => ?_)
    · have hf := jt c13 hf
      refine lv_aload_n hx hb dX12_item_27 rfl (lv_at hl 0 rfl) ?_
      refine gt_90 E hM hq5 lk_6_4 dX12_item_28 ?_
      obtain ⟨r14, hr15, hf⟩ := jb hf
      rw [hr15]
      show W p l e _ s m args below meth c H locs 0 0 _ (F0 m _ ls (.ref (g.2.2 + r14) :: _))
      refine lv_bipush (v := (12 : Int32)) hx hb dX12_item_31 (by decide) ?_
      refine lv_iload_n hx hb dX12_item_33 rfl (lv_at hl 2 rfl) ?_
      refine lv_imul hx hb dX12_item_34 ?_
      obtain ⟨ha16, hf⟩ := jif hf
      refine jlald E hM ha16 dX12_item_35 ?_
      refine lv_topl (fun x17 ex17 => ?_)
      have hf := jlet_y ex17 hf
      refine lv_lstore_n (lv' := [(3, .long x17), (0, .ref (g.2.2 + v0)), (1, .int v1), (2, .int v2)]) hx hb dX12_item_36 rfl hl (by decide) rfl (fun ls hl => ?_)
      refine lv_lload_n hx hb dX12_item_37 rfl (lv_at hl 0 rfl) ?_
      refine lv_lconst (v := (0 : Int64)) hx hb dX12_item_38 (by decide) ?_
      refine lv_aload_n hx hb dX12_item_39 rfl (lv_at hl 1 rfl) ?_
      refine gt_89 E hM hq5 lk_6_3 dX12_item_40 ?_
      obtain ⟨r18, hr19, hf⟩ := jb hf
      rw [hr19]
      show W p l e _ s m args below meth c H locs 0 0 _ (F0 m _ ls (.ref (g.2.2 + r18) :: _))
      refine lv_iload_n hx hb dX12_item_43 rfl (lv_at hl 2 rfl) ?_
      obtain ⟨ha20, hf⟩ := jif hf
      refine jiald E hM ha20 dX12_item_44 ?_
      refine lv_i2l hx hb dX12_item_45 rfl ?_
      refine lv_lconst (v := (1 : Int64)) hx hb dX12_item_46 (by decide) ?_
      refine lv_lsub hx hb dX12_item_47 ?_
      refine jbackI hM (jrunS E hM ci_X12_in (C_X12_in rfl) lk_7_36 hl.1 rfl rfl (Nat.le_of_ble_eq_true rfl) ⟨Nat.le_of_ble_eq_true rfl, Nat.le_of_ble_eq_true rfl⟩ ⟨Nat.le_refl _, Nat.le_refl _⟩ dX12_item_48) (fun H locs hM => ?_)
      refine lv_if_ne (tgt := 60) hx hb dX12_item_51 (by decide) (fun c21 => ?_) (fun c21 => ?_)
      · have hf := jf c21 hf
        refine lv_bipush (v := (12 : Int32)) hx hb dX12_item_60 (by decide) ?_
        refine lv_iload_n hx hb dX12_item_62 rfl (lv_at hl 2 rfl) ?_
        refine lv_imul hx hb dX12_item_63 ?_
        refine lv_lload_n hx hb dX12_item_64 rfl (lv_at hl 0 rfl) ?_
        refine lv_l2i hx hb dX12_item_65 rfl ?_
        refine lv_iadd hx hb dX12_item_66 ?_
        refine lv_topi (fun x22 ex22 => ?_)
        have hf := jlet_y ex22 hf
        refine lv_istore (lv' := [(5, .int x22), (3, .long x17), (0, .ref (g.2.2 + v0)), (1, .int v1), (2, .int v2)]) hx hb dX12_item_67 hl (by decide) rfl (fun ls hl => ?_)
        refine lv_aload_n hx hb dX12_item_69 rfl (lv_at hl 2 rfl) ?_
        refine gt_88 E hM hq5 lk_6_2 dX12_item_70 ?_
        obtain ⟨r23, hr24, hf⟩ := jb hf
        rw [hr24]
        show W p l e _ s m args below meth c H locs 0 0 _ (F0 m _ ls (.ref (g.2.2 + r23) :: _))
        refine lv_iload_n hx hb dX12_item_73 rfl (lv_at hl 3 rfl) ?_
        obtain ⟨ha25, hf⟩ := jif hf
        refine jiald E hM ha25 dX12_item_74 ?_
        refine lv_iconst (v := (4 : Int32)) hx hb dX12_item_75 (by decide) ?_
        refine lv_icmp_ne (tgt := 91) hx hb dX12_item_76 (by decide) (fun c26 => ?_) (fun c26 => ?_)
        · have hf := jf c26 hf
          refine lv_aload_n hx hb dX12_item_91 rfl (lv_at hl 2 rfl) ?_
          refine gt_88 E hM hq5 lk_6_2 dX12_item_92 ?_
          obtain ⟨r27, hr28, hf⟩ := jb hf
          rw [hr28]
          show W p l e _ s m args below meth c H locs 0 0 _ (F0 m _ ls (.ref (g.2.2 + r27) :: _))
          refine lv_iload_n hx hb dX12_item_95 rfl (lv_at hl 3 rfl) ?_
          obtain ⟨ha29, hf⟩ := jif hf
          refine jiald E hM ha29 dX12_item_96 ?_
          refine jbackI hM (jrunS E hM ci_X12_isKin (C_X12_isKin rfl) lk_7_63 hl.1 rfl rfl (Nat.le_of_ble_eq_true rfl) ⟨Nat.le_of_ble_eq_true rfl, Nat.le_of_ble_eq_true rfl⟩ ⟨Nat.le_refl _, Nat.le_refl _⟩ dX12_item_97) (fun H locs hM => ?_)
          refine lv_if_ne (tgt := 115) hx hb dX12_item_100 (by decide) (fun c30 => ?_) (fun c30 => ?_)
          · have hf := jf c30 hf
            refine lv_aload_n hx hb dX12_item_115 rfl (lv_at hl 2 rfl) ?_
            refine gt_90 E hM hq5 lk_6_4 dX12_item_116 ?_
            obtain ⟨r31, hr32, hf⟩ := jb hf
            rw [hr32]
            show W p l e _ s m args below meth c H locs 0 0 _ (F0 m _ ls (.ref (g.2.2 + r31) :: _))
            refine lv_iload hx hb dX12_item_119 (lv_at hl 0 rfl) ?_
            obtain ⟨ha33, hf⟩ := jif hf
            refine jlald E hM ha33 dX12_item_121 ?_
            refine lv_lconst (v := (0 : Int64)) hx hb dX12_item_122 (by decide) ?_
            refine jl_ge (tgt := 133) hx hb dX12_item_123 dX12_item_124 (by decide) (fun c34 => ?_) (fun c34 => ?_)
            · have hf := jt c34 hf
              refine lv_aload_n hx hb dX12_item_133 rfl (lv_at hl 2 rfl) ?_
              refine lv_bipush (v := (8 : Int32)) hx hb dX12_item_134 (by decide) ?_
              refine lv_iconst (v := (0 : Int32)) hx hb dX12_item_136 (by decide) ?_
              obtain ⟨x35, S36, hc37, hf⟩ := jbd_e hf
              refine jbackI hM (jrunV E hM ci_X12_made (C_X12_made hc37) lk_8_95 hq5 (by decide) rfl hl.1 rfl rfl (Nat.le_of_ble_eq_true rfl) ⟨Nat.le_of_ble_eq_true rfl, Nat.le_of_ble_eq_true rfl⟩ ⟨Nat.le_refl _, Nat.le_refl _⟩ dX12_item_137) (fun H locs hM => ?_)
              refine lv_istore (lv' := [(6, .int x35), (5, .int x22), (3, .long x17), (0, .ref (g.2.2 + v0)), (1, .int v1), (2, .int v2)]) hx hb dX12_item_140 hl (by decide) rfl (fun ls hl => ?_)
              refine lv_aload_n hx hb dX12_item_142 rfl (lv_at hl 3 rfl) ?_
              refine gt_90 E hM hq5 lk_6_4 dX12_item_143 ?_
              obtain ⟨r38, hr39, hf⟩ := jb hf
              rw [hr39]
              show W p l e _ s m args below meth c H locs 0 0 _ (F0 m _ ls (.ref (g.2.2 + r38) :: _))
              refine lv_bipush (v := (12 : Int32)) hx hb dX12_item_146 (by decide) ?_
              refine lv_iload hx hb dX12_item_148 (lv_at hl 0 rfl) ?_
              refine lv_imul hx hb dX12_item_150 ?_
              refine lv_aload_n hx hb dX12_item_151 rfl (lv_at hl 3 rfl) ?_
              refine gt_90 E hM hq5 lk_6_4 dX12_item_152 ?_
              obtain ⟨r40, hr41, hf⟩ := jb hf
              rw [hr41]
              show W p l e _ s m args below meth c H locs 0 0 _ (F0 m _ ls (.ref (g.2.2 + r40) :: _))
              refine lv_iload hx hb dX12_item_155 (lv_at hl 1 rfl) ?_
              obtain ⟨ha42, hf⟩ := jif hf
              refine jlald E hM ha42 dX12_item_157 ?_
              obtain ⟨ha43, hf⟩ := jif hf
              refine jlast E hM ha43 dX12_item_158 (fun H locs S44 eS44 hM => ?_)
              have hf := jlet_y eS44 hf
              refine lv_iload hx hb dX12_item_159 (lv_at hl 0 rfl) ?_
              exact jireti (jr2 hf) E hM dX12_item_161
            · have hf := jf c34 hf
              refine lv_aload_n hx hb dX12_item_127 rfl (lv_at hl 2 rfl) ?_
              refine lv_iconst (v := (1 : Int32)) hx hb dX12_item_128 (by decide) ?_
              obtain ⟨x45, S46, hc47, hf⟩ := jbd_e hf
              refine jbackI hM (jrunV E hM ci_X12_failing (C_X12_failing hc47) lk_8_87 hq5 (by decide) rfl hl.1 rfl rfl (Nat.le_of_ble_eq_true rfl) ⟨Nat.le_of_ble_eq_true rfl, Nat.le_of_ble_eq_true rfl⟩ ⟨Nat.le_refl _, Nat.le_refl _⟩ dX12_item_129) (fun H locs hM => ?_)
              exact jireti (jr2 hf) E hM dX12_item_132
          · have hf := jt c30 hf
            refine lv_aload_n hx hb dX12_item_103 rfl (lv_at hl 2 rfl) ?_
            refine lv_aload_n hx hb dX12_item_104 rfl (lv_at hl 2 rfl) ?_
            refine gt_90 E hM hq5 lk_6_4 dX12_item_105 ?_
            obtain ⟨r48, hr49, hf⟩ := jb hf
            rw [hr49]
            show W p l e _ s m args below meth c H locs 0 0 _ (F0 m _ ls (.ref (g.2.2 + r48) :: _))
            refine lv_iload hx hb dX12_item_108 (lv_at hl 0 rfl) ?_
            obtain ⟨ha50, hf⟩ := jif hf
            refine jlald E hM ha50 dX12_item_110 ?_
            obtain ⟨x51, S52, hc53, hf⟩ := jbd_e hf
            refine jbackI hM (jrunV E hM ci_X12_ofWhole (C_X12_ofWhole hc53) lk_8_91 hq5 (by decide) rfl hl.1 rfl rfl (Nat.le_of_ble_eq_true rfl) ⟨Nat.le_of_ble_eq_true rfl, Nat.le_of_ble_eq_true rfl⟩ ⟨Nat.le_refl _, Nat.le_refl _⟩ dX12_item_111) (fun H locs hM => ?_)
            exact jireti (jr2 hf) E hM dX12_item_114
        · have hf := jt c26 hf
          refine lv_aload_n hx hb dX12_item_79 rfl (lv_at hl 2 rfl) ?_
          refine lv_aload_n hx hb dX12_item_80 rfl (lv_at hl 2 rfl) ?_
          refine gt_91 E hM hq5 lk_6_5 dX12_item_81 ?_
          obtain ⟨r54, hr55, hf⟩ := jb hf
          rw [hr55]
          show W p l e _ s m args below meth c H locs 0 0 _ (F0 m _ ls (.ref (g.2.2 + r54) :: _))
          refine lv_iload hx hb dX12_item_84 (lv_at hl 0 rfl) ?_
          obtain ⟨ha56, hf⟩ := jif hf
          refine jdald E hM ha56 dX12_item_86 ?_
          obtain ⟨x57, S58, hc59, hf⟩ := jbd_e hf
          refine jbackI hM (jrunV E hM ci_X12_ofReal (C_X12_ofReal hc59) lk_8_103 hq5 (by decide) rfl hl.1 rfl rfl (Nat.le_of_ble_eq_true rfl) ⟨Nat.le_of_ble_eq_true rfl, Nat.le_of_ble_eq_true rfl⟩ ⟨Nat.le_refl _, Nat.le_refl _⟩ dX12_item_87) (fun H locs hM => ?_)
          exact jireti (jr2 hf) E hM dX12_item_90
      · have hf := jt c21 hf
        refine lv_aload_n hx hb dX12_item_54 rfl (lv_at hl 1 rfl) ?_
        refine lv_iconst (v := (3 : Int32)) hx hb dX12_item_55 (by decide) ?_
        obtain ⟨x60, S61, hc62, hf⟩ := jbd_e hf
        refine jbackI hM (jrunV E hM ci_X12_failing (C_X12_failing hc62) lk_8_87 hq5 (by decide) rfl hl.1 rfl rfl (Nat.le_of_ble_eq_true rfl) ⟨Nat.le_of_ble_eq_true rfl, Nat.le_of_ble_eq_true rfl⟩ ⟨Nat.le_refl _, Nat.le_refl _⟩ dX12_item_56) (fun H locs hM => ?_)
        exact jireti (jr2 hf) E hM dX12_item_59
    · have hf := jf c13 hf
      exact B_X12_item_21 E  hf hM (lv_sub hl [0] rfl)
set_option maxRecDepth 100000 in
theorem C_X12_item {l : Launch} {g : jG} {a0 : Nat} {a1 : Int32} {a2 : Int32} {S : jM} {rr : Int32} {SS : jM} (hf : f_X12_item a0 a1 a2 S = some (rr, SS)) : jMet l g yX12_item cX12_item 7 (some .int) 5 0 0 [.ref (g.2.2 + a0), .int a1, .int a2] S (jQi g rr SS) := by
  refine jof (by decide +kernel) (Nat.le_of_ble_eq_true rfl) ?_
  intro p e s m below meth c E hM ls hl
  have hl : lv_has ls 7 [(0, .ref (g.2.2 + a0)),(1, .int a1),(2, .int a2)] := hl
  exact B_X12_item_0 E hf hM hl
-- PensionHouseModel.isBelowZero(D)Z  mode P
noncomputable def f_X12_isBelowZero_20 : Option Int32 := some (1 : Int32)
noncomputable def f_X12_isBelowZero (v0 : UInt64) : Option Int32 := if (Op.cmpValue (FP.dcmp v0 (FP.dconst0)) .g) < 0 then f_X12_isBelowZero_20  else if (Op.cmpValue (FP.dcmp v0 (FP.dconst0)) .l) = 0 then if jnn (FP.ddiv (FP.dconst1) v0) = true then if 0 ≤ (Op.cmpValue (FP.dcmp (FP.ddiv (FP.dconst1) v0) (FP.dconst0)) .g) then some (0 : Int32) else f_X12_isBelowZero_20  else none else some (0 : Int32)
set_option maxRecDepth 100000 in
set_option maxHeartbeats 4000000 in
theorem B_X12_isBelowZero_20 {p : Program} {l : Launch} {e : Env} {s : State} {m : MethodId} {args : Array Value} {below : List Frame} {meth : Method} {c : Code} {g : jG} {rr : Int32} {S : jM} (E : jEnv p s m args meth c cX12_isBelowZero "PensionHouseModel" (some .boolean) 2 g)  {H : Heap} {locs : List Loc} {ls : Array Slot} (hf : f_X12_isBelowZero_20  = some rr) (hM : jAt g S s H locs) (hl : lv_has ls 2 []) : W p l e (jRm 1 0 0) s m args below meth c H locs 0 0 (MQ below (jQi g rr S) args s 0 0 (jA0 g)) (F0 m 20 ls []) := by
  obtain ⟨hx, hb, hml, -, hts, hown, hK, -, hstr⟩ := id E
  unfold f_X12_isBelowZero_20 at hf
  refine lv_iconst (v := (1 : Int32)) hx hb dX12_isBelowZero_20 (by decide) ?_
  refine lv_goto (tgt := 25) hx hb dX12_isBelowZero_21 (by decide) ?_
  exact jiretz (jr1 hf) E hM (by decide) dX12_isBelowZero_25
set_option maxRecDepth 100000 in
set_option maxHeartbeats 4000000 in
theorem B_X12_isBelowZero_0 {p : Program} {l : Launch} {e : Env} {s : State} {m : MethodId} {args : Array Value} {below : List Frame} {meth : Method} {c : Code} {g : jG} {rr : Int32} {S : jM} {v0 : UInt64} (E : jEnv p s m args meth c cX12_isBelowZero "PensionHouseModel" (some .boolean) 2 g)  {H : Heap} {locs : List Loc} {ls : Array Slot} (hf : f_X12_isBelowZero v0 = some rr) (hM : jAt g S s H locs) (hl : lv_has ls 2 [(0, .double v0)]) : W p l e (jRm 1 0 0) s m args below meth c H locs 0 0 (MQ below (jQi g rr S) args s 0 0 (jA0 g)) (F0 m 0 ls []) := by
  obtain ⟨hx, hb, hml, -, hts, hown, hK, -, hstr⟩ := id E
  unfold f_X12_isBelowZero at hf
  refine lv_dload_n hx hb dX12_isBelowZero_0 rfl (lv_at hl 0 rfl) ?_
  refine lv_dconst0 hx hb dX12_isBelowZero_1 ?_
  refine lv_dcmp hx hb dX12_isBelowZero_2 ?_
  refine lv_if_lt (tgt := 20) hx hb dX12_isBelowZero_3 (by decide) (fun c1 => ?_) (fun c1 => ?_)
  · have hf := jt c1 hf
    exact B_X12_isBelowZero_20 E  hf hM (lv_sub hl [] rfl)
  · have hf := jf c1 hf
    refine lv_dload_n hx hb dX12_isBelowZero_6 rfl (lv_at hl 0 rfl) ?_
    refine lv_dconst0 hx hb dX12_isBelowZero_7 ?_
    refine lv_dcmp hx hb dX12_isBelowZero_8 ?_
    refine lv_if_ne (tgt := 24) hx hb dX12_isBelowZero_9 (by decide) (fun c2 => ?_) (fun c2 => ?_)
    · have hf := jf c2 hf
      refine lv_iconst (v := (0 : Int32)) hx hb dX12_isBelowZero_24 (by decide) ?_
      exact jiretz (jr1 hf) E hM (by decide) dX12_isBelowZero_25
    · have hf := jt c2 hf
      refine lv_dconst1 hx hb dX12_isBelowZero_12 ?_
      refine lv_dload_n hx hb dX12_isBelowZero_13 rfl (lv_at hl 0 rfl) ?_
      obtain ⟨hn3, hf⟩ := jif hf
      refine lv_ddiv hx hb dX12_isBelowZero_14 (jnn_ok hn3) ?_
      refine lv_dconst0 hx hb dX12_isBelowZero_15 ?_
      refine lv_dcmp hx hb dX12_isBelowZero_16 ?_
      refine lv_if_ge (tgt := 24) hx hb dX12_isBelowZero_17 (by decide) (fun c4 => ?_) (fun c4 => ?_)
      · have hf := jt c4 hf
        refine lv_iconst (v := (0 : Int32)) hx hb dX12_isBelowZero_24 (by decide) ?_
        exact jiretz (jr1 hf) E hM (by decide) dX12_isBelowZero_25
      · have hf := jf c4 hf
        exact B_X12_isBelowZero_20 E  hf hM (lv_sub hl [] rfl)
set_option maxRecDepth 100000 in
theorem C_X12_isBelowZero {l : Launch} {g : jG} {a0 : UInt64} {S : jM} {rr : Int32} (hf : f_X12_isBelowZero a0 = some rr) : jMet l g yX12_isBelowZero cX12_isBelowZero 2 (some .boolean) 1 0 0 [.double a0] S (jQi g rr S) := by
  refine jof (by decide +kernel) (Nat.le_of_ble_eq_true rfl) ?_
  intro p e s m below meth c E hM ls hl
  have hl : lv_has ls 2 [(0, .double a0)] := hl
  exact B_X12_isBelowZero_0 E hf hM hl
-- PensionHouseModel.isAbove(DD)Z  mode P
noncomputable def f_X12_isAbove_56 : Option Int32 := some (1 : Int32)
noncomputable def f_X12_isAbove_12 (v0 : UInt64) (v2 : UInt64) : Option Int32 := if (Op.cmpValue (FP.dcmp v0 v0) .l) = 0 then some (0 : Int32) else if (Op.cmpValue (FP.dcmp v2 v2) .l) = 0 then some (1 : Int32) else some (0 : Int32)
noncomputable def f_X12_isAbove (v0 : UInt64) (v2 : UInt64) : Option Int32 := if (Op.cmpValue (FP.dcmp v0 v0) .l) = 0 then if (Op.cmpValue (FP.dcmp v2 v2) .l) = 0 then if 0 < (Op.cmpValue (FP.dcmp v0 v2) .l) then f_X12_isAbove_56  else if (Op.cmpValue (FP.dcmp v0 v2) .l) = 0 then (f_X12_isBelowZero v2).bind (fun x7 => if x7 = 0 then some (0 : Int32) else (f_X12_isBelowZero v0).bind (fun x10 => if x10 = 0 then f_X12_isAbove_56  else some (0 : Int32))) else some (0 : Int32) else f_X12_isAbove_12 v0 v2 else f_X12_isAbove_12 v0 v2
set_option maxRecDepth 100000 in
set_option maxHeartbeats 4000000 in
theorem B_X12_isAbove_56 {p : Program} {l : Launch} {e : Env} {s : State} {m : MethodId} {args : Array Value} {below : List Frame} {meth : Method} {c : Code} {g : jG} {rr : Int32} {S : jM} (E : jEnv p s m args meth c cX12_isAbove "PensionHouseModel" (some .boolean) 4 g)  {H : Heap} {locs : List Loc} {ls : Array Slot} (hf : f_X12_isAbove_56  = some rr) (hM : jAt g S s H locs) (hl : lv_has ls 4 []) : W p l e (jRm 2 0 0) s m args below meth c H locs 0 0 (MQ below (jQi g rr S) args s 0 0 (jA0 g)) (F0 m 56 ls []) := by
  obtain ⟨hx, hb, hml, -, hts, hown, hK, -, hstr⟩ := id E
  unfold f_X12_isAbove_56 at hf
  refine lv_iconst (v := (1 : Int32)) hx hb dX12_isAbove_56 (by decide) ?_
  refine lv_goto (tgt := 61) hx hb dX12_isAbove_57 (by decide) ?_
  exact jiretz (jr1 hf) E hM (by decide) dX12_isAbove_61
set_option maxRecDepth 100000 in
set_option maxHeartbeats 4000000 in
theorem B_X12_isAbove_12 {p : Program} {l : Launch} {e : Env} {s : State} {m : MethodId} {args : Array Value} {below : List Frame} {meth : Method} {c : Code} {g : jG} {rr : Int32} {S : jM} {v0 : UInt64} {v2 : UInt64} (E : jEnv p s m args meth c cX12_isAbove "PensionHouseModel" (some .boolean) 4 g)  {H : Heap} {locs : List Loc} {ls : Array Slot} (hf : f_X12_isAbove_12 v0 v2 = some rr) (hM : jAt g S s H locs) (hl : lv_has ls 4 [(0, .double v0), (2, .double v2)]) : W p l e (jRm 2 0 0) s m args below meth c H locs 0 0 (MQ below (jQi g rr S) args s 0 0 (jA0 g)) (F0 m 12 ls []) := by
  obtain ⟨hx, hb, hml, -, hts, hown, hK, -, hstr⟩ := id E
  unfold f_X12_isAbove_12 at hf
  refine lv_dload_n hx hb dX12_isAbove_12 rfl (lv_at hl 0 rfl) ?_
  refine lv_dload_n hx hb dX12_isAbove_13 rfl (lv_at hl 0 rfl) ?_
  refine lv_dcmp hx hb dX12_isAbove_14 ?_
  refine lv_if_eq (tgt := 28) hx hb dX12_isAbove_15 (by decide) (fun c1 => ?_) (fun c1 => ?_)
  · have hf := jt c1 hf
    refine lv_iconst (v := (0 : Int32)) hx hb dX12_isAbove_28 (by decide) ?_
    exact jiretz (jr1 hf) E hM (by decide) dX12_isAbove_29
  · have hf := jf c1 hf
    refine lv_dload_n hx hb dX12_isAbove_18 rfl (lv_at hl 1 rfl) ?_
    refine lv_dload_n hx hb dX12_isAbove_19 rfl (lv_at hl 1 rfl) ?_
    refine lv_dcmp hx hb dX12_isAbove_20 ?_
    refine lv_if_ne (tgt := 28) hx hb dX12_isAbove_21 (by decide) (fun c2 => ?_) (fun c2 => ?_)
    · have hf := jf c2 hf
      refine lv_iconst (v := (0 : Int32)) hx hb dX12_isAbove_28 (by decide) ?_
      exact jiretz (jr1 hf) E hM (by decide) dX12_isAbove_29
    · have hf := jt c2 hf
      refine lv_iconst (v := (1 : Int32)) hx hb dX12_isAbove_24 (by decide) ?_
      refine lv_goto (tgt := 29) hx hb dX12_isAbove_25 (by decide) ?_
      exact jiretz (jr1 hf) E hM (by decide) dX12_isAbove_29
set_option maxRecDepth 100000 in
set_option maxHeartbeats 4000000 in
theorem B_X12_isAbove_0 {p : Program} {l : Launch} {e : Env} {s : State} {m : MethodId} {args : Array Value} {below : List Frame} {meth : Method} {c : Code} {g : jG} {rr : Int32} {S : jM} {v0 : UInt64} {v2 : UInt64} (E : jEnv p s m args meth c cX12_isAbove "PensionHouseModel" (some .boolean) 4 g)  {H : Heap} {locs : List Loc} {ls : Array Slot} (hf : f_X12_isAbove v0 v2 = some rr) (hM : jAt g S s H locs) (hl : lv_has ls 4 [(0, .double v0), (2, .double v2)]) : W p l e (jRm 2 0 0) s m args below meth c H locs 0 0 (MQ below (jQi g rr S) args s 0 0 (jA0 g)) (F0 m 0 ls []) := by
  obtain ⟨hx, hb, hml, -, hts, hown, hK, -, hstr⟩ := id E
  unfold f_X12_isAbove at hf
  refine lv_dload_n hx hb dX12_isAbove_0 rfl (lv_at hl 0 rfl) ?_
  refine lv_dload_n hx hb dX12_isAbove_1 rfl (lv_at hl 0 rfl) ?_
  refine lv_dcmp hx hb dX12_isAbove_2 ?_
  refine lv_if_ne (tgt := 12) hx hb dX12_isAbove_3 (by decide) (fun c3 => ?_) (fun c3 => ?_)
  · have hf := jf c3 hf
    exact B_X12_isAbove_12 E  hf hM (lv_sub hl [0, 1] rfl)
  · have hf := jt c3 hf
    refine lv_dload_n hx hb dX12_isAbove_6 rfl (lv_at hl 1 rfl) ?_
    refine lv_dload_n hx hb dX12_isAbove_7 rfl (lv_at hl 1 rfl) ?_
    refine lv_dcmp hx hb dX12_isAbove_8 ?_
    refine lv_if_eq (tgt := 30) hx hb dX12_isAbove_9 (by decide) (fun c4 => ?_) (fun c4 => ?_)
    · have hf := jt c4 hf
      refine lv_dload_n hx hb dX12_isAbove_30 rfl (lv_at hl 0 rfl) ?_
      refine lv_dload_n hx hb dX12_isAbove_31 rfl (lv_at hl 1 rfl) ?_
      refine lv_dcmp hx hb dX12_isAbove_32 ?_
      refine lv_if_gt (tgt := 56) hx hb dX12_isAbove_33 (by decide) (fun c5 => ?_) (fun c5 => ?_)
      · have hf := jt c5 hf
        exact B_X12_isAbove_56 E  hf hM (lv_sub hl [] rfl)
      · have hf := jf c5 hf
        refine lv_dload_n hx hb dX12_isAbove_36 rfl (lv_at hl 0 rfl) ?_
        refine lv_dload_n hx hb dX12_isAbove_37 rfl (lv_at hl 1 rfl) ?_
        refine lv_dcmp hx hb dX12_isAbove_38 ?_
        refine lv_if_ne (tgt := 60) hx hb dX12_isAbove_39 (by decide) (fun c6 => ?_) (fun c6 => ?_)
        · have hf := jf c6 hf
          refine lv_iconst (v := (0 : Int32)) hx hb dX12_isAbove_60 (by decide) ?_
          exact jiretz (jr1 hf) E hM (by decide) dX12_isAbove_61
        · have hf := jt c6 hf
          refine lv_dload_n hx hb dX12_isAbove_42 rfl (lv_at hl 1 rfl) ?_
          obtain ⟨x7, hc8, hf⟩ := jb hf
          refine jbackI hM (jrunS E hM ci_X12_isBelowZero (C_X12_isBelowZero hc8) lk_8_179 hl.1 rfl rfl (Nat.le_of_ble_eq_true rfl) ⟨Nat.le_of_ble_eq_true rfl, Nat.le_of_ble_eq_true rfl⟩ ⟨Nat.le_refl _, Nat.le_refl _⟩ dX12_isAbove_43) (fun H locs hM => ?_)
          refine lv_if_eq (tgt := 60) hx hb dX12_isAbove_46 (by decide) (fun c9 => ?_) (fun c9 => ?_)
          · have hf := jt c9 hf
            refine lv_iconst (v := (0 : Int32)) hx hb dX12_isAbove_60 (by decide) ?_
            exact jiretz (jr1 hf) E hM (by decide) dX12_isAbove_61
          · have hf := jf c9 hf
            refine lv_dload_n hx hb dX12_isAbove_49 rfl (lv_at hl 0 rfl) ?_
            obtain ⟨x10, hc11, hf⟩ := jb hf
            refine jbackI hM (jrunS E hM ci_X12_isBelowZero (C_X12_isBelowZero hc11) lk_8_179 hl.1 rfl rfl (Nat.le_of_ble_eq_true rfl) ⟨Nat.le_of_ble_eq_true rfl, Nat.le_of_ble_eq_true rfl⟩ ⟨Nat.le_refl _, Nat.le_refl _⟩ dX12_isAbove_50) (fun H locs hM => ?_)
            refine lv_if_ne (tgt := 60) hx hb dX12_isAbove_53 (by decide) (fun c12 => ?_) (fun c12 => ?_)
            · have hf := jf c12 hf
              refine lv_iconst (v := (0 : Int32)) hx hb dX12_isAbove_60 (by decide) ?_
              exact jiretz (jr1 hf) E hM (by decide) dX12_isAbove_61
            · have hf := jt c12 hf
              exact B_X12_isAbove_56 E  hf hM (lv_sub hl [] rfl)
    · have hf := jf c4 hf
      exact B_X12_isAbove_12 E  hf hM (lv_sub hl [0, 1] rfl)
set_option maxRecDepth 100000 in
theorem C_X12_isAbove {l : Launch} {g : jG} {a0 : UInt64} {a2 : UInt64} {S : jM} {rr : Int32} (hf : f_X12_isAbove a0 a2 = some rr) : jMet l g yX12_isAbove cX12_isAbove 4 (some .boolean) 2 0 0 [.double a0, .double a2] S (jQi g rr S) := by
  refine jof (by decide +kernel) (Nat.le_of_ble_eq_true rfl) ?_
  intro p e s m below meth c E hM ls hl
  have hl : lv_has ls 4 [(0, .double a0),(2, .double a2)] := hl
  exact B_X12_isAbove_0 E hf hM hl
-- PensionHouseModel.extreme(III)I  mode M
noncomputable def f_X12_extreme_178 (t0 : Nat) (t1 : Int64) (S : jM) : Option (Int32 × jM) := if jK t0 = 10 then jbd (f_X12_ofWhole t0 t1 S) (fun x1 S2 => some (x1, S2)) else none
noncomputable def f_X12_extreme_168 (v4 : Int64) (v6 : Int64) (t0 : Nat) (t1 : Int32) (t2 : Int32) (S : jM) : Option (Int32 × jM) := if t1 = t2 then f_X12_extreme_178 t0 v4 S else f_X12_extreme_178 t0 v6 S
noncomputable def f_X12_extreme_157 (v1 : Int32) (v4 : Int64) (v6 : Int64) (t0 : Nat) (t1 : Int32) (S : jM) : Option (Int32 × jM) := if v1 = (12 : Int32) then f_X12_extreme_168 v4 v6 t0 t1 (1 : Int32) S else f_X12_extreme_168 v4 v6 t0 t1 (0 : Int32) S
noncomputable def f_X12_extreme_117 (t0 : Nat) (t1 : UInt64) (S : jM) : Option (Int32 × jM) := if jK t0 = 10 then jbd (f_X12_ofReal t0 t1 S) (fun x7 S8 => some (x7, S8)) else none
noncomputable def f_X12_extreme_107 (v4 : UInt64) (v6 : UInt64) (t0 : Nat) (t1 : Int32) (t2 : Int32) (S : jM) : Option (Int32 × jM) := if t1 = t2 then f_X12_extreme_117 t0 v4 S else f_X12_extreme_117 t0 v6 S
noncomputable def f_X12_extreme_80 (v0 : Nat) (S : jM) : Option (Int32 × jM) := if jK v0 = 10 then jbd (f_X12_ofReal v0 (9221120237041090560 : UInt64) S) (fun x12 S13 => some (x12, S13)) else none
noncomputable def f_X12_extreme_50 (v0 : Nat) (v1 : Int32) (v2 : Int32) (v3 : Int32) (S : jM) : Option (Int32 × jM) := if jK v0 = 10 then (f_X12_asReal v0 v2 S).bind (fun x16 => (f_X12_asReal v0 v3 S).bind (fun x19 => if (Op.cmpValue (FP.dcmp x16 x16) .l) = 0 then if (Op.cmpValue (FP.dcmp x19 x19) .l) = 0 then (f_X12_isAbove x16 x19).bind (fun x23 => if v1 = (12 : Int32) then f_X12_extreme_107 x16 x19 v0 x23 (1 : Int32) S else f_X12_extreme_107 x16 x19 v0 x23 (0 : Int32) S) else f_X12_extreme_80 v0 S else f_X12_extreme_80 v0 S)) else none
noncomputable def f_X12_extreme_24 (v0 : Nat) (S : jM) : Option (Int32 × jM) := if jK v0 = 10 then jbd (f_X12_failing v0 (2 : Int32) S) (fun x26 S27 => some (x26, S27)) else none
noncomputable def f_X12_extreme (v0 : Nat) (v1 : Int32) (v2 : Int32) (v3 : Int32) (S : jM) : Option (Int32 × jM) := if jK v0 = 10 then (jR S 88 v0).bind (fun r31 => if jA r31 13 v2 = true then if (f_X12_isNumber (jAI S r31 (v2).toNatClampNeg)) = 0 then f_X12_extreme_24 v0 S else (jR S 88 v0).bind (fun r35 => if jA r35 13 v3 = true then if (f_X12_isNumber (jAI S r35 (v3).toNatClampNeg)) = 0 then f_X12_extreme_24 v0 S else (jR S 88 v0).bind (fun r39 => if jA r39 13 v2 = true then if (jAI S r39 (v2).toNatClampNeg) = (1 : Int32) then f_X12_extreme_50 v0 v1 v2 v3 S else (jR S 88 v0).bind (fun r43 => if jA r43 13 v3 = true then if (jAI S r43 (v3).toNatClampNeg) = (1 : Int32) then f_X12_extreme_50 v0 v1 v2 v3 S else (jR S 90 v0).bind (fun r47 => if jA r47 14 ((12 : Int32) * v2) = true then jlet (jAL S r47 ((12 : Int32) * v2).toNatClampNeg) (fun x50 => (jR S 90 v0).bind (fun r51 => if jA r51 14 ((12 : Int32) * v3) = true then jlet (jAL S r51 ((12 : Int32) * v3).toNatClampNeg) (fun x54 => if x50 ≤ x54 then f_X12_extreme_157 v1 x50 x54 v0 (0 : Int32) S else f_X12_extreme_157 v1 x50 x54 v0 (1 : Int32) S) else none)) else none) else none) else none) else none) else none) else none
set_option maxRecDepth 100000 in
set_option maxHeartbeats 4000000 in
theorem B_X12_extreme_178 {p : Program} {l : Launch} {e : Env} {s : State} {m : MethodId} {args : Array Value} {below : List Frame} {meth : Method} {c : Code} {g : jG} {rr : Int32} {SS : jM} {t0 : Nat} {t1 : Int64} {S : jM} (E : jEnv p s m args meth c cX12_extreme "PensionHouseModel" (some .int) 8 g)  {H : Heap} {locs : List Loc} {ls : Array Slot} (hf : f_X12_extreme_178 t0 t1 S = some (rr, SS)) (hM : jAt g S s H locs) (hl : lv_has ls 8 []) : W p l e (jRm 5 0 0) s m args below meth c H locs 0 0 (MQ below (jQi g rr SS) args s 0 0 (jA0 g)) (F0 m 178 ls [.long t1, .ref (g.2.2 + t0)]) := by
  obtain ⟨hx, hb, hml, -, hts, hown, hK, -, hstr⟩ := id E
  unfold f_X12_extreme_178 at hf
  obtain ⟨hq4, hf⟩ := jif hf
  obtain ⟨x1, S2, hc3, hf⟩ := jbd_e hf
  refine jbackI hM (jrunV E hM ci_X12_ofWhole (C_X12_ofWhole hc3) lk_8_91 hq4 (by decide) rfl hl.1 rfl rfl (Nat.le_of_ble_eq_true rfl) ⟨Nat.le_of_ble_eq_true rfl, Nat.le_of_ble_eq_true rfl⟩ ⟨Nat.le_refl _, Nat.le_refl _⟩ dX12_extreme_178) (fun H locs hM => ?_)
  exact jireti (jr2 hf) E hM dX12_extreme_181
set_option maxRecDepth 100000 in
set_option maxHeartbeats 4000000 in
theorem B_X12_extreme_168 {p : Program} {l : Launch} {e : Env} {s : State} {m : MethodId} {args : Array Value} {below : List Frame} {meth : Method} {c : Code} {g : jG} {rr : Int32} {SS : jM} {v4 : Int64} {v6 : Int64} {t0 : Nat} {t1 : Int32} {t2 : Int32} {S : jM} (E : jEnv p s m args meth c cX12_extreme "PensionHouseModel" (some .int) 8 g)  {H : Heap} {locs : List Loc} {ls : Array Slot} (hf : f_X12_extreme_168 v4 v6 t0 t1 t2 S = some (rr, SS)) (hM : jAt g S s H locs) (hl : lv_has ls 8 [(4, .long v4), (6, .long v6)]) : W p l e (jRm 5 0 0) s m args below meth c H locs 0 0 (MQ below (jQi g rr SS) args s 0 0 (jA0 g)) (F0 m 168 ls [.int t2, .int t1, .ref (g.2.2 + t0)]) := by
  obtain ⟨hx, hb, hml, -, hts, hown, hK, -, hstr⟩ := id E
  unfold f_X12_extreme_168 at hf
  refine lv_icmp_ne (tgt := 176) hx hb dX12_extreme_168 (by decide) (fun c5 => ?_) (fun c5 => ?_)
  · have hf := jf c5 hf
    refine lv_lload hx hb dX12_extreme_176 (lv_at hl 1 rfl) ?_
    exact B_X12_extreme_178 E  hf hM (lv_sub hl [] rfl)
  · have hf := jt c5 hf
    refine lv_lload hx hb dX12_extreme_171 (lv_at hl 0 rfl) ?_
    refine lv_goto (tgt := 178) hx hb dX12_extreme_173 (by decide) ?_
    exact B_X12_extreme_178 E  hf hM (lv_sub hl [] rfl)
set_option maxRecDepth 100000 in
set_option maxHeartbeats 4000000 in
theorem B_X12_extreme_157 {p : Program} {l : Launch} {e : Env} {s : State} {m : MethodId} {args : Array Value} {below : List Frame} {meth : Method} {c : Code} {g : jG} {rr : Int32} {SS : jM} {v1 : Int32} {v4 : Int64} {v6 : Int64} {t0 : Nat} {t1 : Int32} {S : jM} (E : jEnv p s m args meth c cX12_extreme "PensionHouseModel" (some .int) 8 g)  {H : Heap} {locs : List Loc} {ls : Array Slot} (hf : f_X12_extreme_157 v1 v4 v6 t0 t1 S = some (rr, SS)) (hM : jAt g S s H locs) (hl : lv_has ls 8 [(1, .int v1), (4, .long v4), (6, .long v6)]) : W p l e (jRm 5 0 0) s m args below meth c H locs 0 0 (MQ below (jQi g rr SS) args s 0 0 (jA0 g)) (F0 m 157 ls [.int t1, .ref (g.2.2 + t0)]) := by
  obtain ⟨hx, hb, hml, -, hts, hown, hK, -, hstr⟩ := id E
  unfold f_X12_extreme_157 at hf
  refine lv_iload_n hx hb dX12_extreme_157 rfl (lv_at hl 0 rfl) ?_
  refine lv_bipush (v := (12 : Int32)) hx hb dX12_extreme_158 (by decide) ?_
  refine lv_icmp_ne (tgt := 167) hx hb dX12_extreme_160 (by decide) (fun c6 => ?_) (fun c6 => ?_)
  · have hf := jf c6 hf
    refine lv_iconst (v := (0 : Int32)) hx hb dX12_extreme_167 (by decide) ?_
    exact B_X12_extreme_168 E  hf hM (lv_sub hl [1, 2] rfl)
  · have hf := jt c6 hf
    refine lv_iconst (v := (1 : Int32)) hx hb dX12_extreme_163 (by decide) ?_
    refine lv_goto (tgt := 168) hx hb dX12_extreme_164 (by decide) ?_
    exact B_X12_extreme_168 E  hf hM (lv_sub hl [1, 2] rfl)
set_option maxRecDepth 100000 in
set_option maxHeartbeats 4000000 in
theorem B_X12_extreme_117 {p : Program} {l : Launch} {e : Env} {s : State} {m : MethodId} {args : Array Value} {below : List Frame} {meth : Method} {c : Code} {g : jG} {rr : Int32} {SS : jM} {t0 : Nat} {t1 : UInt64} {S : jM} (E : jEnv p s m args meth c cX12_extreme "PensionHouseModel" (some .int) 8 g)  {H : Heap} {locs : List Loc} {ls : Array Slot} (hf : f_X12_extreme_117 t0 t1 S = some (rr, SS)) (hM : jAt g S s H locs) (hl : lv_has ls 8 []) : W p l e (jRm 5 0 0) s m args below meth c H locs 0 0 (MQ below (jQi g rr SS) args s 0 0 (jA0 g)) (F0 m 117 ls [.double t1, .ref (g.2.2 + t0)]) := by
  obtain ⟨hx, hb, hml, -, hts, hown, hK, -, hstr⟩ := id E
  unfold f_X12_extreme_117 at hf
  obtain ⟨hq10, hf⟩ := jif hf
  obtain ⟨x7, S8, hc9, hf⟩ := jbd_e hf
  refine jbackI hM (jrunV E hM ci_X12_ofReal (C_X12_ofReal hc9) lk_8_103 hq10 (by decide) rfl hl.1 rfl rfl (Nat.le_of_ble_eq_true rfl) ⟨Nat.le_of_ble_eq_true rfl, Nat.le_of_ble_eq_true rfl⟩ ⟨Nat.le_refl _, Nat.le_refl _⟩ dX12_extreme_117) (fun H locs hM => ?_)
  exact jireti (jr2 hf) E hM dX12_extreme_120
set_option maxRecDepth 100000 in
set_option maxHeartbeats 4000000 in
theorem B_X12_extreme_107 {p : Program} {l : Launch} {e : Env} {s : State} {m : MethodId} {args : Array Value} {below : List Frame} {meth : Method} {c : Code} {g : jG} {rr : Int32} {SS : jM} {v4 : UInt64} {v6 : UInt64} {t0 : Nat} {t1 : Int32} {t2 : Int32} {S : jM} (E : jEnv p s m args meth c cX12_extreme "PensionHouseModel" (some .int) 8 g)  {H : Heap} {locs : List Loc} {ls : Array Slot} (hf : f_X12_extreme_107 v4 v6 t0 t1 t2 S = some (rr, SS)) (hM : jAt g S s H locs) (hl : lv_has ls 8 [(4, .double v4), (6, .double v6)]) : W p l e (jRm 5 0 0) s m args below meth c H locs 0 0 (MQ below (jQi g rr SS) args s 0 0 (jA0 g)) (F0 m 107 ls [.int t2, .int t1, .ref (g.2.2 + t0)]) := by
  obtain ⟨hx, hb, hml, -, hts, hown, hK, -, hstr⟩ := id E
  unfold f_X12_extreme_107 at hf
  refine lv_icmp_ne (tgt := 115) hx hb dX12_extreme_107 (by decide) (fun c11 => ?_) (fun c11 => ?_)
  · have hf := jf c11 hf
    refine lv_dload hx hb dX12_extreme_115 (lv_at hl 1 rfl) ?_
    exact B_X12_extreme_117 E  hf hM (lv_sub hl [] rfl)
  · have hf := jt c11 hf
    refine lv_dload hx hb dX12_extreme_110 (lv_at hl 0 rfl) ?_
    refine lv_goto (tgt := 117) hx hb dX12_extreme_112 (by decide) ?_
    exact B_X12_extreme_117 E  hf hM (lv_sub hl [] rfl)
set_option maxRecDepth 100000 in
set_option maxHeartbeats 4000000 in
theorem B_X12_extreme_80 {p : Program} {l : Launch} {e : Env} {s : State} {m : MethodId} {args : Array Value} {below : List Frame} {meth : Method} {c : Code} {g : jG} {rr : Int32} {SS : jM} {v0 : Nat} {S : jM} (E : jEnv p s m args meth c cX12_extreme "PensionHouseModel" (some .int) 8 g)  {H : Heap} {locs : List Loc} {ls : Array Slot} (hf : f_X12_extreme_80 v0 S = some (rr, SS)) (hM : jAt g S s H locs) (hl : lv_has ls 8 [(0, .ref (g.2.2 + v0))]) : W p l e (jRm 5 0 0) s m args below meth c H locs 0 0 (MQ below (jQi g rr SS) args s 0 0 (jA0 g)) (F0 m 80 ls []) := by
  obtain ⟨hx, hb, hml, -, hts, hown, hK, -, hstr⟩ := id E
  unfold f_X12_extreme_80 at hf
  refine lv_aload_n hx hb dX12_extreme_80 rfl (lv_at hl 0 rfl) ?_
  refine lv_ldc2d (v := (9221120237041090560 : UInt64)) hx hb hown (hts _ lk_7_80) dX12_extreme_81 ?_
  obtain ⟨hq15, hf⟩ := jif hf
  obtain ⟨x12, S13, hc14, hf⟩ := jbd_e hf
  refine jbackI hM (jrunV E hM ci_X12_ofReal (C_X12_ofReal hc14) lk_8_103 hq15 (by decide) rfl hl.1 rfl rfl (Nat.le_of_ble_eq_true rfl) ⟨Nat.le_of_ble_eq_true rfl, Nat.le_of_ble_eq_true rfl⟩ ⟨Nat.le_refl _, Nat.le_refl _⟩ dX12_extreme_84) (fun H locs hM => ?_)
  exact jireti (jr2 hf) E hM dX12_extreme_87
set_option maxRecDepth 100000 in
set_option maxHeartbeats 4000000 in
theorem B_X12_extreme_50 {p : Program} {l : Launch} {e : Env} {s : State} {m : MethodId} {args : Array Value} {below : List Frame} {meth : Method} {c : Code} {g : jG} {rr : Int32} {SS : jM} {v0 : Nat} {v1 : Int32} {v2 : Int32} {v3 : Int32} {S : jM} (E : jEnv p s m args meth c cX12_extreme "PensionHouseModel" (some .int) 8 g)  {H : Heap} {locs : List Loc} {ls : Array Slot} (hf : f_X12_extreme_50 v0 v1 v2 v3 S = some (rr, SS)) (hM : jAt g S s H locs) (hl : lv_has ls 8 [(0, .ref (g.2.2 + v0)), (1, .int v1), (2, .int v2), (3, .int v3)]) : W p l e (jRm 5 0 0) s m args below meth c H locs 0 0 (MQ below (jQi g rr SS) args s 0 0 (jA0 g)) (F0 m 50 ls []) := by
  obtain ⟨hx, hb, hml, -, hts, hown, hK, -, hstr⟩ := id E
  unfold f_X12_extreme_50 at hf
  refine lv_aload_n hx hb dX12_extreme_50 rfl (lv_at hl 0 rfl) ?_
  refine lv_iload_n hx hb dX12_extreme_51 rfl (lv_at hl 2 rfl) ?_
  obtain ⟨hq18, hf⟩ := jif hf
  obtain ⟨x16, hc17, hf⟩ := jb hf
  refine jbackD hM (jrunV E hM ci_X12_asReal (C_X12_asReal hc17) lk_8_134 hq18 (by decide) rfl hl.1 rfl rfl (Nat.le_of_ble_eq_true rfl) ⟨Nat.le_of_ble_eq_true rfl, Nat.le_of_ble_eq_true rfl⟩ ⟨Nat.le_refl _, Nat.le_refl _⟩ dX12_extreme_52) (fun H locs hM => ?_)
  refine lv_dstore (lv' := [(4, .double x16), (0, .ref (g.2.2 + v0)), (1, .int v1), (2, .int v2), (3, .int v3)]) hx hb dX12_extreme_55 hl (by decide) rfl (fun ls hl => ?_)
  refine lv_aload_n hx hb dX12_extreme_57 rfl (lv_at hl 1 rfl) ?_
  refine lv_iload_n hx hb dX12_extreme_58 rfl (lv_at hl 4 rfl) ?_
  obtain ⟨x19, hc20, hf⟩ := jb hf
  refine jbackD hM (jrunV E hM ci_X12_asReal (C_X12_asReal hc20) lk_8_134 hq18 (by decide) rfl hl.1 rfl rfl (Nat.le_of_ble_eq_true rfl) ⟨Nat.le_of_ble_eq_true rfl, Nat.le_of_ble_eq_true rfl⟩ ⟨Nat.le_refl _, Nat.le_refl _⟩ dX12_extreme_59) (fun H locs hM => ?_)
  refine lv_dstore (lv' := [(6, .double x19), (4, .double x16), (0, .ref (g.2.2 + v0)), (1, .int v1), (2, .int v2), (3, .int v3)]) hx hb dX12_extreme_62 hl (by decide) rfl (fun ls hl => ?_)
  refine lv_dload hx hb dX12_extreme_64 (lv_at hl 1 rfl) ?_
  refine lv_dload hx hb dX12_extreme_66 (lv_at hl 1 rfl) ?_
  refine lv_dcmp hx hb dX12_extreme_68 ?_
  refine lv_if_ne (tgt := 80) hx hb dX12_extreme_69 (by decide) (fun c21 => ?_) (fun c21 => ?_)
  · have hf := jf c21 hf
    exact B_X12_extreme_80 E  hf hM (lv_sub hl [2] rfl)
  · have hf := jt c21 hf
    refine lv_dload hx hb dX12_extreme_72 (lv_at hl 0 rfl) ?_
    refine lv_dload hx hb dX12_extreme_74 (lv_at hl 0 rfl) ?_
    refine lv_dcmp hx hb dX12_extreme_76 ?_
    refine lv_if_eq (tgt := 88) hx hb dX12_extreme_77 (by decide) (fun c22 => ?_) (fun c22 => ?_)
    · have hf := jt c22 hf
      refine lv_aload_n hx hb dX12_extreme_88 rfl (lv_at hl 2 rfl) ?_
      refine lv_dload hx hb dX12_extreme_89 (lv_at hl 1 rfl) ?_
      refine lv_dload hx hb dX12_extreme_91 (lv_at hl 0 rfl) ?_
      obtain ⟨x23, hc24, hf⟩ := jb hf
      refine jbackI hM (jrunS E hM ci_X12_isAbove (C_X12_isAbove hc24) lk_8_176 hl.1 rfl rfl (Nat.le_of_ble_eq_true rfl) ⟨Nat.le_of_ble_eq_true rfl, Nat.le_of_ble_eq_true rfl⟩ ⟨Nat.le_refl _, Nat.le_refl _⟩ dX12_extreme_93) (fun H locs hM => ?_)
      refine lv_iload_n hx hb dX12_extreme_96 rfl (lv_at hl 3 rfl) ?_
      refine lv_bipush (v := (12 : Int32)) hx hb dX12_extreme_97 (by decide) ?_
      refine lv_icmp_ne (tgt := 106) hx hb dX12_extreme_99 (by decide) (fun c25 => ?_) (fun c25 => ?_)
      · have hf := jf c25 hf
        refine lv_iconst (v := (0 : Int32)) hx hb dX12_extreme_106 (by decide) ?_
        exact B_X12_extreme_107 E  hf hM (lv_sub hl [1, 0] rfl)
      · have hf := jt c25 hf
        refine lv_iconst (v := (1 : Int32)) hx hb dX12_extreme_102 (by decide) ?_
        refine lv_goto (tgt := 107) hx hb dX12_extreme_103 (by decide) ?_
        exact B_X12_extreme_107 E  hf hM (lv_sub hl [1, 0] rfl)
    · have hf := jf c22 hf
      exact B_X12_extreme_80 E  hf hM (lv_sub hl [2] rfl)
set_option maxRecDepth 100000 in
set_option maxHeartbeats 4000000 in
theorem B_X12_extreme_24 {p : Program} {l : Launch} {e : Env} {s : State} {m : MethodId} {args : Array Value} {below : List Frame} {meth : Method} {c : Code} {g : jG} {rr : Int32} {SS : jM} {v0 : Nat} {S : jM} (E : jEnv p s m args meth c cX12_extreme "PensionHouseModel" (some .int) 8 g)  {H : Heap} {locs : List Loc} {ls : Array Slot} (hf : f_X12_extreme_24 v0 S = some (rr, SS)) (hM : jAt g S s H locs) (hl : lv_has ls 8 [(0, .ref (g.2.2 + v0))]) : W p l e (jRm 5 0 0) s m args below meth c H locs 0 0 (MQ below (jQi g rr SS) args s 0 0 (jA0 g)) (F0 m 24 ls []) := by
  obtain ⟨hx, hb, hml, -, hts, hown, hK, -, hstr⟩ := id E
  unfold f_X12_extreme_24 at hf
  refine lv_aload_n hx hb dX12_extreme_24 rfl (lv_at hl 0 rfl) ?_
  refine lv_iconst (v := (2 : Int32)) hx hb dX12_extreme_25 (by decide) ?_
  obtain ⟨hq29, hf⟩ := jif hf
  obtain ⟨x26, S27, hc28, hf⟩ := jbd_e hf
  refine jbackI hM (jrunV E hM ci_X12_failing (C_X12_failing hc28) lk_8_87 hq29 (by decide) rfl hl.1 rfl rfl (Nat.le_of_ble_eq_true rfl) ⟨Nat.le_of_ble_eq_true rfl, Nat.le_of_ble_eq_true rfl⟩ ⟨Nat.le_refl _, Nat.le_refl _⟩ dX12_extreme_26) (fun H locs hM => ?_)
  exact jireti (jr2 hf) E hM dX12_extreme_29
set_option maxRecDepth 100000 in
set_option maxHeartbeats 4000000 in
theorem B_X12_extreme_0 {p : Program} {l : Launch} {e : Env} {s : State} {m : MethodId} {args : Array Value} {below : List Frame} {meth : Method} {c : Code} {g : jG} {rr : Int32} {SS : jM} {v0 : Nat} {v1 : Int32} {v2 : Int32} {v3 : Int32} {S : jM} (E : jEnv p s m args meth c cX12_extreme "PensionHouseModel" (some .int) 8 g)  {H : Heap} {locs : List Loc} {ls : Array Slot} (hf : f_X12_extreme v0 v1 v2 v3 S = some (rr, SS)) (hM : jAt g S s H locs) (hl : lv_has ls 8 [(0, .ref (g.2.2 + v0)), (1, .int v1), (2, .int v2), (3, .int v3)]) : W p l e (jRm 5 0 0) s m args below meth c H locs 0 0 (MQ below (jQi g rr SS) args s 0 0 (jA0 g)) (F0 m 0 ls []) := by
  obtain ⟨hx, hb, hml, -, hts, hown, hK, -, hstr⟩ := id E
  unfold f_X12_extreme at hf
  refine lv_aload_n hx hb dX12_extreme_0 rfl (lv_at hl 0 rfl) ?_
  obtain ⟨hq30, hf⟩ := jif hf
  refine gt_88 E hM hq30 lk_6_2 dX12_extreme_1 ?_
  obtain ⟨r31, hr32, hf⟩ := jb hf
  rw [hr32]
  show W p l e _ s m args below meth c H locs 0 0 _ (F0 m _ ls (.ref (g.2.2 + r31) :: _))
  refine lv_iload_n hx hb dX12_extreme_4 rfl (lv_at hl 2 rfl) ?_
  obtain ⟨ha33, hf⟩ := jif hf
  refine jiald E hM ha33 dX12_extreme_5 ?_
  refine jbackI hM (jrunS E hM ci_X12_isNumber (C_X12_isNumber rfl) lk_8_115 hl.1 rfl rfl (Nat.le_of_ble_eq_true rfl) ⟨Nat.le_of_ble_eq_true rfl, Nat.le_of_ble_eq_true rfl⟩ ⟨Nat.le_refl _, Nat.le_refl _⟩ dX12_extreme_6) (fun H locs hM => ?_)
  refine lv_if_eq (tgt := 24) hx hb dX12_extreme_9 (by decide) (fun c34 => ?_) (fun c34 => ?_)
  · have hf := jt c34 hf
    exact B_X12_extreme_24 E  hf hM (lv_sub hl [0] rfl)
  · have hf := jf c34 hf
    refine lv_aload_n hx hb dX12_extreme_12 rfl (lv_at hl 0 rfl) ?_
    refine gt_88 E hM hq30 lk_6_2 dX12_extreme_13 ?_
    obtain ⟨r35, hr36, hf⟩ := jb hf
    rw [hr36]
    show W p l e _ s m args below meth c H locs 0 0 _ (F0 m _ ls (.ref (g.2.2 + r35) :: _))
    refine lv_iload_n hx hb dX12_extreme_16 rfl (lv_at hl 3 rfl) ?_
    obtain ⟨ha37, hf⟩ := jif hf
    refine jiald E hM ha37 dX12_extreme_17 ?_
    refine jbackI hM (jrunS E hM ci_X12_isNumber (C_X12_isNumber rfl) lk_8_115 hl.1 rfl rfl (Nat.le_of_ble_eq_true rfl) ⟨Nat.le_of_ble_eq_true rfl, Nat.le_of_ble_eq_true rfl⟩ ⟨Nat.le_refl _, Nat.le_refl _⟩ dX12_extreme_18) (fun H locs hM => ?_)
    refine lv_if_ne (tgt := 30) hx hb dX12_extreme_21 (by decide) (fun c38 => ?_) (fun c38 => ?_)
    · have hf := jf c38 hf
      refine lv_aload_n hx hb dX12_extreme_30 rfl (lv_at hl 0 rfl) ?_
      refine gt_88 E hM hq30 lk_6_2 dX12_extreme_31 ?_
      obtain ⟨r39, hr40, hf⟩ := jb hf
      rw [hr40]
      show W p l e _ s m args below meth c H locs 0 0 _ (F0 m _ ls (.ref (g.2.2 + r39) :: _))
      refine lv_iload_n hx hb dX12_extreme_34 rfl (lv_at hl 2 rfl) ?_
      obtain ⟨ha41, hf⟩ := jif hf
      refine jiald E hM ha41 dX12_extreme_35 ?_
      refine lv_iconst (v := (1 : Int32)) hx hb dX12_extreme_36 (by decide) ?_
      refine lv_icmp_eq (tgt := 50) hx hb dX12_extreme_37 (by decide) (fun c42 => ?_) (fun c42 => ?_)
      · have hf := jt c42 hf
        exact B_X12_extreme_50 E  hf hM (lv_sub hl [0, 1, 2, 3] rfl)
      · have hf := jf c42 hf
        refine lv_aload_n hx hb dX12_extreme_40 rfl (lv_at hl 0 rfl) ?_
        refine gt_88 E hM hq30 lk_6_2 dX12_extreme_41 ?_
        obtain ⟨r43, hr44, hf⟩ := jb hf
        rw [hr44]
        show W p l e _ s m args below meth c H locs 0 0 _ (F0 m _ ls (.ref (g.2.2 + r43) :: _))
        refine lv_iload_n hx hb dX12_extreme_44 rfl (lv_at hl 3 rfl) ?_
        obtain ⟨ha45, hf⟩ := jif hf
        refine jiald E hM ha45 dX12_extreme_45 ?_
        refine lv_iconst (v := (1 : Int32)) hx hb dX12_extreme_46 (by decide) ?_
        refine lv_icmp_ne (tgt := 121) hx hb dX12_extreme_47 (by decide) (fun c46 => ?_) (fun c46 => ?_)
        · have hf := jf c46 hf
          refine lv_aload_n hx hb dX12_extreme_121 rfl (lv_at hl 0 rfl) ?_
          refine gt_90 E hM hq30 lk_6_4 dX12_extreme_122 ?_
          obtain ⟨r47, hr48, hf⟩ := jb hf
          rw [hr48]
          show W p l e _ s m args below meth c H locs 0 0 _ (F0 m _ ls (.ref (g.2.2 + r47) :: _))
          refine lv_bipush (v := (12 : Int32)) hx hb dX12_extreme_125 (by decide) ?_
          refine lv_iload_n hx hb dX12_extreme_127 rfl (lv_at hl 2 rfl) ?_
          refine lv_imul hx hb dX12_extreme_128 ?_
          obtain ⟨ha49, hf⟩ := jif hf
          refine jlald E hM ha49 dX12_extreme_129 ?_
          refine lv_topl (fun x50 ex50 => ?_)
          have hf := jlet_y ex50 hf
          refine lv_lstore (lv' := [(4, .long x50), (0, .ref (g.2.2 + v0)), (1, .int v1), (2, .int v2), (3, .int v3)]) hx hb dX12_extreme_130 hl (by decide) rfl (fun ls hl => ?_)
          refine lv_aload_n hx hb dX12_extreme_132 rfl (lv_at hl 1 rfl) ?_
          refine gt_90 E hM hq30 lk_6_4 dX12_extreme_133 ?_
          obtain ⟨r51, hr52, hf⟩ := jb hf
          rw [hr52]
          show W p l e _ s m args below meth c H locs 0 0 _ (F0 m _ ls (.ref (g.2.2 + r51) :: _))
          refine lv_bipush (v := (12 : Int32)) hx hb dX12_extreme_136 (by decide) ?_
          refine lv_iload_n hx hb dX12_extreme_138 rfl (lv_at hl 4 rfl) ?_
          refine lv_imul hx hb dX12_extreme_139 ?_
          obtain ⟨ha53, hf⟩ := jif hf
          refine jlald E hM ha53 dX12_extreme_140 ?_
          refine lv_topl (fun x54 ex54 => ?_)
          have hf := jlet_y ex54 hf
          refine lv_lstore (lv' := [(6, .long x54), (4, .long x50), (0, .ref (g.2.2 + v0)), (1, .int v1), (2, .int v2), (3, .int v3)]) hx hb dX12_extreme_141 hl (by decide) rfl (fun ls hl => ?_)
          refine lv_aload_n hx hb dX12_extreme_143 rfl (lv_at hl 2 rfl) ?_
          refine lv_lload hx hb dX12_extreme_144 (lv_at hl 1 rfl) ?_
          refine lv_lload hx hb dX12_extreme_146 (lv_at hl 0 rfl) ?_
          refine jl_le (tgt := 156) hx hb dX12_extreme_148 dX12_extreme_149 (by decide) (fun c55 => ?_) (fun c55 => ?_)
          · have hf := jt c55 hf
            refine lv_iconst (v := (0 : Int32)) hx hb dX12_extreme_156 (by decide) ?_
            exact B_X12_extreme_157 E  hf hM (lv_sub hl [3, 1, 0] rfl)
          · have hf := jf c55 hf
            refine lv_iconst (v := (1 : Int32)) hx hb dX12_extreme_152 (by decide) ?_
            refine lv_goto (tgt := 157) hx hb dX12_extreme_153 (by decide) ?_
            exact B_X12_extreme_157 E  hf hM (lv_sub hl [3, 1, 0] rfl)
        · have hf := jt c46 hf
          exact B_X12_extreme_50 E  hf hM (lv_sub hl [0, 1, 2, 3] rfl)
    · have hf := jt c38 hf
      exact B_X12_extreme_24 E  hf hM (lv_sub hl [0] rfl)
set_option maxRecDepth 100000 in
theorem C_X12_extreme {l : Launch} {g : jG} {a0 : Nat} {a1 : Int32} {a2 : Int32} {a3 : Int32} {S : jM} {rr : Int32} {SS : jM} (hf : f_X12_extreme a0 a1 a2 a3 S = some (rr, SS)) : jMet l g yX12_extreme cX12_extreme 8 (some .int) 5 0 0 [.ref (g.2.2 + a0), .int a1, .int a2, .int a3] S (jQi g rr SS) := by
  refine jof (by decide +kernel) (Nat.le_of_ble_eq_true rfl) ?_
  intro p e s m below meth c E hM ls hl
  have hl : lv_has ls 8 [(0, .ref (g.2.2 + a0)),(1, .int a1),(2, .int a2),(3, .int a3)] := hl
  exact B_X12_extreme_0 E hf hM hl
-- PensionHouseModel.put(IIIII)V  mode M
noncomputable def f_X12_put_3 : Nat → Nat → Int32 → Int32 → Int32 → Int32 → Int32 → Int32 → jM → Option jM
  | 0, _, _, _, _, _, _, _, _ => none
  | n + 1, v0, v1, v2, v3, v4, v5, v6, S => if v5 ≤ v6 then some S else if jK v0 = 10 then (jR S 90 v0).bind (fun r3 => (jR S 90 v0).bind (fun r5 => if jA r5 14 ((((12 : Int32) * v3) + v4) + v6) = true then if jA r3 14 ((((12 : Int32) * v1) + v2) + v6) = true then jlet (jrL S r3 (vp_updL (jAL S r3) ((((12 : Int32) * v1) + v2) + v6).toNatClampNeg (jAL S r5 ((((12 : Int32) * v3) + v4) + v6).toNatClampNeg))) (fun S9 => (jR S9 91 v0).bind (fun r10 => (jR S9 91 v0).bind (fun r12 => if jA r12 12 ((((12 : Int32) * v3) + v4) + v6) = true then if jA r10 12 ((((12 : Int32) * v1) + v2) + v6) = true then jlet (jrD S9 r10 (vf_upd (jAD S9 r10) ((((12 : Int32) * v1) + v2) + v6).toNatClampNeg (jAD S9 r12 ((((12 : Int32) * v3) + v4) + v6).toNatClampNeg))) (fun S16 => jlet (v6 + (1 : Int32)) (fun x17 => (f_X12_put_3 n) v0 v1 v2 v3 v4 v5 x17 S16)) else none else none))) else none else none)) else none
noncomputable def f_X12_put (v0 : Nat) (v1 : Int32) (v2 : Int32) (v3 : Int32) (v4 : Int32) (v5 : Int32) (S : jM) : Option jM := f_X12_put_3 1100000 v0 v1 v2 v3 v4 v5 (0 : Int32) S
set_option maxRecDepth 100000 in
set_option maxHeartbeats 4000000 in
theorem B_X12_put_3 {p : Program} {l : Launch} {e : Env} {s : State} {m : MethodId} {args : Array Value} {below : List Frame} {meth : Method} {c : Code} {g : jG} {SS : jM} (E : jEnv p s m args meth c cX12_put "PensionHouseModel" none 7 g)  : ∀ (n : Nat) (v0 : Nat) (v1 : Int32) (v2 : Int32) (v3 : Int32) (v4 : Int32) (v5 : Int32) (v6 : Int32) (S : jM) (H : Heap) (locs : List Loc) (ls : Array Slot), f_X12_put_3 n v0 v1 v2 v3 v4 v5 v6 S = some SS → jAt g S s H locs → lv_has ls 7 [(0, .ref (g.2.2 + v0)), (1, .int v1), (2, .int v2), (3, .int v3), (4, .int v4), (5, .int v5), (6, .int v6)] → W p l e (jRm 1 0 0) s m args below meth c H locs 0 0 (MQ below (jQv g SS) args s 0 0 (jA0 g)) (F0 m 3 ls []) := by
  obtain ⟨hx, hb, hml, -, hts, hown, hK, -, hstr⟩ := id E
  intro n
  induction n with
  | zero => intro v0 v1 v2 v3 v4 v5 v6 S H locs ls hf hM hl; rw [f_X12_put_3] at hf; cases hf
  | succ n ih =>
    intro v0 v1 v2 v3 v4 v5 v6 S H locs ls hf hM hl
    rw [f_X12_put_3] at hf
    refine lv_iload hx hb dX12_put_3 (lv_at hl 6 rfl) ?_
    refine lv_iload hx hb dX12_put_5 (lv_at hl 5 rfl) ?_
    refine lv_icmp_ge (tgt := 74) hx hb dX12_put_7 (by decide) (fun c1 => ?_) (fun c1 => ?_)
    · have hf := jt c1 hf
      exact jvret (jrv hf) E hM dX12_put_74
    · have hf := jf c1 hf
      refine lv_aload_n hx hb dX12_put_10 rfl (lv_at hl 0 rfl) ?_
      obtain ⟨hq2, hf⟩ := jif hf
      refine gt_90 E hM hq2 lk_6_4 dX12_put_11 ?_
      obtain ⟨r3, hr4, hf⟩ := jb hf
      rw [hr4]
      show W p l e _ s m args below meth c H locs 0 0 _ (F0 m _ ls (.ref (g.2.2 + r3) :: _))
      refine lv_bipush (v := (12 : Int32)) hx hb dX12_put_14 (by decide) ?_
      refine lv_iload_n hx hb dX12_put_16 rfl (lv_at hl 1 rfl) ?_
      refine lv_imul hx hb dX12_put_17 ?_
      refine lv_iload_n hx hb dX12_put_18 rfl (lv_at hl 2 rfl) ?_
      refine lv_iadd hx hb dX12_put_19 ?_
      refine lv_iload hx hb dX12_put_20 (lv_at hl 6 rfl) ?_
      refine lv_iadd hx hb dX12_put_22 ?_
      refine lv_aload_n hx hb dX12_put_23 rfl (lv_at hl 0 rfl) ?_
      refine gt_90 E hM hq2 lk_6_4 dX12_put_24 ?_
      obtain ⟨r5, hr6, hf⟩ := jb hf
      rw [hr6]
      show W p l e _ s m args below meth c H locs 0 0 _ (F0 m _ ls (.ref (g.2.2 + r5) :: _))
      refine lv_bipush (v := (12 : Int32)) hx hb dX12_put_27 (by decide) ?_
      refine lv_iload_n hx hb dX12_put_29 rfl (lv_at hl 3 rfl) ?_
      refine lv_imul hx hb dX12_put_30 ?_
      refine lv_iload hx hb dX12_put_31 (lv_at hl 4 rfl) ?_
      refine lv_iadd hx hb dX12_put_33 ?_
      refine lv_iload hx hb dX12_put_34 (lv_at hl 6 rfl) ?_
      refine lv_iadd hx hb dX12_put_36 ?_
      obtain ⟨ha7, hf⟩ := jif hf
      refine jlald E hM ha7 dX12_put_37 ?_
      obtain ⟨ha8, hf⟩ := jif hf
      refine jlast E hM ha8 dX12_put_38 (fun H locs S9 eS9 hM => ?_)
      have hf := jlet_y eS9 hf
      refine lv_aload_n hx hb dX12_put_39 rfl (lv_at hl 0 rfl) ?_
      refine gt_91 E hM hq2 lk_6_5 dX12_put_40 ?_
      obtain ⟨r10, hr11, hf⟩ := jb hf
      rw [hr11]
      show W p l e _ s m args below meth c H locs 0 0 _ (F0 m _ ls (.ref (g.2.2 + r10) :: _))
      refine lv_bipush (v := (12 : Int32)) hx hb dX12_put_43 (by decide) ?_
      refine lv_iload_n hx hb dX12_put_45 rfl (lv_at hl 1 rfl) ?_
      refine lv_imul hx hb dX12_put_46 ?_
      refine lv_iload_n hx hb dX12_put_47 rfl (lv_at hl 2 rfl) ?_
      refine lv_iadd hx hb dX12_put_48 ?_
      refine lv_iload hx hb dX12_put_49 (lv_at hl 6 rfl) ?_
      refine lv_iadd hx hb dX12_put_51 ?_
      refine lv_aload_n hx hb dX12_put_52 rfl (lv_at hl 0 rfl) ?_
      refine gt_91 E hM hq2 lk_6_5 dX12_put_53 ?_
      obtain ⟨r12, hr13, hf⟩ := jb hf
      rw [hr13]
      show W p l e _ s m args below meth c H locs 0 0 _ (F0 m _ ls (.ref (g.2.2 + r12) :: _))
      refine lv_bipush (v := (12 : Int32)) hx hb dX12_put_56 (by decide) ?_
      refine lv_iload_n hx hb dX12_put_58 rfl (lv_at hl 3 rfl) ?_
      refine lv_imul hx hb dX12_put_59 ?_
      refine lv_iload hx hb dX12_put_60 (lv_at hl 4 rfl) ?_
      refine lv_iadd hx hb dX12_put_62 ?_
      refine lv_iload hx hb dX12_put_63 (lv_at hl 6 rfl) ?_
      refine lv_iadd hx hb dX12_put_65 ?_
      obtain ⟨ha14, hf⟩ := jif hf
      refine jdald E hM ha14 dX12_put_66 ?_
      obtain ⟨ha15, hf⟩ := jif hf
      refine jdast E hM ha15 dX12_put_67 (fun H locs S16 eS16 hM => ?_)
      have hf := jlet_y eS16 hf
      obtain ⟨x17, ex17⟩ : ∃ z, z = v6 + (1 : Int32) := ⟨_, rfl⟩
      have hf := jlet_y ex17 hf
      refine lv_iinc (v := x17) (lv' := [(6, .int x17), (0, .ref (g.2.2 + v0)), (1, .int v1), (2, .int v2), (3, .int v3), (4, .int v4), (5, .int v5)]) hx hb dX12_put_68 hl (k := 6) rfl (by rw [ex17]; rfl) (by decide) rfl (fun ls hl => ?_)
      refine lv_goto (tgt := 3) hx hb dX12_put_71 (by decide) ?_
      exact ih v0 v1 v2 v3 v4 v5 x17 S16 _ _ _ hf hM (lv_sub hl [1, 2, 3, 4, 5, 6, 0] rfl)
set_option maxRecDepth 100000 in
set_option maxHeartbeats 4000000 in
theorem B_X12_put_0 {p : Program} {l : Launch} {e : Env} {s : State} {m : MethodId} {args : Array Value} {below : List Frame} {meth : Method} {c : Code} {g : jG} {SS : jM} {v0 : Nat} {v1 : Int32} {v2 : Int32} {v3 : Int32} {v4 : Int32} {v5 : Int32} {S : jM} (E : jEnv p s m args meth c cX12_put "PensionHouseModel" none 7 g)  {H : Heap} {locs : List Loc} {ls : Array Slot} (hf : f_X12_put v0 v1 v2 v3 v4 v5 S = some SS) (hM : jAt g S s H locs) (hl : lv_has ls 7 [(0, .ref (g.2.2 + v0)), (1, .int v1), (2, .int v2), (3, .int v3), (4, .int v4), (5, .int v5)]) : W p l e (jRm 1 0 0) s m args below meth c H locs 0 0 (MQ below (jQv g SS) args s 0 0 (jA0 g)) (F0 m 0 ls []) := by
  obtain ⟨hx, hb, hml, -, hts, hown, hK, -, hstr⟩ := id E
  unfold f_X12_put at hf
  refine lv_iconst (v := (0 : Int32)) hx hb dX12_put_0 (by decide) ?_
  refine lv_istore (lv' := [(6, .int (0 : Int32)), (0, .ref (g.2.2 + v0)), (1, .int v1), (2, .int v2), (3, .int v3), (4, .int v4), (5, .int v5)]) hx hb dX12_put_1 hl (by decide) rfl (fun ls hl => ?_)
  exact B_X12_put_3 E  1100000 v0 v1 v2 v3 v4 v5 (0 : Int32) S _ _ _ hf hM (lv_sub hl [1, 2, 3, 4, 5, 6, 0] rfl)
set_option maxRecDepth 100000 in
theorem C_X12_put {l : Launch} {g : jG} {a0 : Nat} {a1 : Int32} {a2 : Int32} {a3 : Int32} {a4 : Int32} {a5 : Int32} {S : jM} {SS : jM} (hf : f_X12_put a0 a1 a2 a3 a4 a5 S = some SS) : jMet l g yX12_put cX12_put 7 none 1 0 0 [.ref (g.2.2 + a0), .int a1, .int a2, .int a3, .int a4, .int a5] S (jQv g SS) := by
  refine jof (by decide +kernel) (Nat.le_of_ble_eq_true rfl) ?_
  intro p e s m below meth c E hM ls hl
  have hl : lv_has ls 7 [(0, .ref (g.2.2 + a0)),(1, .int a1),(2, .int a2),(3, .int a3),(4, .int a4),(5, .int a5)] := hl
  exact B_X12_put_0 E hf hM hl
-- PensionHouseModel.last(II)I  mode M
noncomputable def f_X12_last_21 (v0 : Nat) (S : jM) : Option (Int32 × jM) := if jK v0 = 10 then jbd (f_X12_failing v0 (2 : Int32) S) (fun x1 S2 => some (x1, S2)) else none
noncomputable def f_X12_last (v0 : Nat) (v1 : Int32) (v2 : Int32) (S : jM) : Option (Int32 × jM) := if jK v0 = 10 then (jR S 88 v0).bind (fun r6 => if jA r6 13 v1 = true then if (f_X12_isRow (jAI S r6 (v1).toNatClampNeg)) = 0 then f_X12_last_21 v0 S else (jR S 88 v0).bind (fun r10 => if jA r10 13 v2 = true then if (jAI S r10 (v2).toNatClampNeg) = 0 then (jR S 90 v0).bind (fun r14 => if jA r14 14 ((12 : Int32) * v2) = true then jlet (jAL S r14 ((12 : Int32) * v2).toNatClampNeg) (fun x17 => if (0 : Int64) ≤ x17 then (jR S 89 v0).bind (fun r19 => if jA r19 13 v1 = true then if x17 ≤ ((jAI S r19 (v1).toNatClampNeg).toInt64) then (jR S 88 v0).bind (fun r23 => if jA r23 13 v1 = true then jbd (f_X12_made v0 (jAI S r23 (v1).toNatClampNeg) (x17.toInt32) S) (fun x26 S27 => (jR S27 89 v0).bind (fun r29 => if jA r29 13 v1 = true then (f_X12_put v0 x26 (0 : Int32) v1 ((jAI S27 r29 (v1).toNatClampNeg) - (x17.toInt32)) (x17.toInt32) S27).bind (fun S32 => some (x26, S32)) else none)) else none) else jbd (f_X12_failing v0 (3 : Int32) S) (fun x34 S35 => some (x34, S35)) else none) else jbd (f_X12_failing v0 (4 : Int32) S) (fun x37 S38 => some (x37, S38))) else none) else f_X12_last_21 v0 S else none) else none) else none
set_option maxRecDepth 100000 in
set_option maxHeartbeats 4000000 in
theorem B_X12_last_21 {p : Program} {l : Launch} {e : Env} {s : State} {m : MethodId} {args : Array Value} {below : List Frame} {meth : Method} {c : Code} {g : jG} {rr : Int32} {SS : jM} {v0 : Nat} {S : jM} (E : jEnv p s m args meth c cX12_last "PensionHouseModel" (some .int) 6 g)  {H : Heap} {locs : List Loc} {ls : Array Slot} (hf : f_X12_last_21 v0 S = some (rr, SS)) (hM : jAt g S s H locs) (hl : lv_has ls 6 [(0, .ref (g.2.2 + v0))]) : W p l e (jRm 4 0 0) s m args below meth c H locs 0 0 (MQ below (jQi g rr SS) args s 0 0 (jA0 g)) (F0 m 21 ls []) := by
  obtain ⟨hx, hb, hml, -, hts, hown, hK, -, hstr⟩ := id E
  unfold f_X12_last_21 at hf
  refine lv_aload_n hx hb dX12_last_21 rfl (lv_at hl 0 rfl) ?_
  refine lv_iconst (v := (2 : Int32)) hx hb dX12_last_22 (by decide) ?_
  obtain ⟨hq4, hf⟩ := jif hf
  obtain ⟨x1, S2, hc3, hf⟩ := jbd_e hf
  refine jbackI hM (jrunV E hM ci_X12_failing (C_X12_failing hc3) lk_8_87 hq4 (by decide) rfl hl.1 rfl rfl (Nat.le_of_ble_eq_true rfl) ⟨Nat.le_of_ble_eq_true rfl, Nat.le_of_ble_eq_true rfl⟩ ⟨Nat.le_refl _, Nat.le_refl _⟩ dX12_last_23) (fun H locs hM => ?_)
  exact jireti (jr2 hf) E hM dX12_last_26
set_option maxRecDepth 100000 in
set_option maxHeartbeats 4000000 in
theorem B_X12_last_0 {p : Program} {l : Launch} {e : Env} {s : State} {m : MethodId} {args : Array Value} {below : List Frame} {meth : Method} {c : Code} {g : jG} {rr : Int32} {SS : jM} {v0 : Nat} {v1 : Int32} {v2 : Int32} {S : jM} (E : jEnv p s m args meth c cX12_last "PensionHouseModel" (some .int) 6 g)  {H : Heap} {locs : List Loc} {ls : Array Slot} (hf : f_X12_last v0 v1 v2 S = some (rr, SS)) (hM : jAt g S s H locs) (hl : lv_has ls 6 [(0, .ref (g.2.2 + v0)), (1, .int v1), (2, .int v2)]) : W p l e (jRm 4 0 0) s m args below meth c H locs 0 0 (MQ below (jQi g rr SS) args s 0 0 (jA0 g)) (F0 m 0 ls []) := by
  obtain ⟨hx, hb, hml, -, hts, hown, hK, -, hstr⟩ := id E
  unfold f_X12_last at hf
  refine lv_aload_n hx hb dX12_last_0 rfl (lv_at hl 0 rfl) ?_
  obtain ⟨hq5, hf⟩ := jif hf
  refine gt_88 E hM hq5 lk_6_2 dX12_last_1 ?_
  obtain ⟨r6, hr7, hf⟩ := jb hf
  rw [hr7]
  show W p l e _ s m args below meth c H locs 0 0 _ (F0 m _ ls (.ref (g.2.2 + r6) :: _))
  refine lv_iload_n hx hb dX12_last_4 rfl (lv_at hl 1 rfl) ?_
  obtain ⟨ha8, hf⟩ := jif hf
  refine jiald E hM ha8 dX12_last_5 ?_
  refine jbackI hM (jrunS E hM ci_X12_isRow (C_X12_isRow rfl) lk_7_100 hl.1 rfl rfl (Nat.le_of_ble_eq_true rfl) ⟨Nat.le_of_ble_eq_true rfl, Nat.le_of_ble_eq_true rfl⟩ ⟨Nat.le_refl _, Nat.le_refl _⟩ dX12_last_6) (fun H locs hM => ?_)
  refine lv_if_eq (tgt := 21) hx hb dX12_last_9 (by decide) (fun c9 => ?_) (fun c9 => ?_)
  · have hf := jt c9 hf
    exact B_X12_last_21 E  hf hM (lv_sub hl [0] rfl)
  · have hf := jf c9 hf
    refine lv_aload_n hx hb dX12_last_12 rfl (lv_at hl 0 rfl) ?_
    refine gt_88 E hM hq5 lk_6_2 dX12_last_13 ?_
    obtain ⟨r10, hr11, hf⟩ := jb hf
    rw [hr11]
    show W p l e _ s m args below meth c H locs 0 0 _ (F0 m _ ls (.ref (g.2.2 + r10) :: _))
    refine lv_iload_n hx hb dX12_last_16 rfl (lv_at hl 2 rfl) ?_
    obtain ⟨ha12, hf⟩ := jif hf
    refine jiald E hM ha12 dX12_last_17 ?_
    refine lv_if_eq (tgt := 27) hx hb dX12_last_18 (by decide) (fun c13 => ?_) (fun c13 => ?_)
    · have hf := jt c13 hf
      refine lv_aload_n hx hb dX12_last_27 rfl (lv_at hl 0 rfl) ?_
      refine gt_90 E hM hq5 lk_6_4 dX12_last_28 ?_
      obtain ⟨r14, hr15, hf⟩ := jb hf
      rw [hr15]
      show W p l e _ s m args below meth c H locs 0 0 _ (F0 m _ ls (.ref (g.2.2 + r14) :: _))
      refine lv_bipush (v := (12 : Int32)) hx hb dX12_last_31 (by decide) ?_
      refine lv_iload_n hx hb dX12_last_33 rfl (lv_at hl 2 rfl) ?_
      refine lv_imul hx hb dX12_last_34 ?_
      obtain ⟨ha16, hf⟩ := jif hf
      refine jlald E hM ha16 dX12_last_35 ?_
      refine lv_topl (fun x17 ex17 => ?_)
      have hf := jlet_y ex17 hf
      refine lv_lstore_n (lv' := [(3, .long x17), (0, .ref (g.2.2 + v0)), (1, .int v1), (2, .int v2)]) hx hb dX12_last_36 rfl hl (by decide) rfl (fun ls hl => ?_)
      refine lv_lload_n hx hb dX12_last_37 rfl (lv_at hl 0 rfl) ?_
      refine lv_lconst (v := (0 : Int64)) hx hb dX12_last_38 (by decide) ?_
      refine jl_ge (tgt := 49) hx hb dX12_last_39 dX12_last_40 (by decide) (fun c18 => ?_) (fun c18 => ?_)
      · have hf := jt c18 hf
        refine lv_lload_n hx hb dX12_last_49 rfl (lv_at hl 0 rfl) ?_
        refine lv_aload_n hx hb dX12_last_50 rfl (lv_at hl 1 rfl) ?_
        refine gt_89 E hM hq5 lk_6_3 dX12_last_51 ?_
        obtain ⟨r19, hr20, hf⟩ := jb hf
        rw [hr20]
        show W p l e _ s m args below meth c H locs 0 0 _ (F0 m _ ls (.ref (g.2.2 + r19) :: _))
        refine lv_iload_n hx hb dX12_last_54 rfl (lv_at hl 2 rfl) ?_
        obtain ⟨ha21, hf⟩ := jif hf
        refine jiald E hM ha21 dX12_last_55 ?_
        refine lv_i2l hx hb dX12_last_56 rfl ?_
        refine jl_le (tgt := 67) hx hb dX12_last_57 dX12_last_58 (by decide) (fun c22 => ?_) (fun c22 => ?_)
        · have hf := jt c22 hf
          refine lv_aload_n hx hb dX12_last_67 rfl (lv_at hl 1 rfl) ?_
          refine lv_aload_n hx hb dX12_last_68 rfl (lv_at hl 1 rfl) ?_
          refine gt_88 E hM hq5 lk_6_2 dX12_last_69 ?_
          obtain ⟨r23, hr24, hf⟩ := jb hf
          rw [hr24]
          show W p l e _ s m args below meth c H locs 0 0 _ (F0 m _ ls (.ref (g.2.2 + r23) :: _))
          refine lv_iload_n hx hb dX12_last_72 rfl (lv_at hl 2 rfl) ?_
          obtain ⟨ha25, hf⟩ := jif hf
          refine jiald E hM ha25 dX12_last_73 ?_
          refine lv_lload_n hx hb dX12_last_74 rfl (lv_at hl 0 rfl) ?_
          refine lv_l2i hx hb dX12_last_75 rfl ?_
          obtain ⟨x26, S27, hc28, hf⟩ := jbd_e hf
          refine jbackI hM (jrunV E hM ci_X12_made (C_X12_made hc28) lk_8_95 hq5 (by decide) rfl hl.1 rfl rfl (Nat.le_of_ble_eq_true rfl) ⟨Nat.le_of_ble_eq_true rfl, Nat.le_of_ble_eq_true rfl⟩ ⟨Nat.le_refl _, Nat.le_refl _⟩ dX12_last_76) (fun H locs hM => ?_)
          refine lv_istore (lv' := [(5, .int x26), (3, .long x17), (0, .ref (g.2.2 + v0)), (1, .int v1), (2, .int v2)]) hx hb dX12_last_79 hl (by decide) rfl (fun ls hl => ?_)
          refine lv_aload_n hx hb dX12_last_81 rfl (lv_at hl 2 rfl) ?_
          refine lv_iload hx hb dX12_last_82 (lv_at hl 0 rfl) ?_
          refine lv_iconst (v := (0 : Int32)) hx hb dX12_last_84 (by decide) ?_
          refine lv_iload_n hx hb dX12_last_85 rfl (lv_at hl 3 rfl) ?_
          refine lv_aload_n hx hb dX12_last_86 rfl (lv_at hl 2 rfl) ?_
          refine gt_89 E hM hq5 lk_6_3 dX12_last_87 ?_
          obtain ⟨r29, hr30, hf⟩ := jb hf
          rw [hr30]
          show W p l e _ s m args below meth c H locs 0 0 _ (F0 m _ ls (.ref (g.2.2 + r29) :: _))
          refine lv_iload_n hx hb dX12_last_90 rfl (lv_at hl 3 rfl) ?_
          obtain ⟨ha31, hf⟩ := jif hf
          refine jiald E hM ha31 dX12_last_91 ?_
          refine lv_lload_n hx hb dX12_last_92 rfl (lv_at hl 1 rfl) ?_
          refine lv_l2i hx hb dX12_last_93 rfl ?_
          refine lv_isub hx hb dX12_last_94 ?_
          refine lv_lload_n hx hb dX12_last_95 rfl (lv_at hl 1 rfl) ?_
          refine lv_l2i hx hb dX12_last_96 rfl ?_
          obtain ⟨S32, hc33, hf⟩ := jb hf
          refine jbackV hM (jrunV E hM ci_X12_put (C_X12_put hc33) lk_8_186 hq5 (by decide) rfl hl.1 rfl rfl (Nat.le_of_ble_eq_true rfl) ⟨Nat.le_of_ble_eq_true rfl, Nat.le_of_ble_eq_true rfl⟩ ⟨Nat.le_refl _, Nat.le_refl _⟩ dX12_last_97) (fun H locs hM => ?_)
          refine lv_iload hx hb dX12_last_100 (lv_at hl 0 rfl) ?_
          exact jireti (jr2 hf) E hM dX12_last_102
        · have hf := jf c22 hf
          refine lv_aload_n hx hb dX12_last_61 rfl (lv_at hl 1 rfl) ?_
          refine lv_iconst (v := (3 : Int32)) hx hb dX12_last_62 (by decide) ?_
          obtain ⟨x34, S35, hc36, hf⟩ := jbd_e hf
          refine jbackI hM (jrunV E hM ci_X12_failing (C_X12_failing hc36) lk_8_87 hq5 (by decide) rfl hl.1 rfl rfl (Nat.le_of_ble_eq_true rfl) ⟨Nat.le_of_ble_eq_true rfl, Nat.le_of_ble_eq_true rfl⟩ ⟨Nat.le_refl _, Nat.le_refl _⟩ dX12_last_63) (fun H locs hM => ?_)
          exact jireti (jr2 hf) E hM dX12_last_66
      · have hf := jf c18 hf
        refine lv_aload_n hx hb dX12_last_43 rfl (lv_at hl 1 rfl) ?_
        refine lv_iconst (v := (4 : Int32)) hx hb dX12_last_44 (by decide) ?_
        obtain ⟨x37, S38, hc39, hf⟩ := jbd_e hf
        refine jbackI hM (jrunV E hM ci_X12_failing (C_X12_failing hc39) lk_8_87 hq5 (by decide) rfl hl.1 rfl rfl (Nat.le_of_ble_eq_true rfl) ⟨Nat.le_of_ble_eq_true rfl, Nat.le_of_ble_eq_true rfl⟩ ⟨Nat.le_refl _, Nat.le_refl _⟩ dX12_last_45) (fun H locs hM => ?_)
        exact jireti (jr2 hf) E hM dX12_last_48
    · have hf := jf c13 hf
      exact B_X12_last_21 E  hf hM (lv_sub hl [0] rfl)
set_option maxRecDepth 100000 in
theorem C_X12_last {l : Launch} {g : jG} {a0 : Nat} {a1 : Int32} {a2 : Int32} {S : jM} {rr : Int32} {SS : jM} (hf : f_X12_last a0 a1 a2 S = some (rr, SS)) : jMet l g yX12_last cX12_last 6 (some .int) 4 0 0 [.ref (g.2.2 + a0), .int a1, .int a2] S (jQi g rr SS) := by
  refine jof (by decide +kernel) (Nat.le_of_ble_eq_true rfl) ?_
  intro p e s m below meth c E hM ls hl
  have hl : lv_has ls 6 [(0, .ref (g.2.2 + a0)),(1, .int a1),(2, .int a2)] := hl
  exact B_X12_last_0 E hf hM hl
-- PensionHouseModel.belongs(JI)Z  mode R
noncomputable def f_X12_belongs_32 (S : jM) : Option Int32 := some (1 : Int32)
noncomputable def f_X12_belongs_29 (t0 : Int32) (t1 : Int32) (S : jM) : Option Int32 := if t0 = t1 then f_X12_belongs_32 S else some (0 : Int32)
noncomputable def f_X12_belongs (v0 : Nat) (v1 : Int64) (v3 : Int32) (S : jM) : Option Int32 := if v1 < (0 : Int64) then f_X12_belongs_32 S else if v3 = (5 : Int32) then f_X12_belongs_32 S else if jK v0 = 10 then (jR S 136 v0).bind (fun r5 => if jA r5 15 (v1.toInt32) = true then if v3 = (6 : Int32) then f_X12_belongs_29 (jAI S r5 (v1.toInt32).toNatClampNeg) (1 : Int32) S else f_X12_belongs_29 (jAI S r5 (v1.toInt32).toNatClampNeg) (0 : Int32) S else none) else none
set_option maxRecDepth 100000 in
set_option maxHeartbeats 4000000 in
theorem B_X12_belongs_32 {p : Program} {l : Launch} {e : Env} {s : State} {m : MethodId} {args : Array Value} {below : List Frame} {meth : Method} {c : Code} {g : jG} {rr : Int32} {S : jM} (E : jEnv p s m args meth c cX12_belongs "PensionHouseModel" (some .boolean) 4 g)  {H : Heap} {locs : List Loc} {ls : Array Slot} (hf : f_X12_belongs_32 S = some rr) (hM : jAt g S s H locs) (hl : lv_has ls 4 []) : W p l e (jRm 1 0 0) s m args below meth c H locs 0 0 (MQ below (jQi g rr S) args s 0 0 (jA0 g)) (F0 m 32 ls []) := by
  obtain ⟨hx, hb, hml, -, hts, hown, hK, -, hstr⟩ := id E
  unfold f_X12_belongs_32 at hf
  refine lv_iconst (v := (1 : Int32)) hx hb dX12_belongs_32 (by decide) ?_
  refine lv_goto (tgt := 37) hx hb dX12_belongs_33 (by decide) ?_
  exact jiretz (jr1 hf) E hM (by decide) dX12_belongs_37
set_option maxRecDepth 100000 in
set_option maxHeartbeats 4000000 in
theorem B_X12_belongs_29 {p : Program} {l : Launch} {e : Env} {s : State} {m : MethodId} {args : Array Value} {below : List Frame} {meth : Method} {c : Code} {g : jG} {rr : Int32} {S : jM} {t0 : Int32} {t1 : Int32} (E : jEnv p s m args meth c cX12_belongs "PensionHouseModel" (some .boolean) 4 g)  {H : Heap} {locs : List Loc} {ls : Array Slot} (hf : f_X12_belongs_29 t0 t1 S = some rr) (hM : jAt g S s H locs) (hl : lv_has ls 4 []) : W p l e (jRm 1 0 0) s m args below meth c H locs 0 0 (MQ below (jQi g rr S) args s 0 0 (jA0 g)) (F0 m 29 ls [.int t1, .int t0]) := by
  obtain ⟨hx, hb, hml, -, hts, hown, hK, -, hstr⟩ := id E
  unfold f_X12_belongs_29 at hf
  refine lv_icmp_ne (tgt := 36) hx hb dX12_belongs_29 (by decide) (fun c1 => ?_) (fun c1 => ?_)
  · have hf := jf c1 hf
    refine lv_iconst (v := (0 : Int32)) hx hb dX12_belongs_36 (by decide) ?_
    exact jiretz (jr1 hf) E hM (by decide) dX12_belongs_37
  · have hf := jt c1 hf
    exact B_X12_belongs_32 E  hf hM (lv_sub hl [] rfl)
set_option maxRecDepth 100000 in
set_option maxHeartbeats 4000000 in
theorem B_X12_belongs_0 {p : Program} {l : Launch} {e : Env} {s : State} {m : MethodId} {args : Array Value} {below : List Frame} {meth : Method} {c : Code} {g : jG} {rr : Int32} {S : jM} {v0 : Nat} {v1 : Int64} {v3 : Int32} (E : jEnv p s m args meth c cX12_belongs "PensionHouseModel" (some .boolean) 4 g)  {H : Heap} {locs : List Loc} {ls : Array Slot} (hf : f_X12_belongs v0 v1 v3 S = some rr) (hM : jAt g S s H locs) (hl : lv_has ls 4 [(0, .ref (g.2.2 + v0)), (1, .long v1), (3, .int v3)]) : W p l e (jRm 1 0 0) s m args below meth c H locs 0 0 (MQ below (jQi g rr S) args s 0 0 (jA0 g)) (F0 m 0 ls []) := by
  obtain ⟨hx, hb, hml, -, hts, hown, hK, -, hstr⟩ := id E
  unfold f_X12_belongs at hf
  refine lv_lload_n hx hb dX12_belongs_0 rfl (lv_at hl 1 rfl) ?_
  refine lv_lconst (v := (0 : Int64)) hx hb dX12_belongs_1 (by decide) ?_
  refine jl_lt (tgt := 32) hx hb dX12_belongs_2 dX12_belongs_3 (by decide) (fun c2 => ?_) (fun c2 => ?_)
  · have hf := jt c2 hf
    exact B_X12_belongs_32 E  hf hM (lv_sub hl [] rfl)
  · have hf := jf c2 hf
    refine lv_iload_n hx hb dX12_belongs_6 rfl (lv_at hl 2 rfl) ?_
    refine lv_iconst (v := (5 : Int32)) hx hb dX12_belongs_7 (by decide) ?_
    refine lv_icmp_eq (tgt := 32) hx hb dX12_belongs_8 (by decide) (fun c3 => ?_) (fun c3 => ?_)
    · have hf := jt c3 hf
      exact B_X12_belongs_32 E  hf hM (lv_sub hl [] rfl)
    · have hf := jf c3 hf
      refine lv_aload_n hx hb dX12_belongs_11 rfl (lv_at hl 0 rfl) ?_
      obtain ⟨hq4, hf⟩ := jif hf
      refine gt_136 E hM hq4 lk_6_50 dX12_belongs_12 ?_
      obtain ⟨r5, hr6, hf⟩ := jb hf
      rw [hr6]
      show W p l e _ s m args below meth c H locs 0 0 _ (F0 m _ ls (.ref (g.2.2 + r5) :: _))
      refine lv_lload_n hx hb dX12_belongs_15 rfl (lv_at hl 1 rfl) ?_
      refine lv_l2i hx hb dX12_belongs_16 rfl ?_
      obtain ⟨ha7, hf⟩ := jif hf
      refine jzald E hM ha7 dX12_belongs_17 ?_
      refine lv_iload_n hx hb dX12_belongs_18 rfl (lv_at hl 2 rfl) ?_
      refine lv_bipush (v := (6 : Int32)) hx hb dX12_belongs_19 (by decide) ?_
      refine lv_icmp_ne (tgt := 28) hx hb dX12_belongs_21 (by decide) (fun c8 => ?_) (fun c8 => ?_)
      · have hf := jf c8 hf
        refine lv_iconst (v := (0 : Int32)) hx hb dX12_belongs_28 (by decide) ?_
        exact B_X12_belongs_29 E  hf hM (lv_sub hl [] rfl)
      · have hf := jt c8 hf
        refine lv_iconst (v := (1 : Int32)) hx hb dX12_belongs_24 (by decide) ?_
        refine lv_goto (tgt := 29) hx hb dX12_belongs_25 (by decide) ?_
        exact B_X12_belongs_29 E  hf hM (lv_sub hl [] rfl)
set_option maxRecDepth 100000 in
theorem C_X12_belongs {l : Launch} {g : jG} {a0 : Nat} {a1 : Int64} {a3 : Int32} {S : jM} {rr : Int32} (hf : f_X12_belongs a0 a1 a3 S = some rr) : jMet l g yX12_belongs cX12_belongs 4 (some .boolean) 1 0 0 [.ref (g.2.2 + a0), .long a1, .int a3] S (jQi g rr S) := by
  refine jof (by decide +kernel) (Nat.le_of_ble_eq_true rfl) ?_
  intro p e s m below meth c E hM ls hl
  have hl : lv_has ls 4 [(0, .ref (g.2.2 + a0)),(1, .long a1),(3, .int a3)] := hl
  exact B_X12_belongs_0 E hf hM hl
-- PensionHouseModel.join(II)I  mode M
noncomputable def f_X12_join_159 (v0 : Nat) (v1 : Int32) (v2 : Int32) (S : jM) : Option (Int32 × jM) := if jK v0 = 10 then (jR S 88 v0).bind (fun r2 => if jA r2 13 v1 = true then (jR S 89 v0).bind (fun r5 => if jA r5 13 v1 = true then (jR S 89 v0).bind (fun r8 => if jA r8 13 v2 = true then jbd (f_X12_made v0 (jAI S r2 (v1).toNatClampNeg) ((jAI S r5 (v1).toNatClampNeg) + (jAI S r8 (v2).toNatClampNeg)) S) (fun x11 S12 => (jR S12 89 v0).bind (fun r14 => if jA r14 13 v1 = true then (f_X12_put v0 x11 (0 : Int32) v1 (0 : Int32) (jAI S12 r14 (v1).toNatClampNeg) S12).bind (fun S17 => (jR S17 89 v0).bind (fun r19 => if jA r19 13 v1 = true then (jR S17 89 v0).bind (fun r22 => if jA r22 13 v2 = true then (f_X12_put v0 x11 (jAI S17 r19 (v1).toNatClampNeg) v2 (0 : Int32) (jAI S17 r22 (v2).toNatClampNeg) S17).bind (fun S25 => some (x11, S25)) else none) else none)) else none)) else none) else none) else none) else none
noncomputable def f_X12_join_101 : Nat → Nat → Int32 → Int32 → Int32 → jM → Option (Int32 × jM)
  | 0, _, _, _, _, _ => none
  | n + 1, v0, v1, v2, v3, S => if jK v0 = 10 then (jR S 89 v0).bind (fun r28 => if jA r28 13 v2 = true then if (jAI S r28 (v2).toNatClampNeg) ≤ v3 then f_X12_join_159 v0 v1 v2 S else (jR S 88 v0).bind (fun r32 => if jA r32 13 v1 = true then if (f_X12_isKin (jAI S r32 (v1).toNatClampNeg)) = 0 then f_X12_join_159 v0 v1 v2 S else (jR S 90 v0).bind (fun r36 => if jA r36 14 (((12 : Int32) * v2) + v3) = true then (jR S 88 v0).bind (fun r39 => if jA r39 13 v1 = true then (f_X12_belongs v0 (jAL S r36 (((12 : Int32) * v2) + v3).toNatClampNeg) (jAI S r39 (v1).toNatClampNeg) S).bind (fun x42 => if x42 = 0 then jbd (f_X12_failing v0 (5 : Int32) S) (fun x46 S47 => some (x46, S47)) else jlet (v3 + (1 : Int32)) (fun x45 => (f_X12_join_101 n) v0 v1 v2 x45 S)) else none) else none) else none) else none) else none
noncomputable def f_X12_join_99 (v0 : Nat) (v1 : Int32) (v2 : Int32) (S : jM) : Option (Int32 × jM) := f_X12_join_101 1100000 v0 v1 v2 (0 : Int32) S
noncomputable def f_X12_join_93 (v0 : Nat) (S : jM) : Option (Int32 × jM) := if jK v0 = 10 then jbd (f_X12_failing v0 (5 : Int32) S) (fun x49 S50 => some (x49, S50)) else none
noncomputable def f_X12_join_24 (v0 : Nat) (S : jM) : Option (Int32 × jM) := if jK v0 = 10 then jbd (f_X12_failing v0 (2 : Int32) S) (fun x53 S54 => some (x53, S54)) else none
noncomputable def f_X12_join (v0 : Nat) (v1 : Int32) (v2 : Int32) (S : jM) : Option (Int32 × jM) := if jK v0 = 10 then (jR S 88 v0).bind (fun r58 => if jA r58 13 v1 = true then if (f_X12_isRow (jAI S r58 (v1).toNatClampNeg)) = 0 then f_X12_join_24 v0 S else (jR S 88 v0).bind (fun r62 => if jA r62 13 v2 = true then if (f_X12_isRow (jAI S r62 (v2).toNatClampNeg)) = 0 then f_X12_join_24 v0 S else (jR S 89 v0).bind (fun r66 => if jA r66 13 v1 = true then (jR S 89 v0).bind (fun r69 => if jA r69 13 v2 = true then if ((jAI S r66 (v1).toNatClampNeg) + (jAI S r69 (v2).toNatClampNeg)) ≤ (12 : Int32) then (jR S 88 v0).bind (fun r73 => if jA r73 13 v1 = true then (jR S 88 v0).bind (fun r76 => if jA r76 13 v2 = true then if (jAI S r73 (v1).toNatClampNeg) = (jAI S r76 (v2).toNatClampNeg) then f_X12_join_99 v0 v1 v2 S else (jR S 88 v0).bind (fun r80 => if jA r80 13 v1 = true then if (f_X12_isKin (jAI S r80 (v1).toNatClampNeg)) = 0 then f_X12_join_93 v0 S else (jR S 88 v0).bind (fun r84 => if jA r84 13 v2 = true then if (f_X12_isKin (jAI S r84 (v2).toNatClampNeg)) = 0 then f_X12_join_93 v0 S else f_X12_join_99 v0 v1 v2 S else none) else none) else none) else none) else jbd (f_X12_failing v0 (4 : Int32) S) (fun x88 S89 => some (x88, S89)) else none) else none) else none) else none) else none
set_option maxRecDepth 100000 in
set_option maxHeartbeats 4000000 in
theorem B_X12_join_159 {p : Program} {l : Launch} {e : Env} {s : State} {m : MethodId} {args : Array Value} {below : List Frame} {meth : Method} {c : Code} {g : jG} {rr : Int32} {SS : jM} {v0 : Nat} {v1 : Int32} {v2 : Int32} {S : jM} (E : jEnv p s m args meth c cX12_join "PensionHouseModel" (some .int) 4 g)  {H : Heap} {locs : List Loc} {ls : Array Slot} (hf : f_X12_join_159 v0 v1 v2 S = some (rr, SS)) (hM : jAt g S s H locs) (hl : lv_has ls 4 [(0, .ref (g.2.2 + v0)), (1, .int v1), (2, .int v2)]) : W p l e (jRm 4 0 0) s m args below meth c H locs 0 0 (MQ below (jQi g rr SS) args s 0 0 (jA0 g)) (F0 m 159 ls []) := by
  obtain ⟨hx, hb, hml, -, hts, hown, hK, -, hstr⟩ := id E
  unfold f_X12_join_159 at hf
  refine lv_aload_n hx hb dX12_join_159 rfl (lv_at hl 0 rfl) ?_
  refine lv_aload_n hx hb dX12_join_160 rfl (lv_at hl 0 rfl) ?_
  obtain ⟨hq1, hf⟩ := jif hf
  refine gt_88 E hM hq1 lk_6_2 dX12_join_161 ?_
  obtain ⟨r2, hr3, hf⟩ := jb hf
  rw [hr3]
  show W p l e _ s m args below meth c H locs 0 0 _ (F0 m _ ls (.ref (g.2.2 + r2) :: _))
  refine lv_iload_n hx hb dX12_join_164 rfl (lv_at hl 1 rfl) ?_
  obtain ⟨ha4, hf⟩ := jif hf
  refine jiald E hM ha4 dX12_join_165 ?_
  refine lv_aload_n hx hb dX12_join_166 rfl (lv_at hl 0 rfl) ?_
  refine gt_89 E hM hq1 lk_6_3 dX12_join_167 ?_
  obtain ⟨r5, hr6, hf⟩ := jb hf
  rw [hr6]
  show W p l e _ s m args below meth c H locs 0 0 _ (F0 m _ ls (.ref (g.2.2 + r5) :: _))
  refine lv_iload_n hx hb dX12_join_170 rfl (lv_at hl 1 rfl) ?_
  obtain ⟨ha7, hf⟩ := jif hf
  refine jiald E hM ha7 dX12_join_171 ?_
  refine lv_aload_n hx hb dX12_join_172 rfl (lv_at hl 0 rfl) ?_
  refine gt_89 E hM hq1 lk_6_3 dX12_join_173 ?_
  obtain ⟨r8, hr9, hf⟩ := jb hf
  rw [hr9]
  show W p l e _ s m args below meth c H locs 0 0 _ (F0 m _ ls (.ref (g.2.2 + r8) :: _))
  refine lv_iload_n hx hb dX12_join_176 rfl (lv_at hl 2 rfl) ?_
  obtain ⟨ha10, hf⟩ := jif hf
  refine jiald E hM ha10 dX12_join_177 ?_
  refine lv_iadd hx hb dX12_join_178 ?_
  obtain ⟨x11, S12, hc13, hf⟩ := jbd_e hf
  refine jbackI hM (jrunV E hM ci_X12_made (C_X12_made hc13) lk_8_95 hq1 (by decide) rfl hl.1 rfl rfl (Nat.le_of_ble_eq_true rfl) ⟨Nat.le_of_ble_eq_true rfl, Nat.le_of_ble_eq_true rfl⟩ ⟨Nat.le_refl _, Nat.le_refl _⟩ dX12_join_179) (fun H locs hM => ?_)
  refine lv_istore_n (lv' := [(3, .int x11), (0, .ref (g.2.2 + v0)), (1, .int v1), (2, .int v2)]) hx hb dX12_join_182 rfl hl (by decide) rfl (fun ls hl => ?_)
  refine lv_aload_n hx hb dX12_join_183 rfl (lv_at hl 1 rfl) ?_
  refine lv_iload_n hx hb dX12_join_184 rfl (lv_at hl 0 rfl) ?_
  refine lv_iconst (v := (0 : Int32)) hx hb dX12_join_185 (by decide) ?_
  refine lv_iload_n hx hb dX12_join_186 rfl (lv_at hl 2 rfl) ?_
  refine lv_iconst (v := (0 : Int32)) hx hb dX12_join_187 (by decide) ?_
  refine lv_aload_n hx hb dX12_join_188 rfl (lv_at hl 1 rfl) ?_
  refine gt_89 E hM hq1 lk_6_3 dX12_join_189 ?_
  obtain ⟨r14, hr15, hf⟩ := jb hf
  rw [hr15]
  show W p l e _ s m args below meth c H locs 0 0 _ (F0 m _ ls (.ref (g.2.2 + r14) :: _))
  refine lv_iload_n hx hb dX12_join_192 rfl (lv_at hl 2 rfl) ?_
  obtain ⟨ha16, hf⟩ := jif hf
  refine jiald E hM ha16 dX12_join_193 ?_
  obtain ⟨S17, hc18, hf⟩ := jb hf
  refine jbackV hM (jrunV E hM ci_X12_put (C_X12_put hc18) lk_8_186 hq1 (by decide) rfl hl.1 rfl rfl (Nat.le_of_ble_eq_true rfl) ⟨Nat.le_of_ble_eq_true rfl, Nat.le_of_ble_eq_true rfl⟩ ⟨Nat.le_refl _, Nat.le_refl _⟩ dX12_join_194) (fun H locs hM => ?_)
  refine lv_aload_n hx hb dX12_join_197 rfl (lv_at hl 1 rfl) ?_
  refine lv_iload_n hx hb dX12_join_198 rfl (lv_at hl 0 rfl) ?_
  refine lv_aload_n hx hb dX12_join_199 rfl (lv_at hl 1 rfl) ?_
  refine gt_89 E hM hq1 lk_6_3 dX12_join_200 ?_
  obtain ⟨r19, hr20, hf⟩ := jb hf
  rw [hr20]
  show W p l e _ s m args below meth c H locs 0 0 _ (F0 m _ ls (.ref (g.2.2 + r19) :: _))
  refine lv_iload_n hx hb dX12_join_203 rfl (lv_at hl 2 rfl) ?_
  obtain ⟨ha21, hf⟩ := jif hf
  refine jiald E hM ha21 dX12_join_204 ?_
  refine lv_iload_n hx hb dX12_join_205 rfl (lv_at hl 3 rfl) ?_
  refine lv_iconst (v := (0 : Int32)) hx hb dX12_join_206 (by decide) ?_
  refine lv_aload_n hx hb dX12_join_207 rfl (lv_at hl 1 rfl) ?_
  refine gt_89 E hM hq1 lk_6_3 dX12_join_208 ?_
  obtain ⟨r22, hr23, hf⟩ := jb hf
  rw [hr23]
  show W p l e _ s m args below meth c H locs 0 0 _ (F0 m _ ls (.ref (g.2.2 + r22) :: _))
  refine lv_iload_n hx hb dX12_join_211 rfl (lv_at hl 3 rfl) ?_
  obtain ⟨ha24, hf⟩ := jif hf
  refine jiald E hM ha24 dX12_join_212 ?_
  obtain ⟨S25, hc26, hf⟩ := jb hf
  refine jbackV hM (jrunV E hM ci_X12_put (C_X12_put hc26) lk_8_186 hq1 (by decide) rfl hl.1 rfl rfl (Nat.le_of_ble_eq_true rfl) ⟨Nat.le_of_ble_eq_true rfl, Nat.le_of_ble_eq_true rfl⟩ ⟨Nat.le_refl _, Nat.le_refl _⟩ dX12_join_213) (fun H locs hM => ?_)
  refine lv_iload_n hx hb dX12_join_216 rfl (lv_at hl 0 rfl) ?_
  exact jireti (jr2 hf) E hM dX12_join_217
set_option maxRecDepth 100000 in
set_option maxHeartbeats 4000000 in
theorem B_X12_join_101 {p : Program} {l : Launch} {e : Env} {s : State} {m : MethodId} {args : Array Value} {below : List Frame} {meth : Method} {c : Code} {g : jG} {rr : Int32} {SS : jM} (E : jEnv p s m args meth c cX12_join "PensionHouseModel" (some .int) 4 g)  : ∀ (n : Nat) (v0 : Nat) (v1 : Int32) (v2 : Int32) (v3 : Int32) (S : jM) (H : Heap) (locs : List Loc) (ls : Array Slot), f_X12_join_101 n v0 v1 v2 v3 S = some (rr, SS) → jAt g S s H locs → lv_has ls 4 [(0, .ref (g.2.2 + v0)), (1, .int v1), (2, .int v2), (3, .int v3)] → W p l e (jRm 4 0 0) s m args below meth c H locs 0 0 (MQ below (jQi g rr SS) args s 0 0 (jA0 g)) (F0 m 101 ls []) := by
  obtain ⟨hx, hb, hml, -, hts, hown, hK, -, hstr⟩ := id E
  intro n
  induction n with
  | zero => intro v0 v1 v2 v3 S H locs ls hf hM hl; rw [f_X12_join_101] at hf; cases hf
  | succ n ih =>
    intro v0 v1 v2 v3 S H locs ls hf hM hl
    rw [f_X12_join_101] at hf
    refine lv_iload_n hx hb dX12_join_101 rfl (lv_at hl 3 rfl) ?_
    refine lv_aload_n hx hb dX12_join_102 rfl (lv_at hl 0 rfl) ?_
    obtain ⟨hq27, hf⟩ := jif hf
    refine gt_89 E hM hq27 lk_6_3 dX12_join_103 ?_
    obtain ⟨r28, hr29, hf⟩ := jb hf
    rw [hr29]
    show W p l e _ s m args below meth c H locs 0 0 _ (F0 m _ ls (.ref (g.2.2 + r28) :: _))
    refine lv_iload_n hx hb dX12_join_106 rfl (lv_at hl 2 rfl) ?_
    obtain ⟨ha30, hf⟩ := jif hf
    refine jiald E hM ha30 dX12_join_107 ?_
    refine lv_icmp_ge (tgt := 159) hx hb dX12_join_108 (by decide) (fun c31 => ?_) (fun c31 => ?_)
    · have hf := jt c31 hf
      exact B_X12_join_159 E  hf hM (lv_sub hl [0, 1, 2] rfl)
    · have hf := jf c31 hf
      refine lv_aload_n hx hb dX12_join_111 rfl (lv_at hl 0 rfl) ?_
      refine gt_88 E hM hq27 lk_6_2 dX12_join_112 ?_
      obtain ⟨r32, hr33, hf⟩ := jb hf
      rw [hr33]
      show W p l e _ s m args below meth c H locs 0 0 _ (F0 m _ ls (.ref (g.2.2 + r32) :: _))
      refine lv_iload_n hx hb dX12_join_115 rfl (lv_at hl 1 rfl) ?_
      obtain ⟨ha34, hf⟩ := jif hf
      refine jiald E hM ha34 dX12_join_116 ?_
      refine jbackI hM (jrunS E hM ci_X12_isKin (C_X12_isKin rfl) lk_7_63 hl.1 rfl rfl (Nat.le_of_ble_eq_true rfl) ⟨Nat.le_of_ble_eq_true rfl, Nat.le_of_ble_eq_true rfl⟩ ⟨Nat.le_refl _, Nat.le_refl _⟩ dX12_join_117) (fun H locs hM => ?_)
      refine lv_if_eq (tgt := 159) hx hb dX12_join_120 (by decide) (fun c35 => ?_) (fun c35 => ?_)
      · have hf := jt c35 hf
        exact B_X12_join_159 E  hf hM (lv_sub hl [0, 1, 2] rfl)
      · have hf := jf c35 hf
        refine lv_aload_n hx hb dX12_join_123 rfl (lv_at hl 0 rfl) ?_
        refine lv_aload_n hx hb dX12_join_124 rfl (lv_at hl 0 rfl) ?_
        refine gt_90 E hM hq27 lk_6_4 dX12_join_125 ?_
        obtain ⟨r36, hr37, hf⟩ := jb hf
        rw [hr37]
        show W p l e _ s m args below meth c H locs 0 0 _ (F0 m _ ls (.ref (g.2.2 + r36) :: _))
        refine lv_bipush (v := (12 : Int32)) hx hb dX12_join_128 (by decide) ?_
        refine lv_iload_n hx hb dX12_join_130 rfl (lv_at hl 2 rfl) ?_
        refine lv_imul hx hb dX12_join_131 ?_
        refine lv_iload_n hx hb dX12_join_132 rfl (lv_at hl 3 rfl) ?_
        refine lv_iadd hx hb dX12_join_133 ?_
        obtain ⟨ha38, hf⟩ := jif hf
        refine jlald E hM ha38 dX12_join_134 ?_
        refine lv_aload_n hx hb dX12_join_135 rfl (lv_at hl 0 rfl) ?_
        refine gt_88 E hM hq27 lk_6_2 dX12_join_136 ?_
        obtain ⟨r39, hr40, hf⟩ := jb hf
        rw [hr40]
        show W p l e _ s m args below meth c H locs 0 0 _ (F0 m _ ls (.ref (g.2.2 + r39) :: _))
        refine lv_iload_n hx hb dX12_join_139 rfl (lv_at hl 1 rfl) ?_
        obtain ⟨ha41, hf⟩ := jif hf
        refine jiald E hM ha41 dX12_join_140 ?_
        obtain ⟨x42, hc43, hf⟩ := jb hf
        refine jbackI hM (jrunV E hM ci_X12_belongs (C_X12_belongs hc43) lk_7_88 hq27 (by decide) rfl hl.1 rfl rfl (Nat.le_of_ble_eq_true rfl) ⟨Nat.le_of_ble_eq_true rfl, Nat.le_of_ble_eq_true rfl⟩ ⟨Nat.le_refl _, Nat.le_refl _⟩ dX12_join_141) (fun H locs hM => ?_)
        refine lv_if_ne (tgt := 153) hx hb dX12_join_144 (by decide) (fun c44 => ?_) (fun c44 => ?_)
        · have hf := jf c44 hf
          obtain ⟨x45, ex45⟩ : ∃ z, z = v3 + (1 : Int32) := ⟨_, rfl⟩
          have hf := jlet_y ex45 hf
          refine lv_iinc (v := x45) (lv' := [(3, .int x45), (0, .ref (g.2.2 + v0)), (1, .int v1), (2, .int v2)]) hx hb dX12_join_153 hl (k := 3) rfl (by rw [ex45]; rfl) (by decide) rfl (fun ls hl => ?_)
          refine lv_goto (tgt := 101) hx hb dX12_join_156 (by decide) ?_
          exact ih v0 v1 v2 x45 S _ _ _ hf hM (lv_sub hl [1, 2, 3, 0] rfl)
        · have hf := jt c44 hf
          refine lv_aload_n hx hb dX12_join_147 rfl (lv_at hl 0 rfl) ?_
          refine lv_iconst (v := (5 : Int32)) hx hb dX12_join_148 (by decide) ?_
          obtain ⟨x46, S47, hc48, hf⟩ := jbd_e hf
          refine jbackI hM (jrunV E hM ci_X12_failing (C_X12_failing hc48) lk_8_87 hq27 (by decide) rfl hl.1 rfl rfl (Nat.le_of_ble_eq_true rfl) ⟨Nat.le_of_ble_eq_true rfl, Nat.le_of_ble_eq_true rfl⟩ ⟨Nat.le_refl _, Nat.le_refl _⟩ dX12_join_149) (fun H locs hM => ?_)
          exact jireti (jr2 hf) E hM dX12_join_152
set_option maxRecDepth 100000 in
set_option maxHeartbeats 4000000 in
theorem B_X12_join_99 {p : Program} {l : Launch} {e : Env} {s : State} {m : MethodId} {args : Array Value} {below : List Frame} {meth : Method} {c : Code} {g : jG} {rr : Int32} {SS : jM} {v0 : Nat} {v1 : Int32} {v2 : Int32} {S : jM} (E : jEnv p s m args meth c cX12_join "PensionHouseModel" (some .int) 4 g)  {H : Heap} {locs : List Loc} {ls : Array Slot} (hf : f_X12_join_99 v0 v1 v2 S = some (rr, SS)) (hM : jAt g S s H locs) (hl : lv_has ls 4 [(0, .ref (g.2.2 + v0)), (1, .int v1), (2, .int v2)]) : W p l e (jRm 4 0 0) s m args below meth c H locs 0 0 (MQ below (jQi g rr SS) args s 0 0 (jA0 g)) (F0 m 99 ls []) := by
  obtain ⟨hx, hb, hml, -, hts, hown, hK, -, hstr⟩ := id E
  unfold f_X12_join_99 at hf
  refine lv_iconst (v := (0 : Int32)) hx hb dX12_join_99 (by decide) ?_
  refine lv_istore_n (lv' := [(3, .int (0 : Int32)), (0, .ref (g.2.2 + v0)), (1, .int v1), (2, .int v2)]) hx hb dX12_join_100 rfl hl (by decide) rfl (fun ls hl => ?_)
  exact B_X12_join_101 E  1100000 v0 v1 v2 (0 : Int32) S _ _ _ hf hM (lv_sub hl [1, 2, 3, 0] rfl)
set_option maxRecDepth 100000 in
set_option maxHeartbeats 4000000 in
theorem B_X12_join_93 {p : Program} {l : Launch} {e : Env} {s : State} {m : MethodId} {args : Array Value} {below : List Frame} {meth : Method} {c : Code} {g : jG} {rr : Int32} {SS : jM} {v0 : Nat} {S : jM} (E : jEnv p s m args meth c cX12_join "PensionHouseModel" (some .int) 4 g)  {H : Heap} {locs : List Loc} {ls : Array Slot} (hf : f_X12_join_93 v0 S = some (rr, SS)) (hM : jAt g S s H locs) (hl : lv_has ls 4 [(0, .ref (g.2.2 + v0))]) : W p l e (jRm 4 0 0) s m args below meth c H locs 0 0 (MQ below (jQi g rr SS) args s 0 0 (jA0 g)) (F0 m 93 ls []) := by
  obtain ⟨hx, hb, hml, -, hts, hown, hK, -, hstr⟩ := id E
  unfold f_X12_join_93 at hf
  refine lv_aload_n hx hb dX12_join_93 rfl (lv_at hl 0 rfl) ?_
  refine lv_iconst (v := (5 : Int32)) hx hb dX12_join_94 (by decide) ?_
  obtain ⟨hq52, hf⟩ := jif hf
  obtain ⟨x49, S50, hc51, hf⟩ := jbd_e hf
  refine jbackI hM (jrunV E hM ci_X12_failing (C_X12_failing hc51) lk_8_87 hq52 (by decide) rfl hl.1 rfl rfl (Nat.le_of_ble_eq_true rfl) ⟨Nat.le_of_ble_eq_true rfl, Nat.le_of_ble_eq_true rfl⟩ ⟨Nat.le_refl _, Nat.le_refl _⟩ dX12_join_95) (fun H locs hM => ?_)
  exact jireti (jr2 hf) E hM dX12_join_98
set_option maxRecDepth 100000 in
set_option maxHeartbeats 4000000 in
theorem B_X12_join_24 {p : Program} {l : Launch} {e : Env} {s : State} {m : MethodId} {args : Array Value} {below : List Frame} {meth : Method} {c : Code} {g : jG} {rr : Int32} {SS : jM} {v0 : Nat} {S : jM} (E : jEnv p s m args meth c cX12_join "PensionHouseModel" (some .int) 4 g)  {H : Heap} {locs : List Loc} {ls : Array Slot} (hf : f_X12_join_24 v0 S = some (rr, SS)) (hM : jAt g S s H locs) (hl : lv_has ls 4 [(0, .ref (g.2.2 + v0))]) : W p l e (jRm 4 0 0) s m args below meth c H locs 0 0 (MQ below (jQi g rr SS) args s 0 0 (jA0 g)) (F0 m 24 ls []) := by
  obtain ⟨hx, hb, hml, -, hts, hown, hK, -, hstr⟩ := id E
  unfold f_X12_join_24 at hf
  refine lv_aload_n hx hb dX12_join_24 rfl (lv_at hl 0 rfl) ?_
  refine lv_iconst (v := (2 : Int32)) hx hb dX12_join_25 (by decide) ?_
  obtain ⟨hq56, hf⟩ := jif hf
  obtain ⟨x53, S54, hc55, hf⟩ := jbd_e hf
  refine jbackI hM (jrunV E hM ci_X12_failing (C_X12_failing hc55) lk_8_87 hq56 (by decide) rfl hl.1 rfl rfl (Nat.le_of_ble_eq_true rfl) ⟨Nat.le_of_ble_eq_true rfl, Nat.le_of_ble_eq_true rfl⟩ ⟨Nat.le_refl _, Nat.le_refl _⟩ dX12_join_26) (fun H locs hM => ?_)
  exact jireti (jr2 hf) E hM dX12_join_29
set_option maxRecDepth 100000 in
set_option maxHeartbeats 4000000 in
theorem B_X12_join_0 {p : Program} {l : Launch} {e : Env} {s : State} {m : MethodId} {args : Array Value} {below : List Frame} {meth : Method} {c : Code} {g : jG} {rr : Int32} {SS : jM} {v0 : Nat} {v1 : Int32} {v2 : Int32} {S : jM} (E : jEnv p s m args meth c cX12_join "PensionHouseModel" (some .int) 4 g)  {H : Heap} {locs : List Loc} {ls : Array Slot} (hf : f_X12_join v0 v1 v2 S = some (rr, SS)) (hM : jAt g S s H locs) (hl : lv_has ls 4 [(0, .ref (g.2.2 + v0)), (1, .int v1), (2, .int v2)]) : W p l e (jRm 4 0 0) s m args below meth c H locs 0 0 (MQ below (jQi g rr SS) args s 0 0 (jA0 g)) (F0 m 0 ls []) := by
  obtain ⟨hx, hb, hml, -, hts, hown, hK, -, hstr⟩ := id E
  unfold f_X12_join at hf
  refine lv_aload_n hx hb dX12_join_0 rfl (lv_at hl 0 rfl) ?_
  obtain ⟨hq57, hf⟩ := jif hf
  refine gt_88 E hM hq57 lk_6_2 dX12_join_1 ?_
  obtain ⟨r58, hr59, hf⟩ := jb hf
  rw [hr59]
  show W p l e _ s m args below meth c H locs 0 0 _ (F0 m _ ls (.ref (g.2.2 + r58) :: _))
  refine lv_iload_n hx hb dX12_join_4 rfl (lv_at hl 1 rfl) ?_
  obtain ⟨ha60, hf⟩ := jif hf
  refine jiald E hM ha60 dX12_join_5 ?_
  refine jbackI hM (jrunS E hM ci_X12_isRow (C_X12_isRow rfl) lk_7_100 hl.1 rfl rfl (Nat.le_of_ble_eq_true rfl) ⟨Nat.le_of_ble_eq_true rfl, Nat.le_of_ble_eq_true rfl⟩ ⟨Nat.le_refl _, Nat.le_refl _⟩ dX12_join_6) (fun H locs hM => ?_)
  refine lv_if_eq (tgt := 24) hx hb dX12_join_9 (by decide) (fun c61 => ?_) (fun c61 => ?_)
  · have hf := jt c61 hf
    exact B_X12_join_24 E  hf hM (lv_sub hl [0] rfl)
  · have hf := jf c61 hf
    refine lv_aload_n hx hb dX12_join_12 rfl (lv_at hl 0 rfl) ?_
    refine gt_88 E hM hq57 lk_6_2 dX12_join_13 ?_
    obtain ⟨r62, hr63, hf⟩ := jb hf
    rw [hr63]
    show W p l e _ s m args below meth c H locs 0 0 _ (F0 m _ ls (.ref (g.2.2 + r62) :: _))
    refine lv_iload_n hx hb dX12_join_16 rfl (lv_at hl 2 rfl) ?_
    obtain ⟨ha64, hf⟩ := jif hf
    refine jiald E hM ha64 dX12_join_17 ?_
    refine jbackI hM (jrunS E hM ci_X12_isRow (C_X12_isRow rfl) lk_7_100 hl.1 rfl rfl (Nat.le_of_ble_eq_true rfl) ⟨Nat.le_of_ble_eq_true rfl, Nat.le_of_ble_eq_true rfl⟩ ⟨Nat.le_refl _, Nat.le_refl _⟩ dX12_join_18) (fun H locs hM => ?_)
    refine lv_if_ne (tgt := 30) hx hb dX12_join_21 (by decide) (fun c65 => ?_) (fun c65 => ?_)
    · have hf := jf c65 hf
      refine lv_aload_n hx hb dX12_join_30 rfl (lv_at hl 0 rfl) ?_
      refine gt_89 E hM hq57 lk_6_3 dX12_join_31 ?_
      obtain ⟨r66, hr67, hf⟩ := jb hf
      rw [hr67]
      show W p l e _ s m args below meth c H locs 0 0 _ (F0 m _ ls (.ref (g.2.2 + r66) :: _))
      refine lv_iload_n hx hb dX12_join_34 rfl (lv_at hl 1 rfl) ?_
      obtain ⟨ha68, hf⟩ := jif hf
      refine jiald E hM ha68 dX12_join_35 ?_
      refine lv_aload_n hx hb dX12_join_36 rfl (lv_at hl 0 rfl) ?_
      refine gt_89 E hM hq57 lk_6_3 dX12_join_37 ?_
      obtain ⟨r69, hr70, hf⟩ := jb hf
      rw [hr70]
      show W p l e _ s m args below meth c H locs 0 0 _ (F0 m _ ls (.ref (g.2.2 + r69) :: _))
      refine lv_iload_n hx hb dX12_join_40 rfl (lv_at hl 2 rfl) ?_
      obtain ⟨ha71, hf⟩ := jif hf
      refine jiald E hM ha71 dX12_join_41 ?_
      refine lv_iadd hx hb dX12_join_42 ?_
      refine lv_bipush (v := (12 : Int32)) hx hb dX12_join_43 (by decide) ?_
      refine lv_icmp_le (tgt := 54) hx hb dX12_join_45 (by decide) (fun c72 => ?_) (fun c72 => ?_)
      · have hf := jt c72 hf
        refine lv_aload_n hx hb dX12_join_54 rfl (lv_at hl 0 rfl) ?_
        refine gt_88 E hM hq57 lk_6_2 dX12_join_55 ?_
        obtain ⟨r73, hr74, hf⟩ := jb hf
        rw [hr74]
        show W p l e _ s m args below meth c H locs 0 0 _ (F0 m _ ls (.ref (g.2.2 + r73) :: _))
        refine lv_iload_n hx hb dX12_join_58 rfl (lv_at hl 1 rfl) ?_
        obtain ⟨ha75, hf⟩ := jif hf
        refine jiald E hM ha75 dX12_join_59 ?_
        refine lv_aload_n hx hb dX12_join_60 rfl (lv_at hl 0 rfl) ?_
        refine gt_88 E hM hq57 lk_6_2 dX12_join_61 ?_
        obtain ⟨r76, hr77, hf⟩ := jb hf
        rw [hr77]
        show W p l e _ s m args below meth c H locs 0 0 _ (F0 m _ ls (.ref (g.2.2 + r76) :: _))
        refine lv_iload_n hx hb dX12_join_64 rfl (lv_at hl 2 rfl) ?_
        obtain ⟨ha78, hf⟩ := jif hf
        refine jiald E hM ha78 dX12_join_65 ?_
        refine lv_icmp_eq (tgt := 99) hx hb dX12_join_66 (by decide) (fun c79 => ?_) (fun c79 => ?_)
        · have hf := jt c79 hf
          exact B_X12_join_99 E  hf hM (lv_sub hl [0, 1, 2] rfl)
        · have hf := jf c79 hf
          refine lv_aload_n hx hb dX12_join_69 rfl (lv_at hl 0 rfl) ?_
          refine gt_88 E hM hq57 lk_6_2 dX12_join_70 ?_
          obtain ⟨r80, hr81, hf⟩ := jb hf
          rw [hr81]
          show W p l e _ s m args below meth c H locs 0 0 _ (F0 m _ ls (.ref (g.2.2 + r80) :: _))
          refine lv_iload_n hx hb dX12_join_73 rfl (lv_at hl 1 rfl) ?_
          obtain ⟨ha82, hf⟩ := jif hf
          refine jiald E hM ha82 dX12_join_74 ?_
          refine jbackI hM (jrunS E hM ci_X12_isKin (C_X12_isKin rfl) lk_7_63 hl.1 rfl rfl (Nat.le_of_ble_eq_true rfl) ⟨Nat.le_of_ble_eq_true rfl, Nat.le_of_ble_eq_true rfl⟩ ⟨Nat.le_refl _, Nat.le_refl _⟩ dX12_join_75) (fun H locs hM => ?_)
          refine lv_if_eq (tgt := 93) hx hb dX12_join_78 (by decide) (fun c83 => ?_) (fun c83 => ?_)
          · have hf := jt c83 hf
            exact B_X12_join_93 E  hf hM (lv_sub hl [0] rfl)
          · have hf := jf c83 hf
            refine lv_aload_n hx hb dX12_join_81 rfl (lv_at hl 0 rfl) ?_
            refine gt_88 E hM hq57 lk_6_2 dX12_join_82 ?_
            obtain ⟨r84, hr85, hf⟩ := jb hf
            rw [hr85]
            show W p l e _ s m args below meth c H locs 0 0 _ (F0 m _ ls (.ref (g.2.2 + r84) :: _))
            refine lv_iload_n hx hb dX12_join_85 rfl (lv_at hl 2 rfl) ?_
            obtain ⟨ha86, hf⟩ := jif hf
            refine jiald E hM ha86 dX12_join_86 ?_
            refine jbackI hM (jrunS E hM ci_X12_isKin (C_X12_isKin rfl) lk_7_63 hl.1 rfl rfl (Nat.le_of_ble_eq_true rfl) ⟨Nat.le_of_ble_eq_true rfl, Nat.le_of_ble_eq_true rfl⟩ ⟨Nat.le_refl _, Nat.le_refl _⟩ dX12_join_87) (fun H locs hM => ?_)
            refine lv_if_ne (tgt := 99) hx hb dX12_join_90 (by decide) (fun c87 => ?_) (fun c87 => ?_)
            · have hf := jf c87 hf
              exact B_X12_join_99 E  hf hM (lv_sub hl [0, 1, 2] rfl)
            · have hf := jt c87 hf
              exact B_X12_join_93 E  hf hM (lv_sub hl [0] rfl)
      · have hf := jf c72 hf
        refine lv_aload_n hx hb dX12_join_48 rfl (lv_at hl 0 rfl) ?_
        refine lv_iconst (v := (4 : Int32)) hx hb dX12_join_49 (by decide) ?_
        obtain ⟨x88, S89, hc90, hf⟩ := jbd_e hf
        refine jbackI hM (jrunV E hM ci_X12_failing (C_X12_failing hc90) lk_8_87 hq57 (by decide) rfl hl.1 rfl rfl (Nat.le_of_ble_eq_true rfl) ⟨Nat.le_of_ble_eq_true rfl, Nat.le_of_ble_eq_true rfl⟩ ⟨Nat.le_refl _, Nat.le_refl _⟩ dX12_join_50) (fun H locs hM => ?_)
        exact jireti (jr2 hf) E hM dX12_join_53
    · have hf := jt c65 hf
      exact B_X12_join_24 E  hf hM (lv_sub hl [0] rfl)
set_option maxRecDepth 100000 in
theorem C_X12_join {l : Launch} {g : jG} {a0 : Nat} {a1 : Int32} {a2 : Int32} {S : jM} {rr : Int32} {SS : jM} (hf : f_X12_join a0 a1 a2 S = some (rr, SS)) : jMet l g yX12_join cX12_join 4 (some .int) 4 0 0 [.ref (g.2.2 + a0), .int a1, .int a2] S (jQi g rr SS) := by
  refine jof (by decide +kernel) (Nat.le_of_ble_eq_true rfl) ?_
  intro p e s m below meth c E hM ls hl
  have hl : lv_has ls 4 [(0, .ref (g.2.2 + a0)),(1, .int a1),(2, .int a2)] := hl
  exact B_X12_join_0 E hf hM hl
-- PensionHouseModel.with(III)I  mode M
noncomputable def f_X12_with_264 (v8 : Int32) (t0 : Nat) (t1 : Int32) (t2 : Int64) (S : jM) : Option (Int32 × jM) := if jA t0 14 t1 = true then jlet (jrL S t0 (vp_updL (jAL S t0) (t1).toNatClampNeg t2)) (fun S2 => some (v8, S2)) else none
noncomputable def f_X12_with_168 (v0 : Nat) (v1 : Int32) (v3 : Int32) (v4 : Int32) (v6 : Int64) (S : jM) : Option (Int32 × jM) := if jK v0 = 10 then (jR S 89 v0).bind (fun r4 => if jA r4 13 v1 = true then jbd (f_X12_made v0 v4 (jAI S r4 (v1).toNatClampNeg) S) (fun x7 S8 => (jR S8 89 v0).bind (fun r10 => if jA r10 13 v1 = true then (f_X12_put v0 x7 (0 : Int32) v1 (0 : Int32) (jAI S8 r10 (v1).toNatClampNeg) S8).bind (fun S13 => jlet (((12 : Int32) * x7) + (v6.toInt32)) (fun x15 => if v4 = (4 : Int32) then (jR S13 91 v0).bind (fun r26 => (f_X12_asReal v0 v3 S13).bind (fun x28 => if jA r26 12 x15 = true then jlet (jrD S13 r26 (vf_upd (jAD S13 r26) (x15).toNatClampNeg x28)) (fun S31 => some (x7, S31)) else none)) else (jR S13 90 v0).bind (fun r17 => if v4 = (2 : Int32) then (jR S13 90 v0).bind (fun r23 => if jA r23 14 ((12 : Int32) * v3) = true then f_X12_with_264 x7 r17 x15 (((jAL S13 r23 ((12 : Int32) * v3).toNatClampNeg).toInt32).toInt64) S13 else none) else (jR S13 90 v0).bind (fun r20 => if jA r20 14 ((12 : Int32) * v3) = true then f_X12_with_264 x7 r17 x15 (jAL S13 r20 ((12 : Int32) * v3).toNatClampNeg) S13 else none)))) else none)) else none) else none
noncomputable def f_X12_with_95 (v0 : Nat) (S : jM) : Option (Int32 × jM) := if jK v0 = 10 then jbd (f_X12_failing v0 (2 : Int32) S) (fun x32 S33 => some (x32, S33)) else none
noncomputable def f_X12_with_71 (v0 : Nat) (v1 : Int32) (v2 : Int32) (v3 : Int32) (v4 : Int32) (t0 : Int32) (S : jM) : Option (Int32 × jM) := if (f_X12_isRow v4) = 0 then f_X12_with_95 v0 S else if jK v0 = 10 then (jR S 88 v0).bind (fun r38 => if jA r38 13 v2 = true then if (jAI S r38 (v2).toNatClampNeg) = 0 then if t0 = 0 then f_X12_with_95 v0 S else (jR S 90 v0).bind (fun r43 => if jA r43 14 ((12 : Int32) * v2) = true then jlet (jAL S r43 ((12 : Int32) * v2).toNatClampNeg) (fun x46 => (jR S 89 v0).bind (fun r47 => if jA r47 13 v1 = true then if (f_X12_in x46 (0 : Int64) (((jAI S r47 (v1).toNatClampNeg).toInt64) - (1 : Int64))) = 0 then jbd (f_X12_failing v0 (3 : Int32) S) (fun x61 S62 => some (x61, S62)) else if (f_X12_isKin v4) = 0 then f_X12_with_168 v0 v1 v3 v4 x46 S else (jR S 90 v0).bind (fun r52 => if jA r52 14 ((12 : Int32) * v3) = true then (f_X12_belongs v0 (jAL S r52 ((12 : Int32) * v3).toNatClampNeg) v4 S).bind (fun x55 => if x55 = 0 then jbd (f_X12_failing v0 (5 : Int32) S) (fun x58 S59 => some (x58, S59)) else f_X12_with_168 v0 v1 v3 v4 x46 S) else none) else none)) else none) else f_X12_with_95 v0 S else none) else none
noncomputable def f_X12_with_20 (v0 : Nat) (v1 : Int32) (v2 : Int32) (v3 : Int32) (v4 : Int32) (S : jM) : Option (Int32 × jM) := if jK v0 = 10 then (jR S 88 v0).bind (fun r65 => if jA r65 13 v3 = true then if (jAI S r65 (v3).toNatClampNeg) = 0 then f_X12_with_71 v0 v1 v2 v3 v4 (1 : Int32) S else f_X12_with_71 v0 v1 v2 v3 v4 (0 : Int32) S else none) else none
noncomputable def f_X12_with (v0 : Nat) (v1 : Int32) (v2 : Int32) (v3 : Int32) (S : jM) : Option (Int32 × jM) := if jK v0 = 10 then (jR S 88 v0).bind (fun r70 => if jA r70 13 v1 = true then jlet (jAI S r70 (v1).toNatClampNeg) (fun x73 => if x73 = (2 : Int32) then f_X12_with_20 v0 v1 v2 v3 x73 S else if x73 = (3 : Int32) then f_X12_with_20 v0 v1 v2 v3 x73 S else if x73 = (4 : Int32) then (jR S 88 v0).bind (fun r81 => if jA r81 13 v3 = true then f_X12_with_71 v0 v1 v2 v3 x73 (f_X12_isNumber (jAI S r81 (v3).toNatClampNeg)) S else none) else (jR S 88 v0).bind (fun r77 => if jA r77 13 v3 = true then if (jAI S r77 (v3).toNatClampNeg) = (8 : Int32) then f_X12_with_71 v0 v1 v2 v3 x73 (1 : Int32) S else f_X12_with_71 v0 v1 v2 v3 x73 (0 : Int32) S else none)) else none) else none
set_option maxRecDepth 100000 in
set_option maxHeartbeats 4000000 in
theorem B_X12_with_264 {p : Program} {l : Launch} {e : Env} {s : State} {m : MethodId} {args : Array Value} {below : List Frame} {meth : Method} {c : Code} {g : jG} {rr : Int32} {SS : jM} {v8 : Int32} {t0 : Nat} {t1 : Int32} {t2 : Int64} {S : jM} (E : jEnv p s m args meth c cX12_with "PensionHouseModel" (some .int) 10 g)  {H : Heap} {locs : List Loc} {ls : Array Slot} (hf : f_X12_with_264 v8 t0 t1 t2 S = some (rr, SS)) (hM : jAt g S s H locs) (hl : lv_has ls 10 [(8, .int v8)]) : W p l e (jRm 4 0 0) s m args below meth c H locs 0 0 (MQ below (jQi g rr SS) args s 0 0 (jA0 g)) (F0 m 264 ls [.long t2, .int t1, .ref (g.2.2 + t0)]) := by
  obtain ⟨hx, hb, hml, -, hts, hown, hK, -, hstr⟩ := id E
  unfold f_X12_with_264 at hf
  obtain ⟨ha1, hf⟩ := jif hf
  refine jlast E hM ha1 dX12_with_264 (fun H locs S2 eS2 hM => ?_)
  have hf := jlet_y eS2 hf
  refine lv_iload hx hb dX12_with_265 (lv_at hl 0 rfl) ?_
  exact jireti (jr2 hf) E hM dX12_with_267
set_option maxRecDepth 100000 in
set_option maxHeartbeats 4000000 in
theorem B_X12_with_168 {p : Program} {l : Launch} {e : Env} {s : State} {m : MethodId} {args : Array Value} {below : List Frame} {meth : Method} {c : Code} {g : jG} {rr : Int32} {SS : jM} {v0 : Nat} {v1 : Int32} {v3 : Int32} {v4 : Int32} {v6 : Int64} {S : jM} (E : jEnv p s m args meth c cX12_with "PensionHouseModel" (some .int) 10 g)  {H : Heap} {locs : List Loc} {ls : Array Slot} (hf : f_X12_with_168 v0 v1 v3 v4 v6 S = some (rr, SS)) (hM : jAt g S s H locs) (hl : lv_has ls 10 [(0, .ref (g.2.2 + v0)), (1, .int v1), (3, .int v3), (4, .int v4), (6, .long v6)]) : W p l e (jRm 4 0 0) s m args below meth c H locs 0 0 (MQ below (jQi g rr SS) args s 0 0 (jA0 g)) (F0 m 168 ls []) := by
  obtain ⟨hx, hb, hml, -, hts, hown, hK, -, hstr⟩ := id E
  unfold f_X12_with_168 at hf
  refine lv_aload_n hx hb dX12_with_168 rfl (lv_at hl 0 rfl) ?_
  refine lv_iload hx hb dX12_with_169 (lv_at hl 3 rfl) ?_
  refine lv_aload_n hx hb dX12_with_171 rfl (lv_at hl 0 rfl) ?_
  obtain ⟨hq3, hf⟩ := jif hf
  refine gt_89 E hM hq3 lk_6_3 dX12_with_172 ?_
  obtain ⟨r4, hr5, hf⟩ := jb hf
  rw [hr5]
  show W p l e _ s m args below meth c H locs 0 0 _ (F0 m _ ls (.ref (g.2.2 + r4) :: _))
  refine lv_iload_n hx hb dX12_with_175 rfl (lv_at hl 1 rfl) ?_
  obtain ⟨ha6, hf⟩ := jif hf
  refine jiald E hM ha6 dX12_with_176 ?_
  obtain ⟨x7, S8, hc9, hf⟩ := jbd_e hf
  refine jbackI hM (jrunV E hM ci_X12_made (C_X12_made hc9) lk_8_95 hq3 (by decide) rfl hl.1 rfl rfl (Nat.le_of_ble_eq_true rfl) ⟨Nat.le_of_ble_eq_true rfl, Nat.le_of_ble_eq_true rfl⟩ ⟨Nat.le_refl _, Nat.le_refl _⟩ dX12_with_177) (fun H locs hM => ?_)
  refine lv_istore (lv' := [(8, .int x7), (0, .ref (g.2.2 + v0)), (1, .int v1), (3, .int v3), (4, .int v4), (6, .long v6)]) hx hb dX12_with_180 hl (by decide) rfl (fun ls hl => ?_)
  refine lv_aload_n hx hb dX12_with_182 rfl (lv_at hl 1 rfl) ?_
  refine lv_iload hx hb dX12_with_183 (lv_at hl 0 rfl) ?_
  refine lv_iconst (v := (0 : Int32)) hx hb dX12_with_185 (by decide) ?_
  refine lv_iload_n hx hb dX12_with_186 rfl (lv_at hl 2 rfl) ?_
  refine lv_iconst (v := (0 : Int32)) hx hb dX12_with_187 (by decide) ?_
  refine lv_aload_n hx hb dX12_with_188 rfl (lv_at hl 1 rfl) ?_
  refine gt_89 E hM hq3 lk_6_3 dX12_with_189 ?_
  obtain ⟨r10, hr11, hf⟩ := jb hf
  rw [hr11]
  show W p l e _ s m args below meth c H locs 0 0 _ (F0 m _ ls (.ref (g.2.2 + r10) :: _))
  refine lv_iload_n hx hb dX12_with_192 rfl (lv_at hl 2 rfl) ?_
  obtain ⟨ha12, hf⟩ := jif hf
  refine jiald E hM ha12 dX12_with_193 ?_
  obtain ⟨S13, hc14, hf⟩ := jb hf
  refine jbackV hM (jrunV E hM ci_X12_put (C_X12_put hc14) lk_8_186 hq3 (by decide) rfl hl.1 rfl rfl (Nat.le_of_ble_eq_true rfl) ⟨Nat.le_of_ble_eq_true rfl, Nat.le_of_ble_eq_true rfl⟩ ⟨Nat.le_refl _, Nat.le_refl _⟩ dX12_with_194) (fun H locs hM => ?_)
  refine lv_bipush (v := (12 : Int32)) hx hb dX12_with_197 (by decide) ?_
  refine lv_iload hx hb dX12_with_199 (lv_at hl 0 rfl) ?_
  refine lv_imul hx hb dX12_with_201 ?_
  refine lv_lload hx hb dX12_with_202 (lv_at hl 5 rfl) ?_
  refine lv_l2i hx hb dX12_with_204 rfl ?_
  refine lv_iadd hx hb dX12_with_205 ?_
  refine lv_topi (fun x15 ex15 => ?_)
  have hf := jlet_y ex15 hf
  refine lv_istore (lv' := [(9, .int x15), (8, .int x7), (0, .ref (g.2.2 + v0)), (1, .int v1), (3, .int v3), (4, .int v4), (6, .long v6)]) hx hb dX12_with_206 hl (by decide) rfl (fun ls hl => ?_)
  refine lv_iload hx hb dX12_with_208 (lv_at hl 5 rfl) ?_
  refine lv_iconst (v := (4 : Int32)) hx hb dX12_with_210 (by decide) ?_
  refine lv_icmp_ne (tgt := 229) hx hb dX12_with_211 (by decide) (fun c16 => ?_) (fun c16 => ?_)
  · have hf := jf c16 hf
    refine lv_aload_n hx hb dX12_with_229 rfl (lv_at hl 2 rfl) ?_
    refine gt_90 E hM hq3 lk_6_4 dX12_with_230 ?_
    obtain ⟨r17, hr18, hf⟩ := jb hf
    rw [hr18]
    show W p l e _ s m args below meth c H locs 0 0 _ (F0 m _ ls (.ref (g.2.2 + r17) :: _))
    refine lv_iload hx hb dX12_with_233 (lv_at hl 0 rfl) ?_
    refine lv_iload hx hb dX12_with_235 (lv_at hl 5 rfl) ?_
    refine lv_iconst (v := (2 : Int32)) hx hb dX12_with_237 (by decide) ?_
    refine lv_icmp_ne (tgt := 255) hx hb dX12_with_238 (by decide) (fun c19 => ?_) (fun c19 => ?_)
    · have hf := jf c19 hf
      refine lv_aload_n hx hb dX12_with_255 rfl (lv_at hl 2 rfl) ?_
      refine gt_90 E hM hq3 lk_6_4 dX12_with_256 ?_
      obtain ⟨r20, hr21, hf⟩ := jb hf
      rw [hr21]
      show W p l e _ s m args below meth c H locs 0 0 _ (F0 m _ ls (.ref (g.2.2 + r20) :: _))
      refine lv_bipush (v := (12 : Int32)) hx hb dX12_with_259 (by decide) ?_
      refine lv_iload_n hx hb dX12_with_261 rfl (lv_at hl 4 rfl) ?_
      refine lv_imul hx hb dX12_with_262 ?_
      obtain ⟨ha22, hf⟩ := jif hf
      refine jlald E hM ha22 dX12_with_263 ?_
      exact B_X12_with_264 E  hf hM (lv_sub hl [1] rfl)
    · have hf := jt c19 hf
      refine lv_aload_n hx hb dX12_with_241 rfl (lv_at hl 2 rfl) ?_
      refine gt_90 E hM hq3 lk_6_4 dX12_with_242 ?_
      obtain ⟨r23, hr24, hf⟩ := jb hf
      rw [hr24]
      show W p l e _ s m args below meth c H locs 0 0 _ (F0 m _ ls (.ref (g.2.2 + r23) :: _))
      refine lv_bipush (v := (12 : Int32)) hx hb dX12_with_245 (by decide) ?_
      refine lv_iload_n hx hb dX12_with_247 rfl (lv_at hl 4 rfl) ?_
      refine lv_imul hx hb dX12_with_248 ?_
      obtain ⟨ha25, hf⟩ := jif hf
      refine jlald E hM ha25 dX12_with_249 ?_
      refine lv_l2i hx hb dX12_with_250 rfl ?_
      refine lv_i2l hx hb dX12_with_251 rfl ?_
      refine lv_goto (tgt := 264) hx hb dX12_with_252 (by decide) ?_
      exact B_X12_with_264 E  hf hM (lv_sub hl [1] rfl)
  · have hf := jt c16 hf
    refine lv_aload_n hx hb dX12_with_214 rfl (lv_at hl 2 rfl) ?_
    refine gt_91 E hM hq3 lk_6_5 dX12_with_215 ?_
    obtain ⟨r26, hr27, hf⟩ := jb hf
    rw [hr27]
    show W p l e _ s m args below meth c H locs 0 0 _ (F0 m _ ls (.ref (g.2.2 + r26) :: _))
    refine lv_iload hx hb dX12_with_218 (lv_at hl 0 rfl) ?_
    refine lv_aload_n hx hb dX12_with_220 rfl (lv_at hl 2 rfl) ?_
    refine lv_iload_n hx hb dX12_with_221 rfl (lv_at hl 4 rfl) ?_
    obtain ⟨x28, hc29, hf⟩ := jb hf
    refine jbackD hM (jrunV E hM ci_X12_asReal (C_X12_asReal hc29) lk_8_134 hq3 (by decide) rfl hl.1 rfl rfl (Nat.le_of_ble_eq_true rfl) ⟨Nat.le_of_ble_eq_true rfl, Nat.le_of_ble_eq_true rfl⟩ ⟨Nat.le_refl _, Nat.le_refl _⟩ dX12_with_222) (fun H locs hM => ?_)
    obtain ⟨ha30, hf⟩ := jif hf
    refine jdast E hM ha30 dX12_with_225 (fun H locs S31 eS31 hM => ?_)
    have hf := jlet_y eS31 hf
    refine lv_goto (tgt := 265) hx hb dX12_with_226 (by decide) ?_
    refine lv_iload hx hb dX12_with_265 (lv_at hl 1 rfl) ?_
    exact jireti (jr2 hf) E hM dX12_with_267
set_option maxRecDepth 100000 in
set_option maxHeartbeats 4000000 in
theorem B_X12_with_95 {p : Program} {l : Launch} {e : Env} {s : State} {m : MethodId} {args : Array Value} {below : List Frame} {meth : Method} {c : Code} {g : jG} {rr : Int32} {SS : jM} {v0 : Nat} {S : jM} (E : jEnv p s m args meth c cX12_with "PensionHouseModel" (some .int) 10 g)  {H : Heap} {locs : List Loc} {ls : Array Slot} (hf : f_X12_with_95 v0 S = some (rr, SS)) (hM : jAt g S s H locs) (hl : lv_has ls 10 [(0, .ref (g.2.2 + v0))]) : W p l e (jRm 4 0 0) s m args below meth c H locs 0 0 (MQ below (jQi g rr SS) args s 0 0 (jA0 g)) (F0 m 95 ls []) := by
  obtain ⟨hx, hb, hml, -, hts, hown, hK, -, hstr⟩ := id E
  unfold f_X12_with_95 at hf
  refine lv_aload_n hx hb dX12_with_95 rfl (lv_at hl 0 rfl) ?_
  refine lv_iconst (v := (2 : Int32)) hx hb dX12_with_96 (by decide) ?_
  obtain ⟨hq35, hf⟩ := jif hf
  obtain ⟨x32, S33, hc34, hf⟩ := jbd_e hf
  refine jbackI hM (jrunV E hM ci_X12_failing (C_X12_failing hc34) lk_8_87 hq35 (by decide) rfl hl.1 rfl rfl (Nat.le_of_ble_eq_true rfl) ⟨Nat.le_of_ble_eq_true rfl, Nat.le_of_ble_eq_true rfl⟩ ⟨Nat.le_refl _, Nat.le_refl _⟩ dX12_with_97) (fun H locs hM => ?_)
  exact jireti (jr2 hf) E hM dX12_with_100
set_option maxRecDepth 100000 in
set_option maxHeartbeats 4000000 in
theorem B_X12_with_71 {p : Program} {l : Launch} {e : Env} {s : State} {m : MethodId} {args : Array Value} {below : List Frame} {meth : Method} {c : Code} {g : jG} {rr : Int32} {SS : jM} {v0 : Nat} {v1 : Int32} {v2 : Int32} {v3 : Int32} {v4 : Int32} {t0 : Int32} {S : jM} (E : jEnv p s m args meth c cX12_with "PensionHouseModel" (some .int) 10 g)  {H : Heap} {locs : List Loc} {ls : Array Slot} (hf : f_X12_with_71 v0 v1 v2 v3 v4 t0 S = some (rr, SS)) (hM : jAt g S s H locs) (hl : lv_has ls 10 [(0, .ref (g.2.2 + v0)), (1, .int v1), (2, .int v2), (3, .int v3), (4, .int v4)]) : W p l e (jRm 4 0 0) s m args below meth c H locs 0 0 (MQ below (jQi g rr SS) args s 0 0 (jA0 g)) (F0 m 71 ls [.int t0]) := by
  obtain ⟨hx, hb, hml, -, hts, hown, hK, -, hstr⟩ := id E
  unfold f_X12_with_71 at hf
  refine lv_istore (lv' := [(5, .int t0), (0, .ref (g.2.2 + v0)), (1, .int v1), (2, .int v2), (3, .int v3), (4, .int v4)]) hx hb dX12_with_71 hl (by decide) rfl (fun ls hl => ?_)
  refine lv_iload hx hb dX12_with_73 (lv_at hl 5 rfl) ?_
  refine jbackI hM (jrunS E hM ci_X12_isRow (C_X12_isRow rfl) lk_7_100 hl.1 rfl rfl (Nat.le_of_ble_eq_true rfl) ⟨Nat.le_of_ble_eq_true rfl, Nat.le_of_ble_eq_true rfl⟩ ⟨Nat.le_refl _, Nat.le_refl _⟩ dX12_with_75) (fun H locs hM => ?_)
  refine lv_if_eq (tgt := 95) hx hb dX12_with_78 (by decide) (fun c36 => ?_) (fun c36 => ?_)
  · have hf := jt c36 hf
    exact B_X12_with_95 E  hf hM (lv_sub hl [1] rfl)
  · have hf := jf c36 hf
    refine lv_aload_n hx hb dX12_with_81 rfl (lv_at hl 1 rfl) ?_
    obtain ⟨hq37, hf⟩ := jif hf
    refine gt_88 E hM hq37 lk_6_2 dX12_with_82 ?_
    obtain ⟨r38, hr39, hf⟩ := jb hf
    rw [hr39]
    show W p l e _ s m args below meth c H locs 0 0 _ (F0 m _ ls (.ref (g.2.2 + r38) :: _))
    refine lv_iload_n hx hb dX12_with_85 rfl (lv_at hl 3 rfl) ?_
    obtain ⟨ha40, hf⟩ := jif hf
    refine jiald E hM ha40 dX12_with_86 ?_
    refine lv_if_ne (tgt := 95) hx hb dX12_with_87 (by decide) (fun c41 => ?_) (fun c41 => ?_)
    · have hf := jf c41 hf
      exact B_X12_with_95 E  hf hM (lv_sub hl [1] rfl)
    · have hf := jt c41 hf
      refine lv_iload hx hb dX12_with_90 (lv_at hl 0 rfl) ?_
      refine lv_if_ne (tgt := 101) hx hb dX12_with_92 (by decide) (fun c42 => ?_) (fun c42 => ?_)
      · have hf := jf c42 hf
        refine lv_aload_n hx hb dX12_with_101 rfl (lv_at hl 1 rfl) ?_
        refine gt_90 E hM hq37 lk_6_4 dX12_with_102 ?_
        obtain ⟨r43, hr44, hf⟩ := jb hf
        rw [hr44]
        show W p l e _ s m args below meth c H locs 0 0 _ (F0 m _ ls (.ref (g.2.2 + r43) :: _))
        refine lv_bipush (v := (12 : Int32)) hx hb dX12_with_105 (by decide) ?_
        refine lv_iload_n hx hb dX12_with_107 rfl (lv_at hl 3 rfl) ?_
        refine lv_imul hx hb dX12_with_108 ?_
        obtain ⟨ha45, hf⟩ := jif hf
        refine jlald E hM ha45 dX12_with_109 ?_
        refine lv_topl (fun x46 ex46 => ?_)
        have hf := jlet_y ex46 hf
        refine lv_lstore (lv' := [(6, .long x46), (5, .int t0), (0, .ref (g.2.2 + v0)), (1, .int v1), (2, .int v2), (3, .int v3), (4, .int v4)]) hx hb dX12_with_110 hl (by decide) rfl (fun ls hl => ?_)
        refine lv_lload hx hb dX12_with_112 (lv_at hl 0 rfl) ?_
        refine lv_lconst (v := (0 : Int64)) hx hb dX12_with_114 (by decide) ?_
        refine lv_aload_n hx hb dX12_with_115 rfl (lv_at hl 2 rfl) ?_
        refine gt_89 E hM hq37 lk_6_3 dX12_with_116 ?_
        obtain ⟨r47, hr48, hf⟩ := jb hf
        rw [hr48]
        show W p l e _ s m args below meth c H locs 0 0 _ (F0 m _ ls (.ref (g.2.2 + r47) :: _))
        refine lv_iload_n hx hb dX12_with_119 rfl (lv_at hl 3 rfl) ?_
        obtain ⟨ha49, hf⟩ := jif hf
        refine jiald E hM ha49 dX12_with_120 ?_
        refine lv_i2l hx hb dX12_with_121 rfl ?_
        refine lv_lconst (v := (1 : Int64)) hx hb dX12_with_122 (by decide) ?_
        refine lv_lsub hx hb dX12_with_123 ?_
        refine jbackI hM (jrunS E hM ci_X12_in (C_X12_in rfl) lk_7_36 hl.1 rfl rfl (Nat.le_of_ble_eq_true rfl) ⟨Nat.le_of_ble_eq_true rfl, Nat.le_of_ble_eq_true rfl⟩ ⟨Nat.le_refl _, Nat.le_refl _⟩ dX12_with_124) (fun H locs hM => ?_)
        refine lv_if_ne (tgt := 136) hx hb dX12_with_127 (by decide) (fun c50 => ?_) (fun c50 => ?_)
        · have hf := jf c50 hf
          refine lv_iload hx hb dX12_with_136 (lv_at hl 6 rfl) ?_
          refine jbackI hM (jrunS E hM ci_X12_isKin (C_X12_isKin rfl) lk_7_63 hl.1 rfl rfl (Nat.le_of_ble_eq_true rfl) ⟨Nat.le_of_ble_eq_true rfl, Nat.le_of_ble_eq_true rfl⟩ ⟨Nat.le_refl _, Nat.le_refl _⟩ dX12_with_138) (fun H locs hM => ?_)
          refine lv_if_eq (tgt := 168) hx hb dX12_with_141 (by decide) (fun c51 => ?_) (fun c51 => ?_)
          · have hf := jt c51 hf
            exact B_X12_with_168 E  hf hM (lv_sub hl [2, 3, 5, 6, 0] rfl)
          · have hf := jf c51 hf
            refine lv_aload_n hx hb dX12_with_144 rfl (lv_at hl 2 rfl) ?_
            refine lv_aload_n hx hb dX12_with_145 rfl (lv_at hl 2 rfl) ?_
            refine gt_90 E hM hq37 lk_6_4 dX12_with_146 ?_
            obtain ⟨r52, hr53, hf⟩ := jb hf
            rw [hr53]
            show W p l e _ s m args below meth c H locs 0 0 _ (F0 m _ ls (.ref (g.2.2 + r52) :: _))
            refine lv_bipush (v := (12 : Int32)) hx hb dX12_with_149 (by decide) ?_
            refine lv_iload_n hx hb dX12_with_151 rfl (lv_at hl 5 rfl) ?_
            refine lv_imul hx hb dX12_with_152 ?_
            obtain ⟨ha54, hf⟩ := jif hf
            refine jlald E hM ha54 dX12_with_153 ?_
            refine lv_iload hx hb dX12_with_154 (lv_at hl 6 rfl) ?_
            obtain ⟨x55, hc56, hf⟩ := jb hf
            refine jbackI hM (jrunV E hM ci_X12_belongs (C_X12_belongs hc56) lk_7_88 hq37 (by decide) rfl hl.1 rfl rfl (Nat.le_of_ble_eq_true rfl) ⟨Nat.le_of_ble_eq_true rfl, Nat.le_of_ble_eq_true rfl⟩ ⟨Nat.le_refl _, Nat.le_refl _⟩ dX12_with_156) (fun H locs hM => ?_)
            refine lv_if_ne (tgt := 168) hx hb dX12_with_159 (by decide) (fun c57 => ?_) (fun c57 => ?_)
            · have hf := jf c57 hf
              exact B_X12_with_168 E  hf hM (lv_sub hl [2, 3, 5, 6, 0] rfl)
            · have hf := jt c57 hf
              refine lv_aload_n hx hb dX12_with_162 rfl (lv_at hl 2 rfl) ?_
              refine lv_iconst (v := (5 : Int32)) hx hb dX12_with_163 (by decide) ?_
              obtain ⟨x58, S59, hc60, hf⟩ := jbd_e hf
              refine jbackI hM (jrunV E hM ci_X12_failing (C_X12_failing hc60) lk_8_87 hq37 (by decide) rfl hl.1 rfl rfl (Nat.le_of_ble_eq_true rfl) ⟨Nat.le_of_ble_eq_true rfl, Nat.le_of_ble_eq_true rfl⟩ ⟨Nat.le_refl _, Nat.le_refl _⟩ dX12_with_164) (fun H locs hM => ?_)
              exact jireti (jr2 hf) E hM dX12_with_167
        · have hf := jt c50 hf
          refine lv_aload_n hx hb dX12_with_130 rfl (lv_at hl 2 rfl) ?_
          refine lv_iconst (v := (3 : Int32)) hx hb dX12_with_131 (by decide) ?_
          obtain ⟨x61, S62, hc63, hf⟩ := jbd_e hf
          refine jbackI hM (jrunV E hM ci_X12_failing (C_X12_failing hc63) lk_8_87 hq37 (by decide) rfl hl.1 rfl rfl (Nat.le_of_ble_eq_true rfl) ⟨Nat.le_of_ble_eq_true rfl, Nat.le_of_ble_eq_true rfl⟩ ⟨Nat.le_refl _, Nat.le_refl _⟩ dX12_with_132) (fun H locs hM => ?_)
          exact jireti (jr2 hf) E hM dX12_with_135
      · have hf := jt c42 hf
        exact B_X12_with_95 E  hf hM (lv_sub hl [1] rfl)
set_option maxRecDepth 100000 in
set_option maxHeartbeats 4000000 in
theorem B_X12_with_20 {p : Program} {l : Launch} {e : Env} {s : State} {m : MethodId} {args : Array Value} {below : List Frame} {meth : Method} {c : Code} {g : jG} {rr : Int32} {SS : jM} {v0 : Nat} {v1 : Int32} {v2 : Int32} {v3 : Int32} {v4 : Int32} {S : jM} (E : jEnv p s m args meth c cX12_with "PensionHouseModel" (some .int) 10 g)  {H : Heap} {locs : List Loc} {ls : Array Slot} (hf : f_X12_with_20 v0 v1 v2 v3 v4 S = some (rr, SS)) (hM : jAt g S s H locs) (hl : lv_has ls 10 [(0, .ref (g.2.2 + v0)), (1, .int v1), (2, .int v2), (3, .int v3), (4, .int v4)]) : W p l e (jRm 4 0 0) s m args below meth c H locs 0 0 (MQ below (jQi g rr SS) args s 0 0 (jA0 g)) (F0 m 20 ls []) := by
  obtain ⟨hx, hb, hml, -, hts, hown, hK, -, hstr⟩ := id E
  unfold f_X12_with_20 at hf
  refine lv_aload_n hx hb dX12_with_20 rfl (lv_at hl 0 rfl) ?_
  obtain ⟨hq64, hf⟩ := jif hf
  refine gt_88 E hM hq64 lk_6_2 dX12_with_21 ?_
  obtain ⟨r65, hr66, hf⟩ := jb hf
  rw [hr66]
  show W p l e _ s m args below meth c H locs 0 0 _ (F0 m _ ls (.ref (g.2.2 + r65) :: _))
  refine lv_iload_n hx hb dX12_with_24 rfl (lv_at hl 3 rfl) ?_
  obtain ⟨ha67, hf⟩ := jif hf
  refine jiald E hM ha67 dX12_with_25 ?_
  refine lv_if_ne (tgt := 33) hx hb dX12_with_26 (by decide) (fun c68 => ?_) (fun c68 => ?_)
  · have hf := jf c68 hf
    refine lv_iconst (v := (0 : Int32)) hx hb dX12_with_33 (by decide) ?_
    refine lv_goto (tgt := 71) hx hb dX12_with_34 (by decide) ?_
    exact B_X12_with_71 E  hf hM (lv_sub hl [0, 1, 2, 3, 4] rfl)
  · have hf := jt c68 hf
    refine lv_iconst (v := (1 : Int32)) hx hb dX12_with_29 (by decide) ?_
    refine lv_goto (tgt := 71) hx hb dX12_with_30 (by decide) ?_
    exact B_X12_with_71 E  hf hM (lv_sub hl [0, 1, 2, 3, 4] rfl)
set_option maxRecDepth 100000 in
set_option maxHeartbeats 4000000 in
theorem B_X12_with_0 {p : Program} {l : Launch} {e : Env} {s : State} {m : MethodId} {args : Array Value} {below : List Frame} {meth : Method} {c : Code} {g : jG} {rr : Int32} {SS : jM} {v0 : Nat} {v1 : Int32} {v2 : Int32} {v3 : Int32} {S : jM} (E : jEnv p s m args meth c cX12_with "PensionHouseModel" (some .int) 10 g)  {H : Heap} {locs : List Loc} {ls : Array Slot} (hf : f_X12_with v0 v1 v2 v3 S = some (rr, SS)) (hM : jAt g S s H locs) (hl : lv_has ls 10 [(0, .ref (g.2.2 + v0)), (1, .int v1), (2, .int v2), (3, .int v3)]) : W p l e (jRm 4 0 0) s m args below meth c H locs 0 0 (MQ below (jQi g rr SS) args s 0 0 (jA0 g)) (F0 m 0 ls []) := by
  obtain ⟨hx, hb, hml, -, hts, hown, hK, -, hstr⟩ := id E
  unfold f_X12_with at hf
  refine lv_aload_n hx hb dX12_with_0 rfl (lv_at hl 0 rfl) ?_
  obtain ⟨hq69, hf⟩ := jif hf
  refine gt_88 E hM hq69 lk_6_2 dX12_with_1 ?_
  obtain ⟨r70, hr71, hf⟩ := jb hf
  rw [hr71]
  show W p l e _ s m args below meth c H locs 0 0 _ (F0 m _ ls (.ref (g.2.2 + r70) :: _))
  refine lv_iload_n hx hb dX12_with_4 rfl (lv_at hl 1 rfl) ?_
  obtain ⟨ha72, hf⟩ := jif hf
  refine jiald E hM ha72 dX12_with_5 ?_
  refine lv_topi (fun x73 ex73 => ?_)
  have hf := jlet_y ex73 hf
  refine lv_istore (lv' := [(4, .int x73), (0, .ref (g.2.2 + v0)), (1, .int v1), (2, .int v2), (3, .int v3)]) hx hb dX12_with_6 hl (by decide) rfl (fun ls hl => ?_)
  refine lv_iload hx hb dX12_with_8 (lv_at hl 0 rfl) ?_
  refine lv_iconst (v := (2 : Int32)) hx hb dX12_with_10 (by decide) ?_
  refine lv_icmp_eq (tgt := 20) hx hb dX12_with_11 (by decide) (fun c74 => ?_) (fun c74 => ?_)
  · have hf := jt c74 hf
    exact B_X12_with_20 E  hf hM (lv_sub hl [1, 2, 3, 4, 0] rfl)
  · have hf := jf c74 hf
    refine lv_iload hx hb dX12_with_14 (lv_at hl 0 rfl) ?_
    refine lv_iconst (v := (3 : Int32)) hx hb dX12_with_16 (by decide) ?_
    refine lv_icmp_ne (tgt := 37) hx hb dX12_with_17 (by decide) (fun c75 => ?_) (fun c75 => ?_)
    · have hf := jf c75 hf
      refine lv_iload hx hb dX12_with_37 (lv_at hl 0 rfl) ?_
      refine lv_iconst (v := (4 : Int32)) hx hb dX12_with_39 (by decide) ?_
      refine lv_icmp_ne (tgt := 55) hx hb dX12_with_40 (by decide) (fun c76 => ?_) (fun c76 => ?_)
      · have hf := jf c76 hf
        refine lv_aload_n hx hb dX12_with_55 rfl (lv_at hl 1 rfl) ?_
        refine gt_88 E hM hq69 lk_6_2 dX12_with_56 ?_
        obtain ⟨r77, hr78, hf⟩ := jb hf
        rw [hr78]
        show W p l e _ s m args below meth c H locs 0 0 _ (F0 m _ ls (.ref (g.2.2 + r77) :: _))
        refine lv_iload_n hx hb dX12_with_59 rfl (lv_at hl 4 rfl) ?_
        obtain ⟨ha79, hf⟩ := jif hf
        refine jiald E hM ha79 dX12_with_60 ?_
        refine lv_bipush (v := (8 : Int32)) hx hb dX12_with_61 (by decide) ?_
        refine lv_icmp_ne (tgt := 70) hx hb dX12_with_63 (by decide) (fun c80 => ?_) (fun c80 => ?_)
        · have hf := jf c80 hf
          refine lv_iconst (v := (0 : Int32)) hx hb dX12_with_70 (by decide) ?_
          exact B_X12_with_71 E  hf hM (lv_sub hl [1, 2, 3, 4, 0] rfl)
        · have hf := jt c80 hf
          refine lv_iconst (v := (1 : Int32)) hx hb dX12_with_66 (by decide) ?_
          refine lv_goto (tgt := 71) hx hb dX12_with_67 (by decide) ?_
          exact B_X12_with_71 E  hf hM (lv_sub hl [1, 2, 3, 4, 0] rfl)
      · have hf := jt c76 hf
        refine lv_aload_n hx hb dX12_with_43 rfl (lv_at hl 1 rfl) ?_
        refine gt_88 E hM hq69 lk_6_2 dX12_with_44 ?_
        obtain ⟨r81, hr82, hf⟩ := jb hf
        rw [hr82]
        show W p l e _ s m args below meth c H locs 0 0 _ (F0 m _ ls (.ref (g.2.2 + r81) :: _))
        refine lv_iload_n hx hb dX12_with_47 rfl (lv_at hl 4 rfl) ?_
        obtain ⟨ha83, hf⟩ := jif hf
        refine jiald E hM ha83 dX12_with_48 ?_
        refine jbackI hM (jrunS E hM ci_X12_isNumber (C_X12_isNumber rfl) lk_8_115 hl.1 rfl rfl (Nat.le_of_ble_eq_true rfl) ⟨Nat.le_of_ble_eq_true rfl, Nat.le_of_ble_eq_true rfl⟩ ⟨Nat.le_refl _, Nat.le_refl _⟩ dX12_with_49) (fun H locs hM => ?_)
        refine lv_goto (tgt := 71) hx hb dX12_with_52 (by decide) ?_
        exact B_X12_with_71 E  hf hM (lv_sub hl [1, 2, 3, 4, 0] rfl)
    · have hf := jt c75 hf
      exact B_X12_with_20 E  hf hM (lv_sub hl [1, 2, 3, 4, 0] rfl)
set_option maxRecDepth 100000 in
theorem C_X12_with {l : Launch} {g : jG} {a0 : Nat} {a1 : Int32} {a2 : Int32} {a3 : Int32} {S : jM} {rr : Int32} {SS : jM} (hf : f_X12_with a0 a1 a2 a3 S = some (rr, SS)) : jMet l g yX12_with cX12_with 10 (some .int) 4 0 0 [.ref (g.2.2 + a0), .int a1, .int a2, .int a3] S (jQi g rr SS) := by
  refine jof (by decide +kernel) (Nat.le_of_ble_eq_true rfl) ?_
  intro p e s m below meth c E hM ls hl
  have hl : lv_has ls 10 [(0, .ref (g.2.2 + a0)),(1, .int a1),(2, .int a2),(3, .int a3)] := hl
  exact B_X12_with_0 E hf hM hl
-- PensionHouseModel.best(II)I  mode M
noncomputable def f_X12_best_310 (k112 : Nat → Int32 → Int64 → Int64 → UInt64 → Int32 → jM → Option (Int32 × jM)) (v0 : Nat) (v1 : Int32) (v3 : Int64) (v7 : UInt64) (v9 : Int32) (v10 : Int32) (v13 : Int64) (S : jM) : Option (Int32 × jM) := if jK v0 = 10 then (jR S 91 v0).bind (fun r2 => if jA r2 12 (((12 : Int32) * v1) + v10) = true then (f_X12_plus v7 (jAD S r2 (((12 : Int32) * v1) + v10).toNatClampNeg)).bind (fun x5 => jlet (v9 + (1 : Int32)) (fun x7 => k112 v0 v1 v3 v13 x5 x7 S)) else none) else none
noncomputable def f_X12_best_240 (k112 : Nat → Int32 → Int64 → Int64 → UInt64 → Int32 → jM → Option (Int32 × jM)) (k126 : Nat → Int32 → Int64 → Int64 → UInt64 → Int32 → Int32 → Int32 → jM → Option (Int32 × jM)) (v0 : Nat) (v1 : Int32) (v3 : Int64) (v5 : Int64) (v7 : UInt64) (v9 : Int32) (v11 : Int32) (t0 : Int32) (S : jM) : Option (Int32 × jM) := jlet (v11 + (1 : Int32)) (fun x8 => k126 v0 v1 v3 v5 v7 v9 t0 x8 S)
noncomputable def f_X12_best_238 (k112 : Nat → Int32 → Int64 → Int64 → UInt64 → Int32 → jM → Option (Int32 × jM)) (k126 : Nat → Int32 → Int64 → Int64 → UInt64 → Int32 → Int32 → Int32 → jM → Option (Int32 × jM)) (v0 : Nat) (v1 : Int32) (v3 : Int64) (v5 : Int64) (v7 : UInt64) (v9 : Int32) (v10 : Int32) (v11 : Int32) (S : jM) : Option (Int32 × jM) := f_X12_best_240 k112 k126 v0 v1 v3 v5 v7 v9 v11 v10 S
noncomputable def f_X12_best_216 (k112 : Nat → Int32 → Int64 → Int64 → UInt64 → Int32 → jM → Option (Int32 × jM)) (k126 : Nat → Int32 → Int64 → Int64 → UInt64 → Int32 → Int32 → Int32 → jM → Option (Int32 × jM)) (v0 : Nat) (v1 : Int32) (v3 : Int64) (v5 : Int64) (v7 : UInt64) (v9 : Int32) (v10 : Int32) (v11 : Int32) (t0 : Int32) (S : jM) : Option (Int32 × jM) := if jK v0 = 10 then (jR S 135 v0).bind (fun r10 => if jA r10 15 v11 = true then if (jAI S r10 (v11).toNatClampNeg) = 0 then if t0 = 0 then f_X12_best_238 k112 k126 v0 v1 v3 v5 v7 v9 v10 v11 S else f_X12_best_240 k112 k126 v0 v1 v3 v5 v7 v9 v11 v11 S else f_X12_best_238 k112 k126 v0 v1 v3 v5 v7 v9 v10 v11 S else none) else none
noncomputable def f_X12_best_215 (k112 : Nat → Int32 → Int64 → Int64 → UInt64 → Int32 → jM → Option (Int32 × jM)) (k126 : Nat → Int32 → Int64 → Int64 → UInt64 → Int32 → Int32 → Int32 → jM → Option (Int32 × jM)) (v0 : Nat) (v1 : Int32) (v3 : Int64) (v5 : Int64) (v7 : UInt64) (v9 : Int32) (v10 : Int32) (v11 : Int32) (S : jM) : Option (Int32 × jM) := f_X12_best_216 k112 k126 v0 v1 v3 v5 v7 v9 v10 v11 (0 : Int32) S
noncomputable def f_X12_best_211 (k112 : Nat → Int32 → Int64 → Int64 → UInt64 → Int32 → jM → Option (Int32 × jM)) (k126 : Nat → Int32 → Int64 → Int64 → UInt64 → Int32 → Int32 → Int32 → jM → Option (Int32 × jM)) (v0 : Nat) (v1 : Int32) (v3 : Int64) (v5 : Int64) (v7 : UInt64) (v9 : Int32) (v10 : Int32) (v11 : Int32) (S : jM) : Option (Int32 × jM) := f_X12_best_216 k112 k126 v0 v1 v3 v5 v7 v9 v10 v11 (1 : Int32) S
noncomputable def f_X12_best_126 (k112 : Nat → Int32 → Int64 → Int64 → UInt64 → Int32 → jM → Option (Int32 × jM)) : Nat → Nat → Int32 → Int64 → Int64 → UInt64 → Int32 → Int32 → Int32 → jM → Option (Int32 × jM)
  | 0, _, _, _, _, _, _, _, _, _ => none
  | n + 1, v0, v1, v3, v5, v7, v9, v10, v11, S => if jK v0 = 10 then (jR S 89 v0).bind (fun r16 => if jA r16 13 v1 = true then if (jAI S r16 (v1).toNatClampNeg) ≤ v11 then (jR S 135 v0).bind (fun r20 => if jA r20 15 v10 = true then jlet (jrI S r20 (upd (jAI S r20) (v10).toNatClampNeg (vp_nar .boolean (1 : Int32)))) (fun S23 => (jR S23 90 v0).bind (fun r24 => if jA r24 14 (((12 : Int32) * v1) + v10) = true then jlet (jAL S23 r24 (((12 : Int32) * v1) + v10).toNatClampNeg) (fun x27 => jlet (v5 + x27) (fun x28 => (jR S23 88 v0).bind (fun r29 => if jA r29 13 v1 = true then if (jAI S23 r29 (v1).toNatClampNeg) = (4 : Int32) then f_X12_best_310 k112 v0 v1 v3 v7 v9 v10 x28 S23 else if (0 : Int64) ≤ ((v5 ^^^ x28) &&& (x27 ^^^ x28)) then f_X12_best_310 k112 v0 v1 v3 v7 v9 v10 x28 S23 else jbd (f_X12_failing v0 (6 : Int32) S23) (fun x34 S35 => some (x34, S35)) else none))) else none)) else none) else jlet (((12 : Int32) * v1) + v11) (fun x37 => jlet (((12 : Int32) * v1) + v10) (fun x38 => if v10 < 0 then f_X12_best_211 k112 (f_X12_best_126 k112 n) v0 v1 v3 v5 v7 v9 v10 v11 S else (jR S 88 v0).bind (fun r40 => if jA r40 13 v1 = true then if (jAI S r40 (v1).toNatClampNeg) = (4 : Int32) then (jR S 91 v0).bind (fun r51 => if jA r51 12 x37 = true then (jR S 91 v0).bind (fun r54 => if jA r54 12 x38 = true then (f_X12_isAbove (jAD S r51 (x37).toNatClampNeg) (jAD S r54 (x38).toNatClampNeg)).bind (fun x57 => if x57 = 0 then f_X12_best_215 k112 (f_X12_best_126 k112 n) v0 v1 v3 v5 v7 v9 v10 v11 S else f_X12_best_211 k112 (f_X12_best_126 k112 n) v0 v1 v3 v5 v7 v9 v10 v11 S) else none) else none) else (jR S 90 v0).bind (fun r44 => if jA r44 14 x37 = true then (jR S 90 v0).bind (fun r47 => if jA r47 14 x38 = true then if (jAL S r44 (x37).toNatClampNeg) ≤ (jAL S r47 (x38).toNatClampNeg) then f_X12_best_215 k112 (f_X12_best_126 k112 n) v0 v1 v3 v5 v7 v9 v10 v11 S else f_X12_best_211 k112 (f_X12_best_126 k112 n) v0 v1 v3 v5 v7 v9 v10 v11 S else none) else none) else none))) else none) else none
noncomputable def f_X12_best_112 : Nat → Nat → Int32 → Int64 → Int64 → UInt64 → Int32 → jM → Option (Int32 × jM)
  | 0, _, _, _, _, _, _, _ => none
  | n + 1, v0, v1, v3, v5, v7, v9, S => if v3 ≤ (v9.toInt64) then if jK v0 = 10 then (jR S 88 v0).bind (fun r62 => if jA r62 13 v1 = true then if (jAI S r62 (v1).toNatClampNeg) = (4 : Int32) then jbd (f_X12_ofReal v0 v7 S) (fun x69 S70 => some (x69, S70)) else jbd (f_X12_ofWhole v0 v5 S) (fun x66 S67 => some (x66, S67)) else none) else none else f_X12_best_126 (f_X12_best_112 n) 1100000 v0 v1 v3 v5 v7 v9 (-1 : Int32) (0 : Int32) S
noncomputable def f_X12_best_82 : Nat → Nat → Int32 → Int64 → Int32 → jM → Option (Int32 × jM)
  | 0, _, _, _, _, _ => none
  | n + 1, v0, v1, v3, v5, S => if (12 : Int32) ≤ v5 then jlet (FP.dconst0) (fun x73 => f_X12_best_112 1100000 v0 v1 v3 (0 : Int64) x73 (0 : Int32) S) else if jK v0 = 10 then (jR S 135 v0).bind (fun r75 => if jA r75 15 v5 = true then jlet (jrI S r75 (upd (jAI S r75) (v5).toNatClampNeg (vp_nar .boolean (0 : Int32)))) (fun S78 => jlet (v5 + (1 : Int32)) (fun x79 => (f_X12_best_82 n) v0 v1 v3 x79 S78)) else none) else none
noncomputable def f_X12_best_33 (v0 : Nat) (S : jM) : Option (Int32 × jM) := if jK v0 = 10 then jbd (f_X12_failing v0 (2 : Int32) S) (fun x80 S81 => some (x80, S81)) else none
noncomputable def f_X12_best (v0 : Nat) (v1 : Int32) (v2 : Int32) (S : jM) : Option (Int32 × jM) := if jK v0 = 10 then (jR S 88 v0).bind (fun r85 => if jA r85 13 v1 = true then if (f_X12_isRow (jAI S r85 (v1).toNatClampNeg)) = 0 then f_X12_best_33 v0 S else (jR S 88 v0).bind (fun r89 => if jA r89 13 v1 = true then if (f_X12_isKin (jAI S r89 (v1).toNatClampNeg)) = 0 then (jR S 88 v0).bind (fun r93 => if jA r93 13 v2 = true then if (jAI S r93 (v2).toNatClampNeg) = 0 then (jR S 90 v0).bind (fun r97 => if jA r97 14 ((12 : Int32) * v2) = true then jlet (jAL S r97 ((12 : Int32) * v2).toNatClampNeg) (fun x100 => if (0 : Int64) ≤ x100 then (jR S 89 v0).bind (fun r102 => if jA r102 13 v1 = true then if x100 ≤ ((jAI S r102 (v1).toNatClampNeg).toInt64) then f_X12_best_82 1100000 v0 v1 x100 (0 : Int32) S else jbd (f_X12_failing v0 (3 : Int32) S) (fun x106 S107 => some (x106, S107)) else none) else jbd (f_X12_failing v0 (4 : Int32) S) (fun x109 S110 => some (x109, S110))) else none) else f_X12_best_33 v0 S else none) else f_X12_best_33 v0 S else none) else none) else none
set_option maxRecDepth 100000 in
set_option maxHeartbeats 4000000 in
theorem B_X12_best_310 {p : Program} {l : Launch} {e : Env} {s : State} {m : MethodId} {args : Array Value} {below : List Frame} {meth : Method} {c : Code} {g : jG} {rr : Int32} {SS : jM} {v0 : Nat} {v1 : Int32} {v3 : Int64} {v7 : UInt64} {v9 : Int32} {v10 : Int32} {v13 : Int64} {S : jM} {k112 : Nat → Int32 → Int64 → Int64 → UInt64 → Int32 → jM → Option (Int32 × jM)} (E : jEnv p s m args meth c cX12_best "PensionHouseModel" (some .int) 15 g) (hk112 : ∀ (v0 : Nat) (v1 : Int32) (v3 : Int64) (v5 : Int64) (v7 : UInt64) (v9 : Int32) (S : jM) (H : Heap) (locs : List Loc) (ls : Array Slot), k112 v0 v1 v3 v5 v7 v9 S = some (rr, SS) → jAt g S s H locs → lv_has ls 15 [(0, .ref (g.2.2 + v0)), (1, .int v1), (3, .long v3), (5, .long v5), (7, .double v7), (9, .int v9)] → W p l e (jRm 5 0 0) s m args below meth c H locs 0 0 (MQ below (jQi g rr SS) args s 0 0 (jA0 g)) (F0 m 112 ls [])) {H : Heap} {locs : List Loc} {ls : Array Slot} (hf : f_X12_best_310 k112 v0 v1 v3 v7 v9 v10 v13 S = some (rr, SS)) (hM : jAt g S s H locs) (hl : lv_has ls 15 [(0, .ref (g.2.2 + v0)), (1, .int v1), (3, .long v3), (7, .double v7), (9, .int v9), (10, .int v10), (13, .long v13)]) : W p l e (jRm 5 0 0) s m args below meth c H locs 0 0 (MQ below (jQi g rr SS) args s 0 0 (jA0 g)) (F0 m 310 ls []) := by
  obtain ⟨hx, hb, hml, -, hts, hown, hK, -, hstr⟩ := id E
  unfold f_X12_best_310 at hf
  refine lv_lload hx hb dX12_best_310 (lv_at hl 6 rfl) ?_
  refine lv_lstore (lv' := [(5, .long v13), (0, .ref (g.2.2 + v0)), (1, .int v1), (3, .long v3), (7, .double v7), (9, .int v9), (10, .int v10), (13, .long v13)]) hx hb dX12_best_312 hl (by decide) rfl (fun ls hl => ?_)
  refine lv_dload hx hb dX12_best_314 (lv_at hl 4 rfl) ?_
  refine lv_aload_n hx hb dX12_best_316 rfl (lv_at hl 1 rfl) ?_
  obtain ⟨hq1, hf⟩ := jif hf
  refine gt_91 E hM hq1 lk_6_5 dX12_best_317 ?_
  obtain ⟨r2, hr3, hf⟩ := jb hf
  rw [hr3]
  show W p l e _ s m args below meth c H locs 0 0 _ (F0 m _ ls (.ref (g.2.2 + r2) :: _))
  refine lv_bipush (v := (12 : Int32)) hx hb dX12_best_320 (by decide) ?_
  refine lv_iload_n hx hb dX12_best_322 rfl (lv_at hl 2 rfl) ?_
  refine lv_imul hx hb dX12_best_323 ?_
  refine lv_iload hx hb dX12_best_324 (lv_at hl 6 rfl) ?_
  refine lv_iadd hx hb dX12_best_326 ?_
  obtain ⟨ha4, hf⟩ := jif hf
  refine jdald E hM ha4 dX12_best_327 ?_
  obtain ⟨x5, hc6, hf⟩ := jb hf
  refine jbackD hM (jrunS E hM ci_X12_plus (C_X12_plus hc6) lk_8_138 hl.1 rfl rfl (Nat.le_of_ble_eq_true rfl) ⟨Nat.le_of_ble_eq_true rfl, Nat.le_of_ble_eq_true rfl⟩ ⟨Nat.le_refl _, Nat.le_refl _⟩ dX12_best_328) (fun H locs hM => ?_)
  refine lv_dstore (lv' := [(7, .double x5), (5, .long v13), (0, .ref (g.2.2 + v0)), (1, .int v1), (3, .long v3), (9, .int v9), (10, .int v10), (13, .long v13)]) hx hb dX12_best_331 hl (by decide) rfl (fun ls hl => ?_)
  obtain ⟨x7, ex7⟩ : ∃ z, z = v9 + (1 : Int32) := ⟨_, rfl⟩
  have hf := jlet_y ex7 hf
  refine lv_iinc (v := x7) (lv' := [(9, .int x7), (7, .double x5), (5, .long v13), (0, .ref (g.2.2 + v0)), (1, .int v1), (3, .long v3), (10, .int v10), (13, .long v13)]) hx hb dX12_best_333 hl (k := 5) rfl (by rw [ex7]; rfl) (by decide) rfl (fun ls hl => ?_)
  refine lv_goto (tgt := 112) hx hb dX12_best_336 (by decide) ?_
  exact hk112 v0 v1 v3 v13 x5 x7 S _ _ _ hf hM (lv_sub hl [3, 4, 5, 2, 1, 0] rfl)
set_option maxRecDepth 100000 in
set_option maxHeartbeats 4000000 in
theorem B_X12_best_240 {p : Program} {l : Launch} {e : Env} {s : State} {m : MethodId} {args : Array Value} {below : List Frame} {meth : Method} {c : Code} {g : jG} {rr : Int32} {SS : jM} {v0 : Nat} {v1 : Int32} {v3 : Int64} {v5 : Int64} {v7 : UInt64} {v9 : Int32} {v11 : Int32} {t0 : Int32} {S : jM} {k112 : Nat → Int32 → Int64 → Int64 → UInt64 → Int32 → jM → Option (Int32 × jM)} {k126 : Nat → Int32 → Int64 → Int64 → UInt64 → Int32 → Int32 → Int32 → jM → Option (Int32 × jM)} (E : jEnv p s m args meth c cX12_best "PensionHouseModel" (some .int) 15 g) (hk112 : ∀ (v0 : Nat) (v1 : Int32) (v3 : Int64) (v5 : Int64) (v7 : UInt64) (v9 : Int32) (S : jM) (H : Heap) (locs : List Loc) (ls : Array Slot), k112 v0 v1 v3 v5 v7 v9 S = some (rr, SS) → jAt g S s H locs → lv_has ls 15 [(0, .ref (g.2.2 + v0)), (1, .int v1), (3, .long v3), (5, .long v5), (7, .double v7), (9, .int v9)] → W p l e (jRm 5 0 0) s m args below meth c H locs 0 0 (MQ below (jQi g rr SS) args s 0 0 (jA0 g)) (F0 m 112 ls [])) (hk126 : ∀ (v0 : Nat) (v1 : Int32) (v3 : Int64) (v5 : Int64) (v7 : UInt64) (v9 : Int32) (v10 : Int32) (v11 : Int32) (S : jM) (H : Heap) (locs : List Loc) (ls : Array Slot), k126 v0 v1 v3 v5 v7 v9 v10 v11 S = some (rr, SS) → jAt g S s H locs → lv_has ls 15 [(0, .ref (g.2.2 + v0)), (1, .int v1), (3, .long v3), (5, .long v5), (7, .double v7), (9, .int v9), (10, .int v10), (11, .int v11)] → W p l e (jRm 5 0 0) s m args below meth c H locs 0 0 (MQ below (jQi g rr SS) args s 0 0 (jA0 g)) (F0 m 126 ls [])) {H : Heap} {locs : List Loc} {ls : Array Slot} (hf : f_X12_best_240 k112 k126 v0 v1 v3 v5 v7 v9 v11 t0 S = some (rr, SS)) (hM : jAt g S s H locs) (hl : lv_has ls 15 [(0, .ref (g.2.2 + v0)), (1, .int v1), (3, .long v3), (5, .long v5), (7, .double v7), (9, .int v9), (11, .int v11)]) : W p l e (jRm 5 0 0) s m args below meth c H locs 0 0 (MQ below (jQi g rr SS) args s 0 0 (jA0 g)) (F0 m 240 ls [.int t0]) := by
  obtain ⟨hx, hb, hml, -, hts, hown, hK, -, hstr⟩ := id E
  unfold f_X12_best_240 at hf
  refine lv_istore (lv' := [(10, .int t0), (0, .ref (g.2.2 + v0)), (1, .int v1), (3, .long v3), (5, .long v5), (7, .double v7), (9, .int v9), (11, .int v11)]) hx hb dX12_best_240 hl (by decide) rfl (fun ls hl => ?_)
  obtain ⟨x8, ex8⟩ : ∃ z, z = v11 + (1 : Int32) := ⟨_, rfl⟩
  have hf := jlet_y ex8 hf
  refine lv_iinc (v := x8) (lv' := [(11, .int x8), (10, .int t0), (0, .ref (g.2.2 + v0)), (1, .int v1), (3, .long v3), (5, .long v5), (7, .double v7), (9, .int v9)]) hx hb dX12_best_242 hl (k := 7) rfl (by rw [ex8]; rfl) (by decide) rfl (fun ls hl => ?_)
  refine lv_goto (tgt := 126) hx hb dX12_best_245 (by decide) ?_
  exact hk126 v0 v1 v3 v5 v7 v9 t0 x8 S _ _ _ hf hM (lv_sub hl [2, 3, 4, 5, 6, 7, 1, 0] rfl)
set_option maxRecDepth 100000 in
set_option maxHeartbeats 4000000 in
theorem B_X12_best_238 {p : Program} {l : Launch} {e : Env} {s : State} {m : MethodId} {args : Array Value} {below : List Frame} {meth : Method} {c : Code} {g : jG} {rr : Int32} {SS : jM} {v0 : Nat} {v1 : Int32} {v3 : Int64} {v5 : Int64} {v7 : UInt64} {v9 : Int32} {v10 : Int32} {v11 : Int32} {S : jM} {k112 : Nat → Int32 → Int64 → Int64 → UInt64 → Int32 → jM → Option (Int32 × jM)} {k126 : Nat → Int32 → Int64 → Int64 → UInt64 → Int32 → Int32 → Int32 → jM → Option (Int32 × jM)} (E : jEnv p s m args meth c cX12_best "PensionHouseModel" (some .int) 15 g) (hk112 : ∀ (v0 : Nat) (v1 : Int32) (v3 : Int64) (v5 : Int64) (v7 : UInt64) (v9 : Int32) (S : jM) (H : Heap) (locs : List Loc) (ls : Array Slot), k112 v0 v1 v3 v5 v7 v9 S = some (rr, SS) → jAt g S s H locs → lv_has ls 15 [(0, .ref (g.2.2 + v0)), (1, .int v1), (3, .long v3), (5, .long v5), (7, .double v7), (9, .int v9)] → W p l e (jRm 5 0 0) s m args below meth c H locs 0 0 (MQ below (jQi g rr SS) args s 0 0 (jA0 g)) (F0 m 112 ls [])) (hk126 : ∀ (v0 : Nat) (v1 : Int32) (v3 : Int64) (v5 : Int64) (v7 : UInt64) (v9 : Int32) (v10 : Int32) (v11 : Int32) (S : jM) (H : Heap) (locs : List Loc) (ls : Array Slot), k126 v0 v1 v3 v5 v7 v9 v10 v11 S = some (rr, SS) → jAt g S s H locs → lv_has ls 15 [(0, .ref (g.2.2 + v0)), (1, .int v1), (3, .long v3), (5, .long v5), (7, .double v7), (9, .int v9), (10, .int v10), (11, .int v11)] → W p l e (jRm 5 0 0) s m args below meth c H locs 0 0 (MQ below (jQi g rr SS) args s 0 0 (jA0 g)) (F0 m 126 ls [])) {H : Heap} {locs : List Loc} {ls : Array Slot} (hf : f_X12_best_238 k112 k126 v0 v1 v3 v5 v7 v9 v10 v11 S = some (rr, SS)) (hM : jAt g S s H locs) (hl : lv_has ls 15 [(0, .ref (g.2.2 + v0)), (1, .int v1), (3, .long v3), (5, .long v5), (7, .double v7), (9, .int v9), (10, .int v10), (11, .int v11)]) : W p l e (jRm 5 0 0) s m args below meth c H locs 0 0 (MQ below (jQi g rr SS) args s 0 0 (jA0 g)) (F0 m 238 ls []) := by
  obtain ⟨hx, hb, hml, -, hts, hown, hK, -, hstr⟩ := id E
  unfold f_X12_best_238 at hf
  refine lv_iload hx hb dX12_best_238 (lv_at hl 6 rfl) ?_
  exact B_X12_best_240 E hk112 hk126 hf hM (lv_sub hl [0, 1, 2, 3, 4, 5, 7] rfl)
set_option maxRecDepth 100000 in
set_option maxHeartbeats 4000000 in
theorem B_X12_best_216 {p : Program} {l : Launch} {e : Env} {s : State} {m : MethodId} {args : Array Value} {below : List Frame} {meth : Method} {c : Code} {g : jG} {rr : Int32} {SS : jM} {v0 : Nat} {v1 : Int32} {v3 : Int64} {v5 : Int64} {v7 : UInt64} {v9 : Int32} {v10 : Int32} {v11 : Int32} {t0 : Int32} {S : jM} {k112 : Nat → Int32 → Int64 → Int64 → UInt64 → Int32 → jM → Option (Int32 × jM)} {k126 : Nat → Int32 → Int64 → Int64 → UInt64 → Int32 → Int32 → Int32 → jM → Option (Int32 × jM)} (E : jEnv p s m args meth c cX12_best "PensionHouseModel" (some .int) 15 g) (hk112 : ∀ (v0 : Nat) (v1 : Int32) (v3 : Int64) (v5 : Int64) (v7 : UInt64) (v9 : Int32) (S : jM) (H : Heap) (locs : List Loc) (ls : Array Slot), k112 v0 v1 v3 v5 v7 v9 S = some (rr, SS) → jAt g S s H locs → lv_has ls 15 [(0, .ref (g.2.2 + v0)), (1, .int v1), (3, .long v3), (5, .long v5), (7, .double v7), (9, .int v9)] → W p l e (jRm 5 0 0) s m args below meth c H locs 0 0 (MQ below (jQi g rr SS) args s 0 0 (jA0 g)) (F0 m 112 ls [])) (hk126 : ∀ (v0 : Nat) (v1 : Int32) (v3 : Int64) (v5 : Int64) (v7 : UInt64) (v9 : Int32) (v10 : Int32) (v11 : Int32) (S : jM) (H : Heap) (locs : List Loc) (ls : Array Slot), k126 v0 v1 v3 v5 v7 v9 v10 v11 S = some (rr, SS) → jAt g S s H locs → lv_has ls 15 [(0, .ref (g.2.2 + v0)), (1, .int v1), (3, .long v3), (5, .long v5), (7, .double v7), (9, .int v9), (10, .int v10), (11, .int v11)] → W p l e (jRm 5 0 0) s m args below meth c H locs 0 0 (MQ below (jQi g rr SS) args s 0 0 (jA0 g)) (F0 m 126 ls [])) {H : Heap} {locs : List Loc} {ls : Array Slot} (hf : f_X12_best_216 k112 k126 v0 v1 v3 v5 v7 v9 v10 v11 t0 S = some (rr, SS)) (hM : jAt g S s H locs) (hl : lv_has ls 15 [(0, .ref (g.2.2 + v0)), (1, .int v1), (3, .long v3), (5, .long v5), (7, .double v7), (9, .int v9), (10, .int v10), (11, .int v11)]) : W p l e (jRm 5 0 0) s m args below meth c H locs 0 0 (MQ below (jQi g rr SS) args s 0 0 (jA0 g)) (F0 m 216 ls [.int t0]) := by
  obtain ⟨hx, hb, hml, -, hts, hown, hK, -, hstr⟩ := id E
  unfold f_X12_best_216 at hf
  refine lv_istore (lv' := [(14, .int t0), (0, .ref (g.2.2 + v0)), (1, .int v1), (3, .long v3), (5, .long v5), (7, .double v7), (9, .int v9), (10, .int v10), (11, .int v11)]) hx hb dX12_best_216 hl (by decide) rfl (fun ls hl => ?_)
  refine lv_aload_n hx hb dX12_best_218 rfl (lv_at hl 1 rfl) ?_
  obtain ⟨hq9, hf⟩ := jif hf
  refine gt_135 E hM hq9 lk_6_49 dX12_best_219 ?_
  obtain ⟨r10, hr11, hf⟩ := jb hf
  rw [hr11]
  show W p l e _ s m args below meth c H locs 0 0 _ (F0 m _ ls (.ref (g.2.2 + r10) :: _))
  refine lv_iload hx hb dX12_best_222 (lv_at hl 8 rfl) ?_
  obtain ⟨ha12, hf⟩ := jif hf
  refine jzald E hM ha12 dX12_best_224 ?_
  refine lv_if_ne (tgt := 238) hx hb dX12_best_225 (by decide) (fun c13 => ?_) (fun c13 => ?_)
  · have hf := jf c13 hf
    exact B_X12_best_238 E hk112 hk126 hf hM (lv_sub hl [1, 2, 3, 4, 5, 6, 7, 8] rfl)
  · have hf := jt c13 hf
    refine lv_iload hx hb dX12_best_228 (lv_at hl 0 rfl) ?_
    refine lv_if_eq (tgt := 238) hx hb dX12_best_230 (by decide) (fun c14 => ?_) (fun c14 => ?_)
    · have hf := jt c14 hf
      exact B_X12_best_238 E hk112 hk126 hf hM (lv_sub hl [1, 2, 3, 4, 5, 6, 7, 8] rfl)
    · have hf := jf c14 hf
      refine lv_iload hx hb dX12_best_233 (lv_at hl 8 rfl) ?_
      refine lv_goto (tgt := 240) hx hb dX12_best_235 (by decide) ?_
      exact B_X12_best_240 E hk112 hk126 hf hM (lv_sub hl [1, 2, 3, 4, 5, 6, 8] rfl)
set_option maxRecDepth 100000 in
set_option maxHeartbeats 4000000 in
theorem B_X12_best_215 {p : Program} {l : Launch} {e : Env} {s : State} {m : MethodId} {args : Array Value} {below : List Frame} {meth : Method} {c : Code} {g : jG} {rr : Int32} {SS : jM} {v0 : Nat} {v1 : Int32} {v3 : Int64} {v5 : Int64} {v7 : UInt64} {v9 : Int32} {v10 : Int32} {v11 : Int32} {S : jM} {k112 : Nat → Int32 → Int64 → Int64 → UInt64 → Int32 → jM → Option (Int32 × jM)} {k126 : Nat → Int32 → Int64 → Int64 → UInt64 → Int32 → Int32 → Int32 → jM → Option (Int32 × jM)} (E : jEnv p s m args meth c cX12_best "PensionHouseModel" (some .int) 15 g) (hk112 : ∀ (v0 : Nat) (v1 : Int32) (v3 : Int64) (v5 : Int64) (v7 : UInt64) (v9 : Int32) (S : jM) (H : Heap) (locs : List Loc) (ls : Array Slot), k112 v0 v1 v3 v5 v7 v9 S = some (rr, SS) → jAt g S s H locs → lv_has ls 15 [(0, .ref (g.2.2 + v0)), (1, .int v1), (3, .long v3), (5, .long v5), (7, .double v7), (9, .int v9)] → W p l e (jRm 5 0 0) s m args below meth c H locs 0 0 (MQ below (jQi g rr SS) args s 0 0 (jA0 g)) (F0 m 112 ls [])) (hk126 : ∀ (v0 : Nat) (v1 : Int32) (v3 : Int64) (v5 : Int64) (v7 : UInt64) (v9 : Int32) (v10 : Int32) (v11 : Int32) (S : jM) (H : Heap) (locs : List Loc) (ls : Array Slot), k126 v0 v1 v3 v5 v7 v9 v10 v11 S = some (rr, SS) → jAt g S s H locs → lv_has ls 15 [(0, .ref (g.2.2 + v0)), (1, .int v1), (3, .long v3), (5, .long v5), (7, .double v7), (9, .int v9), (10, .int v10), (11, .int v11)] → W p l e (jRm 5 0 0) s m args below meth c H locs 0 0 (MQ below (jQi g rr SS) args s 0 0 (jA0 g)) (F0 m 126 ls [])) {H : Heap} {locs : List Loc} {ls : Array Slot} (hf : f_X12_best_215 k112 k126 v0 v1 v3 v5 v7 v9 v10 v11 S = some (rr, SS)) (hM : jAt g S s H locs) (hl : lv_has ls 15 [(0, .ref (g.2.2 + v0)), (1, .int v1), (3, .long v3), (5, .long v5), (7, .double v7), (9, .int v9), (10, .int v10), (11, .int v11)]) : W p l e (jRm 5 0 0) s m args below meth c H locs 0 0 (MQ below (jQi g rr SS) args s 0 0 (jA0 g)) (F0 m 215 ls []) := by
  obtain ⟨hx, hb, hml, -, hts, hown, hK, -, hstr⟩ := id E
  unfold f_X12_best_215 at hf
  refine lv_iconst (v := (0 : Int32)) hx hb dX12_best_215 (by decide) ?_
  exact B_X12_best_216 E hk112 hk126 hf hM (lv_sub hl [0, 1, 2, 3, 4, 5, 6, 7] rfl)
set_option maxRecDepth 100000 in
set_option maxHeartbeats 4000000 in
theorem B_X12_best_211 {p : Program} {l : Launch} {e : Env} {s : State} {m : MethodId} {args : Array Value} {below : List Frame} {meth : Method} {c : Code} {g : jG} {rr : Int32} {SS : jM} {v0 : Nat} {v1 : Int32} {v3 : Int64} {v5 : Int64} {v7 : UInt64} {v9 : Int32} {v10 : Int32} {v11 : Int32} {S : jM} {k112 : Nat → Int32 → Int64 → Int64 → UInt64 → Int32 → jM → Option (Int32 × jM)} {k126 : Nat → Int32 → Int64 → Int64 → UInt64 → Int32 → Int32 → Int32 → jM → Option (Int32 × jM)} (E : jEnv p s m args meth c cX12_best "PensionHouseModel" (some .int) 15 g) (hk112 : ∀ (v0 : Nat) (v1 : Int32) (v3 : Int64) (v5 : Int64) (v7 : UInt64) (v9 : Int32) (S : jM) (H : Heap) (locs : List Loc) (ls : Array Slot), k112 v0 v1 v3 v5 v7 v9 S = some (rr, SS) → jAt g S s H locs → lv_has ls 15 [(0, .ref (g.2.2 + v0)), (1, .int v1), (3, .long v3), (5, .long v5), (7, .double v7), (9, .int v9)] → W p l e (jRm 5 0 0) s m args below meth c H locs 0 0 (MQ below (jQi g rr SS) args s 0 0 (jA0 g)) (F0 m 112 ls [])) (hk126 : ∀ (v0 : Nat) (v1 : Int32) (v3 : Int64) (v5 : Int64) (v7 : UInt64) (v9 : Int32) (v10 : Int32) (v11 : Int32) (S : jM) (H : Heap) (locs : List Loc) (ls : Array Slot), k126 v0 v1 v3 v5 v7 v9 v10 v11 S = some (rr, SS) → jAt g S s H locs → lv_has ls 15 [(0, .ref (g.2.2 + v0)), (1, .int v1), (3, .long v3), (5, .long v5), (7, .double v7), (9, .int v9), (10, .int v10), (11, .int v11)] → W p l e (jRm 5 0 0) s m args below meth c H locs 0 0 (MQ below (jQi g rr SS) args s 0 0 (jA0 g)) (F0 m 126 ls [])) {H : Heap} {locs : List Loc} {ls : Array Slot} (hf : f_X12_best_211 k112 k126 v0 v1 v3 v5 v7 v9 v10 v11 S = some (rr, SS)) (hM : jAt g S s H locs) (hl : lv_has ls 15 [(0, .ref (g.2.2 + v0)), (1, .int v1), (3, .long v3), (5, .long v5), (7, .double v7), (9, .int v9), (10, .int v10), (11, .int v11)]) : W p l e (jRm 5 0 0) s m args below meth c H locs 0 0 (MQ below (jQi g rr SS) args s 0 0 (jA0 g)) (F0 m 211 ls []) := by
  obtain ⟨hx, hb, hml, -, hts, hown, hK, -, hstr⟩ := id E
  unfold f_X12_best_211 at hf
  refine lv_iconst (v := (1 : Int32)) hx hb dX12_best_211 (by decide) ?_
  refine lv_goto (tgt := 216) hx hb dX12_best_212 (by decide) ?_
  exact B_X12_best_216 E hk112 hk126 hf hM (lv_sub hl [0, 1, 2, 3, 4, 5, 6, 7] rfl)
set_option maxRecDepth 100000 in
set_option maxHeartbeats 4000000 in
theorem B_X12_best_126 {p : Program} {l : Launch} {e : Env} {s : State} {m : MethodId} {args : Array Value} {below : List Frame} {meth : Method} {c : Code} {g : jG} {rr : Int32} {SS : jM} {k112 : Nat → Int32 → Int64 → Int64 → UInt64 → Int32 → jM → Option (Int32 × jM)} (E : jEnv p s m args meth c cX12_best "PensionHouseModel" (some .int) 15 g) (hk112 : ∀ (v0 : Nat) (v1 : Int32) (v3 : Int64) (v5 : Int64) (v7 : UInt64) (v9 : Int32) (S : jM) (H : Heap) (locs : List Loc) (ls : Array Slot), k112 v0 v1 v3 v5 v7 v9 S = some (rr, SS) → jAt g S s H locs → lv_has ls 15 [(0, .ref (g.2.2 + v0)), (1, .int v1), (3, .long v3), (5, .long v5), (7, .double v7), (9, .int v9)] → W p l e (jRm 5 0 0) s m args below meth c H locs 0 0 (MQ below (jQi g rr SS) args s 0 0 (jA0 g)) (F0 m 112 ls [])) : ∀ (n : Nat) (v0 : Nat) (v1 : Int32) (v3 : Int64) (v5 : Int64) (v7 : UInt64) (v9 : Int32) (v10 : Int32) (v11 : Int32) (S : jM) (H : Heap) (locs : List Loc) (ls : Array Slot), f_X12_best_126 k112 n v0 v1 v3 v5 v7 v9 v10 v11 S = some (rr, SS) → jAt g S s H locs → lv_has ls 15 [(0, .ref (g.2.2 + v0)), (1, .int v1), (3, .long v3), (5, .long v5), (7, .double v7), (9, .int v9), (10, .int v10), (11, .int v11)] → W p l e (jRm 5 0 0) s m args below meth c H locs 0 0 (MQ below (jQi g rr SS) args s 0 0 (jA0 g)) (F0 m 126 ls []) := by
  obtain ⟨hx, hb, hml, -, hts, hown, hK, -, hstr⟩ := id E
  intro n
  induction n with
  | zero => intro v0 v1 v3 v5 v7 v9 v10 v11 S H locs ls hf hM hl; rw [f_X12_best_126] at hf; cases hf
  | succ n ih =>
    intro v0 v1 v3 v5 v7 v9 v10 v11 S H locs ls hf hM hl
    rw [f_X12_best_126] at hf
    refine lv_iload hx hb dX12_best_126 (lv_at hl 7 rfl) ?_
    refine lv_aload_n hx hb dX12_best_128 rfl (lv_at hl 0 rfl) ?_
    obtain ⟨hq15, hf⟩ := jif hf
    refine gt_89 E hM hq15 lk_6_3 dX12_best_129 ?_
    obtain ⟨r16, hr17, hf⟩ := jb hf
    rw [hr17]
    show W p l e _ s m args below meth c H locs 0 0 _ (F0 m _ ls (.ref (g.2.2 + r16) :: _))
    refine lv_iload_n hx hb dX12_best_132 rfl (lv_at hl 1 rfl) ?_
    obtain ⟨ha18, hf⟩ := jif hf
    refine jiald E hM ha18 dX12_best_133 ?_
    refine lv_icmp_ge (tgt := 248) hx hb dX12_best_134 (by decide) (fun c19 => ?_) (fun c19 => ?_)
    · have hf := jt c19 hf
      refine lv_aload_n hx hb dX12_best_248 rfl (lv_at hl 0 rfl) ?_
      refine gt_135 E hM hq15 lk_6_49 dX12_best_249 ?_
      obtain ⟨r20, hr21, hf⟩ := jb hf
      rw [hr21]
      show W p l e _ s m args below meth c H locs 0 0 _ (F0 m _ ls (.ref (g.2.2 + r20) :: _))
      refine lv_iload hx hb dX12_best_252 (lv_at hl 6 rfl) ?_
      refine lv_iconst (v := (1 : Int32)) hx hb dX12_best_254 (by decide) ?_
      obtain ⟨ha22, hf⟩ := jif hf
      refine jzast E hM ha22 dX12_best_255 (fun H locs S23 eS23 hM => ?_)
      have hf := jlet_y eS23 hf
      refine lv_aload_n hx hb dX12_best_256 rfl (lv_at hl 0 rfl) ?_
      refine gt_90 E hM hq15 lk_6_4 dX12_best_257 ?_
      obtain ⟨r24, hr25, hf⟩ := jb hf
      rw [hr25]
      show W p l e _ s m args below meth c H locs 0 0 _ (F0 m _ ls (.ref (g.2.2 + r24) :: _))
      refine lv_bipush (v := (12 : Int32)) hx hb dX12_best_260 (by decide) ?_
      refine lv_iload_n hx hb dX12_best_262 rfl (lv_at hl 1 rfl) ?_
      refine lv_imul hx hb dX12_best_263 ?_
      refine lv_iload hx hb dX12_best_264 (lv_at hl 6 rfl) ?_
      refine lv_iadd hx hb dX12_best_266 ?_
      obtain ⟨ha26, hf⟩ := jif hf
      refine jlald E hM ha26 dX12_best_267 ?_
      refine lv_topl (fun x27 ex27 => ?_)
      have hf := jlet_y ex27 hf
      refine lv_lstore (lv' := [(11, .long x27), (0, .ref (g.2.2 + v0)), (1, .int v1), (3, .long v3), (5, .long v5), (7, .double v7), (9, .int v9), (10, .int v10)]) hx hb dX12_best_268 hl (by decide) rfl (fun ls hl => ?_)
      refine lv_lload hx hb dX12_best_270 (lv_at hl 4 rfl) ?_
      refine lv_lload hx hb dX12_best_272 (lv_at hl 0 rfl) ?_
      refine lv_ladd hx hb dX12_best_274 ?_
      refine lv_topl (fun x28 ex28 => ?_)
      have hf := jlet_y ex28 hf
      refine lv_lstore (lv' := [(13, .long x28), (11, .long x27), (0, .ref (g.2.2 + v0)), (1, .int v1), (3, .long v3), (5, .long v5), (7, .double v7), (9, .int v9), (10, .int v10)]) hx hb dX12_best_275 hl (by decide) rfl (fun ls hl => ?_)
      refine lv_aload_n hx hb dX12_best_277 rfl (lv_at hl 2 rfl) ?_
      refine gt_88 E hM hq15 lk_6_2 dX12_best_278 ?_
      obtain ⟨r29, hr30, hf⟩ := jb hf
      rw [hr30]
      show W p l e _ s m args below meth c H locs 0 0 _ (F0 m _ ls (.ref (g.2.2 + r29) :: _))
      refine lv_iload_n hx hb dX12_best_281 rfl (lv_at hl 3 rfl) ?_
      obtain ⟨ha31, hf⟩ := jif hf
      refine jiald E hM ha31 dX12_best_282 ?_
      refine lv_iconst (v := (4 : Int32)) hx hb dX12_best_283 (by decide) ?_
      refine lv_icmp_eq (tgt := 310) hx hb dX12_best_284 (by decide) (fun c32 => ?_) (fun c32 => ?_)
      · have hf := jt c32 hf
        exact B_X12_best_310 E hk112 hf hM (lv_sub hl [2, 3, 4, 6, 7, 8, 0] rfl)
      · have hf := jf c32 hf
        refine lv_lload hx hb dX12_best_287 (lv_at hl 5 rfl) ?_
        refine lv_lload hx hb dX12_best_289 (lv_at hl 0 rfl) ?_
        refine lv_lxor hx hb dX12_best_291 ?_
        refine lv_lload hx hb dX12_best_292 (lv_at hl 1 rfl) ?_
        refine lv_lload hx hb dX12_best_294 (lv_at hl 0 rfl) ?_
        refine lv_lxor hx hb dX12_best_296 ?_
        refine lv_land hx hb dX12_best_297 ?_
        refine lv_lconst (v := (0 : Int64)) hx hb dX12_best_298 (by decide) ?_
        refine jl_ge (tgt := 310) hx hb dX12_best_299 dX12_best_300 (by decide) (fun c33 => ?_) (fun c33 => ?_)
        · have hf := jt c33 hf
          exact B_X12_best_310 E hk112 hf hM (lv_sub hl [2, 3, 4, 6, 7, 8, 0] rfl)
        · have hf := jf c33 hf
          refine lv_aload_n hx hb dX12_best_303 rfl (lv_at hl 2 rfl) ?_
          refine lv_bipush (v := (6 : Int32)) hx hb dX12_best_304 (by decide) ?_
          obtain ⟨x34, S35, hc36, hf⟩ := jbd_e hf
          refine jbackI hM (jrunV E hM ci_X12_failing (C_X12_failing hc36) lk_8_87 hq15 (by decide) rfl hl.1 rfl rfl (Nat.le_of_ble_eq_true rfl) ⟨Nat.le_of_ble_eq_true rfl, Nat.le_of_ble_eq_true rfl⟩ ⟨Nat.le_refl _, Nat.le_refl _⟩ dX12_best_306) (fun H locs hM => ?_)
          exact jireti (jr2 hf) E hM dX12_best_309
    · have hf := jf c19 hf
      refine lv_bipush (v := (12 : Int32)) hx hb dX12_best_137 (by decide) ?_
      refine lv_iload_n hx hb dX12_best_139 rfl (lv_at hl 1 rfl) ?_
      refine lv_imul hx hb dX12_best_140 ?_
      refine lv_iload hx hb dX12_best_141 (lv_at hl 7 rfl) ?_
      refine lv_iadd hx hb dX12_best_143 ?_
      refine lv_topi (fun x37 ex37 => ?_)
      have hf := jlet_y ex37 hf
      refine lv_istore (lv' := [(12, .int x37), (0, .ref (g.2.2 + v0)), (1, .int v1), (3, .long v3), (5, .long v5), (7, .double v7), (9, .int v9), (10, .int v10), (11, .int v11)]) hx hb dX12_best_144 hl (by decide) rfl (fun ls hl => ?_)
      refine lv_bipush (v := (12 : Int32)) hx hb dX12_best_146 (by decide) ?_
      refine lv_iload_n hx hb dX12_best_148 rfl (lv_at hl 2 rfl) ?_
      refine lv_imul hx hb dX12_best_149 ?_
      refine lv_iload hx hb dX12_best_150 (lv_at hl 7 rfl) ?_
      refine lv_iadd hx hb dX12_best_152 ?_
      refine lv_topi (fun x38 ex38 => ?_)
      have hf := jlet_y ex38 hf
      refine lv_istore (lv' := [(13, .int x38), (12, .int x37), (0, .ref (g.2.2 + v0)), (1, .int v1), (3, .long v3), (5, .long v5), (7, .double v7), (9, .int v9), (10, .int v10), (11, .int v11)]) hx hb dX12_best_153 hl (by decide) rfl (fun ls hl => ?_)
      refine lv_iload hx hb dX12_best_155 (lv_at hl 8 rfl) ?_
      refine lv_if_lt (tgt := 211) hx hb dX12_best_157 (by decide) (fun c39 => ?_) (fun c39 => ?_)
      · have hf := jt c39 hf
        exact B_X12_best_211 E hk112 ih hf hM (lv_sub hl [2, 3, 4, 5, 6, 7, 8, 9] rfl)
      · have hf := jf c39 hf
        refine lv_aload_n hx hb dX12_best_160 rfl (lv_at hl 2 rfl) ?_
        refine gt_88 E hM hq15 lk_6_2 dX12_best_161 ?_
        obtain ⟨r40, hr41, hf⟩ := jb hf
        rw [hr41]
        show W p l e _ s m args below meth c H locs 0 0 _ (F0 m _ ls (.ref (g.2.2 + r40) :: _))
        refine lv_iload_n hx hb dX12_best_164 rfl (lv_at hl 3 rfl) ?_
        obtain ⟨ha42, hf⟩ := jif hf
        refine jiald E hM ha42 dX12_best_165 ?_
        refine lv_iconst (v := (4 : Int32)) hx hb dX12_best_166 (by decide) ?_
        refine lv_icmp_ne (tgt := 193) hx hb dX12_best_167 (by decide) (fun c43 => ?_) (fun c43 => ?_)
        · have hf := jf c43 hf
          refine lv_aload_n hx hb dX12_best_193 rfl (lv_at hl 2 rfl) ?_
          refine gt_90 E hM hq15 lk_6_4 dX12_best_194 ?_
          obtain ⟨r44, hr45, hf⟩ := jb hf
          rw [hr45]
          show W p l e _ s m args below meth c H locs 0 0 _ (F0 m _ ls (.ref (g.2.2 + r44) :: _))
          refine lv_iload hx hb dX12_best_197 (lv_at hl 1 rfl) ?_
          obtain ⟨ha46, hf⟩ := jif hf
          refine jlald E hM ha46 dX12_best_199 ?_
          refine lv_aload_n hx hb dX12_best_200 rfl (lv_at hl 2 rfl) ?_
          refine gt_90 E hM hq15 lk_6_4 dX12_best_201 ?_
          obtain ⟨r47, hr48, hf⟩ := jb hf
          rw [hr48]
          show W p l e _ s m args below meth c H locs 0 0 _ (F0 m _ ls (.ref (g.2.2 + r47) :: _))
          refine lv_iload hx hb dX12_best_204 (lv_at hl 0 rfl) ?_
          obtain ⟨ha49, hf⟩ := jif hf
          refine jlald E hM ha49 dX12_best_206 ?_
          refine jl_le (tgt := 215) hx hb dX12_best_207 dX12_best_208 (by decide) (fun c50 => ?_) (fun c50 => ?_)
          · have hf := jt c50 hf
            exact B_X12_best_215 E hk112 ih hf hM (lv_sub hl [2, 3, 4, 5, 6, 7, 8, 9] rfl)
          · have hf := jf c50 hf
            exact B_X12_best_211 E hk112 ih hf hM (lv_sub hl [2, 3, 4, 5, 6, 7, 8, 9] rfl)
        · have hf := jt c43 hf
          refine lv_aload_n hx hb dX12_best_170 rfl (lv_at hl 2 rfl) ?_
          refine gt_91 E hM hq15 lk_6_5 dX12_best_171 ?_
          obtain ⟨r51, hr52, hf⟩ := jb hf
          rw [hr52]
          show W p l e _ s m args below meth c H locs 0 0 _ (F0 m _ ls (.ref (g.2.2 + r51) :: _))
          refine lv_iload hx hb dX12_best_174 (lv_at hl 1 rfl) ?_
          obtain ⟨ha53, hf⟩ := jif hf
          refine jdald E hM ha53 dX12_best_176 ?_
          refine lv_aload_n hx hb dX12_best_177 rfl (lv_at hl 2 rfl) ?_
          refine gt_91 E hM hq15 lk_6_5 dX12_best_178 ?_
          obtain ⟨r54, hr55, hf⟩ := jb hf
          rw [hr55]
          show W p l e _ s m args below meth c H locs 0 0 _ (F0 m _ ls (.ref (g.2.2 + r54) :: _))
          refine lv_iload hx hb dX12_best_181 (lv_at hl 0 rfl) ?_
          obtain ⟨ha56, hf⟩ := jif hf
          refine jdald E hM ha56 dX12_best_183 ?_
          obtain ⟨x57, hc58, hf⟩ := jb hf
          refine jbackI hM (jrunS E hM ci_X12_isAbove (C_X12_isAbove hc58) lk_8_176 hl.1 rfl rfl (Nat.le_of_ble_eq_true rfl) ⟨Nat.le_of_ble_eq_true rfl, Nat.le_of_ble_eq_true rfl⟩ ⟨Nat.le_refl _, Nat.le_refl _⟩ dX12_best_184) (fun H locs hM => ?_)
          refine lv_if_eq (tgt := 215) hx hb dX12_best_187 (by decide) (fun c59 => ?_) (fun c59 => ?_)
          · have hf := jt c59 hf
            exact B_X12_best_215 E hk112 ih hf hM (lv_sub hl [2, 3, 4, 5, 6, 7, 8, 9] rfl)
          · have hf := jf c59 hf
            refine lv_goto (tgt := 211) hx hb dX12_best_190 (by decide) ?_
            exact B_X12_best_211 E hk112 ih hf hM (lv_sub hl [2, 3, 4, 5, 6, 7, 8, 9] rfl)
set_option maxRecDepth 100000 in
set_option maxHeartbeats 4000000 in
theorem B_X12_best_112 {p : Program} {l : Launch} {e : Env} {s : State} {m : MethodId} {args : Array Value} {below : List Frame} {meth : Method} {c : Code} {g : jG} {rr : Int32} {SS : jM} (E : jEnv p s m args meth c cX12_best "PensionHouseModel" (some .int) 15 g)  : ∀ (n : Nat) (v0 : Nat) (v1 : Int32) (v3 : Int64) (v5 : Int64) (v7 : UInt64) (v9 : Int32) (S : jM) (H : Heap) (locs : List Loc) (ls : Array Slot), f_X12_best_112 n v0 v1 v3 v5 v7 v9 S = some (rr, SS) → jAt g S s H locs → lv_has ls 15 [(0, .ref (g.2.2 + v0)), (1, .int v1), (3, .long v3), (5, .long v5), (7, .double v7), (9, .int v9)] → W p l e (jRm 5 0 0) s m args below meth c H locs 0 0 (MQ below (jQi g rr SS) args s 0 0 (jA0 g)) (F0 m 112 ls []) := by
  obtain ⟨hx, hb, hml, -, hts, hown, hK, -, hstr⟩ := id E
  intro n
  induction n with
  | zero => intro v0 v1 v3 v5 v7 v9 S H locs ls hf hM hl; rw [f_X12_best_112] at hf; cases hf
  | succ n ih =>
    intro v0 v1 v3 v5 v7 v9 S H locs ls hf hM hl
    rw [f_X12_best_112] at hf
    refine lv_iload hx hb dX12_best_112 (lv_at hl 5 rfl) ?_
    refine lv_i2l hx hb dX12_best_114 rfl ?_
    refine lv_lload_n hx hb dX12_best_115 rfl (lv_at hl 2 rfl) ?_
    refine jl_ge (tgt := 339) hx hb dX12_best_116 dX12_best_117 (by decide) (fun c60 => ?_) (fun c60 => ?_)
    · have hf := jt c60 hf
      refine lv_aload_n hx hb dX12_best_339 rfl (lv_at hl 0 rfl) ?_
      obtain ⟨hq61, hf⟩ := jif hf
      refine gt_88 E hM hq61 lk_6_2 dX12_best_340 ?_
      obtain ⟨r62, hr63, hf⟩ := jb hf
      rw [hr63]
      show W p l e _ s m args below meth c H locs 0 0 _ (F0 m _ ls (.ref (g.2.2 + r62) :: _))
      refine lv_iload_n hx hb dX12_best_343 rfl (lv_at hl 1 rfl) ?_
      obtain ⟨ha64, hf⟩ := jif hf
      refine jiald E hM ha64 dX12_best_344 ?_
      refine lv_iconst (v := (4 : Int32)) hx hb dX12_best_345 (by decide) ?_
      refine lv_icmp_ne (tgt := 358) hx hb dX12_best_346 (by decide) (fun c65 => ?_) (fun c65 => ?_)
      · have hf := jf c65 hf
        refine lv_aload_n hx hb dX12_best_358 rfl (lv_at hl 0 rfl) ?_
        refine lv_lload hx hb dX12_best_359 (lv_at hl 3 rfl) ?_
        obtain ⟨x66, S67, hc68, hf⟩ := jbd_e hf
        refine jbackI hM (jrunV E hM ci_X12_ofWhole (C_X12_ofWhole hc68) lk_8_91 hq61 (by decide) rfl hl.1 rfl rfl (Nat.le_of_ble_eq_true rfl) ⟨Nat.le_of_ble_eq_true rfl, Nat.le_of_ble_eq_true rfl⟩ ⟨Nat.le_refl _, Nat.le_refl _⟩ dX12_best_361) (fun H locs hM => ?_)
        exact jireti (jr2 hf) E hM dX12_best_364
      · have hf := jt c65 hf
        refine lv_aload_n hx hb dX12_best_349 rfl (lv_at hl 0 rfl) ?_
        refine lv_dload hx hb dX12_best_350 (lv_at hl 4 rfl) ?_
        obtain ⟨x69, S70, hc71, hf⟩ := jbd_e hf
        refine jbackI hM (jrunV E hM ci_X12_ofReal (C_X12_ofReal hc71) lk_8_103 hq61 (by decide) rfl hl.1 rfl rfl (Nat.le_of_ble_eq_true rfl) ⟨Nat.le_of_ble_eq_true rfl, Nat.le_of_ble_eq_true rfl⟩ ⟨Nat.le_refl _, Nat.le_refl _⟩ dX12_best_352) (fun H locs hM => ?_)
        refine lv_goto (tgt := 364) hx hb dX12_best_355 (by decide) ?_
        exact jireti (jr2 hf) E hM dX12_best_364
    · have hf := jf c60 hf
      refine lv_iconst (v := (-1 : Int32)) hx hb dX12_best_120 (by decide) ?_
      refine lv_istore (lv' := [(10, .int (-1 : Int32)), (0, .ref (g.2.2 + v0)), (1, .int v1), (3, .long v3), (5, .long v5), (7, .double v7), (9, .int v9)]) hx hb dX12_best_121 hl (by decide) rfl (fun ls hl => ?_)
      refine lv_iconst (v := (0 : Int32)) hx hb dX12_best_123 (by decide) ?_
      refine lv_istore (lv' := [(11, .int (0 : Int32)), (10, .int (-1 : Int32)), (0, .ref (g.2.2 + v0)), (1, .int v1), (3, .long v3), (5, .long v5), (7, .double v7), (9, .int v9)]) hx hb dX12_best_124 hl (by decide) rfl (fun ls hl => ?_)
      exact B_X12_best_126 E ih 1100000 v0 v1 v3 v5 v7 v9 (-1 : Int32) (0 : Int32) S _ _ _ hf hM (lv_sub hl [2, 3, 4, 5, 6, 7, 1, 0] rfl)
set_option maxRecDepth 100000 in
set_option maxHeartbeats 4000000 in
theorem B_X12_best_82 {p : Program} {l : Launch} {e : Env} {s : State} {m : MethodId} {args : Array Value} {below : List Frame} {meth : Method} {c : Code} {g : jG} {rr : Int32} {SS : jM} (E : jEnv p s m args meth c cX12_best "PensionHouseModel" (some .int) 15 g)  : ∀ (n : Nat) (v0 : Nat) (v1 : Int32) (v3 : Int64) (v5 : Int32) (S : jM) (H : Heap) (locs : List Loc) (ls : Array Slot), f_X12_best_82 n v0 v1 v3 v5 S = some (rr, SS) → jAt g S s H locs → lv_has ls 15 [(0, .ref (g.2.2 + v0)), (1, .int v1), (3, .long v3), (5, .int v5)] → W p l e (jRm 5 0 0) s m args below meth c H locs 0 0 (MQ below (jQi g rr SS) args s 0 0 (jA0 g)) (F0 m 82 ls []) := by
  obtain ⟨hx, hb, hml, -, hts, hown, hK, -, hstr⟩ := id E
  intro n
  induction n with
  | zero => intro v0 v1 v3 v5 S H locs ls hf hM hl; rw [f_X12_best_82] at hf; cases hf
  | succ n ih =>
    intro v0 v1 v3 v5 S H locs ls hf hM hl
    rw [f_X12_best_82] at hf
    refine lv_iload hx hb dX12_best_82 (lv_at hl 3 rfl) ?_
    refine lv_bipush (v := (12 : Int32)) hx hb dX12_best_84 (by decide) ?_
    refine lv_icmp_ge (tgt := 103) hx hb dX12_best_86 (by decide) (fun c72 => ?_) (fun c72 => ?_)
    · have hf := jt c72 hf
      refine lv_lconst (v := (0 : Int64)) hx hb dX12_best_103 (by decide) ?_
      refine lv_lstore (lv' := [(5, .long (0 : Int64)), (0, .ref (g.2.2 + v0)), (1, .int v1), (3, .long v3)]) hx hb dX12_best_104 hl (by decide) rfl (fun ls hl => ?_)
      refine lv_dconst0 hx hb dX12_best_106 ?_
      refine lv_topd (fun x73 ex73 => ?_)
      have hf := jlet_y ex73 hf
      refine lv_dstore (lv' := [(7, .double x73), (5, .long (0 : Int64)), (0, .ref (g.2.2 + v0)), (1, .int v1), (3, .long v3)]) hx hb dX12_best_107 hl (by decide) rfl (fun ls hl => ?_)
      refine lv_iconst (v := (0 : Int32)) hx hb dX12_best_109 (by decide) ?_
      refine lv_istore (lv' := [(9, .int (0 : Int32)), (7, .double x73), (5, .long (0 : Int64)), (0, .ref (g.2.2 + v0)), (1, .int v1), (3, .long v3)]) hx hb dX12_best_110 hl (by decide) rfl (fun ls hl => ?_)
      exact B_X12_best_112 E  1100000 v0 v1 v3 (0 : Int64) x73 (0 : Int32) S _ _ _ hf hM (lv_sub hl [3, 4, 5, 2, 1, 0] rfl)
    · have hf := jf c72 hf
      refine lv_aload_n hx hb dX12_best_89 rfl (lv_at hl 0 rfl) ?_
      obtain ⟨hq74, hf⟩ := jif hf
      refine gt_135 E hM hq74 lk_6_49 dX12_best_90 ?_
      obtain ⟨r75, hr76, hf⟩ := jb hf
      rw [hr76]
      show W p l e _ s m args below meth c H locs 0 0 _ (F0 m _ ls (.ref (g.2.2 + r75) :: _))
      refine lv_iload hx hb dX12_best_93 (lv_at hl 3 rfl) ?_
      refine lv_iconst (v := (0 : Int32)) hx hb dX12_best_95 (by decide) ?_
      obtain ⟨ha77, hf⟩ := jif hf
      refine jzast E hM ha77 dX12_best_96 (fun H locs S78 eS78 hM => ?_)
      have hf := jlet_y eS78 hf
      obtain ⟨x79, ex79⟩ : ∃ z, z = v5 + (1 : Int32) := ⟨_, rfl⟩
      have hf := jlet_y ex79 hf
      refine lv_iinc (v := x79) (lv' := [(5, .int x79), (0, .ref (g.2.2 + v0)), (1, .int v1), (3, .long v3)]) hx hb dX12_best_97 hl (k := 3) rfl (by rw [ex79]; rfl) (by decide) rfl (fun ls hl => ?_)
      refine lv_goto (tgt := 82) hx hb dX12_best_100 (by decide) ?_
      exact ih v0 v1 v3 x79 S78 _ _ _ hf hM (lv_sub hl [1, 2, 3, 0] rfl)
set_option maxRecDepth 100000 in
set_option maxHeartbeats 4000000 in
theorem B_X12_best_33 {p : Program} {l : Launch} {e : Env} {s : State} {m : MethodId} {args : Array Value} {below : List Frame} {meth : Method} {c : Code} {g : jG} {rr : Int32} {SS : jM} {v0 : Nat} {S : jM} (E : jEnv p s m args meth c cX12_best "PensionHouseModel" (some .int) 15 g)  {H : Heap} {locs : List Loc} {ls : Array Slot} (hf : f_X12_best_33 v0 S = some (rr, SS)) (hM : jAt g S s H locs) (hl : lv_has ls 15 [(0, .ref (g.2.2 + v0))]) : W p l e (jRm 5 0 0) s m args below meth c H locs 0 0 (MQ below (jQi g rr SS) args s 0 0 (jA0 g)) (F0 m 33 ls []) := by
  obtain ⟨hx, hb, hml, -, hts, hown, hK, -, hstr⟩ := id E
  unfold f_X12_best_33 at hf
  refine lv_aload_n hx hb dX12_best_33 rfl (lv_at hl 0 rfl) ?_
  refine lv_iconst (v := (2 : Int32)) hx hb dX12_best_34 (by decide) ?_
  obtain ⟨hq83, hf⟩ := jif hf
  obtain ⟨x80, S81, hc82, hf⟩ := jbd_e hf
  refine jbackI hM (jrunV E hM ci_X12_failing (C_X12_failing hc82) lk_8_87 hq83 (by decide) rfl hl.1 rfl rfl (Nat.le_of_ble_eq_true rfl) ⟨Nat.le_of_ble_eq_true rfl, Nat.le_of_ble_eq_true rfl⟩ ⟨Nat.le_refl _, Nat.le_refl _⟩ dX12_best_35) (fun H locs hM => ?_)
  exact jireti (jr2 hf) E hM dX12_best_38
set_option maxRecDepth 100000 in
set_option maxHeartbeats 4000000 in
theorem B_X12_best_0 {p : Program} {l : Launch} {e : Env} {s : State} {m : MethodId} {args : Array Value} {below : List Frame} {meth : Method} {c : Code} {g : jG} {rr : Int32} {SS : jM} {v0 : Nat} {v1 : Int32} {v2 : Int32} {S : jM} (E : jEnv p s m args meth c cX12_best "PensionHouseModel" (some .int) 15 g)  {H : Heap} {locs : List Loc} {ls : Array Slot} (hf : f_X12_best v0 v1 v2 S = some (rr, SS)) (hM : jAt g S s H locs) (hl : lv_has ls 15 [(0, .ref (g.2.2 + v0)), (1, .int v1), (2, .int v2)]) : W p l e (jRm 5 0 0) s m args below meth c H locs 0 0 (MQ below (jQi g rr SS) args s 0 0 (jA0 g)) (F0 m 0 ls []) := by
  obtain ⟨hx, hb, hml, -, hts, hown, hK, -, hstr⟩ := id E
  unfold f_X12_best at hf
  refine lv_aload_n hx hb dX12_best_0 rfl (lv_at hl 0 rfl) ?_
  obtain ⟨hq84, hf⟩ := jif hf
  refine gt_88 E hM hq84 lk_6_2 dX12_best_1 ?_
  obtain ⟨r85, hr86, hf⟩ := jb hf
  rw [hr86]
  show W p l e _ s m args below meth c H locs 0 0 _ (F0 m _ ls (.ref (g.2.2 + r85) :: _))
  refine lv_iload_n hx hb dX12_best_4 rfl (lv_at hl 1 rfl) ?_
  obtain ⟨ha87, hf⟩ := jif hf
  refine jiald E hM ha87 dX12_best_5 ?_
  refine jbackI hM (jrunS E hM ci_X12_isRow (C_X12_isRow rfl) lk_7_100 hl.1 rfl rfl (Nat.le_of_ble_eq_true rfl) ⟨Nat.le_of_ble_eq_true rfl, Nat.le_of_ble_eq_true rfl⟩ ⟨Nat.le_refl _, Nat.le_refl _⟩ dX12_best_6) (fun H locs hM => ?_)
  refine lv_if_eq (tgt := 33) hx hb dX12_best_9 (by decide) (fun c88 => ?_) (fun c88 => ?_)
  · have hf := jt c88 hf
    exact B_X12_best_33 E  hf hM (lv_sub hl [0] rfl)
  · have hf := jf c88 hf
    refine lv_aload_n hx hb dX12_best_12 rfl (lv_at hl 0 rfl) ?_
    refine gt_88 E hM hq84 lk_6_2 dX12_best_13 ?_
    obtain ⟨r89, hr90, hf⟩ := jb hf
    rw [hr90]
    show W p l e _ s m args below meth c H locs 0 0 _ (F0 m _ ls (.ref (g.2.2 + r89) :: _))
    refine lv_iload_n hx hb dX12_best_16 rfl (lv_at hl 1 rfl) ?_
    obtain ⟨ha91, hf⟩ := jif hf
    refine jiald E hM ha91 dX12_best_17 ?_
    refine jbackI hM (jrunS E hM ci_X12_isKin (C_X12_isKin rfl) lk_7_63 hl.1 rfl rfl (Nat.le_of_ble_eq_true rfl) ⟨Nat.le_of_ble_eq_true rfl, Nat.le_of_ble_eq_true rfl⟩ ⟨Nat.le_refl _, Nat.le_refl _⟩ dX12_best_18) (fun H locs hM => ?_)
    refine lv_if_ne (tgt := 33) hx hb dX12_best_21 (by decide) (fun c92 => ?_) (fun c92 => ?_)
    · have hf := jf c92 hf
      exact B_X12_best_33 E  hf hM (lv_sub hl [0] rfl)
    · have hf := jt c92 hf
      refine lv_aload_n hx hb dX12_best_24 rfl (lv_at hl 0 rfl) ?_
      refine gt_88 E hM hq84 lk_6_2 dX12_best_25 ?_
      obtain ⟨r93, hr94, hf⟩ := jb hf
      rw [hr94]
      show W p l e _ s m args below meth c H locs 0 0 _ (F0 m _ ls (.ref (g.2.2 + r93) :: _))
      refine lv_iload_n hx hb dX12_best_28 rfl (lv_at hl 2 rfl) ?_
      obtain ⟨ha95, hf⟩ := jif hf
      refine jiald E hM ha95 dX12_best_29 ?_
      refine lv_if_eq (tgt := 39) hx hb dX12_best_30 (by decide) (fun c96 => ?_) (fun c96 => ?_)
      · have hf := jt c96 hf
        refine lv_aload_n hx hb dX12_best_39 rfl (lv_at hl 0 rfl) ?_
        refine gt_90 E hM hq84 lk_6_4 dX12_best_40 ?_
        obtain ⟨r97, hr98, hf⟩ := jb hf
        rw [hr98]
        show W p l e _ s m args below meth c H locs 0 0 _ (F0 m _ ls (.ref (g.2.2 + r97) :: _))
        refine lv_bipush (v := (12 : Int32)) hx hb dX12_best_43 (by decide) ?_
        refine lv_iload_n hx hb dX12_best_45 rfl (lv_at hl 2 rfl) ?_
        refine lv_imul hx hb dX12_best_46 ?_
        obtain ⟨ha99, hf⟩ := jif hf
        refine jlald E hM ha99 dX12_best_47 ?_
        refine lv_topl (fun x100 ex100 => ?_)
        have hf := jlet_y ex100 hf
        refine lv_lstore_n (lv' := [(3, .long x100), (0, .ref (g.2.2 + v0)), (1, .int v1), (2, .int v2)]) hx hb dX12_best_48 rfl hl (by decide) rfl (fun ls hl => ?_)
        refine lv_lload_n hx hb dX12_best_49 rfl (lv_at hl 0 rfl) ?_
        refine lv_lconst (v := (0 : Int64)) hx hb dX12_best_50 (by decide) ?_
        refine jl_ge (tgt := 61) hx hb dX12_best_51 dX12_best_52 (by decide) (fun c101 => ?_) (fun c101 => ?_)
        · have hf := jt c101 hf
          refine lv_lload_n hx hb dX12_best_61 rfl (lv_at hl 0 rfl) ?_
          refine lv_aload_n hx hb dX12_best_62 rfl (lv_at hl 1 rfl) ?_
          refine gt_89 E hM hq84 lk_6_3 dX12_best_63 ?_
          obtain ⟨r102, hr103, hf⟩ := jb hf
          rw [hr103]
          show W p l e _ s m args below meth c H locs 0 0 _ (F0 m _ ls (.ref (g.2.2 + r102) :: _))
          refine lv_iload_n hx hb dX12_best_66 rfl (lv_at hl 2 rfl) ?_
          obtain ⟨ha104, hf⟩ := jif hf
          refine jiald E hM ha104 dX12_best_67 ?_
          refine lv_i2l hx hb dX12_best_68 rfl ?_
          refine jl_le (tgt := 79) hx hb dX12_best_69 dX12_best_70 (by decide) (fun c105 => ?_) (fun c105 => ?_)
          · have hf := jt c105 hf
            refine lv_iconst (v := (0 : Int32)) hx hb dX12_best_79 (by decide) ?_
            refine lv_istore (lv' := [(5, .int (0 : Int32)), (3, .long x100), (0, .ref (g.2.2 + v0)), (1, .int v1), (2, .int v2)]) hx hb dX12_best_80 hl (by decide) rfl (fun ls hl => ?_)
            exact B_X12_best_82 E  1100000 v0 v1 x100 (0 : Int32) S _ _ _ hf hM (lv_sub hl [2, 3, 1, 0] rfl)
          · have hf := jf c105 hf
            refine lv_aload_n hx hb dX12_best_73 rfl (lv_at hl 1 rfl) ?_
            refine lv_iconst (v := (3 : Int32)) hx hb dX12_best_74 (by decide) ?_
            obtain ⟨x106, S107, hc108, hf⟩ := jbd_e hf
            refine jbackI hM (jrunV E hM ci_X12_failing (C_X12_failing hc108) lk_8_87 hq84 (by decide) rfl hl.1 rfl rfl (Nat.le_of_ble_eq_true rfl) ⟨Nat.le_of_ble_eq_true rfl, Nat.le_of_ble_eq_true rfl⟩ ⟨Nat.le_refl _, Nat.le_refl _⟩ dX12_best_75) (fun H locs hM => ?_)
            exact jireti (jr2 hf) E hM dX12_best_78
        · have hf := jf c101 hf
          refine lv_aload_n hx hb dX12_best_55 rfl (lv_at hl 1 rfl) ?_
          refine lv_iconst (v := (4 : Int32)) hx hb dX12_best_56 (by decide) ?_
          obtain ⟨x109, S110, hc111, hf⟩ := jbd_e hf
          refine jbackI hM (jrunV E hM ci_X12_failing (C_X12_failing hc111) lk_8_87 hq84 (by decide) rfl hl.1 rfl rfl (Nat.le_of_ble_eq_true rfl) ⟨Nat.le_of_ble_eq_true rfl, Nat.le_of_ble_eq_true rfl⟩ ⟨Nat.le_refl _, Nat.le_refl _⟩ dX12_best_57) (fun H locs hM => ?_)
          exact jireti (jr2 hf) E hM dX12_best_60
      · have hf := jf c96 hf
        exact B_X12_best_33 E  hf hM (lv_sub hl [0] rfl)
set_option maxRecDepth 100000 in
theorem C_X12_best {l : Launch} {g : jG} {a0 : Nat} {a1 : Int32} {a2 : Int32} {S : jM} {rr : Int32} {SS : jM} (hf : f_X12_best a0 a1 a2 S = some (rr, SS)) : jMet l g yX12_best cX12_best 15 (some .int) 5 0 0 [.ref (g.2.2 + a0), .int a1, .int a2] S (jQi g rr SS) := by
  refine jof (by decide +kernel) (Nat.le_of_ble_eq_true rfl) ?_
  intro p e s m below meth c E hM ls hl
  have hl : lv_has ls 15 [(0, .ref (g.2.2 + a0)),(1, .int a1),(2, .int a2)] := hl
  exact B_X12_best_0 E hf hM hl
-- PensionHouseModel.floor(D)D  mode P
noncomputable def f_X12_floor_47 (v0 : UInt64) (t0 : UInt64) : Option UInt64 := if (Op.cmpValue (FP.dcmp t0 (FP.dconst0)) .l) = 0 then if 0 ≤ (Op.cmpValue (FP.dcmp v0 (FP.dconst0)) .g) then some t0 else some (9223372036854775808 : UInt64) else some t0
noncomputable def f_X12_floor (v0 : UInt64) : Option UInt64 := if (Op.cmpValue (FP.dcmp v0 v0) .l) = 0 then if 0 ≤ (Op.cmpValue (FP.dcmp v0 (4841369599423283200 : UInt64)) .l) then some v0 else if (Op.cmpValue (FP.dcmp v0 (14064741636278059008 : UInt64)) .g) ≤ 0 then some v0 else if (Op.cmpValue (FP.dcmp v0 (FP.dconst0)) .l) = 0 then some v0 else jlet (FP.l2d (FP.d2l v0)) (fun x7 => if (Op.cmpValue (FP.dcmp x7 v0) .l) ≤ 0 then f_X12_floor_47 v0 x7 else if jnn (FP.dsub x7 (FP.dconst1)) = true then f_X12_floor_47 v0 (FP.dsub x7 (FP.dconst1)) else none) else some v0
set_option maxRecDepth 100000 in
set_option maxHeartbeats 4000000 in
theorem B_X12_floor_47 {p : Program} {l : Launch} {e : Env} {s : State} {m : MethodId} {args : Array Value} {below : List Frame} {meth : Method} {c : Code} {g : jG} {rr : UInt64} {S : jM} {v0 : UInt64} {t0 : UInt64} (E : jEnv p s m args meth c cX12_floor "PensionHouseModel" (some .double) 4 g)  {H : Heap} {locs : List Loc} {ls : Array Slot} (hf : f_X12_floor_47 v0 t0 = some rr) (hM : jAt g S s H locs) (hl : lv_has ls 4 [(0, .double v0)]) : W p l e (jRm 1 0 0) s m args below meth c H locs 0 0 (MQ below (jQd g rr S) args s 0 0 (jA0 g)) (F0 m 47 ls [.double t0]) := by
  obtain ⟨hx, hb, hml, -, hts, hown, hK, -, hstr⟩ := id E
  unfold f_X12_floor_47 at hf
  refine lv_dstore_n (lv' := [(2, .double t0), (0, .double v0)]) hx hb dX12_floor_47 rfl hl (by decide) rfl (fun ls hl => ?_)
  refine lv_dload_n hx hb dX12_floor_48 rfl (lv_at hl 0 rfl) ?_
  refine lv_dconst0 hx hb dX12_floor_49 ?_
  refine lv_dcmp hx hb dX12_floor_50 ?_
  refine lv_if_ne (tgt := 66) hx hb dX12_floor_51 (by decide) (fun c1 => ?_) (fun c1 => ?_)
  · have hf := jf c1 hf
    refine lv_dload_n hx hb dX12_floor_66 rfl (lv_at hl 0 rfl) ?_
    exact jdret (jr1 hf) E hM dX12_floor_67
  · have hf := jt c1 hf
    refine lv_dload_n hx hb dX12_floor_54 rfl (lv_at hl 1 rfl) ?_
    refine lv_dconst0 hx hb dX12_floor_55 ?_
    refine lv_dcmp hx hb dX12_floor_56 ?_
    refine lv_if_ge (tgt := 66) hx hb dX12_floor_57 (by decide) (fun c2 => ?_) (fun c2 => ?_)
    · have hf := jt c2 hf
      refine lv_dload_n hx hb dX12_floor_66 rfl (lv_at hl 0 rfl) ?_
      exact jdret (jr1 hf) E hM dX12_floor_67
    · have hf := jf c2 hf
      refine lv_ldc2d (v := (9223372036854775808 : UInt64)) hx hb hown (hts _ lk_8_210) dX12_floor_60 ?_
      refine lv_goto (tgt := 67) hx hb dX12_floor_63 (by decide) ?_
      exact jdret (jr1 hf) E hM dX12_floor_67
set_option maxRecDepth 100000 in
set_option maxHeartbeats 4000000 in
theorem B_X12_floor_0 {p : Program} {l : Launch} {e : Env} {s : State} {m : MethodId} {args : Array Value} {below : List Frame} {meth : Method} {c : Code} {g : jG} {rr : UInt64} {S : jM} {v0 : UInt64} (E : jEnv p s m args meth c cX12_floor "PensionHouseModel" (some .double) 4 g)  {H : Heap} {locs : List Loc} {ls : Array Slot} (hf : f_X12_floor v0 = some rr) (hM : jAt g S s H locs) (hl : lv_has ls 4 [(0, .double v0)]) : W p l e (jRm 1 0 0) s m args below meth c H locs 0 0 (MQ below (jQd g rr S) args s 0 0 (jA0 g)) (F0 m 0 ls []) := by
  obtain ⟨hx, hb, hml, -, hts, hown, hK, -, hstr⟩ := id E
  unfold f_X12_floor at hf
  refine lv_dload_n hx hb dX12_floor_0 rfl (lv_at hl 0 rfl) ?_
  refine lv_dload_n hx hb dX12_floor_1 rfl (lv_at hl 0 rfl) ?_
  refine lv_dcmp hx hb dX12_floor_2 ?_
  refine lv_if_ne (tgt := 28) hx hb dX12_floor_3 (by decide) (fun c3 => ?_) (fun c3 => ?_)
  · have hf := jf c3 hf
    refine lv_dload_n hx hb dX12_floor_28 rfl (lv_at hl 0 rfl) ?_
    exact jdret (jr1 hf) E hM dX12_floor_29
  · have hf := jt c3 hf
    refine lv_dload_n hx hb dX12_floor_6 rfl (lv_at hl 0 rfl) ?_
    refine lv_ldc2d (v := (4841369599423283200 : UInt64)) hx hb hown (hts _ lk_7_114) dX12_floor_7 ?_
    refine lv_dcmp hx hb dX12_floor_10 ?_
    refine lv_if_ge (tgt := 28) hx hb dX12_floor_11 (by decide) (fun c4 => ?_) (fun c4 => ?_)
    · have hf := jt c4 hf
      refine lv_dload_n hx hb dX12_floor_28 rfl (lv_at hl 0 rfl) ?_
      exact jdret (jr1 hf) E hM dX12_floor_29
    · have hf := jf c4 hf
      refine lv_dload_n hx hb dX12_floor_14 rfl (lv_at hl 0 rfl) ?_
      refine lv_ldc2d (v := (14064741636278059008 : UInt64)) hx hb hown (hts _ lk_8_209) dX12_floor_15 ?_
      refine lv_dcmp hx hb dX12_floor_18 ?_
      refine lv_if_le (tgt := 28) hx hb dX12_floor_19 (by decide) (fun c5 => ?_) (fun c5 => ?_)
      · have hf := jt c5 hf
        refine lv_dload_n hx hb dX12_floor_28 rfl (lv_at hl 0 rfl) ?_
        exact jdret (jr1 hf) E hM dX12_floor_29
      · have hf := jf c5 hf
        refine lv_dload_n hx hb dX12_floor_22 rfl (lv_at hl 0 rfl) ?_
        refine lv_dconst0 hx hb dX12_floor_23 ?_
        refine lv_dcmp hx hb dX12_floor_24 ?_
        refine lv_if_ne (tgt := 30) hx hb dX12_floor_25 (by decide) (fun c6 => ?_) (fun c6 => ?_)
        · have hf := jf c6 hf
          refine lv_dload_n hx hb dX12_floor_30 rfl (lv_at hl 0 rfl) ?_
          refine lv_d2l hx hb dX12_floor_31 ?_
          refine lv_l2d hx hb dX12_floor_32 ?_
          refine lv_topd (fun x7 ex7 => ?_)
          have hf := jlet_y ex7 hf
          refine lv_dstore_n (lv' := [(2, .double x7), (0, .double v0)]) hx hb dX12_floor_33 rfl hl (by decide) rfl (fun ls hl => ?_)
          refine lv_dload_n hx hb dX12_floor_34 rfl (lv_at hl 0 rfl) ?_
          refine lv_dload_n hx hb dX12_floor_35 rfl (lv_at hl 1 rfl) ?_
          refine lv_dcmp hx hb dX12_floor_36 ?_
          refine lv_if_le (tgt := 46) hx hb dX12_floor_37 (by decide) (fun c8 => ?_) (fun c8 => ?_)
          · have hf := jt c8 hf
            refine lv_dload_n hx hb dX12_floor_46 rfl (lv_at hl 0 rfl) ?_
            exact B_X12_floor_47 E  hf hM (lv_sub hl [1] rfl)
          · have hf := jf c8 hf
            refine lv_dload_n hx hb dX12_floor_40 rfl (lv_at hl 0 rfl) ?_
            refine lv_dconst1 hx hb dX12_floor_41 ?_
            obtain ⟨hn9, hf⟩ := jif hf
            refine lv_dsub hx hb dX12_floor_42 (jnn_ok hn9) ?_
            refine lv_goto (tgt := 47) hx hb dX12_floor_43 (by decide) ?_
            exact B_X12_floor_47 E  hf hM (lv_sub hl [1] rfl)
        · have hf := jt c6 hf
          refine lv_dload_n hx hb dX12_floor_28 rfl (lv_at hl 0 rfl) ?_
          exact jdret (jr1 hf) E hM dX12_floor_29
set_option maxRecDepth 100000 in
theorem C_X12_floor {l : Launch} {g : jG} {a0 : UInt64} {S : jM} {rr : UInt64} (hf : f_X12_floor a0 = some rr) : jMet l g yX12_floor cX12_floor 4 (some .double) 1 0 0 [.double a0] S (jQd g rr S) := by
  refine jof (by decide +kernel) (Nat.le_of_ble_eq_true rfl) ?_
  intro p e s m below meth c E hM ls hl
  have hl : lv_has ls 4 [(0, .double a0)] := hl
  exact B_X12_floor_0 E hf hM hl
-- PensionHouseModel.near(D)D  mode P
noncomputable def f_X12_near_42 (v0 : UInt64) (t0 : UInt64) : Option UInt64 := if jnn (FP.dadd t0 (4841369599423283200 : UInt64)) = true then if jnn (FP.dsub (FP.dadd t0 (4841369599423283200 : UInt64)) (4841369599423283200 : UInt64)) = true then jlet (FP.dsub (FP.dadd t0 (4841369599423283200 : UInt64)) (4841369599423283200 : UInt64)) (fun x3 => if 0 ≤ (Op.cmpValue (FP.dcmp v0 (FP.dconst0)) .g) then some x3 else some (FP.dneg x3)) else none else none
noncomputable def f_X12_near (v0 : UInt64) : Option UInt64 := if (Op.cmpValue (FP.dcmp v0 v0) .l) = 0 then if 0 ≤ (Op.cmpValue (FP.dcmp v0 (4841369599423283200 : UInt64)) .l) then some v0 else if (Op.cmpValue (FP.dcmp v0 (14064741636278059008 : UInt64)) .g) ≤ 0 then some v0 else if (Op.cmpValue (FP.dcmp v0 (FP.dconst0)) .l) = 0 then some v0 else if 0 ≤ (Op.cmpValue (FP.dcmp v0 (FP.dconst0)) .g) then f_X12_near_42 v0 v0 else f_X12_near_42 v0 (FP.dneg v0) else some v0
set_option maxRecDepth 100000 in
set_option maxHeartbeats 4000000 in
theorem B_X12_near_42 {p : Program} {l : Launch} {e : Env} {s : State} {m : MethodId} {args : Array Value} {below : List Frame} {meth : Method} {c : Code} {g : jG} {rr : UInt64} {S : jM} {v0 : UInt64} {t0 : UInt64} (E : jEnv p s m args meth c cX12_near "PensionHouseModel" (some .double) 4 g)  {H : Heap} {locs : List Loc} {ls : Array Slot} (hf : f_X12_near_42 v0 t0 = some rr) (hM : jAt g S s H locs) (hl : lv_has ls 4 [(0, .double v0)]) : W p l e (jRm 1 0 0) s m args below meth c H locs 0 0 (MQ below (jQd g rr S) args s 0 0 (jA0 g)) (F0 m 42 ls [.double t0]) := by
  obtain ⟨hx, hb, hml, -, hts, hown, hK, -, hstr⟩ := id E
  unfold f_X12_near_42 at hf
  refine lv_dstore_n (lv' := [(2, .double t0), (0, .double v0)]) hx hb dX12_near_42 rfl hl (by decide) rfl (fun ls hl => ?_)
  refine lv_dload_n hx hb dX12_near_43 rfl (lv_at hl 0 rfl) ?_
  refine lv_ldc2d (v := (4841369599423283200 : UInt64)) hx hb hown (hts _ lk_7_114) dX12_near_44 ?_
  obtain ⟨hn1, hf⟩ := jif hf
  refine lv_dadd hx hb dX12_near_47 (jnn_ok hn1) ?_
  refine lv_ldc2d (v := (4841369599423283200 : UInt64)) hx hb hown (hts _ lk_7_114) dX12_near_48 ?_
  obtain ⟨hn2, hf⟩ := jif hf
  refine lv_dsub hx hb dX12_near_51 (jnn_ok hn2) ?_
  refine lv_topd (fun x3 ex3 => ?_)
  have hf := jlet_y ex3 hf
  refine lv_dstore_n (lv' := [(2, .double x3), (0, .double v0)]) hx hb dX12_near_52 rfl hl (by decide) rfl (fun ls hl => ?_)
  refine lv_dload_n hx hb dX12_near_53 rfl (lv_at hl 1 rfl) ?_
  refine lv_dconst0 hx hb dX12_near_54 ?_
  refine lv_dcmp hx hb dX12_near_55 ?_
  refine lv_if_ge (tgt := 64) hx hb dX12_near_56 (by decide) (fun c4 => ?_) (fun c4 => ?_)
  · have hf := jt c4 hf
    refine lv_dload_n hx hb dX12_near_64 rfl (lv_at hl 0 rfl) ?_
    exact jdret (jr1 hf) E hM dX12_near_65
  · have hf := jf c4 hf
    refine lv_dload_n hx hb dX12_near_59 rfl (lv_at hl 0 rfl) ?_
    refine lv_dneg hx hb dX12_near_60 ?_
    refine lv_goto (tgt := 65) hx hb dX12_near_61 (by decide) ?_
    exact jdret (jr1 hf) E hM dX12_near_65
set_option maxRecDepth 100000 in
set_option maxHeartbeats 4000000 in
theorem B_X12_near_0 {p : Program} {l : Launch} {e : Env} {s : State} {m : MethodId} {args : Array Value} {below : List Frame} {meth : Method} {c : Code} {g : jG} {rr : UInt64} {S : jM} {v0 : UInt64} (E : jEnv p s m args meth c cX12_near "PensionHouseModel" (some .double) 4 g)  {H : Heap} {locs : List Loc} {ls : Array Slot} (hf : f_X12_near v0 = some rr) (hM : jAt g S s H locs) (hl : lv_has ls 4 [(0, .double v0)]) : W p l e (jRm 1 0 0) s m args below meth c H locs 0 0 (MQ below (jQd g rr S) args s 0 0 (jA0 g)) (F0 m 0 ls []) := by
  obtain ⟨hx, hb, hml, -, hts, hown, hK, -, hstr⟩ := id E
  unfold f_X12_near at hf
  refine lv_dload_n hx hb dX12_near_0 rfl (lv_at hl 0 rfl) ?_
  refine lv_dload_n hx hb dX12_near_1 rfl (lv_at hl 0 rfl) ?_
  refine lv_dcmp hx hb dX12_near_2 ?_
  refine lv_if_ne (tgt := 28) hx hb dX12_near_3 (by decide) (fun c5 => ?_) (fun c5 => ?_)
  · have hf := jf c5 hf
    refine lv_dload_n hx hb dX12_near_28 rfl (lv_at hl 0 rfl) ?_
    exact jdret (jr1 hf) E hM dX12_near_29
  · have hf := jt c5 hf
    refine lv_dload_n hx hb dX12_near_6 rfl (lv_at hl 0 rfl) ?_
    refine lv_ldc2d (v := (4841369599423283200 : UInt64)) hx hb hown (hts _ lk_7_114) dX12_near_7 ?_
    refine lv_dcmp hx hb dX12_near_10 ?_
    refine lv_if_ge (tgt := 28) hx hb dX12_near_11 (by decide) (fun c6 => ?_) (fun c6 => ?_)
    · have hf := jt c6 hf
      refine lv_dload_n hx hb dX12_near_28 rfl (lv_at hl 0 rfl) ?_
      exact jdret (jr1 hf) E hM dX12_near_29
    · have hf := jf c6 hf
      refine lv_dload_n hx hb dX12_near_14 rfl (lv_at hl 0 rfl) ?_
      refine lv_ldc2d (v := (14064741636278059008 : UInt64)) hx hb hown (hts _ lk_8_209) dX12_near_15 ?_
      refine lv_dcmp hx hb dX12_near_18 ?_
      refine lv_if_le (tgt := 28) hx hb dX12_near_19 (by decide) (fun c7 => ?_) (fun c7 => ?_)
      · have hf := jt c7 hf
        refine lv_dload_n hx hb dX12_near_28 rfl (lv_at hl 0 rfl) ?_
        exact jdret (jr1 hf) E hM dX12_near_29
      · have hf := jf c7 hf
        refine lv_dload_n hx hb dX12_near_22 rfl (lv_at hl 0 rfl) ?_
        refine lv_dconst0 hx hb dX12_near_23 ?_
        refine lv_dcmp hx hb dX12_near_24 ?_
        refine lv_if_ne (tgt := 30) hx hb dX12_near_25 (by decide) (fun c8 => ?_) (fun c8 => ?_)
        · have hf := jf c8 hf
          refine lv_dload_n hx hb dX12_near_30 rfl (lv_at hl 0 rfl) ?_
          refine lv_dconst0 hx hb dX12_near_31 ?_
          refine lv_dcmp hx hb dX12_near_32 ?_
          refine lv_if_ge (tgt := 41) hx hb dX12_near_33 (by decide) (fun c9 => ?_) (fun c9 => ?_)
          · have hf := jt c9 hf
            refine lv_dload_n hx hb dX12_near_41 rfl (lv_at hl 0 rfl) ?_
            exact B_X12_near_42 E  hf hM (lv_sub hl [0] rfl)
          · have hf := jf c9 hf
            refine lv_dload_n hx hb dX12_near_36 rfl (lv_at hl 0 rfl) ?_
            refine lv_dneg hx hb dX12_near_37 ?_
            refine lv_goto (tgt := 42) hx hb dX12_near_38 (by decide) ?_
            exact B_X12_near_42 E  hf hM (lv_sub hl [0] rfl)
        · have hf := jt c8 hf
          refine lv_dload_n hx hb dX12_near_28 rfl (lv_at hl 0 rfl) ?_
          exact jdret (jr1 hf) E hM dX12_near_29
set_option maxRecDepth 100000 in
theorem C_X12_near {l : Launch} {g : jG} {a0 : UInt64} {S : jM} {rr : UInt64} (hf : f_X12_near a0 = some rr) : jMet l g yX12_near cX12_near 4 (some .double) 1 0 0 [.double a0] S (jQd g rr S) := by
  refine jof (by decide +kernel) (Nat.le_of_ble_eq_true rfl) ?_
  intro p e s m below meth c E hM ls hl
  have hl : lv_has ls 4 [(0, .double a0)] := hl
  exact B_X12_near_0 E hf hM hl
-- PensionHouseModel.bitsOf(D)J  mode P
noncomputable def f_X12_bitsOf_142 (v3 : UInt64) (v5 : Int64) (v7 : Int64) : Option Int64 := if 0 ≤ (Op.cmpValue (FP.dcmp v3 (FP.dconst1)) .g) then if jnn (FP.dsub v3 (FP.dconst1)) = true then if jnn (FP.dmul (FP.dsub v3 (FP.dconst1)) (4841369599423283200 : UInt64)) = true then some ((v5 ||| ((v7 + (1023 : Int64)) <<< ((52 : Int32).toInt64 &&& 63))) ||| (FP.d2l (FP.dmul (FP.dsub v3 (FP.dconst1)) (4841369599423283200 : UInt64)))) else none else none else if jnn (FP.dmul v3 (4841369599423283200 : UInt64)) = true then some (v5 ||| (FP.d2l (FP.dmul v3 (4841369599423283200 : UInt64)))) else none
noncomputable def f_X12_bitsOf_112 : Nat → UInt64 → Int64 → Int64 → Option Int64
  | 0, _, _, _ => none
  | n + 1, v3, v5, v7 => if 0 ≤ (Op.cmpValue (FP.dcmp v3 (FP.dconst1)) .g) then f_X12_bitsOf_142 v3 v5 v7 else if v7 ≤ (-1022 : Int64) then f_X12_bitsOf_142 v3 v5 v7 else if jnn (FP.dmul v3 (4611686018427387904 : UInt64)) = true then jlet (FP.dmul v3 (4611686018427387904 : UInt64)) (fun x8 => jlet (v7 - (1 : Int64)) (fun x9 => (f_X12_bitsOf_112 n) x8 v5 x9)) else none
noncomputable def f_X12_bitsOf_89 : Nat → UInt64 → Int64 → Int64 → Option Int64
  | 0, _, _, _ => none
  | n + 1, v3, v5, v7 => if (Op.cmpValue (FP.dcmp v3 (4611686018427387904 : UInt64)) .l) < 0 then f_X12_bitsOf_112 1100000 v3 v5 v7 else if jnn (FP.ddiv v3 (4611686018427387904 : UInt64)) = true then jlet (FP.ddiv v3 (4611686018427387904 : UInt64)) (fun x12 => jlet (v7 + (1 : Int64)) (fun x13 => (f_X12_bitsOf_89 n) x12 v5 x13)) else none
noncomputable def f_X12_bitsOf_60 (v3 : UInt64) (t0 : Int64) : Option Int64 := if (Op.cmpValue (FP.dcmp v3 (FP.dconst0)) .l) = 0 then some t0 else if (Op.cmpValue (FP.dcmp v3 (9218868437227405312 : UInt64)) .l) = 0 then some (t0 ||| (9218868437227405312 : Int64)) else f_X12_bitsOf_89 1100000 v3 t0 (0 : Int64)
noncomputable def f_X12_bitsOf_48 (v2 : Int32) (t0 : UInt64) : Option Int64 := if v2 = 0 then f_X12_bitsOf_60 t0 (0 : Int64) else f_X12_bitsOf_60 t0 (-9223372036854775808 : Int64)
noncomputable def f_X12_bitsOf_35 (v0 : UInt64) (t0 : Int32) : Option Int64 := if 0 ≤ (Op.cmpValue (FP.dcmp v0 (FP.dconst0)) .g) then f_X12_bitsOf_48 t0 v0 else f_X12_bitsOf_48 t0 (FP.dneg v0)
noncomputable def f_X12_bitsOf_34 (v0 : UInt64) : Option Int64 := f_X12_bitsOf_35 v0 (0 : Int32)
noncomputable def f_X12_bitsOf_30 (v0 : UInt64) : Option Int64 := f_X12_bitsOf_35 v0 (1 : Int32)
noncomputable def f_X12_bitsOf (v0 : UInt64) : Option Int64 := if (Op.cmpValue (FP.dcmp v0 v0) .l) = 0 then if (Op.cmpValue (FP.dcmp v0 (FP.dconst0)) .g) < 0 then f_X12_bitsOf_30 v0 else if (Op.cmpValue (FP.dcmp v0 (FP.dconst0)) .l) = 0 then if jnn (FP.ddiv (FP.dconst1) v0) = true then if 0 ≤ (Op.cmpValue (FP.dcmp (FP.ddiv (FP.dconst1) v0) (FP.dconst0)) .g) then f_X12_bitsOf_34 v0 else f_X12_bitsOf_30 v0 else none else f_X12_bitsOf_34 v0 else some (9221120237041090560 : Int64)
set_option maxRecDepth 100000 in
set_option maxHeartbeats 4000000 in
theorem B_X12_bitsOf_142 {p : Program} {l : Launch} {e : Env} {s : State} {m : MethodId} {args : Array Value} {below : List Frame} {meth : Method} {c : Code} {g : jG} {rr : Int64} {S : jM} {v3 : UInt64} {v5 : Int64} {v7 : Int64} (E : jEnv p s m args meth c cX12_bitsOf "PensionHouseModel" (some .long) 9 g)  {H : Heap} {locs : List Loc} {ls : Array Slot} (hf : f_X12_bitsOf_142 v3 v5 v7 = some rr) (hM : jAt g S s H locs) (hl : lv_has ls 9 [(3, .double v3), (5, .long v5), (7, .long v7)]) : W p l e (jRm 1 0 0) s m args below meth c H locs 0 0 (MQ below (jQl g rr S) args s 0 0 (jA0 g)) (F0 m 142 ls []) := by
  obtain ⟨hx, hb, hml, -, hts, hown, hK, -, hstr⟩ := id E
  unfold f_X12_bitsOf_142 at hf
  refine lv_dload_n hx hb dX12_bitsOf_142 rfl (lv_at hl 0 rfl) ?_
  refine lv_dconst1 hx hb dX12_bitsOf_143 ?_
  refine lv_dcmp hx hb dX12_bitsOf_144 ?_
  refine lv_if_ge (tgt := 158) hx hb dX12_bitsOf_145 (by decide) (fun c1 => ?_) (fun c1 => ?_)
  · have hf := jt c1 hf
    refine lv_lload hx hb dX12_bitsOf_158 (lv_at hl 1 rfl) ?_
    refine lv_lload hx hb dX12_bitsOf_160 (lv_at hl 2 rfl) ?_
    refine lv_ldc2 (v := (1023 : Int64)) hx hb hown (hts _ lk_7_115) dX12_bitsOf_162 ?_
    refine lv_ladd hx hb dX12_bitsOf_165 ?_
    refine lv_bipush (v := (52 : Int32)) hx hb dX12_bitsOf_166 (by decide) ?_
    refine lv_lshl hx hb dX12_bitsOf_168 rfl ?_
    refine lv_lor hx hb dX12_bitsOf_169 ?_
    refine lv_dload_n hx hb dX12_bitsOf_170 rfl (lv_at hl 0 rfl) ?_
    refine lv_dconst1 hx hb dX12_bitsOf_171 ?_
    obtain ⟨hn2, hf⟩ := jif hf
    refine lv_dsub hx hb dX12_bitsOf_172 (jnn_ok hn2) ?_
    refine lv_ldc2d (v := (4841369599423283200 : UInt64)) hx hb hown (hts _ lk_7_114) dX12_bitsOf_173 ?_
    obtain ⟨hn3, hf⟩ := jif hf
    refine lv_dmul hx hb dX12_bitsOf_176 (jnn_ok hn3) ?_
    refine lv_d2l hx hb dX12_bitsOf_177 ?_
    refine lv_lor hx hb dX12_bitsOf_178 ?_
    exact jlret (jr1 hf) E hM dX12_bitsOf_179
  · have hf := jf c1 hf
    refine lv_lload hx hb dX12_bitsOf_148 (lv_at hl 1 rfl) ?_
    refine lv_dload_n hx hb dX12_bitsOf_150 rfl (lv_at hl 0 rfl) ?_
    refine lv_ldc2d (v := (4841369599423283200 : UInt64)) hx hb hown (hts _ lk_7_114) dX12_bitsOf_151 ?_
    obtain ⟨hn4, hf⟩ := jif hf
    refine lv_dmul hx hb dX12_bitsOf_154 (jnn_ok hn4) ?_
    refine lv_d2l hx hb dX12_bitsOf_155 ?_
    refine lv_lor hx hb dX12_bitsOf_156 ?_
    exact jlret (jr1 hf) E hM dX12_bitsOf_157
set_option maxRecDepth 100000 in
set_option maxHeartbeats 4000000 in
theorem B_X12_bitsOf_112 {p : Program} {l : Launch} {e : Env} {s : State} {m : MethodId} {args : Array Value} {below : List Frame} {meth : Method} {c : Code} {g : jG} {rr : Int64} {S : jM} (E : jEnv p s m args meth c cX12_bitsOf "PensionHouseModel" (some .long) 9 g)  : ∀ (n : Nat) (v3 : UInt64) (v5 : Int64) (v7 : Int64) (H : Heap) (locs : List Loc) (ls : Array Slot), f_X12_bitsOf_112 n v3 v5 v7 = some rr → jAt g S s H locs → lv_has ls 9 [(3, .double v3), (5, .long v5), (7, .long v7)] → W p l e (jRm 1 0 0) s m args below meth c H locs 0 0 (MQ below (jQl g rr S) args s 0 0 (jA0 g)) (F0 m 112 ls []) := by
  obtain ⟨hx, hb, hml, -, hts, hown, hK, -, hstr⟩ := id E
  intro n
  induction n with
  | zero => intro v3 v5 v7 H locs ls hf hM hl; rw [f_X12_bitsOf_112] at hf; cases hf
  | succ n ih =>
    intro v3 v5 v7 H locs ls hf hM hl
    rw [f_X12_bitsOf_112] at hf
    refine lv_dload_n hx hb dX12_bitsOf_112 rfl (lv_at hl 0 rfl) ?_
    refine lv_dconst1 hx hb dX12_bitsOf_113 ?_
    refine lv_dcmp hx hb dX12_bitsOf_114 ?_
    refine lv_if_ge (tgt := 142) hx hb dX12_bitsOf_115 (by decide) (fun c5 => ?_) (fun c5 => ?_)
    · have hf := jt c5 hf
      exact B_X12_bitsOf_142 E  hf hM (lv_sub hl [0, 1, 2] rfl)
    · have hf := jf c5 hf
      refine lv_lload hx hb dX12_bitsOf_118 (lv_at hl 2 rfl) ?_
      refine lv_ldc2 (v := (-1022 : Int64)) hx hb hown (hts _ lk_7_113) dX12_bitsOf_120 ?_
      refine jl_le (tgt := 142) hx hb dX12_bitsOf_123 dX12_bitsOf_124 (by decide) (fun c6 => ?_) (fun c6 => ?_)
      · have hf := jt c6 hf
        exact B_X12_bitsOf_142 E  hf hM (lv_sub hl [0, 1, 2] rfl)
      · have hf := jf c6 hf
        refine lv_dload_n hx hb dX12_bitsOf_127 rfl (lv_at hl 0 rfl) ?_
        refine lv_ldc2d (v := (4611686018427387904 : UInt64)) hx hb hown (hts _ lk_7_83) dX12_bitsOf_128 ?_
        obtain ⟨hn7, hf⟩ := jif hf
        refine lv_dmul hx hb dX12_bitsOf_131 (jnn_ok hn7) ?_
        refine lv_topd (fun x8 ex8 => ?_)
        have hf := jlet_y ex8 hf
        refine lv_dstore_n (lv' := [(3, .double x8), (5, .long v5), (7, .long v7)]) hx hb dX12_bitsOf_132 rfl hl (by decide) rfl (fun ls hl => ?_)
        refine lv_lload hx hb dX12_bitsOf_133 (lv_at hl 2 rfl) ?_
        refine lv_lconst (v := (1 : Int64)) hx hb dX12_bitsOf_135 (by decide) ?_
        refine lv_lsub hx hb dX12_bitsOf_136 ?_
        refine lv_topl (fun x9 ex9 => ?_)
        have hf := jlet_y ex9 hf
        refine lv_lstore (lv' := [(7, .long x9), (3, .double x8), (5, .long v5)]) hx hb dX12_bitsOf_137 hl (by decide) rfl (fun ls hl => ?_)
        refine lv_goto (tgt := 112) hx hb dX12_bitsOf_139 (by decide) ?_
        exact ih x8 v5 x9 _ _ _ hf hM (lv_sub hl [1, 2, 0] rfl)
set_option maxRecDepth 100000 in
set_option maxHeartbeats 4000000 in
theorem B_X12_bitsOf_89 {p : Program} {l : Launch} {e : Env} {s : State} {m : MethodId} {args : Array Value} {below : List Frame} {meth : Method} {c : Code} {g : jG} {rr : Int64} {S : jM} (E : jEnv p s m args meth c cX12_bitsOf "PensionHouseModel" (some .long) 9 g)  : ∀ (n : Nat) (v3 : UInt64) (v5 : Int64) (v7 : Int64) (H : Heap) (locs : List Loc) (ls : Array Slot), f_X12_bitsOf_89 n v3 v5 v7 = some rr → jAt g S s H locs → lv_has ls 9 [(3, .double v3), (5, .long v5), (7, .long v7)] → W p l e (jRm 1 0 0) s m args below meth c H locs 0 0 (MQ below (jQl g rr S) args s 0 0 (jA0 g)) (F0 m 89 ls []) := by
  obtain ⟨hx, hb, hml, -, hts, hown, hK, -, hstr⟩ := id E
  intro n
  induction n with
  | zero => intro v3 v5 v7 H locs ls hf hM hl; rw [f_X12_bitsOf_89] at hf; cases hf
  | succ n ih =>
    intro v3 v5 v7 H locs ls hf hM hl
    rw [f_X12_bitsOf_89] at hf
    refine lv_dload_n hx hb dX12_bitsOf_89 rfl (lv_at hl 0 rfl) ?_
    refine lv_ldc2d (v := (4611686018427387904 : UInt64)) hx hb hown (hts _ lk_7_83) dX12_bitsOf_90 ?_
    refine lv_dcmp hx hb dX12_bitsOf_93 ?_
    refine lv_if_lt (tgt := 112) hx hb dX12_bitsOf_94 (by decide) (fun c10 => ?_) (fun c10 => ?_)
    · have hf := jt c10 hf
      exact B_X12_bitsOf_112 E  1100000 v3 v5 v7 _ _ _ hf hM (lv_sub hl [0, 1, 2] rfl)
    · have hf := jf c10 hf
      refine lv_dload_n hx hb dX12_bitsOf_97 rfl (lv_at hl 0 rfl) ?_
      refine lv_ldc2d (v := (4611686018427387904 : UInt64)) hx hb hown (hts _ lk_7_83) dX12_bitsOf_98 ?_
      obtain ⟨hn11, hf⟩ := jif hf
      refine lv_ddiv hx hb dX12_bitsOf_101 (jnn_ok hn11) ?_
      refine lv_topd (fun x12 ex12 => ?_)
      have hf := jlet_y ex12 hf
      refine lv_dstore_n (lv' := [(3, .double x12), (5, .long v5), (7, .long v7)]) hx hb dX12_bitsOf_102 rfl hl (by decide) rfl (fun ls hl => ?_)
      refine lv_lload hx hb dX12_bitsOf_103 (lv_at hl 2 rfl) ?_
      refine lv_lconst (v := (1 : Int64)) hx hb dX12_bitsOf_105 (by decide) ?_
      refine lv_ladd hx hb dX12_bitsOf_106 ?_
      refine lv_topl (fun x13 ex13 => ?_)
      have hf := jlet_y ex13 hf
      refine lv_lstore (lv' := [(7, .long x13), (3, .double x12), (5, .long v5)]) hx hb dX12_bitsOf_107 hl (by decide) rfl (fun ls hl => ?_)
      refine lv_goto (tgt := 89) hx hb dX12_bitsOf_109 (by decide) ?_
      exact ih x12 v5 x13 _ _ _ hf hM (lv_sub hl [1, 2, 0] rfl)
set_option maxRecDepth 100000 in
set_option maxHeartbeats 4000000 in
theorem B_X12_bitsOf_60 {p : Program} {l : Launch} {e : Env} {s : State} {m : MethodId} {args : Array Value} {below : List Frame} {meth : Method} {c : Code} {g : jG} {rr : Int64} {S : jM} {v3 : UInt64} {t0 : Int64} (E : jEnv p s m args meth c cX12_bitsOf "PensionHouseModel" (some .long) 9 g)  {H : Heap} {locs : List Loc} {ls : Array Slot} (hf : f_X12_bitsOf_60 v3 t0 = some rr) (hM : jAt g S s H locs) (hl : lv_has ls 9 [(3, .double v3)]) : W p l e (jRm 1 0 0) s m args below meth c H locs 0 0 (MQ below (jQl g rr S) args s 0 0 (jA0 g)) (F0 m 60 ls [.long t0]) := by
  obtain ⟨hx, hb, hml, -, hts, hown, hK, -, hstr⟩ := id E
  unfold f_X12_bitsOf_60 at hf
  refine lv_lstore (lv' := [(5, .long t0), (3, .double v3)]) hx hb dX12_bitsOf_60 hl (by decide) rfl (fun ls hl => ?_)
  refine lv_dload_n hx hb dX12_bitsOf_62 rfl (lv_at hl 1 rfl) ?_
  refine lv_dconst0 hx hb dX12_bitsOf_63 ?_
  refine lv_dcmp hx hb dX12_bitsOf_64 ?_
  refine lv_if_ne (tgt := 71) hx hb dX12_bitsOf_65 (by decide) (fun c14 => ?_) (fun c14 => ?_)
  · have hf := jf c14 hf
    refine lv_dload_n hx hb dX12_bitsOf_71 rfl (lv_at hl 1 rfl) ?_
    refine lv_ldc2d (v := (9218868437227405312 : UInt64)) hx hb hown (hts _ lk_7_79) dX12_bitsOf_72 ?_
    refine lv_dcmp hx hb dX12_bitsOf_75 ?_
    refine lv_if_ne (tgt := 86) hx hb dX12_bitsOf_76 (by decide) (fun c15 => ?_) (fun c15 => ?_)
    · have hf := jf c15 hf
      refine lv_lconst (v := (0 : Int64)) hx hb dX12_bitsOf_86 (by decide) ?_
      refine lv_lstore (lv' := [(7, .long (0 : Int64)), (5, .long t0), (3, .double v3)]) hx hb dX12_bitsOf_87 hl (by decide) rfl (fun ls hl => ?_)
      exact B_X12_bitsOf_89 E  1100000 v3 t0 (0 : Int64) _ _ _ hf hM (lv_sub hl [2, 1, 0] rfl)
    · have hf := jt c15 hf
      refine lv_lload hx hb dX12_bitsOf_79 (lv_at hl 0 rfl) ?_
      refine lv_ldc2 (v := (9218868437227405312 : Int64)) hx hb hown (hts _ lk_7_112) dX12_bitsOf_81 ?_
      refine lv_lor hx hb dX12_bitsOf_84 ?_
      exact jlret (jr1 hf) E hM dX12_bitsOf_85
  · have hf := jt c14 hf
    refine lv_lload hx hb dX12_bitsOf_68 (lv_at hl 0 rfl) ?_
    exact jlret (jr1 hf) E hM dX12_bitsOf_70
set_option maxRecDepth 100000 in
set_option maxHeartbeats 4000000 in
theorem B_X12_bitsOf_48 {p : Program} {l : Launch} {e : Env} {s : State} {m : MethodId} {args : Array Value} {below : List Frame} {meth : Method} {c : Code} {g : jG} {rr : Int64} {S : jM} {v2 : Int32} {t0 : UInt64} (E : jEnv p s m args meth c cX12_bitsOf "PensionHouseModel" (some .long) 9 g)  {H : Heap} {locs : List Loc} {ls : Array Slot} (hf : f_X12_bitsOf_48 v2 t0 = some rr) (hM : jAt g S s H locs) (hl : lv_has ls 9 [(2, .int v2)]) : W p l e (jRm 1 0 0) s m args below meth c H locs 0 0 (MQ below (jQl g rr S) args s 0 0 (jA0 g)) (F0 m 48 ls [.double t0]) := by
  obtain ⟨hx, hb, hml, -, hts, hown, hK, -, hstr⟩ := id E
  unfold f_X12_bitsOf_48 at hf
  refine lv_dstore_n (lv' := [(3, .double t0), (2, .int v2)]) hx hb dX12_bitsOf_48 rfl hl (by decide) rfl (fun ls hl => ?_)
  refine lv_iload_n hx hb dX12_bitsOf_49 rfl (lv_at hl 1 rfl) ?_
  refine lv_if_eq (tgt := 59) hx hb dX12_bitsOf_50 (by decide) (fun c16 => ?_) (fun c16 => ?_)
  · have hf := jt c16 hf
    refine lv_lconst (v := (0 : Int64)) hx hb dX12_bitsOf_59 (by decide) ?_
    exact B_X12_bitsOf_60 E  hf hM (lv_sub hl [0] rfl)
  · have hf := jf c16 hf
    refine lv_ldc2 (v := (-9223372036854775808 : Int64)) hx hb hown (hts _ lk_7_111) dX12_bitsOf_53 ?_
    refine lv_goto (tgt := 60) hx hb dX12_bitsOf_56 (by decide) ?_
    exact B_X12_bitsOf_60 E  hf hM (lv_sub hl [0] rfl)
set_option maxRecDepth 100000 in
set_option maxHeartbeats 4000000 in
theorem B_X12_bitsOf_35 {p : Program} {l : Launch} {e : Env} {s : State} {m : MethodId} {args : Array Value} {below : List Frame} {meth : Method} {c : Code} {g : jG} {rr : Int64} {S : jM} {v0 : UInt64} {t0 : Int32} (E : jEnv p s m args meth c cX12_bitsOf "PensionHouseModel" (some .long) 9 g)  {H : Heap} {locs : List Loc} {ls : Array Slot} (hf : f_X12_bitsOf_35 v0 t0 = some rr) (hM : jAt g S s H locs) (hl : lv_has ls 9 [(0, .double v0)]) : W p l e (jRm 1 0 0) s m args below meth c H locs 0 0 (MQ below (jQl g rr S) args s 0 0 (jA0 g)) (F0 m 35 ls [.int t0]) := by
  obtain ⟨hx, hb, hml, -, hts, hown, hK, -, hstr⟩ := id E
  unfold f_X12_bitsOf_35 at hf
  refine lv_istore_n (lv' := [(2, .int t0), (0, .double v0)]) hx hb dX12_bitsOf_35 rfl hl (by decide) rfl (fun ls hl => ?_)
  refine lv_dload_n hx hb dX12_bitsOf_36 rfl (lv_at hl 1 rfl) ?_
  refine lv_dconst0 hx hb dX12_bitsOf_37 ?_
  refine lv_dcmp hx hb dX12_bitsOf_38 ?_
  refine lv_if_ge (tgt := 47) hx hb dX12_bitsOf_39 (by decide) (fun c17 => ?_) (fun c17 => ?_)
  · have hf := jt c17 hf
    refine lv_dload_n hx hb dX12_bitsOf_47 rfl (lv_at hl 1 rfl) ?_
    exact B_X12_bitsOf_48 E  hf hM (lv_sub hl [0] rfl)
  · have hf := jf c17 hf
    refine lv_dload_n hx hb dX12_bitsOf_42 rfl (lv_at hl 1 rfl) ?_
    refine lv_dneg hx hb dX12_bitsOf_43 ?_
    refine lv_goto (tgt := 48) hx hb dX12_bitsOf_44 (by decide) ?_
    exact B_X12_bitsOf_48 E  hf hM (lv_sub hl [0] rfl)
set_option maxRecDepth 100000 in
set_option maxHeartbeats 4000000 in
theorem B_X12_bitsOf_34 {p : Program} {l : Launch} {e : Env} {s : State} {m : MethodId} {args : Array Value} {below : List Frame} {meth : Method} {c : Code} {g : jG} {rr : Int64} {S : jM} {v0 : UInt64} (E : jEnv p s m args meth c cX12_bitsOf "PensionHouseModel" (some .long) 9 g)  {H : Heap} {locs : List Loc} {ls : Array Slot} (hf : f_X12_bitsOf_34 v0 = some rr) (hM : jAt g S s H locs) (hl : lv_has ls 9 [(0, .double v0)]) : W p l e (jRm 1 0 0) s m args below meth c H locs 0 0 (MQ below (jQl g rr S) args s 0 0 (jA0 g)) (F0 m 34 ls []) := by
  obtain ⟨hx, hb, hml, -, hts, hown, hK, -, hstr⟩ := id E
  unfold f_X12_bitsOf_34 at hf
  refine lv_iconst (v := (0 : Int32)) hx hb dX12_bitsOf_34 (by decide) ?_
  exact B_X12_bitsOf_35 E  hf hM (lv_sub hl [0] rfl)
set_option maxRecDepth 100000 in
set_option maxHeartbeats 4000000 in
theorem B_X12_bitsOf_30 {p : Program} {l : Launch} {e : Env} {s : State} {m : MethodId} {args : Array Value} {below : List Frame} {meth : Method} {c : Code} {g : jG} {rr : Int64} {S : jM} {v0 : UInt64} (E : jEnv p s m args meth c cX12_bitsOf "PensionHouseModel" (some .long) 9 g)  {H : Heap} {locs : List Loc} {ls : Array Slot} (hf : f_X12_bitsOf_30 v0 = some rr) (hM : jAt g S s H locs) (hl : lv_has ls 9 [(0, .double v0)]) : W p l e (jRm 1 0 0) s m args below meth c H locs 0 0 (MQ below (jQl g rr S) args s 0 0 (jA0 g)) (F0 m 30 ls []) := by
  obtain ⟨hx, hb, hml, -, hts, hown, hK, -, hstr⟩ := id E
  unfold f_X12_bitsOf_30 at hf
  refine lv_iconst (v := (1 : Int32)) hx hb dX12_bitsOf_30 (by decide) ?_
  refine lv_goto (tgt := 35) hx hb dX12_bitsOf_31 (by decide) ?_
  exact B_X12_bitsOf_35 E  hf hM (lv_sub hl [0] rfl)
set_option maxRecDepth 100000 in
set_option maxHeartbeats 4000000 in
theorem B_X12_bitsOf_0 {p : Program} {l : Launch} {e : Env} {s : State} {m : MethodId} {args : Array Value} {below : List Frame} {meth : Method} {c : Code} {g : jG} {rr : Int64} {S : jM} {v0 : UInt64} (E : jEnv p s m args meth c cX12_bitsOf "PensionHouseModel" (some .long) 9 g)  {H : Heap} {locs : List Loc} {ls : Array Slot} (hf : f_X12_bitsOf v0 = some rr) (hM : jAt g S s H locs) (hl : lv_has ls 9 [(0, .double v0)]) : W p l e (jRm 1 0 0) s m args below meth c H locs 0 0 (MQ below (jQl g rr S) args s 0 0 (jA0 g)) (F0 m 0 ls []) := by
  obtain ⟨hx, hb, hml, -, hts, hown, hK, -, hstr⟩ := id E
  unfold f_X12_bitsOf at hf
  refine lv_dload_n hx hb dX12_bitsOf_0 rfl (lv_at hl 0 rfl) ?_
  refine lv_dload_n hx hb dX12_bitsOf_1 rfl (lv_at hl 0 rfl) ?_
  refine lv_dcmp hx hb dX12_bitsOf_2 ?_
  refine lv_if_eq (tgt := 10) hx hb dX12_bitsOf_3 (by decide) (fun c18 => ?_) (fun c18 => ?_)
  · have hf := jt c18 hf
    refine lv_dload_n hx hb dX12_bitsOf_10 rfl (lv_at hl 0 rfl) ?_
    refine lv_dconst0 hx hb dX12_bitsOf_11 ?_
    refine lv_dcmp hx hb dX12_bitsOf_12 ?_
    refine lv_if_lt (tgt := 30) hx hb dX12_bitsOf_13 (by decide) (fun c19 => ?_) (fun c19 => ?_)
    · have hf := jt c19 hf
      exact B_X12_bitsOf_30 E  hf hM (lv_sub hl [0] rfl)
    · have hf := jf c19 hf
      refine lv_dload_n hx hb dX12_bitsOf_16 rfl (lv_at hl 0 rfl) ?_
      refine lv_dconst0 hx hb dX12_bitsOf_17 ?_
      refine lv_dcmp hx hb dX12_bitsOf_18 ?_
      refine lv_if_ne (tgt := 34) hx hb dX12_bitsOf_19 (by decide) (fun c20 => ?_) (fun c20 => ?_)
      · have hf := jf c20 hf
        exact B_X12_bitsOf_34 E  hf hM (lv_sub hl [0] rfl)
      · have hf := jt c20 hf
        refine lv_dconst1 hx hb dX12_bitsOf_22 ?_
        refine lv_dload_n hx hb dX12_bitsOf_23 rfl (lv_at hl 0 rfl) ?_
        obtain ⟨hn21, hf⟩ := jif hf
        refine lv_ddiv hx hb dX12_bitsOf_24 (jnn_ok hn21) ?_
        refine lv_dconst0 hx hb dX12_bitsOf_25 ?_
        refine lv_dcmp hx hb dX12_bitsOf_26 ?_
        refine lv_if_ge (tgt := 34) hx hb dX12_bitsOf_27 (by decide) (fun c22 => ?_) (fun c22 => ?_)
        · have hf := jt c22 hf
          exact B_X12_bitsOf_34 E  hf hM (lv_sub hl [0] rfl)
        · have hf := jf c22 hf
          exact B_X12_bitsOf_30 E  hf hM (lv_sub hl [0] rfl)
  · have hf := jf c18 hf
    refine lv_ldc2 (v := (9221120237041090560 : Int64)) hx hb hown (hts _ lk_7_110) dX12_bitsOf_6 ?_
    exact jlret (jr1 hf) E hM dX12_bitsOf_9
set_option maxRecDepth 100000 in
theorem C_X12_bitsOf {l : Launch} {g : jG} {a0 : UInt64} {S : jM} {rr : Int64} (hf : f_X12_bitsOf a0 = some rr) : jMet l g yX12_bitsOf cX12_bitsOf 9 (some .long) 1 0 0 [.double a0] S (jQl g rr S) := by
  refine jof (by decide +kernel) (Nat.le_of_ble_eq_true rfl) ?_
  intro p e s m below meth c E hM ls hl
  have hl : lv_has ls 9 [(0, .double a0)] := hl
  exact B_X12_bitsOf_0 E hf hM hl
-- PensionHouseModel.root(D)D  mode P
noncomputable def f_X12_root_307 : Nat → Int64 → UInt64 → Option UInt64
  | 0, _, _ => none
  | n + 1, v4, v15 => if (0 : Int64) ≤ v4 then some v15 else if jnn (FP.ddiv v15 (4611686018427387904 : UInt64)) = true then jlet (FP.ddiv v15 (4611686018427387904 : UInt64)) (fun x3 => jlet (v4 + (1 : Int64)) (fun x4 => (f_X12_root_307 n) x4 x3)) else none
noncomputable def f_X12_root_283 : Nat → Int64 → UInt64 → Option UInt64
  | 0, _, _ => none
  | n + 1, v4, v15 => if v4 ≤ (0 : Int64) then f_X12_root_307 1100000 v4 v15 else if jnn (FP.dmul v15 (4611686018427387904 : UInt64)) = true then jlet (FP.dmul v15 (4611686018427387904 : UInt64)) (fun x7 => jlet (v4 - (1 : Int64)) (fun x8 => (f_X12_root_283 n) x8 x7)) else none
noncomputable def f_X12_root_278 (v4 : Int64) (v8 : Int64) : Option UInt64 := jlet (FP.l2d v8) (fun x9 => f_X12_root_283 1100000 v4 x9)
noncomputable def f_X12_root_272 (v4 : Int64) (v8 : Int64) : Option UInt64 := jlet (v8 + (1 : Int64)) (fun x10 => f_X12_root_278 v4 x10)
noncomputable def f_X12_root_210 (k130 : Int64 → Int64 → Int64 → Int64 → Int32 → Option UInt64) (v4 : Int64) (v6 : Int64) (v8 : Int64) (v10 : Int64) (v12 : Int32) : Option UInt64 := jlet (v12 + (1 : Int32)) (fun x11 => k130 v4 v6 v8 v10 x11)
noncomputable def f_X12_root_164 (k130 : Int64 → Int64 → Int64 → Int64 → Int32 → Option UInt64) (v4 : Int64) (v6 : Int64) (v8 : Int64) (v10 : Int64) (v12 : Int32) (t0 : Int64) : Option UInt64 := jlet ((v10 <<< ((2 : Int32).toInt64 &&& 63)) ||| t0) (fun x12 => jlet (v8 <<< ((1 : Int32).toInt64 &&& 63)) (fun x13 => if x12 < ((x13 <<< ((1 : Int32).toInt64 &&& 63)) ||| (1 : Int64)) then f_X12_root_210 k130 v4 v6 x13 x12 v12 else jlet (x12 - ((x13 <<< ((1 : Int32).toInt64 &&& 63)) ||| (1 : Int64))) (fun x15 => jlet (x13 + (1 : Int64)) (fun x16 => f_X12_root_210 k130 v4 v6 x16 x15 v12))))
noncomputable def f_X12_root_130 : Nat → Int64 → Int64 → Int64 → Int64 → Int32 → Option UInt64
  | 0, _, _, _, _, _ => none
  | n + 1, v4, v6, v8, v10, v12 => if (9007199254740992 : Int64) ≤ v8 then jlet ((v4 / (2 : Int64)) - ((v12 - (27 : Int32)).toInt64)) (fun x18 => jlet (v8 &&& (1 : Int64)) (fun x19 => jlet (v8 >>> ((1 : Int32).toInt64 &&& 63)) (fun x20 => jlet (x18 + (1 : Int64)) (fun x21 => if x19 = (1 : Int64) then if (0 : Int64) < v10 then f_X12_root_272 x21 x20 else if (x20 &&& (1 : Int64)) = (1 : Int64) then f_X12_root_272 x21 x20 else f_X12_root_278 x21 x20 else f_X12_root_278 x21 x20)))) else if (27 : Int32) ≤ v12 then f_X12_root_164 (f_X12_root_130 n) v4 v6 v8 v10 v12 (0 : Int64) else f_X12_root_164 (f_X12_root_130 n) v4 v6 v8 v10 v12 ((v6 >>> (((52 : Int32) - ((2 : Int32) * v12)).toInt64 &&& 63)) &&& (3 : Int64))
noncomputable def f_X12_root_121 (v4 : Int64) (v6 : Int64) : Option UInt64 := f_X12_root_130 1100000 v4 v6 (0 : Int64) (0 : Int64) (0 : Int32)
noncomputable def f_X12_root_92 (v4 : Int64) (v6 : Int64) : Option UInt64 := jlet (v4 - (1075 : Int64)) (fun x26 => if (x26 &&& (1 : Int64)) = (0 : Int64) then f_X12_root_121 x26 v6 else jlet (v6 <<< ((1 : Int32).toInt64 &&& 63)) (fun x28 => jlet (x26 - (1 : Int64)) (fun x29 => f_X12_root_121 x29 x28)))
noncomputable def f_X12_root_60 : Nat → Int64 → Int64 → Option UInt64
  | 0, _, _ => none
  | n + 1, v4, v6 => if (4503599627370496 : Int64) ≤ v6 then f_X12_root_92 v4 v6 else jlet (v6 <<< ((1 : Int32).toInt64 &&& 63)) (fun x31 => jlet (v4 - (1 : Int64)) (fun x32 => (f_X12_root_60 n) x32 x31))
noncomputable def f_X12_root (v0 : UInt64) : Option UInt64 := if (Op.cmpValue (FP.dcmp v0 v0) .l) = 0 then if 0 ≤ (Op.cmpValue (FP.dcmp v0 (FP.dconst0)) .g) then if (Op.cmpValue (FP.dcmp v0 (FP.dconst0)) .l) = 0 then some v0 else if (Op.cmpValue (FP.dcmp v0 (9218868437227405312 : UInt64)) .l) = 0 then some v0 else (f_X12_bitsOf v0).bind (fun x37 => jlet (x37 >>> ((52 : Int32).toInt64 &&& 63)) (fun x39 => jlet (x37 &&& (4503599627370495 : Int64)) (fun x40 => if x39 = (0 : Int64) then f_X12_root_60 1100000 (1 : Int64) x40 else jlet (x40 + (4503599627370496 : Int64)) (fun x42 => f_X12_root_92 x39 x42)))) else some (9221120237041090560 : UInt64) else some (9221120237041090560 : UInt64)
set_option maxRecDepth 100000 in
set_option maxHeartbeats 4000000 in
theorem B_X12_root_307 {p : Program} {l : Launch} {e : Env} {s : State} {m : MethodId} {args : Array Value} {below : List Frame} {meth : Method} {c : Code} {g : jG} {rr : UInt64} {S : jM} (E : jEnv p s m args meth c cX12_root "PensionHouseModel" (some .double) 17 g)  : ∀ (n : Nat) (v4 : Int64) (v15 : UInt64) (H : Heap) (locs : List Loc) (ls : Array Slot), f_X12_root_307 n v4 v15 = some rr → jAt g S s H locs → lv_has ls 17 [(4, .long v4), (15, .double v15)] → W p l e (jRm 2 0 0) s m args below meth c H locs 0 0 (MQ below (jQd g rr S) args s 0 0 (jA0 g)) (F0 m 307 ls []) := by
  obtain ⟨hx, hb, hml, -, hts, hown, hK, -, hstr⟩ := id E
  intro n
  induction n with
  | zero => intro v4 v15 H locs ls hf hM hl; rw [f_X12_root_307] at hf; cases hf
  | succ n ih =>
    intro v4 v15 H locs ls hf hM hl
    rw [f_X12_root_307] at hf
    refine lv_lload hx hb dX12_root_307 (lv_at hl 0 rfl) ?_
    refine lv_lconst (v := (0 : Int64)) hx hb dX12_root_309 (by decide) ?_
    refine jl_ge (tgt := 331) hx hb dX12_root_310 dX12_root_311 (by decide) (fun c1 => ?_) (fun c1 => ?_)
    · have hf := jt c1 hf
      refine lv_dload hx hb dX12_root_331 (lv_at hl 1 rfl) ?_
      exact jdret (jr1 hf) E hM dX12_root_333
    · have hf := jf c1 hf
      refine lv_dload hx hb dX12_root_314 (lv_at hl 1 rfl) ?_
      refine lv_ldc2d (v := (4611686018427387904 : UInt64)) hx hb hown (hts _ lk_7_83) dX12_root_316 ?_
      obtain ⟨hn2, hf⟩ := jif hf
      refine lv_ddiv hx hb dX12_root_319 (jnn_ok hn2) ?_
      refine lv_topd (fun x3 ex3 => ?_)
      have hf := jlet_y ex3 hf
      refine lv_dstore (lv' := [(15, .double x3), (4, .long v4)]) hx hb dX12_root_320 hl (by decide) rfl (fun ls hl => ?_)
      refine lv_lload hx hb dX12_root_322 (lv_at hl 1 rfl) ?_
      refine lv_lconst (v := (1 : Int64)) hx hb dX12_root_324 (by decide) ?_
      refine lv_ladd hx hb dX12_root_325 ?_
      refine lv_topl (fun x4 ex4 => ?_)
      have hf := jlet_y ex4 hf
      refine lv_lstore (lv' := [(4, .long x4), (15, .double x3)]) hx hb dX12_root_326 hl (by decide) rfl (fun ls hl => ?_)
      refine lv_goto (tgt := 307) hx hb dX12_root_328 (by decide) ?_
      exact ih x4 x3 _ _ _ hf hM (lv_sub hl [0, 1] rfl)
set_option maxRecDepth 100000 in
set_option maxHeartbeats 4000000 in
theorem B_X12_root_283 {p : Program} {l : Launch} {e : Env} {s : State} {m : MethodId} {args : Array Value} {below : List Frame} {meth : Method} {c : Code} {g : jG} {rr : UInt64} {S : jM} (E : jEnv p s m args meth c cX12_root "PensionHouseModel" (some .double) 17 g)  : ∀ (n : Nat) (v4 : Int64) (v15 : UInt64) (H : Heap) (locs : List Loc) (ls : Array Slot), f_X12_root_283 n v4 v15 = some rr → jAt g S s H locs → lv_has ls 17 [(4, .long v4), (15, .double v15)] → W p l e (jRm 2 0 0) s m args below meth c H locs 0 0 (MQ below (jQd g rr S) args s 0 0 (jA0 g)) (F0 m 283 ls []) := by
  obtain ⟨hx, hb, hml, -, hts, hown, hK, -, hstr⟩ := id E
  intro n
  induction n with
  | zero => intro v4 v15 H locs ls hf hM hl; rw [f_X12_root_283] at hf; cases hf
  | succ n ih =>
    intro v4 v15 H locs ls hf hM hl
    rw [f_X12_root_283] at hf
    refine lv_lload hx hb dX12_root_283 (lv_at hl 0 rfl) ?_
    refine lv_lconst (v := (0 : Int64)) hx hb dX12_root_285 (by decide) ?_
    refine jl_le (tgt := 307) hx hb dX12_root_286 dX12_root_287 (by decide) (fun c5 => ?_) (fun c5 => ?_)
    · have hf := jt c5 hf
      exact B_X12_root_307 E  1100000 v4 v15 _ _ _ hf hM (lv_sub hl [0, 1] rfl)
    · have hf := jf c5 hf
      refine lv_dload hx hb dX12_root_290 (lv_at hl 1 rfl) ?_
      refine lv_ldc2d (v := (4611686018427387904 : UInt64)) hx hb hown (hts _ lk_7_83) dX12_root_292 ?_
      obtain ⟨hn6, hf⟩ := jif hf
      refine lv_dmul hx hb dX12_root_295 (jnn_ok hn6) ?_
      refine lv_topd (fun x7 ex7 => ?_)
      have hf := jlet_y ex7 hf
      refine lv_dstore (lv' := [(15, .double x7), (4, .long v4)]) hx hb dX12_root_296 hl (by decide) rfl (fun ls hl => ?_)
      refine lv_lload hx hb dX12_root_298 (lv_at hl 1 rfl) ?_
      refine lv_lconst (v := (1 : Int64)) hx hb dX12_root_300 (by decide) ?_
      refine lv_lsub hx hb dX12_root_301 ?_
      refine lv_topl (fun x8 ex8 => ?_)
      have hf := jlet_y ex8 hf
      refine lv_lstore (lv' := [(4, .long x8), (15, .double x7)]) hx hb dX12_root_302 hl (by decide) rfl (fun ls hl => ?_)
      refine lv_goto (tgt := 283) hx hb dX12_root_304 (by decide) ?_
      exact ih x8 x7 _ _ _ hf hM (lv_sub hl [0, 1] rfl)
set_option maxRecDepth 100000 in
set_option maxHeartbeats 4000000 in
theorem B_X12_root_278 {p : Program} {l : Launch} {e : Env} {s : State} {m : MethodId} {args : Array Value} {below : List Frame} {meth : Method} {c : Code} {g : jG} {rr : UInt64} {S : jM} {v4 : Int64} {v8 : Int64} (E : jEnv p s m args meth c cX12_root "PensionHouseModel" (some .double) 17 g)  {H : Heap} {locs : List Loc} {ls : Array Slot} (hf : f_X12_root_278 v4 v8 = some rr) (hM : jAt g S s H locs) (hl : lv_has ls 17 [(4, .long v4), (8, .long v8)]) : W p l e (jRm 2 0 0) s m args below meth c H locs 0 0 (MQ below (jQd g rr S) args s 0 0 (jA0 g)) (F0 m 278 ls []) := by
  obtain ⟨hx, hb, hml, -, hts, hown, hK, -, hstr⟩ := id E
  unfold f_X12_root_278 at hf
  refine lv_lload hx hb dX12_root_278 (lv_at hl 1 rfl) ?_
  refine lv_l2d hx hb dX12_root_280 ?_
  refine lv_topd (fun x9 ex9 => ?_)
  have hf := jlet_y ex9 hf
  refine lv_dstore (lv' := [(15, .double x9), (4, .long v4), (8, .long v8)]) hx hb dX12_root_281 hl (by decide) rfl (fun ls hl => ?_)
  exact B_X12_root_283 E  1100000 v4 x9 _ _ _ hf hM (lv_sub hl [1, 0] rfl)
set_option maxRecDepth 100000 in
set_option maxHeartbeats 4000000 in
theorem B_X12_root_272 {p : Program} {l : Launch} {e : Env} {s : State} {m : MethodId} {args : Array Value} {below : List Frame} {meth : Method} {c : Code} {g : jG} {rr : UInt64} {S : jM} {v4 : Int64} {v8 : Int64} (E : jEnv p s m args meth c cX12_root "PensionHouseModel" (some .double) 17 g)  {H : Heap} {locs : List Loc} {ls : Array Slot} (hf : f_X12_root_272 v4 v8 = some rr) (hM : jAt g S s H locs) (hl : lv_has ls 17 [(4, .long v4), (8, .long v8)]) : W p l e (jRm 2 0 0) s m args below meth c H locs 0 0 (MQ below (jQd g rr S) args s 0 0 (jA0 g)) (F0 m 272 ls []) := by
  obtain ⟨hx, hb, hml, -, hts, hown, hK, -, hstr⟩ := id E
  unfold f_X12_root_272 at hf
  refine lv_lload hx hb dX12_root_272 (lv_at hl 1 rfl) ?_
  refine lv_lconst (v := (1 : Int64)) hx hb dX12_root_274 (by decide) ?_
  refine lv_ladd hx hb dX12_root_275 ?_
  refine lv_topl (fun x10 ex10 => ?_)
  have hf := jlet_y ex10 hf
  refine lv_lstore (lv' := [(8, .long x10), (4, .long v4)]) hx hb dX12_root_276 hl (by decide) rfl (fun ls hl => ?_)
  exact B_X12_root_278 E  hf hM (lv_sub hl [1, 0] rfl)
set_option maxRecDepth 100000 in
set_option maxHeartbeats 4000000 in
theorem B_X12_root_210 {p : Program} {l : Launch} {e : Env} {s : State} {m : MethodId} {args : Array Value} {below : List Frame} {meth : Method} {c : Code} {g : jG} {rr : UInt64} {S : jM} {v4 : Int64} {v6 : Int64} {v8 : Int64} {v10 : Int64} {v12 : Int32} {k130 : Int64 → Int64 → Int64 → Int64 → Int32 → Option UInt64} (E : jEnv p s m args meth c cX12_root "PensionHouseModel" (some .double) 17 g) (hk130 : ∀ (v4 : Int64) (v6 : Int64) (v8 : Int64) (v10 : Int64) (v12 : Int32) (H : Heap) (locs : List Loc) (ls : Array Slot), k130 v4 v6 v8 v10 v12 = some rr → jAt g S s H locs → lv_has ls 17 [(4, .long v4), (6, .long v6), (8, .long v8), (10, .long v10), (12, .int v12)] → W p l e (jRm 2 0 0) s m args below meth c H locs 0 0 (MQ below (jQd g rr S) args s 0 0 (jA0 g)) (F0 m 130 ls [])) {H : Heap} {locs : List Loc} {ls : Array Slot} (hf : f_X12_root_210 k130 v4 v6 v8 v10 v12 = some rr) (hM : jAt g S s H locs) (hl : lv_has ls 17 [(4, .long v4), (6, .long v6), (8, .long v8), (10, .long v10), (12, .int v12)]) : W p l e (jRm 2 0 0) s m args below meth c H locs 0 0 (MQ below (jQd g rr S) args s 0 0 (jA0 g)) (F0 m 210 ls []) := by
  obtain ⟨hx, hb, hml, -, hts, hown, hK, -, hstr⟩ := id E
  unfold f_X12_root_210 at hf
  obtain ⟨x11, ex11⟩ : ∃ z, z = v12 + (1 : Int32) := ⟨_, rfl⟩
  have hf := jlet_y ex11 hf
  refine lv_iinc (v := x11) (lv' := [(12, .int x11), (4, .long v4), (6, .long v6), (8, .long v8), (10, .long v10)]) hx hb dX12_root_210 hl (k := 4) rfl (by rw [ex11]; rfl) (by decide) rfl (fun ls hl => ?_)
  refine lv_goto (tgt := 130) hx hb dX12_root_213 (by decide) ?_
  exact hk130 v4 v6 v8 v10 x11 _ _ _ hf hM (lv_sub hl [1, 2, 3, 4, 0] rfl)
set_option maxRecDepth 100000 in
set_option maxHeartbeats 4000000 in
theorem B_X12_root_164 {p : Program} {l : Launch} {e : Env} {s : State} {m : MethodId} {args : Array Value} {below : List Frame} {meth : Method} {c : Code} {g : jG} {rr : UInt64} {S : jM} {v4 : Int64} {v6 : Int64} {v8 : Int64} {v10 : Int64} {v12 : Int32} {t0 : Int64} {k130 : Int64 → Int64 → Int64 → Int64 → Int32 → Option UInt64} (E : jEnv p s m args meth c cX12_root "PensionHouseModel" (some .double) 17 g) (hk130 : ∀ (v4 : Int64) (v6 : Int64) (v8 : Int64) (v10 : Int64) (v12 : Int32) (H : Heap) (locs : List Loc) (ls : Array Slot), k130 v4 v6 v8 v10 v12 = some rr → jAt g S s H locs → lv_has ls 17 [(4, .long v4), (6, .long v6), (8, .long v8), (10, .long v10), (12, .int v12)] → W p l e (jRm 2 0 0) s m args below meth c H locs 0 0 (MQ below (jQd g rr S) args s 0 0 (jA0 g)) (F0 m 130 ls [])) {H : Heap} {locs : List Loc} {ls : Array Slot} (hf : f_X12_root_164 k130 v4 v6 v8 v10 v12 t0 = some rr) (hM : jAt g S s H locs) (hl : lv_has ls 17 [(4, .long v4), (6, .long v6), (8, .long v8), (10, .long v10), (12, .int v12)]) : W p l e (jRm 2 0 0) s m args below meth c H locs 0 0 (MQ below (jQd g rr S) args s 0 0 (jA0 g)) (F0 m 164 ls [.long t0]) := by
  obtain ⟨hx, hb, hml, -, hts, hown, hK, -, hstr⟩ := id E
  unfold f_X12_root_164 at hf
  refine lv_lstore (lv' := [(13, .long t0), (4, .long v4), (6, .long v6), (8, .long v8), (10, .long v10), (12, .int v12)]) hx hb dX12_root_164 hl (by decide) rfl (fun ls hl => ?_)
  refine lv_lload hx hb dX12_root_166 (lv_at hl 4 rfl) ?_
  refine lv_iconst (v := (2 : Int32)) hx hb dX12_root_168 (by decide) ?_
  refine lv_lshl hx hb dX12_root_169 rfl ?_
  refine lv_lload hx hb dX12_root_170 (lv_at hl 0 rfl) ?_
  refine lv_lor hx hb dX12_root_172 ?_
  refine lv_topl (fun x12 ex12 => ?_)
  have hf := jlet_y ex12 hf
  refine lv_lstore (lv' := [(10, .long x12), (13, .long t0), (4, .long v4), (6, .long v6), (8, .long v8), (12, .int v12)]) hx hb dX12_root_173 hl (by decide) rfl (fun ls hl => ?_)
  refine lv_lload hx hb dX12_root_175 (lv_at hl 4 rfl) ?_
  refine lv_iconst (v := (1 : Int32)) hx hb dX12_root_177 (by decide) ?_
  refine lv_lshl hx hb dX12_root_178 rfl ?_
  refine lv_topl (fun x13 ex13 => ?_)
  have hf := jlet_y ex13 hf
  refine lv_lstore (lv' := [(8, .long x13), (10, .long x12), (13, .long t0), (4, .long v4), (6, .long v6), (12, .int v12)]) hx hb dX12_root_179 hl (by decide) rfl (fun ls hl => ?_)
  refine lv_lload hx hb dX12_root_181 (lv_at hl 1 rfl) ?_
  refine lv_lload hx hb dX12_root_183 (lv_at hl 0 rfl) ?_
  refine lv_iconst (v := (1 : Int32)) hx hb dX12_root_185 (by decide) ?_
  refine lv_lshl hx hb dX12_root_186 rfl ?_
  refine lv_lconst (v := (1 : Int64)) hx hb dX12_root_187 (by decide) ?_
  refine lv_lor hx hb dX12_root_188 ?_
  refine jl_lt (tgt := 210) hx hb dX12_root_189 dX12_root_190 (by decide) (fun c14 => ?_) (fun c14 => ?_)
  · have hf := jt c14 hf
    exact B_X12_root_210 E hk130 hf hM (lv_sub hl [3, 4, 0, 1, 5] rfl)
  · have hf := jf c14 hf
    refine lv_lload hx hb dX12_root_193 (lv_at hl 1 rfl) ?_
    refine lv_lload hx hb dX12_root_195 (lv_at hl 0 rfl) ?_
    refine lv_iconst (v := (1 : Int32)) hx hb dX12_root_197 (by decide) ?_
    refine lv_lshl hx hb dX12_root_198 rfl ?_
    refine lv_lconst (v := (1 : Int64)) hx hb dX12_root_199 (by decide) ?_
    refine lv_lor hx hb dX12_root_200 ?_
    refine lv_lsub hx hb dX12_root_201 ?_
    refine lv_topl (fun x15 ex15 => ?_)
    have hf := jlet_y ex15 hf
    refine lv_lstore (lv' := [(10, .long x15), (8, .long x13), (13, .long t0), (4, .long v4), (6, .long v6), (12, .int v12)]) hx hb dX12_root_202 hl (by decide) rfl (fun ls hl => ?_)
    refine lv_lload hx hb dX12_root_204 (lv_at hl 1 rfl) ?_
    refine lv_lconst (v := (1 : Int64)) hx hb dX12_root_206 (by decide) ?_
    refine lv_ladd hx hb dX12_root_207 ?_
    refine lv_topl (fun x16 ex16 => ?_)
    have hf := jlet_y ex16 hf
    refine lv_lstore (lv' := [(8, .long x16), (10, .long x15), (13, .long t0), (4, .long v4), (6, .long v6), (12, .int v12)]) hx hb dX12_root_208 hl (by decide) rfl (fun ls hl => ?_)
    exact B_X12_root_210 E hk130 hf hM (lv_sub hl [3, 4, 0, 1, 5] rfl)
set_option maxRecDepth 100000 in
set_option maxHeartbeats 4000000 in
theorem B_X12_root_130 {p : Program} {l : Launch} {e : Env} {s : State} {m : MethodId} {args : Array Value} {below : List Frame} {meth : Method} {c : Code} {g : jG} {rr : UInt64} {S : jM} (E : jEnv p s m args meth c cX12_root "PensionHouseModel" (some .double) 17 g)  : ∀ (n : Nat) (v4 : Int64) (v6 : Int64) (v8 : Int64) (v10 : Int64) (v12 : Int32) (H : Heap) (locs : List Loc) (ls : Array Slot), f_X12_root_130 n v4 v6 v8 v10 v12 = some rr → jAt g S s H locs → lv_has ls 17 [(4, .long v4), (6, .long v6), (8, .long v8), (10, .long v10), (12, .int v12)] → W p l e (jRm 2 0 0) s m args below meth c H locs 0 0 (MQ below (jQd g rr S) args s 0 0 (jA0 g)) (F0 m 130 ls []) := by
  obtain ⟨hx, hb, hml, -, hts, hown, hK, -, hstr⟩ := id E
  intro n
  induction n with
  | zero => intro v4 v6 v8 v10 v12 H locs ls hf hM hl; rw [f_X12_root_130] at hf; cases hf
  | succ n ih =>
    intro v4 v6 v8 v10 v12 H locs ls hf hM hl
    rw [f_X12_root_130] at hf
    refine lv_lload hx hb dX12_root_130 (lv_at hl 2 rfl) ?_
    refine lv_ldc2 (v := (9007199254740992 : Int64)) hx hb hown (hts _ lk_8_217) dX12_root_132 ?_
    refine jl_ge (tgt := 216) hx hb dX12_root_135 dX12_root_136 (by decide) (fun c17 => ?_) (fun c17 => ?_)
    · have hf := jt c17 hf
      refine lv_lload hx hb dX12_root_216 (lv_at hl 0 rfl) ?_
      refine lv_ldc2 (v := (2 : Int64)) hx hb hown (hts _ lk_7_71) dX12_root_218 ?_
      refine lv_ldiv hx hb dX12_root_221 (by decide) ?_
      refine lv_iload hx hb dX12_root_222 (lv_at hl 4 rfl) ?_
      refine lv_bipush (v := (27 : Int32)) hx hb dX12_root_224 (by decide) ?_
      refine lv_isub hx hb dX12_root_226 ?_
      refine lv_i2l hx hb dX12_root_227 rfl ?_
      refine lv_lsub hx hb dX12_root_228 ?_
      refine lv_topl (fun x18 ex18 => ?_)
      have hf := jlet_y ex18 hf
      refine lv_lstore (lv' := [(4, .long x18), (6, .long v6), (8, .long v8), (10, .long v10), (12, .int v12)]) hx hb dX12_root_229 hl (by decide) rfl (fun ls hl => ?_)
      refine lv_lload hx hb dX12_root_231 (lv_at hl 2 rfl) ?_
      refine lv_lconst (v := (1 : Int64)) hx hb dX12_root_233 (by decide) ?_
      refine lv_land hx hb dX12_root_234 ?_
      refine lv_topl (fun x19 ex19 => ?_)
      have hf := jlet_y ex19 hf
      refine lv_lstore (lv' := [(13, .long x19), (4, .long x18), (6, .long v6), (8, .long v8), (10, .long v10), (12, .int v12)]) hx hb dX12_root_235 hl (by decide) rfl (fun ls hl => ?_)
      refine lv_lload hx hb dX12_root_237 (lv_at hl 3 rfl) ?_
      refine lv_iconst (v := (1 : Int32)) hx hb dX12_root_239 (by decide) ?_
      refine lv_lshr hx hb dX12_root_240 rfl ?_
      refine lv_topl (fun x20 ex20 => ?_)
      have hf := jlet_y ex20 hf
      refine lv_lstore (lv' := [(8, .long x20), (13, .long x19), (4, .long x18), (6, .long v6), (10, .long v10), (12, .int v12)]) hx hb dX12_root_241 hl (by decide) rfl (fun ls hl => ?_)
      refine lv_lload hx hb dX12_root_243 (lv_at hl 2 rfl) ?_
      refine lv_lconst (v := (1 : Int64)) hx hb dX12_root_245 (by decide) ?_
      refine lv_ladd hx hb dX12_root_246 ?_
      refine lv_topl (fun x21 ex21 => ?_)
      have hf := jlet_y ex21 hf
      refine lv_lstore (lv' := [(4, .long x21), (8, .long x20), (13, .long x19), (6, .long v6), (10, .long v10), (12, .int v12)]) hx hb dX12_root_247 hl (by decide) rfl (fun ls hl => ?_)
      refine lv_lload hx hb dX12_root_249 (lv_at hl 2 rfl) ?_
      refine lv_lconst (v := (1 : Int64)) hx hb dX12_root_251 (by decide) ?_
      refine jl_ne (tgt := 278) hx hb dX12_root_252 dX12_root_253 (by decide) (fun c22 => ?_) (fun c22 => ?_)
      · have hf := jf c22 hf
        exact B_X12_root_278 E  hf hM (lv_sub hl [0, 1] rfl)
      · have hf := jt c22 hf
        refine lv_lload hx hb dX12_root_256 (lv_at hl 4 rfl) ?_
        refine lv_lconst (v := (0 : Int64)) hx hb dX12_root_258 (by decide) ?_
        refine jl_gt (tgt := 272) hx hb dX12_root_259 dX12_root_260 (by decide) (fun c23 => ?_) (fun c23 => ?_)
        · have hf := jt c23 hf
          exact B_X12_root_272 E  hf hM (lv_sub hl [0, 1] rfl)
        · have hf := jf c23 hf
          refine lv_lload hx hb dX12_root_263 (lv_at hl 1 rfl) ?_
          refine lv_lconst (v := (1 : Int64)) hx hb dX12_root_265 (by decide) ?_
          refine lv_land hx hb dX12_root_266 ?_
          refine lv_lconst (v := (1 : Int64)) hx hb dX12_root_267 (by decide) ?_
          refine jl_ne (tgt := 278) hx hb dX12_root_268 dX12_root_269 (by decide) (fun c24 => ?_) (fun c24 => ?_)
          · have hf := jf c24 hf
            exact B_X12_root_278 E  hf hM (lv_sub hl [0, 1] rfl)
          · have hf := jt c24 hf
            exact B_X12_root_272 E  hf hM (lv_sub hl [0, 1] rfl)
    · have hf := jf c17 hf
      refine lv_iload hx hb dX12_root_139 (lv_at hl 4 rfl) ?_
      refine lv_bipush (v := (27 : Int32)) hx hb dX12_root_141 (by decide) ?_
      refine lv_icmp_ge (tgt := 163) hx hb dX12_root_143 (by decide) (fun c25 => ?_) (fun c25 => ?_)
      · have hf := jt c25 hf
        refine lv_lconst (v := (0 : Int64)) hx hb dX12_root_163 (by decide) ?_
        exact B_X12_root_164 E ih hf hM (lv_sub hl [0, 1, 2, 3, 4] rfl)
      · have hf := jf c25 hf
        refine lv_lload hx hb dX12_root_146 (lv_at hl 1 rfl) ?_
        refine lv_bipush (v := (52 : Int32)) hx hb dX12_root_148 (by decide) ?_
        refine lv_iconst (v := (2 : Int32)) hx hb dX12_root_150 (by decide) ?_
        refine lv_iload hx hb dX12_root_151 (lv_at hl 4 rfl) ?_
        refine lv_imul hx hb dX12_root_153 ?_
        refine lv_isub hx hb dX12_root_154 ?_
        refine lv_lshr hx hb dX12_root_155 rfl ?_
        refine lv_ldc2 (v := (3 : Int64)) hx hb hown (hts _ lk_7_200) dX12_root_156 ?_
        refine lv_land hx hb dX12_root_159 ?_
        refine lv_goto (tgt := 164) hx hb dX12_root_160 (by decide) ?_
        exact B_X12_root_164 E ih hf hM (lv_sub hl [0, 1, 2, 3, 4] rfl)
set_option maxRecDepth 100000 in
set_option maxHeartbeats 4000000 in
theorem B_X12_root_121 {p : Program} {l : Launch} {e : Env} {s : State} {m : MethodId} {args : Array Value} {below : List Frame} {meth : Method} {c : Code} {g : jG} {rr : UInt64} {S : jM} {v4 : Int64} {v6 : Int64} (E : jEnv p s m args meth c cX12_root "PensionHouseModel" (some .double) 17 g)  {H : Heap} {locs : List Loc} {ls : Array Slot} (hf : f_X12_root_121 v4 v6 = some rr) (hM : jAt g S s H locs) (hl : lv_has ls 17 [(4, .long v4), (6, .long v6)]) : W p l e (jRm 2 0 0) s m args below meth c H locs 0 0 (MQ below (jQd g rr S) args s 0 0 (jA0 g)) (F0 m 121 ls []) := by
  obtain ⟨hx, hb, hml, -, hts, hown, hK, -, hstr⟩ := id E
  unfold f_X12_root_121 at hf
  refine lv_lconst (v := (0 : Int64)) hx hb dX12_root_121 (by decide) ?_
  refine lv_lstore (lv' := [(8, .long (0 : Int64)), (4, .long v4), (6, .long v6)]) hx hb dX12_root_122 hl (by decide) rfl (fun ls hl => ?_)
  refine lv_lconst (v := (0 : Int64)) hx hb dX12_root_124 (by decide) ?_
  refine lv_lstore (lv' := [(10, .long (0 : Int64)), (8, .long (0 : Int64)), (4, .long v4), (6, .long v6)]) hx hb dX12_root_125 hl (by decide) rfl (fun ls hl => ?_)
  refine lv_iconst (v := (0 : Int32)) hx hb dX12_root_127 (by decide) ?_
  refine lv_istore (lv' := [(12, .int (0 : Int32)), (10, .long (0 : Int64)), (8, .long (0 : Int64)), (4, .long v4), (6, .long v6)]) hx hb dX12_root_128 hl (by decide) rfl (fun ls hl => ?_)
  exact B_X12_root_130 E  1100000 v4 v6 (0 : Int64) (0 : Int64) (0 : Int32) _ _ _ hf hM (lv_sub hl [3, 4, 2, 1, 0] rfl)
set_option maxRecDepth 100000 in
set_option maxHeartbeats 4000000 in
theorem B_X12_root_92 {p : Program} {l : Launch} {e : Env} {s : State} {m : MethodId} {args : Array Value} {below : List Frame} {meth : Method} {c : Code} {g : jG} {rr : UInt64} {S : jM} {v4 : Int64} {v6 : Int64} (E : jEnv p s m args meth c cX12_root "PensionHouseModel" (some .double) 17 g)  {H : Heap} {locs : List Loc} {ls : Array Slot} (hf : f_X12_root_92 v4 v6 = some rr) (hM : jAt g S s H locs) (hl : lv_has ls 17 [(4, .long v4), (6, .long v6)]) : W p l e (jRm 2 0 0) s m args below meth c H locs 0 0 (MQ below (jQd g rr S) args s 0 0 (jA0 g)) (F0 m 92 ls []) := by
  obtain ⟨hx, hb, hml, -, hts, hown, hK, -, hstr⟩ := id E
  unfold f_X12_root_92 at hf
  refine lv_lload hx hb dX12_root_92 (lv_at hl 0 rfl) ?_
  refine lv_ldc2 (v := (1075 : Int64)) hx hb hown (hts _ lk_7_82) dX12_root_94 ?_
  refine lv_lsub hx hb dX12_root_97 ?_
  refine lv_topl (fun x26 ex26 => ?_)
  have hf := jlet_y ex26 hf
  refine lv_lstore (lv' := [(4, .long x26), (6, .long v6)]) hx hb dX12_root_98 hl (by decide) rfl (fun ls hl => ?_)
  refine lv_lload hx hb dX12_root_100 (lv_at hl 0 rfl) ?_
  refine lv_lconst (v := (1 : Int64)) hx hb dX12_root_102 (by decide) ?_
  refine lv_land hx hb dX12_root_103 ?_
  refine lv_lconst (v := (0 : Int64)) hx hb dX12_root_104 (by decide) ?_
  refine jl_eq (tgt := 121) hx hb dX12_root_105 dX12_root_106 (by decide) (fun c27 => ?_) (fun c27 => ?_)
  · have hf := jt c27 hf
    exact B_X12_root_121 E  hf hM (lv_sub hl [0, 1] rfl)
  · have hf := jf c27 hf
    refine lv_lload hx hb dX12_root_109 (lv_at hl 1 rfl) ?_
    refine lv_iconst (v := (1 : Int32)) hx hb dX12_root_111 (by decide) ?_
    refine lv_lshl hx hb dX12_root_112 rfl ?_
    refine lv_topl (fun x28 ex28 => ?_)
    have hf := jlet_y ex28 hf
    refine lv_lstore (lv' := [(6, .long x28), (4, .long x26)]) hx hb dX12_root_113 hl (by decide) rfl (fun ls hl => ?_)
    refine lv_lload hx hb dX12_root_115 (lv_at hl 1 rfl) ?_
    refine lv_lconst (v := (1 : Int64)) hx hb dX12_root_117 (by decide) ?_
    refine lv_lsub hx hb dX12_root_118 ?_
    refine lv_topl (fun x29 ex29 => ?_)
    have hf := jlet_y ex29 hf
    refine lv_lstore (lv' := [(4, .long x29), (6, .long x28)]) hx hb dX12_root_119 hl (by decide) rfl (fun ls hl => ?_)
    exact B_X12_root_121 E  hf hM (lv_sub hl [0, 1] rfl)
set_option maxRecDepth 100000 in
set_option maxHeartbeats 4000000 in
theorem B_X12_root_60 {p : Program} {l : Launch} {e : Env} {s : State} {m : MethodId} {args : Array Value} {below : List Frame} {meth : Method} {c : Code} {g : jG} {rr : UInt64} {S : jM} (E : jEnv p s m args meth c cX12_root "PensionHouseModel" (some .double) 17 g)  : ∀ (n : Nat) (v4 : Int64) (v6 : Int64) (H : Heap) (locs : List Loc) (ls : Array Slot), f_X12_root_60 n v4 v6 = some rr → jAt g S s H locs → lv_has ls 17 [(4, .long v4), (6, .long v6)] → W p l e (jRm 2 0 0) s m args below meth c H locs 0 0 (MQ below (jQd g rr S) args s 0 0 (jA0 g)) (F0 m 60 ls []) := by
  obtain ⟨hx, hb, hml, -, hts, hown, hK, -, hstr⟩ := id E
  intro n
  induction n with
  | zero => intro v4 v6 H locs ls hf hM hl; rw [f_X12_root_60] at hf; cases hf
  | succ n ih =>
    intro v4 v6 H locs ls hf hM hl
    rw [f_X12_root_60] at hf
    refine lv_lload hx hb dX12_root_60 (lv_at hl 1 rfl) ?_
    refine lv_ldc2 (v := (4503599627370496 : Int64)) hx hb hown (hts _ lk_7_81) dX12_root_62 ?_
    refine jl_ge (tgt := 92) hx hb dX12_root_65 dX12_root_66 (by decide) (fun c30 => ?_) (fun c30 => ?_)
    · have hf := jt c30 hf
      exact B_X12_root_92 E  hf hM (lv_sub hl [0, 1] rfl)
    · have hf := jf c30 hf
      refine lv_lload hx hb dX12_root_69 (lv_at hl 1 rfl) ?_
      refine lv_iconst (v := (1 : Int32)) hx hb dX12_root_71 (by decide) ?_
      refine lv_lshl hx hb dX12_root_72 rfl ?_
      refine lv_topl (fun x31 ex31 => ?_)
      have hf := jlet_y ex31 hf
      refine lv_lstore (lv' := [(6, .long x31), (4, .long v4)]) hx hb dX12_root_73 hl (by decide) rfl (fun ls hl => ?_)
      refine lv_lload hx hb dX12_root_75 (lv_at hl 1 rfl) ?_
      refine lv_lconst (v := (1 : Int64)) hx hb dX12_root_77 (by decide) ?_
      refine lv_lsub hx hb dX12_root_78 ?_
      refine lv_topl (fun x32 ex32 => ?_)
      have hf := jlet_y ex32 hf
      refine lv_lstore (lv' := [(4, .long x32), (6, .long x31)]) hx hb dX12_root_79 hl (by decide) rfl (fun ls hl => ?_)
      refine lv_goto (tgt := 60) hx hb dX12_root_81 (by decide) ?_
      exact ih x32 x31 _ _ _ hf hM (lv_sub hl [0, 1] rfl)
set_option maxRecDepth 100000 in
set_option maxHeartbeats 4000000 in
theorem B_X12_root_0 {p : Program} {l : Launch} {e : Env} {s : State} {m : MethodId} {args : Array Value} {below : List Frame} {meth : Method} {c : Code} {g : jG} {rr : UInt64} {S : jM} {v0 : UInt64} (E : jEnv p s m args meth c cX12_root "PensionHouseModel" (some .double) 17 g)  {H : Heap} {locs : List Loc} {ls : Array Slot} (hf : f_X12_root v0 = some rr) (hM : jAt g S s H locs) (hl : lv_has ls 17 [(0, .double v0)]) : W p l e (jRm 2 0 0) s m args below meth c H locs 0 0 (MQ below (jQd g rr S) args s 0 0 (jA0 g)) (F0 m 0 ls []) := by
  obtain ⟨hx, hb, hml, -, hts, hown, hK, -, hstr⟩ := id E
  unfold f_X12_root at hf
  refine lv_dload_n hx hb dX12_root_0 rfl (lv_at hl 0 rfl) ?_
  refine lv_dload_n hx hb dX12_root_1 rfl (lv_at hl 0 rfl) ?_
  refine lv_dcmp hx hb dX12_root_2 ?_
  refine lv_if_ne (tgt := 12) hx hb dX12_root_3 (by decide) (fun c33 => ?_) (fun c33 => ?_)
  · have hf := jf c33 hf
    refine lv_ldc2d (v := (9221120237041090560 : UInt64)) hx hb hown (hts _ lk_7_80) dX12_root_12 ?_
    exact jdret (jr1 hf) E hM dX12_root_15
  · have hf := jt c33 hf
    refine lv_dload_n hx hb dX12_root_6 rfl (lv_at hl 0 rfl) ?_
    refine lv_dconst0 hx hb dX12_root_7 ?_
    refine lv_dcmp hx hb dX12_root_8 ?_
    refine lv_if_ge (tgt := 16) hx hb dX12_root_9 (by decide) (fun c34 => ?_) (fun c34 => ?_)
    · have hf := jt c34 hf
      refine lv_dload_n hx hb dX12_root_16 rfl (lv_at hl 0 rfl) ?_
      refine lv_dconst0 hx hb dX12_root_17 ?_
      refine lv_dcmp hx hb dX12_root_18 ?_
      refine lv_if_eq (tgt := 30) hx hb dX12_root_19 (by decide) (fun c35 => ?_) (fun c35 => ?_)
      · have hf := jt c35 hf
        refine lv_dload_n hx hb dX12_root_30 rfl (lv_at hl 0 rfl) ?_
        exact jdret (jr1 hf) E hM dX12_root_31
      · have hf := jf c35 hf
        refine lv_dload_n hx hb dX12_root_22 rfl (lv_at hl 0 rfl) ?_
        refine lv_ldc2d (v := (9218868437227405312 : UInt64)) hx hb hown (hts _ lk_7_79) dX12_root_23 ?_
        refine lv_dcmp hx hb dX12_root_26 ?_
        refine lv_if_ne (tgt := 32) hx hb dX12_root_27 (by decide) (fun c36 => ?_) (fun c36 => ?_)
        · have hf := jf c36 hf
          refine lv_dload_n hx hb dX12_root_32 rfl (lv_at hl 0 rfl) ?_
          obtain ⟨x37, hc38, hf⟩ := jb hf
          refine jbackL hM (jrunS E hM ci_X12_bitsOf (C_X12_bitsOf hc38) lk_7_107 hl.1 rfl rfl (Nat.le_of_ble_eq_true rfl) ⟨Nat.le_of_ble_eq_true rfl, Nat.le_of_ble_eq_true rfl⟩ ⟨Nat.le_refl _, Nat.le_refl _⟩ dX12_root_33) (fun H locs hM => ?_)
          refine lv_lstore_n (lv' := [(2, .long x37), (0, .double v0)]) hx hb dX12_root_36 rfl hl (by decide) rfl (fun ls hl => ?_)
          refine lv_lload_n hx hb dX12_root_37 rfl (lv_at hl 0 rfl) ?_
          refine lv_bipush (v := (52 : Int32)) hx hb dX12_root_38 (by decide) ?_
          refine lv_lshr hx hb dX12_root_40 rfl ?_
          refine lv_topl (fun x39 ex39 => ?_)
          have hf := jlet_y ex39 hf
          refine lv_lstore (lv' := [(4, .long x39), (2, .long x37), (0, .double v0)]) hx hb dX12_root_41 hl (by decide) rfl (fun ls hl => ?_)
          refine lv_lload_n hx hb dX12_root_43 rfl (lv_at hl 1 rfl) ?_
          refine lv_ldc2 (v := (4503599627370495 : Int64)) hx hb hown (hts _ lk_7_77) dX12_root_44 ?_
          refine lv_land hx hb dX12_root_47 ?_
          refine lv_topl (fun x40 ex40 => ?_)
          have hf := jlet_y ex40 hf
          refine lv_lstore (lv' := [(6, .long x40), (4, .long x39), (2, .long x37), (0, .double v0)]) hx hb dX12_root_48 hl (by decide) rfl (fun ls hl => ?_)
          refine lv_lload hx hb dX12_root_50 (lv_at hl 1 rfl) ?_
          refine lv_lconst (v := (0 : Int64)) hx hb dX12_root_52 (by decide) ?_
          refine jl_ne (tgt := 84) hx hb dX12_root_53 dX12_root_54 (by decide) (fun c41 => ?_) (fun c41 => ?_)
          · have hf := jf c41 hf
            refine lv_lload hx hb dX12_root_84 (lv_at hl 0 rfl) ?_
            refine lv_ldc2 (v := (4503599627370496 : Int64)) hx hb hown (hts _ lk_7_81) dX12_root_86 ?_
            refine lv_ladd hx hb dX12_root_89 ?_
            refine lv_topl (fun x42 ex42 => ?_)
            have hf := jlet_y ex42 hf
            refine lv_lstore (lv' := [(6, .long x42), (4, .long x39), (2, .long x37), (0, .double v0)]) hx hb dX12_root_90 hl (by decide) rfl (fun ls hl => ?_)
            exact B_X12_root_92 E  hf hM (lv_sub hl [1, 0] rfl)
          · have hf := jt c41 hf
            refine lv_lconst (v := (1 : Int64)) hx hb dX12_root_57 (by decide) ?_
            refine lv_lstore (lv' := [(4, .long (1 : Int64)), (6, .long x40), (2, .long x37), (0, .double v0)]) hx hb dX12_root_58 hl (by decide) rfl (fun ls hl => ?_)
            exact B_X12_root_60 E  1100000 (1 : Int64) x40 _ _ _ hf hM (lv_sub hl [0, 1] rfl)
        · have hf := jt c36 hf
          refine lv_dload_n hx hb dX12_root_30 rfl (lv_at hl 0 rfl) ?_
          exact jdret (jr1 hf) E hM dX12_root_31
    · have hf := jf c34 hf
      refine lv_ldc2d (v := (9221120237041090560 : UInt64)) hx hb hown (hts _ lk_7_80) dX12_root_12 ?_
      exact jdret (jr1 hf) E hM dX12_root_15
set_option maxRecDepth 100000 in
theorem C_X12_root {l : Launch} {g : jG} {a0 : UInt64} {S : jM} {rr : UInt64} (hf : f_X12_root a0 = some rr) : jMet l g yX12_root cX12_root 17 (some .double) 2 0 0 [.double a0] S (jQd g rr S) := by
  refine jof (by decide +kernel) (Nat.le_of_ble_eq_true rfl) ?_
  intro p e s m below meth c E hM ls hl
  have hl : lv_has ls 17 [(0, .double a0)] := hl
  exact B_X12_root_0 E hf hM hl
-- PensionHouseModel.function(II)I  mode M
noncomputable def f_X12_function_263 (t0 : Nat) (t1 : UInt64) (S : jM) : Option (Int32 × jM) := if jK t0 = 10 then jbd (f_X12_ofReal t0 t1 S) (fun x1 S2 => some (x1, S2)) else none
noncomputable def f_X12_function_234 (v1 : Int32) (v4 : UInt64) (t0 : Nat) (S : jM) : Option (Int32 × jM) := if v1 = (3 : Int32) then f_X12_function_263 t0 v4 S else if v1 = (14 : Int32) then (f_X12_near v4).bind (fun x9 => f_X12_function_263 t0 x9 S) else (f_X12_root v4).bind (fun x7 => f_X12_function_263 t0 x7 S)
noncomputable def f_X12_function (v0 : Nat) (v1 : Int32) (v2 : Int32) (S : jM) : Option (Int32 × jM) := if jK v0 = 10 then (jR S 88 v0).bind (fun r12 => if jA r12 13 v2 = true then jlet (jAI S r12 (v2).toNatClampNeg) (fun x15 => if v1 = (2 : Int32) then if x15 = (8 : Int32) then (jR S 137 v0).bind (fun r70 => (jR S 90 v0).bind (fun r72 => if jA r72 14 ((12 : Int32) * v2) = true then if jA r70 13 ((jAL S r72 ((12 : Int32) * v2).toNatClampNeg).toInt32) = true then jbd (f_X12_ofWhole v0 ((jAI S r70 ((jAL S r72 ((12 : Int32) * v2).toNatClampNeg).toInt32).toNatClampNeg).toInt64) S) (fun x76 S77 => some (x76, S77)) else none else none)) else jbd (f_X12_failing v0 (2 : Int32) S) (fun x67 S68 => some (x67, S68)) else if v1 = (11 : Int32) then if (f_X12_isRow x15) = 0 then jbd (f_X12_failing v0 (2 : Int32) S) (fun x57 S58 => some (x57, S58)) else (jR S 89 v0).bind (fun r60 => if jA r60 13 v2 = true then jbd (f_X12_ofWhole v0 ((jAI S r60 (v2).toNatClampNeg).toInt64) S) (fun x63 S64 => some (x63, S64)) else none) else if v1 = (25 : Int32) then if x15 = 0 then (jR S 90 v0).bind (fun r42 => if jA r42 14 ((12 : Int32) * v2) = true then jlet (jAL S r42 ((12 : Int32) * v2).toNatClampNeg) (fun x45 => if (f_X12_in x45 (0 : Int64) (12 : Int64)) = 0 then jbd (f_X12_failing v0 (4 : Int32) S) (fun x47 S48 => some (x47, S48)) else jbd (f_X12_made v0 (2 : Int32) (x45.toInt32) S) (fun x50 S51 => some (x50, S51))) else none) else jbd (f_X12_failing v0 (2 : Int32) S) (fun x53 S54 => some (x53, S54)) else if (f_X12_isNumber x15) = 0 then jbd (f_X12_failing v0 (2 : Int32) S) (fun x38 S39 => some (x38, S39)) else if v1 = (23 : Int32) then if x15 = 0 then some (v2, S) else (jR S 91 v0).bind (fun r32 => if jA r32 12 ((12 : Int32) * v2) = true then jbd (f_X12_ofWhole v0 (FP.d2l (jAD S r32 ((12 : Int32) * v2).toNatClampNeg)) S) (fun x35 S36 => some (x35, S36)) else none) else (f_X12_asReal v0 v2 S).bind (fun x21 => if v1 = (16 : Int32) then f_X12_function_263 v0 x21 S else if v1 = (6 : Int32) then (f_X12_floor x21).bind (fun x29 => f_X12_function_263 v0 x29 S) else if v1 = (3 : Int32) then if (Op.cmpValue (FP.dcmp x21 x21) .l) = 0 then (f_X12_floor (FP.dneg x21)).bind (fun x27 => f_X12_function_263 v0 (FP.dneg x27) S) else f_X12_function_234 v1 x21 v0 S else f_X12_function_234 v1 x21 v0 S)) else none) else none
set_option maxRecDepth 100000 in
set_option maxHeartbeats 4000000 in
theorem B_X12_function_263 {p : Program} {l : Launch} {e : Env} {s : State} {m : MethodId} {args : Array Value} {below : List Frame} {meth : Method} {c : Code} {g : jG} {rr : Int32} {SS : jM} {t0 : Nat} {t1 : UInt64} {S : jM} (E : jEnv p s m args meth c cX12_function "PensionHouseModel" (some .int) 6 g)  {H : Heap} {locs : List Loc} {ls : Array Slot} (hf : f_X12_function_263 t0 t1 S = some (rr, SS)) (hM : jAt g S s H locs) (hl : lv_has ls 6 []) : W p l e (jRm 5 0 0) s m args below meth c H locs 0 0 (MQ below (jQi g rr SS) args s 0 0 (jA0 g)) (F0 m 263 ls [.double t1, .ref (g.2.2 + t0)]) := by
  obtain ⟨hx, hb, hml, -, hts, hown, hK, -, hstr⟩ := id E
  unfold f_X12_function_263 at hf
  obtain ⟨hq4, hf⟩ := jif hf
  obtain ⟨x1, S2, hc3, hf⟩ := jbd_e hf
  refine jbackI hM (jrunV E hM ci_X12_ofReal (C_X12_ofReal hc3) lk_8_103 hq4 (by decide) rfl hl.1 rfl rfl (Nat.le_of_ble_eq_true rfl) ⟨Nat.le_of_ble_eq_true rfl, Nat.le_of_ble_eq_true rfl⟩ ⟨Nat.le_refl _, Nat.le_refl _⟩ dX12_function_263) (fun H locs hM => ?_)
  exact jireti (jr2 hf) E hM dX12_function_266
set_option maxRecDepth 100000 in
set_option maxHeartbeats 4000000 in
theorem B_X12_function_234 {p : Program} {l : Launch} {e : Env} {s : State} {m : MethodId} {args : Array Value} {below : List Frame} {meth : Method} {c : Code} {g : jG} {rr : Int32} {SS : jM} {v1 : Int32} {v4 : UInt64} {t0 : Nat} {S : jM} (E : jEnv p s m args meth c cX12_function "PensionHouseModel" (some .int) 6 g)  {H : Heap} {locs : List Loc} {ls : Array Slot} (hf : f_X12_function_234 v1 v4 t0 S = some (rr, SS)) (hM : jAt g S s H locs) (hl : lv_has ls 6 [(1, .int v1), (4, .double v4)]) : W p l e (jRm 5 0 0) s m args below meth c H locs 0 0 (MQ below (jQi g rr SS) args s 0 0 (jA0 g)) (F0 m 234 ls [.ref (g.2.2 + t0)]) := by
  obtain ⟨hx, hb, hml, -, hts, hown, hK, -, hstr⟩ := id E
  unfold f_X12_function_234 at hf
  refine lv_iload_n hx hb dX12_function_234 rfl (lv_at hl 0 rfl) ?_
  refine lv_iconst (v := (3 : Int32)) hx hb dX12_function_235 (by decide) ?_
  refine lv_icmp_ne (tgt := 244) hx hb dX12_function_236 (by decide) (fun c5 => ?_) (fun c5 => ?_)
  · have hf := jf c5 hf
    refine lv_iload_n hx hb dX12_function_244 rfl (lv_at hl 0 rfl) ?_
    refine lv_bipush (v := (14 : Int32)) hx hb dX12_function_245 (by decide) ?_
    refine lv_icmp_ne (tgt := 258) hx hb dX12_function_247 (by decide) (fun c6 => ?_) (fun c6 => ?_)
    · have hf := jf c6 hf
      refine lv_dload hx hb dX12_function_258 (lv_at hl 1 rfl) ?_
      obtain ⟨x7, hc8, hf⟩ := jb hf
      refine jbackD hM (jrunS E hM ci_X12_root (C_X12_root hc8) lk_8_214 hl.1 rfl rfl (Nat.le_of_ble_eq_true rfl) ⟨Nat.le_of_ble_eq_true rfl, Nat.le_of_ble_eq_true rfl⟩ ⟨Nat.le_refl _, Nat.le_refl _⟩ dX12_function_260) (fun H locs hM => ?_)
      exact B_X12_function_263 E  hf hM (lv_sub hl [] rfl)
    · have hf := jt c6 hf
      refine lv_dload hx hb dX12_function_250 (lv_at hl 1 rfl) ?_
      obtain ⟨x9, hc10, hf⟩ := jb hf
      refine jbackD hM (jrunS E hM ci_X12_near (C_X12_near hc10) lk_8_211 hl.1 rfl rfl (Nat.le_of_ble_eq_true rfl) ⟨Nat.le_of_ble_eq_true rfl, Nat.le_of_ble_eq_true rfl⟩ ⟨Nat.le_refl _, Nat.le_refl _⟩ dX12_function_252) (fun H locs hM => ?_)
      refine lv_goto (tgt := 263) hx hb dX12_function_255 (by decide) ?_
      exact B_X12_function_263 E  hf hM (lv_sub hl [] rfl)
  · have hf := jt c5 hf
    refine lv_dload hx hb dX12_function_239 (lv_at hl 1 rfl) ?_
    refine lv_goto (tgt := 263) hx hb dX12_function_241 (by decide) ?_
    exact B_X12_function_263 E  hf hM (lv_sub hl [] rfl)
set_option maxRecDepth 100000 in
set_option maxHeartbeats 4000000 in
theorem B_X12_function_0 {p : Program} {l : Launch} {e : Env} {s : State} {m : MethodId} {args : Array Value} {below : List Frame} {meth : Method} {c : Code} {g : jG} {rr : Int32} {SS : jM} {v0 : Nat} {v1 : Int32} {v2 : Int32} {S : jM} (E : jEnv p s m args meth c cX12_function "PensionHouseModel" (some .int) 6 g)  {H : Heap} {locs : List Loc} {ls : Array Slot} (hf : f_X12_function v0 v1 v2 S = some (rr, SS)) (hM : jAt g S s H locs) (hl : lv_has ls 6 [(0, .ref (g.2.2 + v0)), (1, .int v1), (2, .int v2)]) : W p l e (jRm 5 0 0) s m args below meth c H locs 0 0 (MQ below (jQi g rr SS) args s 0 0 (jA0 g)) (F0 m 0 ls []) := by
  obtain ⟨hx, hb, hml, -, hts, hown, hK, -, hstr⟩ := id E
  unfold f_X12_function at hf
  refine lv_aload_n hx hb dX12_function_0 rfl (lv_at hl 0 rfl) ?_
  obtain ⟨hq11, hf⟩ := jif hf
  refine gt_88 E hM hq11 lk_6_2 dX12_function_1 ?_
  obtain ⟨r12, hr13, hf⟩ := jb hf
  rw [hr13]
  show W p l e _ s m args below meth c H locs 0 0 _ (F0 m _ ls (.ref (g.2.2 + r12) :: _))
  refine lv_iload_n hx hb dX12_function_4 rfl (lv_at hl 2 rfl) ?_
  obtain ⟨ha14, hf⟩ := jif hf
  refine jiald E hM ha14 dX12_function_5 ?_
  refine lv_topi (fun x15 ex15 => ?_)
  have hf := jlet_y ex15 hf
  refine lv_istore_n (lv' := [(3, .int x15), (0, .ref (g.2.2 + v0)), (1, .int v1), (2, .int v2)]) hx hb dX12_function_6 rfl hl (by decide) rfl (fun ls hl => ?_)
  refine lv_iload_n hx hb dX12_function_7 rfl (lv_at hl 2 rfl) ?_
  refine lv_iconst (v := (2 : Int32)) hx hb dX12_function_8 (by decide) ?_
  refine lv_icmp_ne (tgt := 47) hx hb dX12_function_9 (by decide) (fun c16 => ?_) (fun c16 => ?_)
  · have hf := jf c16 hf
    refine lv_iload_n hx hb dX12_function_47 rfl (lv_at hl 2 rfl) ?_
    refine lv_bipush (v := (11 : Int32)) hx hb dX12_function_48 (by decide) ?_
    refine lv_icmp_ne (tgt := 80) hx hb dX12_function_50 (by decide) (fun c17 => ?_) (fun c17 => ?_)
    · have hf := jf c17 hf
      refine lv_iload_n hx hb dX12_function_80 rfl (lv_at hl 2 rfl) ?_
      refine lv_bipush (v := (25 : Int32)) hx hb dX12_function_81 (by decide) ?_
      refine lv_icmp_ne (tgt := 136) hx hb dX12_function_83 (by decide) (fun c18 => ?_) (fun c18 => ?_)
      · have hf := jf c18 hf
        refine lv_iload_n hx hb dX12_function_136 rfl (lv_at hl 0 rfl) ?_
        refine jbackI hM (jrunS E hM ci_X12_isNumber (C_X12_isNumber rfl) lk_8_115 hl.1 rfl rfl (Nat.le_of_ble_eq_true rfl) ⟨Nat.le_of_ble_eq_true rfl, Nat.le_of_ble_eq_true rfl⟩ ⟨Nat.le_refl _, Nat.le_refl _⟩ dX12_function_137) (fun H locs hM => ?_)
        refine lv_if_ne (tgt := 149) hx hb dX12_function_140 (by decide) (fun c19 => ?_) (fun c19 => ?_)
        · have hf := jf c19 hf
          refine lv_iload_n hx hb dX12_function_149 rfl (lv_at hl 2 rfl) ?_
          refine lv_bipush (v := (23 : Int32)) hx hb dX12_function_150 (by decide) ?_
          refine lv_icmp_ne (tgt := 178) hx hb dX12_function_152 (by decide) (fun c20 => ?_) (fun c20 => ?_)
          · have hf := jf c20 hf
            refine lv_aload_n hx hb dX12_function_178 rfl (lv_at hl 1 rfl) ?_
            refine lv_iload_n hx hb dX12_function_179 rfl (lv_at hl 3 rfl) ?_
            obtain ⟨x21, hc22, hf⟩ := jb hf
            refine jbackD hM (jrunV E hM ci_X12_asReal (C_X12_asReal hc22) lk_8_134 hq11 (by decide) rfl hl.1 rfl rfl (Nat.le_of_ble_eq_true rfl) ⟨Nat.le_of_ble_eq_true rfl, Nat.le_of_ble_eq_true rfl⟩ ⟨Nat.le_refl _, Nat.le_refl _⟩ dX12_function_180) (fun H locs hM => ?_)
            refine lv_dstore (lv' := [(4, .double x21), (3, .int x15), (0, .ref (g.2.2 + v0)), (1, .int v1), (2, .int v2)]) hx hb dX12_function_183 hl (by decide) rfl (fun ls hl => ?_)
            refine lv_aload_n hx hb dX12_function_185 rfl (lv_at hl 2 rfl) ?_
            refine lv_iload_n hx hb dX12_function_186 rfl (lv_at hl 3 rfl) ?_
            refine lv_bipush (v := (16 : Int32)) hx hb dX12_function_187 (by decide) ?_
            refine lv_icmp_ne (tgt := 197) hx hb dX12_function_189 (by decide) (fun c23 => ?_) (fun c23 => ?_)
            · have hf := jf c23 hf
              refine lv_iload_n hx hb dX12_function_197 rfl (lv_at hl 3 rfl) ?_
              refine lv_bipush (v := (6 : Int32)) hx hb dX12_function_198 (by decide) ?_
              refine lv_icmp_ne (tgt := 211) hx hb dX12_function_200 (by decide) (fun c24 => ?_) (fun c24 => ?_)
              · have hf := jf c24 hf
                refine lv_iload_n hx hb dX12_function_211 rfl (lv_at hl 3 rfl) ?_
                refine lv_iconst (v := (3 : Int32)) hx hb dX12_function_212 (by decide) ?_
                refine lv_icmp_ne (tgt := 234) hx hb dX12_function_213 (by decide) (fun c25 => ?_) (fun c25 => ?_)
                · have hf := jf c25 hf
                  exact B_X12_function_234 E  hf hM (lv_sub hl [3, 0] rfl)
                · have hf := jt c25 hf
                  refine lv_dload hx hb dX12_function_216 (lv_at hl 0 rfl) ?_
                  refine lv_dload hx hb dX12_function_218 (lv_at hl 0 rfl) ?_
                  refine lv_dcmp hx hb dX12_function_220 ?_
                  refine lv_if_ne (tgt := 234) hx hb dX12_function_221 (by decide) (fun c26 => ?_) (fun c26 => ?_)
                  · have hf := jf c26 hf
                    exact B_X12_function_234 E  hf hM (lv_sub hl [3, 0] rfl)
                  · have hf := jt c26 hf
                    refine lv_dload hx hb dX12_function_224 (lv_at hl 0 rfl) ?_
                    refine lv_dneg hx hb dX12_function_226 ?_
                    obtain ⟨x27, hc28, hf⟩ := jb hf
                    refine jbackD hM (jrunS E hM ci_X12_floor (C_X12_floor hc28) lk_8_206 hl.1 rfl rfl (Nat.le_of_ble_eq_true rfl) ⟨Nat.le_of_ble_eq_true rfl, Nat.le_of_ble_eq_true rfl⟩ ⟨Nat.le_refl _, Nat.le_refl _⟩ dX12_function_227) (fun H locs hM => ?_)
                    refine lv_dneg hx hb dX12_function_230 ?_
                    refine lv_goto (tgt := 263) hx hb dX12_function_231 (by decide) ?_
                    exact B_X12_function_263 E  hf hM (lv_sub hl [] rfl)
              · have hf := jt c24 hf
                refine lv_dload hx hb dX12_function_203 (lv_at hl 0 rfl) ?_
                obtain ⟨x29, hc30, hf⟩ := jb hf
                refine jbackD hM (jrunS E hM ci_X12_floor (C_X12_floor hc30) lk_8_206 hl.1 rfl rfl (Nat.le_of_ble_eq_true rfl) ⟨Nat.le_of_ble_eq_true rfl, Nat.le_of_ble_eq_true rfl⟩ ⟨Nat.le_refl _, Nat.le_refl _⟩ dX12_function_205) (fun H locs hM => ?_)
                refine lv_goto (tgt := 263) hx hb dX12_function_208 (by decide) ?_
                exact B_X12_function_263 E  hf hM (lv_sub hl [] rfl)
            · have hf := jt c23 hf
              refine lv_dload hx hb dX12_function_192 (lv_at hl 0 rfl) ?_
              refine lv_goto (tgt := 263) hx hb dX12_function_194 (by decide) ?_
              exact B_X12_function_263 E  hf hM (lv_sub hl [] rfl)
          · have hf := jt c20 hf
            refine lv_iload_n hx hb dX12_function_155 rfl (lv_at hl 0 rfl) ?_
            refine lv_if_ne (tgt := 163) hx hb dX12_function_156 (by decide) (fun c31 => ?_) (fun c31 => ?_)
            · have hf := jf c31 hf
              refine lv_aload_n hx hb dX12_function_163 rfl (lv_at hl 1 rfl) ?_
              refine lv_aload_n hx hb dX12_function_164 rfl (lv_at hl 1 rfl) ?_
              refine gt_91 E hM hq11 lk_6_5 dX12_function_165 ?_
              obtain ⟨r32, hr33, hf⟩ := jb hf
              rw [hr33]
              show W p l e _ s m args below meth c H locs 0 0 _ (F0 m _ ls (.ref (g.2.2 + r32) :: _))
              refine lv_bipush (v := (12 : Int32)) hx hb dX12_function_168 (by decide) ?_
              refine lv_iload_n hx hb dX12_function_170 rfl (lv_at hl 3 rfl) ?_
              refine lv_imul hx hb dX12_function_171 ?_
              obtain ⟨ha34, hf⟩ := jif hf
              refine jdald E hM ha34 dX12_function_172 ?_
              refine lv_d2l hx hb dX12_function_173 ?_
              obtain ⟨x35, S36, hc37, hf⟩ := jbd_e hf
              refine jbackI hM (jrunV E hM ci_X12_ofWhole (C_X12_ofWhole hc37) lk_8_91 hq11 (by decide) rfl hl.1 rfl rfl (Nat.le_of_ble_eq_true rfl) ⟨Nat.le_of_ble_eq_true rfl, Nat.le_of_ble_eq_true rfl⟩ ⟨Nat.le_refl _, Nat.le_refl _⟩ dX12_function_174) (fun H locs hM => ?_)
              exact jireti (jr2 hf) E hM dX12_function_177
            · have hf := jt c31 hf
              refine lv_iload_n hx hb dX12_function_159 rfl (lv_at hl 3 rfl) ?_
              refine lv_goto (tgt := 177) hx hb dX12_function_160 (by decide) ?_
              exact jireti (jr2 hf) E hM dX12_function_177
        · have hf := jt c19 hf
          refine lv_aload_n hx hb dX12_function_143 rfl (lv_at hl 1 rfl) ?_
          refine lv_iconst (v := (2 : Int32)) hx hb dX12_function_144 (by decide) ?_
          obtain ⟨x38, S39, hc40, hf⟩ := jbd_e hf
          refine jbackI hM (jrunV E hM ci_X12_failing (C_X12_failing hc40) lk_8_87 hq11 (by decide) rfl hl.1 rfl rfl (Nat.le_of_ble_eq_true rfl) ⟨Nat.le_of_ble_eq_true rfl, Nat.le_of_ble_eq_true rfl⟩ ⟨Nat.le_refl _, Nat.le_refl _⟩ dX12_function_145) (fun H locs hM => ?_)
          exact jireti (jr2 hf) E hM dX12_function_148
      · have hf := jt c18 hf
        refine lv_iload_n hx hb dX12_function_86 rfl (lv_at hl 0 rfl) ?_
        refine lv_if_eq (tgt := 96) hx hb dX12_function_87 (by decide) (fun c41 => ?_) (fun c41 => ?_)
        · have hf := jt c41 hf
          refine lv_aload_n hx hb dX12_function_96 rfl (lv_at hl 1 rfl) ?_
          refine gt_90 E hM hq11 lk_6_4 dX12_function_97 ?_
          obtain ⟨r42, hr43, hf⟩ := jb hf
          rw [hr43]
          show W p l e _ s m args below meth c H locs 0 0 _ (F0 m _ ls (.ref (g.2.2 + r42) :: _))
          refine lv_bipush (v := (12 : Int32)) hx hb dX12_function_100 (by decide) ?_
          refine lv_iload_n hx hb dX12_function_102 rfl (lv_at hl 3 rfl) ?_
          refine lv_imul hx hb dX12_function_103 ?_
          obtain ⟨ha44, hf⟩ := jif hf
          refine jlald E hM ha44 dX12_function_104 ?_
          refine lv_topl (fun x45 ex45 => ?_)
          have hf := jlet_y ex45 hf
          refine lv_lstore (lv' := [(4, .long x45), (3, .int x15), (0, .ref (g.2.2 + v0)), (1, .int v1), (2, .int v2)]) hx hb dX12_function_105 hl (by decide) rfl (fun ls hl => ?_)
          refine lv_lload hx hb dX12_function_107 (lv_at hl 0 rfl) ?_
          refine lv_lconst (v := (0 : Int64)) hx hb dX12_function_109 (by decide) ?_
          refine lv_ldc2 (v := (12 : Int64)) hx hb hown (hts _ lk_7_58) dX12_function_110 ?_
          refine jbackI hM (jrunS E hM ci_X12_in (C_X12_in rfl) lk_7_36 hl.1 rfl rfl (Nat.le_of_ble_eq_true rfl) ⟨Nat.le_of_ble_eq_true rfl, Nat.le_of_ble_eq_true rfl⟩ ⟨Nat.le_refl _, Nat.le_refl _⟩ dX12_function_113) (fun H locs hM => ?_)
          refine lv_if_eq (tgt := 130) hx hb dX12_function_116 (by decide) (fun c46 => ?_) (fun c46 => ?_)
          · have hf := jt c46 hf
            refine lv_aload_n hx hb dX12_function_130 rfl (lv_at hl 2 rfl) ?_
            refine lv_iconst (v := (4 : Int32)) hx hb dX12_function_131 (by decide) ?_
            obtain ⟨x47, S48, hc49, hf⟩ := jbd_e hf
            refine jbackI hM (jrunV E hM ci_X12_failing (C_X12_failing hc49) lk_8_87 hq11 (by decide) rfl hl.1 rfl rfl (Nat.le_of_ble_eq_true rfl) ⟨Nat.le_of_ble_eq_true rfl, Nat.le_of_ble_eq_true rfl⟩ ⟨Nat.le_refl _, Nat.le_refl _⟩ dX12_function_132) (fun H locs hM => ?_)
            exact jireti (jr2 hf) E hM dX12_function_135
          · have hf := jf c46 hf
            refine lv_aload_n hx hb dX12_function_119 rfl (lv_at hl 2 rfl) ?_
            refine lv_iconst (v := (2 : Int32)) hx hb dX12_function_120 (by decide) ?_
            refine lv_lload hx hb dX12_function_121 (lv_at hl 0 rfl) ?_
            refine lv_l2i hx hb dX12_function_123 rfl ?_
            obtain ⟨x50, S51, hc52, hf⟩ := jbd_e hf
            refine jbackI hM (jrunV E hM ci_X12_made (C_X12_made hc52) lk_8_95 hq11 (by decide) rfl hl.1 rfl rfl (Nat.le_of_ble_eq_true rfl) ⟨Nat.le_of_ble_eq_true rfl, Nat.le_of_ble_eq_true rfl⟩ ⟨Nat.le_refl _, Nat.le_refl _⟩ dX12_function_124) (fun H locs hM => ?_)
            refine lv_goto (tgt := 135) hx hb dX12_function_127 (by decide) ?_
            exact jireti (jr2 hf) E hM dX12_function_135
        · have hf := jf c41 hf
          refine lv_aload_n hx hb dX12_function_90 rfl (lv_at hl 1 rfl) ?_
          refine lv_iconst (v := (2 : Int32)) hx hb dX12_function_91 (by decide) ?_
          obtain ⟨x53, S54, hc55, hf⟩ := jbd_e hf
          refine jbackI hM (jrunV E hM ci_X12_failing (C_X12_failing hc55) lk_8_87 hq11 (by decide) rfl hl.1 rfl rfl (Nat.le_of_ble_eq_true rfl) ⟨Nat.le_of_ble_eq_true rfl, Nat.le_of_ble_eq_true rfl⟩ ⟨Nat.le_refl _, Nat.le_refl _⟩ dX12_function_92) (fun H locs hM => ?_)
          exact jireti (jr2 hf) E hM dX12_function_95
    · have hf := jt c17 hf
      refine lv_iload_n hx hb dX12_function_53 rfl (lv_at hl 0 rfl) ?_
      refine jbackI hM (jrunS E hM ci_X12_isRow (C_X12_isRow rfl) lk_7_100 hl.1 rfl rfl (Nat.le_of_ble_eq_true rfl) ⟨Nat.le_of_ble_eq_true rfl, Nat.le_of_ble_eq_true rfl⟩ ⟨Nat.le_refl _, Nat.le_refl _⟩ dX12_function_54) (fun H locs hM => ?_)
      refine lv_if_eq (tgt := 74) hx hb dX12_function_57 (by decide) (fun c56 => ?_) (fun c56 => ?_)
      · have hf := jt c56 hf
        refine lv_aload_n hx hb dX12_function_74 rfl (lv_at hl 1 rfl) ?_
        refine lv_iconst (v := (2 : Int32)) hx hb dX12_function_75 (by decide) ?_
        obtain ⟨x57, S58, hc59, hf⟩ := jbd_e hf
        refine jbackI hM (jrunV E hM ci_X12_failing (C_X12_failing hc59) lk_8_87 hq11 (by decide) rfl hl.1 rfl rfl (Nat.le_of_ble_eq_true rfl) ⟨Nat.le_of_ble_eq_true rfl, Nat.le_of_ble_eq_true rfl⟩ ⟨Nat.le_refl _, Nat.le_refl _⟩ dX12_function_76) (fun H locs hM => ?_)
        exact jireti (jr2 hf) E hM dX12_function_79
      · have hf := jf c56 hf
        refine lv_aload_n hx hb dX12_function_60 rfl (lv_at hl 1 rfl) ?_
        refine lv_aload_n hx hb dX12_function_61 rfl (lv_at hl 1 rfl) ?_
        refine gt_89 E hM hq11 lk_6_3 dX12_function_62 ?_
        obtain ⟨r60, hr61, hf⟩ := jb hf
        rw [hr61]
        show W p l e _ s m args below meth c H locs 0 0 _ (F0 m _ ls (.ref (g.2.2 + r60) :: _))
        refine lv_iload_n hx hb dX12_function_65 rfl (lv_at hl 3 rfl) ?_
        obtain ⟨ha62, hf⟩ := jif hf
        refine jiald E hM ha62 dX12_function_66 ?_
        refine lv_i2l hx hb dX12_function_67 rfl ?_
        obtain ⟨x63, S64, hc65, hf⟩ := jbd_e hf
        refine jbackI hM (jrunV E hM ci_X12_ofWhole (C_X12_ofWhole hc65) lk_8_91 hq11 (by decide) rfl hl.1 rfl rfl (Nat.le_of_ble_eq_true rfl) ⟨Nat.le_of_ble_eq_true rfl, Nat.le_of_ble_eq_true rfl⟩ ⟨Nat.le_refl _, Nat.le_refl _⟩ dX12_function_68) (fun H locs hM => ?_)
        refine lv_goto (tgt := 79) hx hb dX12_function_71 (by decide) ?_
        exact jireti (jr2 hf) E hM dX12_function_79
  · have hf := jt c16 hf
    refine lv_iload_n hx hb dX12_function_12 rfl (lv_at hl 0 rfl) ?_
    refine lv_bipush (v := (8 : Int32)) hx hb dX12_function_13 (by decide) ?_
    refine lv_icmp_ne (tgt := 41) hx hb dX12_function_15 (by decide) (fun c66 => ?_) (fun c66 => ?_)
    · have hf := jf c66 hf
      refine lv_aload_n hx hb dX12_function_41 rfl (lv_at hl 1 rfl) ?_
      refine lv_iconst (v := (2 : Int32)) hx hb dX12_function_42 (by decide) ?_
      obtain ⟨x67, S68, hc69, hf⟩ := jbd_e hf
      refine jbackI hM (jrunV E hM ci_X12_failing (C_X12_failing hc69) lk_8_87 hq11 (by decide) rfl hl.1 rfl rfl (Nat.le_of_ble_eq_true rfl) ⟨Nat.le_of_ble_eq_true rfl, Nat.le_of_ble_eq_true rfl⟩ ⟨Nat.le_refl _, Nat.le_refl _⟩ dX12_function_43) (fun H locs hM => ?_)
      exact jireti (jr2 hf) E hM dX12_function_46
    · have hf := jt c66 hf
      refine lv_aload_n hx hb dX12_function_18 rfl (lv_at hl 1 rfl) ?_
      refine lv_aload_n hx hb dX12_function_19 rfl (lv_at hl 1 rfl) ?_
      refine gt_137 E hM hq11 lk_6_51 dX12_function_20 ?_
      obtain ⟨r70, hr71, hf⟩ := jb hf
      rw [hr71]
      show W p l e _ s m args below meth c H locs 0 0 _ (F0 m _ ls (.ref (g.2.2 + r70) :: _))
      refine lv_aload_n hx hb dX12_function_23 rfl (lv_at hl 1 rfl) ?_
      refine gt_90 E hM hq11 lk_6_4 dX12_function_24 ?_
      obtain ⟨r72, hr73, hf⟩ := jb hf
      rw [hr73]
      show W p l e _ s m args below meth c H locs 0 0 _ (F0 m _ ls (.ref (g.2.2 + r72) :: _))
      refine lv_bipush (v := (12 : Int32)) hx hb dX12_function_27 (by decide) ?_
      refine lv_iload_n hx hb dX12_function_29 rfl (lv_at hl 3 rfl) ?_
      refine lv_imul hx hb dX12_function_30 ?_
      obtain ⟨ha74, hf⟩ := jif hf
      refine jlald E hM ha74 dX12_function_31 ?_
      refine lv_l2i hx hb dX12_function_32 rfl ?_
      obtain ⟨ha75, hf⟩ := jif hf
      refine jiald E hM ha75 dX12_function_33 ?_
      refine lv_i2l hx hb dX12_function_34 rfl ?_
      obtain ⟨x76, S77, hc78, hf⟩ := jbd_e hf
      refine jbackI hM (jrunV E hM ci_X12_ofWhole (C_X12_ofWhole hc78) lk_8_91 hq11 (by decide) rfl hl.1 rfl rfl (Nat.le_of_ble_eq_true rfl) ⟨Nat.le_of_ble_eq_true rfl, Nat.le_of_ble_eq_true rfl⟩ ⟨Nat.le_refl _, Nat.le_refl _⟩ dX12_function_35) (fun H locs hM => ?_)
      refine lv_goto (tgt := 46) hx hb dX12_function_38 (by decide) ?_
      exact jireti (jr2 hf) E hM dX12_function_46
set_option maxRecDepth 100000 in
theorem C_X12_function {l : Launch} {g : jG} {a0 : Nat} {a1 : Int32} {a2 : Int32} {S : jM} {rr : Int32} {SS : jM} (hf : f_X12_function a0 a1 a2 S = some (rr, SS)) : jMet l g yX12_function cX12_function 6 (some .int) 5 0 0 [.ref (g.2.2 + a0), .int a1, .int a2] S (jQi g rr SS) := by
  refine jof (by decide +kernel) (Nat.le_of_ble_eq_true rfl) ?_
  intro p e s m below meth c E hM ls hl
  have hl : lv_has ls 6 [(0, .ref (g.2.2 + a0)),(1, .int a1),(2, .int a2)] := hl
  exact B_X12_function_0 E hf hM hl
