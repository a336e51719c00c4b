-- PensionHouse$Parser.refuse(I)V  mode M
noncomputable def f_X4_refuse (v0 : Nat) (v1 : Int32) (S : jM) : Option jM := if jK v0 = 3 then if (jI S 26 v0) = 0 then jlet (jsI S 26 v0 v1) (fun S3 => (jR S3 24 v0).bind (fun r4 => if jK r4 = 5 then jlet (jsI S3 27 v0 (jI S3 41 r4)) (fun S7 => some S7) else none)) else some S else none
set_option maxRecDepth 100000 in
set_option maxHeartbeats 4000000 in
theorem B_X4_refuse_0 {p : Program} {l : Launch} {e : Env} {s : State} {m : MethodId} {args : Array Value} {below : List Frame} {meth : Method} {c : Code} {g : jG} {SS : jM} {v0 : Nat} {v1 : Int32} {S : jM} (E : jEnv p s m args meth c cX4_refuse "PensionHouse$Parser" none 2 g)  {H : Heap} {locs : List Loc} {ls : Array Slot} (hf : f_X4_refuse v0 v1 S = some SS) (hM : jAt g S s H locs) (hl : lv_has ls 2 [(0, .ref (g.2.2 + v0)), (1, .int v1)]) : W p l e (jRm 1 0 0) s m args below meth c H locs 0 0 (MQ below (jQv g SS) args s 0 0 (jA0 g)) (F0 m 0 ls []) := by
  obtain ⟨hx, hb, hml, -, hts, hown, hK, -, hstr⟩ := id E
  unfold f_X4_refuse at hf
  refine lv_aload_n hx hb dX4_refuse_0 rfl (lv_at hl 0 rfl) ?_
  obtain ⟨hq1, hf⟩ := jif hf
  refine gt_26 E hM hq1 lk_1_211 dX4_refuse_1 ?_
  refine lv_if_ne (tgt := 23) hx hb dX4_refuse_4 (by decide) (fun c2 => ?_) (fun c2 => ?_)
  · have hf := jf c2 hf
    exact jvret (jrv hf) E hM dX4_refuse_23
  · have hf := jt c2 hf
    refine lv_aload_n hx hb dX4_refuse_7 rfl (lv_at hl 0 rfl) ?_
    refine lv_iload_n hx hb dX4_refuse_8 rfl (lv_at hl 1 rfl) ?_
    refine pt_26 E hM hq1 lk_1_211 dX4_refuse_9 (fun H locs S3 eS3 hM => ?_)
    have hf := jlet_y eS3 hf
    refine lv_aload_n hx hb dX4_refuse_12 rfl (lv_at hl 0 rfl) ?_
    refine lv_aload_n hx hb dX4_refuse_13 rfl (lv_at hl 0 rfl) ?_
    refine gt_24 E hM hq1 lk_1_207 dX4_refuse_14 ?_
    obtain ⟨r4, hr5, hf⟩ := jb hf
    rw [hr5]
    show W p l e _ s m args below meth c H locs 0 0 _ (F0 m _ ls (.ref (g.2.2 + r4) :: _))
    obtain ⟨hq6, hf⟩ := jif hf
    refine gt_41 E hM hq6 lk_1_144 dX4_refuse_17 ?_
    refine pt_27 E hM hq1 lk_1_213 dX4_refuse_20 (fun H locs S7 eS7 hM => ?_)
    have hf := jlet_y eS7 hf
    exact jvret (jrv hf) E hM dX4_refuse_23
set_option maxRecDepth 100000 in
theorem C_X4_refuse {l : Launch} {g : jG} {a0 : Nat} {a1 : Int32} {S : jM} {SS : jM} (hf : f_X4_refuse a0 a1 S = some SS) : jMet l g yX4_refuse cX4_refuse 2 none 1 0 0 [.ref (g.2.2 + a0), .int a1] S (jQv g SS) := by
  refine jof (by decide +kernel) (Nat.le_of_ble_eq_true rfl) ?_
  intro p e s m below meth c E hM ls hl
  have hl : lv_has ls 2 [(0, .ref (g.2.2 + a0)),(1, .int a1)] := hl
  exact B_X4_refuse_0 E hf hM hl
-- PensionHouse$Parser.refuseToken()V  mode M
noncomputable def f_X4_refuseToken_17 (t0 : Nat) (t1 : Int32) (S : jM) : Option jM := if jK t0 = 3 then (f_X4_refuse t0 t1 S).bind (fun S1 => some S1) else none
noncomputable def f_X4_refuseToken (v0 : Nat) (S : jM) : Option jM := if jK v0 = 3 then (jR S 24 v0).bind (fun r5 => if jK r5 = 5 then if (jI S 40 r5) = (1 : Int32) then f_X4_refuseToken_17 v0 (1 : Int32) S else f_X4_refuseToken_17 v0 (2 : Int32) S else none) else none
set_option maxRecDepth 100000 in
set_option maxHeartbeats 4000000 in
theorem B_X4_refuseToken_17 {p : Program} {l : Launch} {e : Env} {s : State} {m : MethodId} {args : Array Value} {below : List Frame} {meth : Method} {c : Code} {g : jG} {SS : jM} {t0 : Nat} {t1 : Int32} {S : jM} (E : jEnv p s m args meth c cX4_refuseToken "PensionHouse$Parser" none 1 g)  {H : Heap} {locs : List Loc} {ls : Array Slot} (hf : f_X4_refuseToken_17 t0 t1 S = some SS) (hM : jAt g S s H locs) (hl : lv_has ls 1 []) : W p l e (jRm 2 0 0) s m args below meth c H locs 0 0 (MQ below (jQv g SS) args s 0 0 (jA0 g)) (F0 m 17 ls [.int t1, .ref (g.2.2 + t0)]) := by
  obtain ⟨hx, hb, hml, -, hts, hown, hK, -, hstr⟩ := id E
  unfold f_X4_refuseToken_17 at hf
  obtain ⟨hq3, hf⟩ := jif hf
  obtain ⟨S1, hc2, hf⟩ := jb hf
  refine jbackV hM (jrunV E hM ci_X4_refuse (C_X4_refuse hc2) lk_4_21 hq3 (by decide) rfl hl.1 rfl rfl (Nat.le_of_ble_eq_true rfl) ⟨Nat.le_of_ble_eq_true rfl, Nat.le_of_ble_eq_true rfl⟩ ⟨Nat.le_refl _, Nat.le_refl _⟩ dX4_refuseToken_17) (fun H locs hM => ?_)
  exact jvret (jrv hf) E hM dX4_refuseToken_20
set_option maxRecDepth 100000 in
set_option maxHeartbeats 4000000 in
theorem B_X4_refuseToken_0 {p : Program} {l : Launch} {e : Env} {s : State} {m : MethodId} {args : Array Value} {below : List Frame} {meth : Method} {c : Code} {g : jG} {SS : jM} {v0 : Nat} {S : jM} (E : jEnv p s m args meth c cX4_refuseToken "PensionHouse$Parser" none 1 g)  {H : Heap} {locs : List Loc} {ls : Array Slot} (hf : f_X4_refuseToken v0 S = some SS) (hM : jAt g S s H locs) (hl : lv_has ls 1 [(0, .ref (g.2.2 + v0))]) : W p l e (jRm 2 0 0) s m args below meth c H locs 0 0 (MQ below (jQv g SS) args s 0 0 (jA0 g)) (F0 m 0 ls []) := by
  obtain ⟨hx, hb, hml, -, hts, hown, hK, -, hstr⟩ := id E
  unfold f_X4_refuseToken at hf
  refine lv_aload_n hx hb dX4_refuseToken_0 rfl (lv_at hl 0 rfl) ?_
  refine lv_aload_n hx hb dX4_refuseToken_1 rfl (lv_at hl 0 rfl) ?_
  obtain ⟨hq4, hf⟩ := jif hf
  refine gt_24 E hM hq4 lk_1_207 dX4_refuseToken_2 ?_
  obtain ⟨r5, hr6, hf⟩ := jb hf
  rw [hr6]
  show W p l e _ s m args below meth c H locs 0 0 _ (F0 m _ ls (.ref (g.2.2 + r5) :: _))
  obtain ⟨hq7, hf⟩ := jif hf
  refine gt_40 E hM hq7 lk_1_142 dX4_refuseToken_5 ?_
  refine lv_iconst (v := (1 : Int32)) hx hb dX4_refuseToken_8 (by decide) ?_
  refine lv_icmp_ne (tgt := 16) hx hb dX4_refuseToken_9 (by decide) (fun c8 => ?_) (fun c8 => ?_)
  · have hf := jf c8 hf
    refine lv_iconst (v := (2 : Int32)) hx hb dX4_refuseToken_16 (by decide) ?_
    exact B_X4_refuseToken_17 E  hf hM (lv_sub hl [] rfl)
  · have hf := jt c8 hf
    refine lv_iconst (v := (1 : Int32)) hx hb dX4_refuseToken_12 (by decide) ?_
    refine lv_goto (tgt := 17) hx hb dX4_refuseToken_13 (by decide) ?_
    exact B_X4_refuseToken_17 E  hf hM (lv_sub hl [] rfl)
set_option maxRecDepth 100000 in
theorem C_X4_refuseToken {l : Launch} {g : jG} {a0 : Nat} {S : jM} {SS : jM} (hf : f_X4_refuseToken a0 S = some SS) : jMet l g yX4_refuseToken cX4_refuseToken 1 none 2 0 0 [.ref (g.2.2 + a0)] S (jQv g SS) := by
  refine jof (by decide +kernel) (Nat.le_of_ble_eq_true rfl) ?_
  intro p e s m below meth c E hM ls hl
  have hl : lv_has ls 1 [(0, .ref (g.2.2 + a0))] := hl
  exact B_X4_refuseToken_0 E hf hM hl
-- PensionHouse$Parser.take(I)V  mode M
noncomputable def f_X4_take (v0 : Nat) (v1 : Int32) (S : jM) : Option jM := if jK v0 = 3 then if (jI S 26 v0) = 0 then (jR S 24 v0).bind (fun r3 => if jK r3 = 5 then if (jI S 40 r3) = v1 then (jR S 24 v0).bind (fun r9 => if jK r9 = 5 then (f_X7_next_0 1100000 r9 S).bind (fun S11 => some S11) else none) else (f_X4_refuseToken v0 S).bind (fun S7 => some S7) else none) else some S else none
set_option maxRecDepth 100000 in
set_option maxHeartbeats 4000000 in
theorem B_X4_take_0 {p : Program} {l : Launch} {e : Env} {s : State} {m : MethodId} {args : Array Value} {below : List Frame} {meth : Method} {c : Code} {g : jG} {SS : jM} {v0 : Nat} {v1 : Int32} {S : jM} (E : jEnv p s m args meth c cX4_take "PensionHouse$Parser" none 2 g)  {H : Heap} {locs : List Loc} {ls : Array Slot} (hf : f_X4_take v0 v1 S = some SS) (hM : jAt g S s H locs) (hl : lv_has ls 2 [(0, .ref (g.2.2 + v0)), (1, .int v1)]) : W p l e (jRm 8 0 0) s m args below meth c H locs 0 0 (MQ below (jQv g SS) args s 0 0 (jA0 g)) (F0 m 0 ls []) := by
  obtain ⟨hx, hb, hml, -, hts, hown, hK, -, hstr⟩ := id E
  unfold f_X4_take at hf
  refine lv_aload_n hx hb dX4_take_0 rfl (lv_at hl 0 rfl) ?_
  obtain ⟨hq1, hf⟩ := jif hf
  refine gt_26 E hM hq1 lk_1_211 dX4_take_1 ?_
  refine lv_if_eq (tgt := 8) hx hb dX4_take_4 (by decide) (fun c2 => ?_) (fun c2 => ?_)
  · have hf := jt c2 hf
    refine lv_aload_n hx hb dX4_take_8 rfl (lv_at hl 0 rfl) ?_
    refine gt_24 E hM hq1 lk_1_207 dX4_take_9 ?_
    obtain ⟨r3, hr4, hf⟩ := jb hf
    rw [hr4]
    show W p l e _ s m args below meth c H locs 0 0 _ (F0 m _ ls (.ref (g.2.2 + r3) :: _))
    obtain ⟨hq5, hf⟩ := jif hf
    refine gt_40 E hM hq5 lk_1_142 dX4_take_12 ?_
    refine lv_iload_n hx hb dX4_take_15 rfl (lv_at hl 1 rfl) ?_
    refine lv_icmp_ne (tgt := 29) hx hb dX4_take_16 (by decide) (fun c6 => ?_) (fun c6 => ?_)
    · have hf := jf c6 hf
      refine lv_aload_n hx hb dX4_take_29 rfl (lv_at hl 0 rfl) ?_
      obtain ⟨S7, hc8, hf⟩ := jb hf
      refine jbackV hM (jrunV E hM ci_X4_refuseToken (C_X4_refuseToken hc8) lk_4_29 hq1 (by decide) rfl hl.1 rfl rfl (Nat.le_of_ble_eq_true rfl) ⟨Nat.le_of_ble_eq_true rfl, Nat.le_of_ble_eq_true rfl⟩ ⟨Nat.le_refl _, Nat.le_refl _⟩ dX4_take_30) (fun H locs hM => ?_)
      exact jvret (jrv hf) E hM dX4_take_33
    · have hf := jt c6 hf
      refine lv_aload_n hx hb dX4_take_19 rfl (lv_at hl 0 rfl) ?_
      refine gt_24 E hM hq1 lk_1_207 dX4_take_20 ?_
      obtain ⟨r9, hr10, hf⟩ := jb hf
      rw [hr10]
      show W p l e _ s m args below meth c H locs 0 0 _ (F0 m _ ls (.ref (g.2.2 + r9) :: _))
      obtain ⟨hq13, hf⟩ := jif hf
      obtain ⟨S11, hc12, hf⟩ := jb hf
      refine jbackV hM (jrunV E hM ci_X7_next (C_X7_next hc12) lk_4_20 hq13 (by decide) rfl hl.1 rfl rfl (Nat.le_of_ble_eq_true rfl) ⟨Nat.le_of_ble_eq_true rfl, Nat.le_of_ble_eq_true rfl⟩ ⟨Nat.le_refl _, Nat.le_refl _⟩ dX4_take_23) (fun H locs hM => ?_)
      refine lv_goto (tgt := 33) hx hb dX4_take_26 (by decide) ?_
      exact jvret (jrv hf) E hM dX4_take_33
  · have hf := jf c2 hf
    exact jvret (jrv hf) E hM dX4_take_7
set_option maxRecDepth 100000 in
theorem C_X4_take {l : Launch} {g : jG} {a0 : Nat} {a1 : Int32} {S : jM} {SS : jM} (hf : f_X4_take a0 a1 S = some SS) : jMet l g yX4_take cX4_take 2 none 8 0 0 [.ref (g.2.2 + a0), .int a1] S (jQv g SS) := by
  refine jof (by decide +kernel) (Nat.le_of_ble_eq_true rfl) ?_
  intro p e s m below meth c E hM ls hl
  have hl : lv_has ls 2 [(0, .ref (g.2.2 + a0)),(1, .int a1)] := hl
  exact B_X4_take_0 E hf hM hl
-- PensionHouse$Parser.beginsU()Z  mode R
noncomputable def f_X4_beginsU (v0 : Nat) (S : jM) : Option Int32 := if jK v0 = 3 then (jR S 24 v0).bind (fun r2 => if jK r2 = 5 then jlet (jI S 40 r2) (fun x5 => if x5 = (2 : Int32) then some (1 : Int32) else if x5 = (3 : Int32) then some (1 : Int32) else if x5 = (4 : Int32) then some (1 : Int32) else if x5 = (40 : Int32) then some (1 : Int32) else if x5 = (45 : Int32) then some (1 : Int32) else if x5 = (131 : Int32) then some (1 : Int32) else if x5 = (146 : Int32) then some (1 : Int32) else (jR S 24 v0).bind (fun r13 => if jK r13 = 5 then if (f_X7_arity (jI S 40 r13)) ≤ 0 then some (0 : Int32) else some (1 : Int32) else none)) else none) else none
set_option maxRecDepth 100000 in
set_option maxHeartbeats 4000000 in
theorem B_X4_beginsU_0 {p : Program} {l : Launch} {e : Env} {s : State} {m : MethodId} {args : Array Value} {below : List Frame} {meth : Method} {c : Code} {g : jG} {rr : Int32} {S : jM} {v0 : Nat} (E : jEnv p s m args meth c cX4_beginsU "PensionHouse$Parser" (some .boolean) 1 g)  {H : Heap} {locs : List Loc} {ls : Array Slot} (hf : f_X4_beginsU v0 S = some rr) (hM : jAt g S s H locs) (hl : lv_has ls 1 [(0, .ref (g.2.2 + v0))]) : W p l e (jRm 2 0 0) s m args below meth c H locs 0 0 (MQ below (jQi g rr S) args s 0 0 (jA0 g)) (F0 m 0 ls []) := by
  obtain ⟨hx, hb, hml, -, hts, hown, hK, -, hstr⟩ := id E
  unfold f_X4_beginsU at hf
  refine lv_aload_n hx hb dX4_beginsU_0 rfl (lv_at hl 0 rfl) ?_
  obtain ⟨hq1, hf⟩ := jif hf
  refine gt_24 E hM hq1 lk_1_207 dX4_beginsU_1 ?_
  obtain ⟨r2, hr3, hf⟩ := jb hf
  rw [hr3]
  show W p l e _ s m args below meth c H locs 0 0 _ (F0 m _ ls (.ref (g.2.2 + r2) :: _))
  obtain ⟨hq4, hf⟩ := jif hf
  refine gt_40 E hM hq4 lk_1_142 dX4_beginsU_4 ?_
  refine lv_topi (fun x5 ex5 => ?_)
  have hf := jlet_y ex5 hf
  by_cases c6 : x5 = (2 : Int32)
  · have hf := jt c6 hf
    refine lv_lookup (off := 65) (tgt := 72) hx hb dX4_beginsU_7 (by decide) (by rw [c6]; rfl) (by decide) ?_
    refine lv_iconst (v := (1 : Int32)) hx hb dX4_beginsU_72 (by decide) ?_
    exact jiretz (jr1 hf) E hM (by decide) dX4_beginsU_73
  have hf := jf c6 hf
  by_cases c7 : x5 = (3 : Int32)
  · have hf := jt c7 hf
    refine lv_lookup (off := 65) (tgt := 72) hx hb dX4_beginsU_7 (by decide) (by rw [c7]; rfl) (by decide) ?_
    refine lv_iconst (v := (1 : Int32)) hx hb dX4_beginsU_72 (by decide) ?_
    exact jiretz (jr1 hf) E hM (by decide) dX4_beginsU_73
  have hf := jf c7 hf
  by_cases c8 : x5 = (4 : Int32)
  · have hf := jt c8 hf
    refine lv_lookup (off := 65) (tgt := 72) hx hb dX4_beginsU_7 (by decide) (by rw [c8]; rfl) (by decide) ?_
    refine lv_iconst (v := (1 : Int32)) hx hb dX4_beginsU_72 (by decide) ?_
    exact jiretz (jr1 hf) E hM (by decide) dX4_beginsU_73
  have hf := jf c8 hf
  by_cases c9 : x5 = (40 : Int32)
  · have hf := jt c9 hf
    refine lv_lookup (off := 65) (tgt := 72) hx hb dX4_beginsU_7 (by decide) (by rw [c9]; rfl) (by decide) ?_
    refine lv_iconst (v := (1 : Int32)) hx hb dX4_beginsU_72 (by decide) ?_
    exact jiretz (jr1 hf) E hM (by decide) dX4_beginsU_73
  have hf := jf c9 hf
  by_cases c10 : x5 = (45 : Int32)
  · have hf := jt c10 hf
    refine lv_lookup (off := 65) (tgt := 72) hx hb dX4_beginsU_7 (by decide) (by rw [c10]; rfl) (by decide) ?_
    refine lv_iconst (v := (1 : Int32)) hx hb dX4_beginsU_72 (by decide) ?_
    exact jiretz (jr1 hf) E hM (by decide) dX4_beginsU_73
  have hf := jf c10 hf
  by_cases c11 : x5 = (131 : Int32)
  · have hf := jt c11 hf
    refine lv_lookup (off := 65) (tgt := 72) hx hb dX4_beginsU_7 (by decide) (by rw [c11]; rfl) (by decide) ?_
    refine lv_iconst (v := (1 : Int32)) hx hb dX4_beginsU_72 (by decide) ?_
    exact jiretz (jr1 hf) E hM (by decide) dX4_beginsU_73
  have hf := jf c11 hf
  by_cases c12 : x5 = (146 : Int32)
  · have hf := jt c12 hf
    refine lv_lookup (off := 65) (tgt := 72) hx hb dX4_beginsU_7 (by decide) (by rw [c12]; rfl) (by decide) ?_
    refine lv_iconst (v := (1 : Int32)) hx hb dX4_beginsU_72 (by decide) ?_
    exact jiretz (jr1 hf) E hM (by decide) dX4_beginsU_73
  have hf := jf c12 hf
  refine jlookD (tgt := 74) hx hb dX4_beginsU_7 (by decide) (by decide) (List.forall_mem_cons.mpr ⟨jne (k := 2) c6 rfl, List.forall_mem_cons.mpr ⟨jne (k := 3) c7 rfl, List.forall_mem_cons.mpr ⟨jne (k := 4) c8 rfl, List.forall_mem_cons.mpr ⟨jne (k := 40) c9 rfl, List.forall_mem_cons.mpr ⟨jne (k := 45) c10 rfl, List.forall_mem_cons.mpr ⟨jne (k := 131) c11 rfl, List.forall_mem_cons.mpr ⟨jne (k := 146) c12 rfl, fun _ h => absurd h List.not_mem_nil⟩⟩⟩⟩⟩⟩⟩) ?_
  refine lv_aload_n hx hb dX4_beginsU_74 rfl (lv_at hl 0 rfl) ?_
  refine gt_24 E hM hq1 lk_1_207 dX4_beginsU_75 ?_
  obtain ⟨r13, hr14, hf⟩ := jb hf
  rw [hr14]
  show W p l e _ s m args below meth c H locs 0 0 _ (F0 m _ ls (.ref (g.2.2 + r13) :: _))
  obtain ⟨hq15, hf⟩ := jif hf
  refine gt_40 E hM hq15 lk_1_142 dX4_beginsU_78 ?_
  refine jbackI hM (jrunS E hM ci_X7_arity (C_X7_arity rfl) lk_4_45 hl.1 rfl rfl (Nat.le_of_ble_eq_true rfl) ⟨Nat.le_of_ble_eq_true rfl, Nat.le_of_ble_eq_true rfl⟩ ⟨Nat.le_refl _, Nat.le_refl _⟩ dX4_beginsU_81) (fun H locs hM => ?_)
  refine lv_if_le (tgt := 91) hx hb dX4_beginsU_84 (by decide) (fun c16 => ?_) (fun c16 => ?_)
  · have hf := jt c16 hf
    refine lv_iconst (v := (0 : Int32)) hx hb dX4_beginsU_91 (by decide) ?_
    exact jiretz (jr1 hf) E hM (by decide) dX4_beginsU_92
  · have hf := jf c16 hf
    refine lv_iconst (v := (1 : Int32)) hx hb dX4_beginsU_87 (by decide) ?_
    refine lv_goto (tgt := 92) hx hb dX4_beginsU_88 (by decide) ?_
    exact jiretz (jr1 hf) E hM (by decide) dX4_beginsU_92
set_option maxRecDepth 100000 in
theorem C_X4_beginsU {l : Launch} {g : jG} {a0 : Nat} {S : jM} {rr : Int32} (hf : f_X4_beginsU a0 S = some rr) : jMet l g yX4_beginsU cX4_beginsU 1 (some .boolean) 2 0 0 [.ref (g.2.2 + a0)] S (jQi g rr S) := by
  refine jof (by decide +kernel) (Nat.le_of_ble_eq_true rfl) ?_
  intro p e s m below meth c E hM ls hl
  have hl : lv_has ls 1 [(0, .ref (g.2.2 + a0))] := hl
  exact B_X4_beginsU_0 E hf hM hl
-- PensionHouse$Parser.mayBegin(ZI)Z  mode M
noncomputable def f_X4_mayBegin_22 (v0 : Nat) (S : jM) : Option (Int32 × jM) := if jK v0 = 3 then if (jI S 26 v0) = 0 then some ((1 : Int32), S) else some ((0 : Int32), S) else none
noncomputable def f_X4_mayBegin (v0 : Nat) (v1 : Int32) (v2 : Int32) (S : jM) : Option (Int32 × jM) := if v1 = 0 then if jK v0 = 3 then (f_X4_refuseToken v0 S).bind (fun S8 => f_X4_mayBegin_22 v0 S8) else none else if v2 < (20 : Int32) then f_X4_mayBegin_22 v0 S else if jK v0 = 3 then (f_X4_refuse v0 (4 : Int32) S).bind (fun S5 => f_X4_mayBegin_22 v0 S5) else none
set_option maxRecDepth 100000 in
set_option maxHeartbeats 4000000 in
theorem B_X4_mayBegin_22 {p : Program} {l : Launch} {e : Env} {s : State} {m : MethodId} {args : Array Value} {below : List Frame} {meth : Method} {c : Code} {g : jG} {rr : Int32} {SS : jM} {v0 : Nat} {S : jM} (E : jEnv p s m args meth c cX4_mayBegin "PensionHouse$Parser" (some .boolean) 3 g)  {H : Heap} {locs : List Loc} {ls : Array Slot} (hf : f_X4_mayBegin_22 v0 S = some (rr, SS)) (hM : jAt g S s H locs) (hl : lv_has ls 3 [(0, .ref (g.2.2 + v0))]) : W p l e (jRm 3 0 0) s m args below meth c H locs 0 0 (MQ below (jQi g rr SS) args s 0 0 (jA0 g)) (F0 m 22 ls []) := by
  obtain ⟨hx, hb, hml, -, hts, hown, hK, -, hstr⟩ := id E
  unfold f_X4_mayBegin_22 at hf
  refine lv_aload_n hx hb dX4_mayBegin_22 rfl (lv_at hl 0 rfl) ?_
  obtain ⟨hq1, hf⟩ := jif hf
  refine gt_26 E hM hq1 lk_1_211 dX4_mayBegin_23 ?_
  refine lv_if_ne (tgt := 33) hx hb dX4_mayBegin_26 (by decide) (fun c2 => ?_) (fun c2 => ?_)
  · have hf := jf c2 hf
    refine lv_iconst (v := (0 : Int32)) hx hb dX4_mayBegin_33 (by decide) ?_
    exact jiretz (jr2 hf) E hM (by decide) dX4_mayBegin_34
  · have hf := jt c2 hf
    refine lv_iconst (v := (1 : Int32)) hx hb dX4_mayBegin_29 (by decide) ?_
    refine lv_goto (tgt := 34) hx hb dX4_mayBegin_30 (by decide) ?_
    exact jiretz (jr2 hf) E hM (by decide) dX4_mayBegin_34
set_option maxRecDepth 100000 in
set_option maxHeartbeats 4000000 in
theorem B_X4_mayBegin_0 {p : Program} {l : Launch} {e : Env} {s : State} {m : MethodId} {args : Array Value} {below : List Frame} {meth : Method} {c : Code} {g : jG} {rr : Int32} {SS : jM} {v0 : Nat} {v1 : Int32} {v2 : Int32} {S : jM} (E : jEnv p s m args meth c cX4_mayBegin "PensionHouse$Parser" (some .boolean) 3 g)  {H : Heap} {locs : List Loc} {ls : Array Slot} (hf : f_X4_mayBegin v0 v1 v2 S = some (rr, SS)) (hM : jAt g S s H locs) (hl : lv_has ls 3 [(0, .ref (g.2.2 + v0)), (1, .int v1), (2, .int v2)]) : W p l e (jRm 3 0 0) s m args below meth c H locs 0 0 (MQ below (jQi g rr SS) args s 0 0 (jA0 g)) (F0 m 0 ls []) := by
  obtain ⟨hx, hb, hml, -, hts, hown, hK, -, hstr⟩ := id E
  unfold f_X4_mayBegin at hf
  refine lv_iload_n hx hb dX4_mayBegin_0 rfl (lv_at hl 1 rfl) ?_
  refine lv_if_ne (tgt := 11) hx hb dX4_mayBegin_1 (by decide) (fun c3 => ?_) (fun c3 => ?_)
  · have hf := jf c3 hf
    refine lv_iload_n hx hb dX4_mayBegin_11 rfl (lv_at hl 2 rfl) ?_
    refine lv_bipush (v := (20 : Int32)) hx hb dX4_mayBegin_12 (by decide) ?_
    refine lv_icmp_lt (tgt := 22) hx hb dX4_mayBegin_14 (by decide) (fun c4 => ?_) (fun c4 => ?_)
    · have hf := jt c4 hf
      exact B_X4_mayBegin_22 E  hf hM (lv_sub hl [0] rfl)
    · have hf := jf c4 hf
      refine lv_aload_n hx hb dX4_mayBegin_17 rfl (lv_at hl 0 rfl) ?_
      refine lv_iconst (v := (4 : Int32)) hx hb dX4_mayBegin_18 (by decide) ?_
      obtain ⟨hq7, hf⟩ := jif hf
      obtain ⟨S5, hc6, hf⟩ := jb hf
      refine jbackV hM (jrunV E hM ci_X4_refuse (C_X4_refuse hc6) lk_4_21 hq7 (by decide) rfl hl.1 rfl rfl (Nat.le_of_ble_eq_true rfl) ⟨Nat.le_of_ble_eq_true rfl, Nat.le_of_ble_eq_true rfl⟩ ⟨Nat.le_refl _, Nat.le_refl _⟩ dX4_mayBegin_19) (fun H locs hM => ?_)
      exact B_X4_mayBegin_22 E  hf hM (lv_sub hl [0] rfl)
  · have hf := jt c3 hf
    refine lv_aload_n hx hb dX4_mayBegin_4 rfl (lv_at hl 0 rfl) ?_
    obtain ⟨hq10, hf⟩ := jif hf
    obtain ⟨S8, hc9, hf⟩ := jb hf
    refine jbackV hM (jrunV E hM ci_X4_refuseToken (C_X4_refuseToken hc9) lk_4_29 hq10 (by decide) rfl hl.1 rfl rfl (Nat.le_of_ble_eq_true rfl) ⟨Nat.le_of_ble_eq_true rfl, Nat.le_of_ble_eq_true rfl⟩ ⟨Nat.le_refl _, Nat.le_refl _⟩ dX4_mayBegin_5) (fun H locs hM => ?_)
    refine lv_goto (tgt := 22) hx hb dX4_mayBegin_8 (by decide) ?_
    exact B_X4_mayBegin_22 E  hf hM (lv_sub hl [0] rfl)
set_option maxRecDepth 100000 in
theorem C_X4_mayBegin {l : Launch} {g : jG} {a0 : Nat} {a1 : Int32} {a2 : Int32} {S : jM} {rr : Int32} {SS : jM} (hf : f_X4_mayBegin a0 a1 a2 S = some (rr, SS)) : jMet l g yX4_mayBegin cX4_mayBegin 3 (some .boolean) 3 0 0 [.ref (g.2.2 + a0), .int a1, .int a2] S (jQi g rr SS) := by
  refine jof (by decide +kernel) (Nat.le_of_ble_eq_true rfl) ?_
  intro p e s m below meth c E hM ls hl
  have hl : lv_has ls 3 [(0, .ref (g.2.2 + a0)),(1, .int a1),(2, .int a2)] := hl
  exact B_X4_mayBegin_0 E hf hM hl
-- PensionHouse$Parser.part(IJ)I  mode M
noncomputable def f_X4_part (v0 : Nat) (v1 : Int32) (v2 : Int64) (S : jM) : Option (Int32 × jM) := if jK v0 = 3 then if (jI S 26 v0) = 0 then (jR S 25 v0).bind (fun r3 => if jK r3 = 6 then jbd (f_X8_addPart r3 v1 v2 S) (fun x5 S6 => if x5 = (-1 : Int32) then (f_X4_refuse v0 (4 : Int32) S6).bind (fun S15 => some (x5, S15)) else (jR S6 24 v0).bind (fun r10 => if jK r10 = 5 then (f_X7_next_0 1100000 r10 S6).bind (fun S12 => some (x5, S12)) else none)) else none) else some ((-1 : Int32), S) else none
set_option maxRecDepth 100000 in
set_option maxHeartbeats 4000000 in
theorem B_X4_part_0 {p : Program} {l : Launch} {e : Env} {s : State} {m : MethodId} {args : Array Value} {below : List Frame} {meth : Method} {c : Code} {g : jG} {rr : Int32} {SS : jM} {v0 : Nat} {v1 : Int32} {v2 : Int64} {S : jM} (E : jEnv p s m args meth c cX4_part "PensionHouse$Parser" (some .int) 5 g)  {H : Heap} {locs : List Loc} {ls : Array Slot} (hf : f_X4_part v0 v1 v2 S = some (rr, SS)) (hM : jAt g S s H locs) (hl : lv_has ls 5 [(0, .ref (g.2.2 + v0)), (1, .int v1), (2, .long v2)]) : W p l e (jRm 8 0 0) s m args below meth c H locs 0 0 (MQ below (jQi g rr SS) args s 0 0 (jA0 g)) (F0 m 0 ls []) := by
  obtain ⟨hx, hb, hml, -, hts, hown, hK, -, hstr⟩ := id E
  unfold f_X4_part at hf
  refine lv_aload_n hx hb dX4_part_0 rfl (lv_at hl 0 rfl) ?_
  obtain ⟨hq1, hf⟩ := jif hf
  refine gt_26 E hM hq1 lk_1_211 dX4_part_1 ?_
  refine lv_if_eq (tgt := 9) hx hb dX4_part_4 (by decide) (fun c2 => ?_) (fun c2 => ?_)
  · have hf := jt c2 hf
    refine lv_aload_n hx hb dX4_part_9 rfl (lv_at hl 0 rfl) ?_
    refine gt_25 E hM hq1 lk_1_209 dX4_part_10 ?_
    obtain ⟨r3, hr4, hf⟩ := jb hf
    rw [hr4]
    show W p l e _ s m args below meth c H locs 0 0 _ (F0 m _ ls (.ref (g.2.2 + r3) :: _))
    refine lv_iload_n hx hb dX4_part_13 rfl (lv_at hl 1 rfl) ?_
    refine lv_lload_n hx hb dX4_part_14 rfl (lv_at hl 2 rfl) ?_
    obtain ⟨hq8, hf⟩ := jif hf
    obtain ⟨x5, S6, hc7, hf⟩ := jbd_e hf
    refine jbackI hM (jrunV E hM ci_X8_addPart (C_X8_addPart hc7) lk_4_72 hq8 (by decide) rfl hl.1 rfl rfl (Nat.le_of_ble_eq_true rfl) ⟨Nat.le_of_ble_eq_true rfl, Nat.le_of_ble_eq_true rfl⟩ ⟨Nat.le_refl _, Nat.le_refl _⟩ dX4_part_15) (fun H locs hM => ?_)
    refine lv_istore (lv' := [(4, .int x5), (0, .ref (g.2.2 + v0)), (1, .int v1), (2, .long v2)]) hx hb dX4_part_18 hl (by decide) rfl (fun ls hl => ?_)
    refine lv_iload hx hb dX4_part_20 (lv_at hl 0 rfl) ?_
    refine lv_iconst (v := (-1 : Int32)) hx hb dX4_part_22 (by decide) ?_
    refine lv_icmp_ne (tgt := 34) hx hb dX4_part_23 (by decide) (fun c9 => ?_) (fun c9 => ?_)
    · have hf := jf c9 hf
      refine lv_aload_n hx hb dX4_part_34 rfl (lv_at hl 1 rfl) ?_
      refine gt_24 E hM hq1 lk_1_207 dX4_part_35 ?_
      obtain ⟨r10, hr11, hf⟩ := jb hf
      rw [hr11]
      show W p l e _ s m args below meth c H locs 0 0 _ (F0 m _ ls (.ref (g.2.2 + r10) :: _))
      obtain ⟨hq14, hf⟩ := jif hf
      obtain ⟨S12, hc13, hf⟩ := jb hf
      refine jbackV hM (jrunV E hM ci_X7_next (C_X7_next hc13) lk_4_20 hq14 (by decide) rfl hl.1 rfl rfl (Nat.le_of_ble_eq_true rfl) ⟨Nat.le_of_ble_eq_true rfl, Nat.le_of_ble_eq_true rfl⟩ ⟨Nat.le_refl _, Nat.le_refl _⟩ dX4_part_38) (fun H locs hM => ?_)
      refine lv_iload hx hb dX4_part_41 (lv_at hl 0 rfl) ?_
      exact jireti (jr2 hf) E hM dX4_part_43
    · have hf := jt c9 hf
      refine lv_aload_n hx hb dX4_part_26 rfl (lv_at hl 1 rfl) ?_
      refine lv_iconst (v := (4 : Int32)) hx hb dX4_part_27 (by decide) ?_
      obtain ⟨S15, hc16, hf⟩ := jb hf
      refine jbackV hM (jrunV E hM ci_X4_refuse (C_X4_refuse hc16) lk_4_21 hq1 (by decide) rfl hl.1 rfl rfl (Nat.le_of_ble_eq_true rfl) ⟨Nat.le_of_ble_eq_true rfl, Nat.le_of_ble_eq_true rfl⟩ ⟨Nat.le_refl _, Nat.le_refl _⟩ dX4_part_28) (fun H locs hM => ?_)
      refine lv_goto (tgt := 41) hx hb dX4_part_31 (by decide) ?_
      refine lv_iload hx hb dX4_part_41 (lv_at hl 0 rfl) ?_
      exact jireti (jr2 hf) E hM dX4_part_43
  · have hf := jf c2 hf
    refine lv_iconst (v := (-1 : Int32)) hx hb dX4_part_7 (by decide) ?_
    exact jireti (jr2 hf) E hM dX4_part_8
set_option maxRecDepth 100000 in
theorem C_X4_part {l : Launch} {g : jG} {a0 : Nat} {a1 : Int32} {a2 : Int64} {S : jM} {rr : Int32} {SS : jM} (hf : f_X4_part a0 a1 a2 S = some (rr, SS)) : jMet l g yX4_part cX4_part 5 (some .int) 8 0 0 [.ref (g.2.2 + a0), .int a1, .long a2] S (jQi g rr SS) := by
  refine jof (by decide +kernel) (Nat.le_of_ble_eq_true rfl) ?_
  intro p e s m below meth c E hM ls hl
  have hl : lv_has ls 5 [(0, .ref (g.2.2 + a0)),(1, .int a1),(2, .long a2)] := hl
  exact B_X4_part_0 E hf hM hl
-- PensionHouse$Parser.sumOf(J)I  mode R
noncomputable def f_X4_sumOf_7 : Nat → Nat → Int64 → Int32 → jM → Option Int32
  | 0, _, _, _, _ => none
  | n + 1, v0, v1, v3, S => if v3 < 0 then some (-1 : Int32) else if jK v0 = 3 then (jR S 28 v0).bind (fun r3 => if jA r3 14 v3 = true then if (jAL S r3 (v3).toNatClampNeg) = v1 then (jR S 29 v0).bind (fun r8 => if jA r8 13 v3 = true then some (jAI S r8 (v3).toNatClampNeg) else none) else jlet (v3 + (-1 : Int32)) (fun x7 => (f_X4_sumOf_7 n) v0 v1 x7 S) else none) else none
noncomputable def f_X4_sumOf (v0 : Nat) (v1 : Int64) (S : jM) : Option Int32 := if jK v0 = 3 then jlet ((jI S 30 v0) - (1 : Int32)) (fun x12 => f_X4_sumOf_7 1100000 v0 v1 x12 S) else none
set_option maxRecDepth 100000 in
set_option maxHeartbeats 4000000 in
theorem B_X4_sumOf_7 {p : Program} {l : Launch} {e : Env} {s : State} {m : MethodId} {args : Array Value} {below : List Frame} {meth : Method} {c : Code} {g : jG} {rr : Int32} {S : jM} (E : jEnv p s m args meth c cX4_sumOf "PensionHouse$Parser" (some .int) 4 g)  : ∀ (n : Nat) (v0 : Nat) (v1 : Int64) (v3 : Int32) (H : Heap) (locs : List Loc) (ls : Array Slot), f_X4_sumOf_7 n v0 v1 v3 S = some rr → jAt g S s H locs → lv_has ls 4 [(0, .ref (g.2.2 + v0)), (1, .long v1), (3, .int v3)] → W p l e (jRm 1 0 0) s m args below meth c H locs 0 0 (MQ below (jQi g rr S) args s 0 0 (jA0 g)) (F0 m 7 ls []) := by
  obtain ⟨hx, hb, hml, -, hts, hown, hK, -, hstr⟩ := id E
  intro n
  induction n with
  | zero => intro v0 v1 v3 H locs ls hf hM hl; rw [f_X4_sumOf_7] at hf; cases hf
  | succ n ih =>
    intro v0 v1 v3 H locs ls hf hM hl
    rw [f_X4_sumOf_7] at hf
    refine lv_iload_n hx hb dX4_sumOf_7 rfl (lv_at hl 2 rfl) ?_
    refine lv_if_lt (tgt := 35) hx hb dX4_sumOf_8 (by decide) (fun c1 => ?_) (fun c1 => ?_)
    · have hf := jt c1 hf
      refine lv_iconst (v := (-1 : Int32)) hx hb dX4_sumOf_35 (by decide) ?_
      exact jireti (jr1 hf) E hM dX4_sumOf_36
    · have hf := jf c1 hf
      refine lv_aload_n hx hb dX4_sumOf_11 rfl (lv_at hl 0 rfl) ?_
      obtain ⟨hq2, hf⟩ := jif hf
      refine gt_28 E hM hq2 lk_1_215 dX4_sumOf_12 ?_
      obtain ⟨r3, hr4, hf⟩ := jb hf
      rw [hr4]
      show W p l e _ s m args below meth c H locs 0 0 _ (F0 m _ ls (.ref (g.2.2 + r3) :: _))
      refine lv_iload_n hx hb dX4_sumOf_15 rfl (lv_at hl 2 rfl) ?_
      obtain ⟨ha5, hf⟩ := jif hf
      refine jlald E hM ha5 dX4_sumOf_16 ?_
      refine lv_lload_n hx hb dX4_sumOf_17 rfl (lv_at hl 1 rfl) ?_
      refine jl_ne (tgt := 29) hx hb dX4_sumOf_18 dX4_sumOf_19 (by decide) (fun c6 => ?_) (fun c6 => ?_)
      · have hf := jf c6 hf
        obtain ⟨x7, ex7⟩ : ∃ z, z = v3 + (-1 : Int32) := ⟨_, rfl⟩
        have hf := jlet_y ex7 hf
        refine lv_iinc (v := x7) (lv' := [(3, .int x7), (0, .ref (g.2.2 + v0)), (1, .long v1)]) hx hb dX4_sumOf_29 hl (k := 2) rfl (by rw [ex7]; rfl) (by decide) rfl (fun ls hl => ?_)
        refine lv_goto (tgt := 7) hx hb dX4_sumOf_32 (by decide) ?_
        exact ih v0 v1 x7 _ _ _ hf hM (lv_sub hl [1, 2, 0] rfl)
      · have hf := jt c6 hf
        refine lv_aload_n hx hb dX4_sumOf_22 rfl (lv_at hl 0 rfl) ?_
        refine gt_29 E hM hq2 lk_1_216 dX4_sumOf_23 ?_
        obtain ⟨r8, hr9, hf⟩ := jb hf
        rw [hr9]
        show W p l e _ s m args below meth c H locs 0 0 _ (F0 m _ ls (.ref (g.2.2 + r8) :: _))
        refine lv_iload_n hx hb dX4_sumOf_26 rfl (lv_at hl 2 rfl) ?_
        obtain ⟨ha10, hf⟩ := jif hf
        refine jiald E hM ha10 dX4_sumOf_27 ?_
        exact jireti (jr1 hf) E hM dX4_sumOf_28
set_option maxRecDepth 100000 in
set_option maxHeartbeats 4000000 in
theorem B_X4_sumOf_0 {p : Program} {l : Launch} {e : Env} {s : State} {m : MethodId} {args : Array Value} {below : List Frame} {meth : Method} {c : Code} {g : jG} {rr : Int32} {S : jM} {v0 : Nat} {v1 : Int64} (E : jEnv p s m args meth c cX4_sumOf "PensionHouse$Parser" (some .int) 4 g)  {H : Heap} {locs : List Loc} {ls : Array Slot} (hf : f_X4_sumOf v0 v1 S = some rr) (hM : jAt g S s H locs) (hl : lv_has ls 4 [(0, .ref (g.2.2 + v0)), (1, .long v1)]) : W p l e (jRm 1 0 0) s m args below meth c H locs 0 0 (MQ below (jQi g rr S) args s 0 0 (jA0 g)) (F0 m 0 ls []) := by
  obtain ⟨hx, hb, hml, -, hts, hown, hK, -, hstr⟩ := id E
  unfold f_X4_sumOf at hf
  refine lv_aload_n hx hb dX4_sumOf_0 rfl (lv_at hl 0 rfl) ?_
  obtain ⟨hq11, hf⟩ := jif hf
  refine gt_30 E hM hq11 lk_1_217 dX4_sumOf_1 ?_
  refine lv_iconst (v := (1 : Int32)) hx hb dX4_sumOf_4 (by decide) ?_
  refine lv_isub hx hb dX4_sumOf_5 ?_
  refine lv_topi (fun x12 ex12 => ?_)
  have hf := jlet_y ex12 hf
  refine lv_istore_n (lv' := [(3, .int x12), (0, .ref (g.2.2 + v0)), (1, .long v1)]) hx hb dX4_sumOf_6 rfl hl (by decide) rfl (fun ls hl => ?_)
  exact B_X4_sumOf_7 E  1100000 v0 v1 x12 _ _ _ hf hM (lv_sub hl [1, 2, 0] rfl)
set_option maxRecDepth 100000 in
theorem C_X4_sumOf {l : Launch} {g : jG} {a0 : Nat} {a1 : Int64} {S : jM} {rr : Int32} (hf : f_X4_sumOf a0 a1 S = some rr) : jMet l g yX4_sumOf cX4_sumOf 4 (some .int) 1 0 0 [.ref (g.2.2 + a0), .long a1] S (jQi g rr S) := by
  refine jof (by decide +kernel) (Nat.le_of_ble_eq_true rfl) ?_
  intro p e s m below meth c E hM ls hl
  have hl : lv_has ls 4 [(0, .ref (g.2.2 + a0)),(1, .long a1)] := hl
  exact B_X4_sumOf_0 E hf hM hl
-- PensionHouse$Parser.isNext(I)Z  mode R
noncomputable def f_X4_isNext (v0 : Nat) (v1 : Int32) (S : jM) : Option Int32 := if jK v0 = 3 then if (jI S 26 v0) = 0 then (jR S 24 v0).bind (fun r3 => if jK r3 = 5 then if (jI S 40 r3) = v1 then some (1 : Int32) else some (0 : Int32) else none) else some (0 : Int32) else none
set_option maxRecDepth 100000 in
set_option maxHeartbeats 4000000 in
theorem B_X4_isNext_0 {p : Program} {l : Launch} {e : Env} {s : State} {m : MethodId} {args : Array Value} {below : List Frame} {meth : Method} {c : Code} {g : jG} {rr : Int32} {S : jM} {v0 : Nat} {v1 : Int32} (E : jEnv p s m args meth c cX4_isNext "PensionHouse$Parser" (some .boolean) 2 g)  {H : Heap} {locs : List Loc} {ls : Array Slot} (hf : f_X4_isNext v0 v1 S = some rr) (hM : jAt g S s H locs) (hl : lv_has ls 2 [(0, .ref (g.2.2 + v0)), (1, .int v1)]) : W p l e (jRm 1 0 0) s m args below meth c H locs 0 0 (MQ below (jQi g rr S) args s 0 0 (jA0 g)) (F0 m 0 ls []) := by
  obtain ⟨hx, hb, hml, -, hts, hown, hK, -, hstr⟩ := id E
  unfold f_X4_isNext at hf
  refine lv_aload_n hx hb dX4_isNext_0 rfl (lv_at hl 0 rfl) ?_
  obtain ⟨hq1, hf⟩ := jif hf
  refine gt_26 E hM hq1 lk_1_211 dX4_isNext_1 ?_
  refine lv_if_ne (tgt := 22) hx hb dX4_isNext_4 (by decide) (fun c2 => ?_) (fun c2 => ?_)
  · have hf := jf c2 hf
    refine lv_iconst (v := (0 : Int32)) hx hb dX4_isNext_22 (by decide) ?_
    exact jiretz (jr1 hf) E hM (by decide) dX4_isNext_23
  · have hf := jt c2 hf
    refine lv_aload_n hx hb dX4_isNext_7 rfl (lv_at hl 0 rfl) ?_
    refine gt_24 E hM hq1 lk_1_207 dX4_isNext_8 ?_
    obtain ⟨r3, hr4, hf⟩ := jb hf
    rw [hr4]
    show W p l e _ s m args below meth c H locs 0 0 _ (F0 m _ ls (.ref (g.2.2 + r3) :: _))
    obtain ⟨hq5, hf⟩ := jif hf
    refine gt_40 E hM hq5 lk_1_142 dX4_isNext_11 ?_
    refine lv_iload_n hx hb dX4_isNext_14 rfl (lv_at hl 1 rfl) ?_
    refine lv_icmp_ne (tgt := 22) hx hb dX4_isNext_15 (by decide) (fun c6 => ?_) (fun c6 => ?_)
    · have hf := jf c6 hf
      refine lv_iconst (v := (0 : Int32)) hx hb dX4_isNext_22 (by decide) ?_
      exact jiretz (jr1 hf) E hM (by decide) dX4_isNext_23
    · have hf := jt c6 hf
      refine lv_iconst (v := (1 : Int32)) hx hb dX4_isNext_18 (by decide) ?_
      refine lv_goto (tgt := 23) hx hb dX4_isNext_19 (by decide) ?_
      exact jiretz (jr1 hf) E hM (by decide) dX4_isNext_23
set_option maxRecDepth 100000 in
theorem C_X4_isNext {l : Launch} {g : jG} {a0 : Nat} {a1 : Int32} {S : jM} {rr : Int32} (hf : f_X4_isNext a0 a1 S = some rr) : jMet l g yX4_isNext cX4_isNext 2 (some .boolean) 1 0 0 [.ref (g.2.2 + a0), .int a1] S (jQi g rr S) := by
  refine jof (by decide +kernel) (Nat.le_of_ble_eq_true rfl) ?_
  intro p e s m below meth c E hM ls hl
  have hl : lv_has ls 2 [(0, .ref (g.2.2 + a0)),(1, .int a1)] := hl
  exact B_X4_isNext_0 E hf hM hl
