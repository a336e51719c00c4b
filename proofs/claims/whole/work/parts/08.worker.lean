-- PensionHouse$Worker.enter(II)V  mode M
noncomputable def f_X10_enter_25 (v0 : Nat) (v2 : Int32) (S : jM) : Option jM := if jK v0 = 8 then (jR S 64 v0).bind (fun r2 => if jK r2 = 1 then jlet (jsI S 7 r2 (7 : Int32)) (fun S5 => (jR S5 64 v0).bind (fun r6 => if jK r6 = 1 then jlet (jsI S5 8 r6 v2) (fun S9 => some S9) else none)) else none) else none
noncomputable def f_X10_enter (v0 : Nat) (v1 : Int32) (v2 : Int32) (S : jM) : Option jM := if v1 < 0 then f_X10_enter_25 v0 v2 S else if jK v0 = 8 then (jR S 65 v0).bind (fun r12 => if jK r12 = 6 then if (jI S 45 r12) ≤ v1 then f_X10_enter_25 v0 v2 S else if (jI S 60 v0) < (300 : Int32) then (jR S 56 v0).bind (fun r17 => if jA r17 13 (jI S 60 v0) = true then jlet (jrI S r17 (upd (jAI S r17) (jI S 60 v0).toNatClampNeg v1)) (fun S20 => (jR S20 57 v0).bind (fun r21 => if jA r21 13 (jI S20 60 v0) = true then jlet (jrI S20 r21 (upd (jAI S20 r21) (jI S20 60 v0).toNatClampNeg (0 : Int32))) (fun S24 => (jR S24 58 v0).bind (fun r25 => if jA r25 13 (jI S24 60 v0) = true then jlet (jrI S24 r25 (upd (jAI S24 r25) (jI S24 60 v0).toNatClampNeg (jI S24 62 v0))) (fun S28 => (jR S28 59 v0).bind (fun r29 => if jA r29 13 (jI S28 60 v0) = true then jlet (jrI S28 r29 (upd (jAI S28 r29) (jI S28 60 v0).toNatClampNeg v2)) (fun S32 => jlet (jsI S32 60 v0 ((jI S32 60 v0) + (1 : Int32))) (fun S33 => some S33)) else none)) else none)) else none)) else none) else f_X10_enter_25 v0 v2 S else none) else none
set_option maxRecDepth 100000 in
set_option maxHeartbeats 4000000 in
theorem B_X10_enter_25 {p : Program} {l : Launch} {e : Env} {s : State} {m : MethodId} {args : Array Value} {below : List Frame} {meth : Method} {c : Code} {g : jG} {SS : jM} {v0 : Nat} {v2 : Int32} {S : jM} (E : jEnv p s m args meth c cX10_enter "PensionHouse$Worker" none 3 g)  {H : Heap} {locs : List Loc} {ls : Array Slot} (hf : f_X10_enter_25 v0 v2 S = some SS) (hM : jAt g S s H locs) (hl : lv_has ls 3 [(0, .ref (g.2.2 + v0)), (2, .int v2)]) : W p l e (jRm 1 0 0) s m args below meth c H locs 0 0 (MQ below (jQv g SS) args s 0 0 (jA0 g)) (F0 m 25 ls []) := by
  obtain ⟨hx, hb, hml, -, hts, hown, hK, -, hstr⟩ := id E
  unfold f_X10_enter_25 at hf
  refine lv_aload_n hx hb dX10_enter_25 rfl (lv_at hl 0 rfl) ?_
  obtain ⟨hq1, hf⟩ := jif hf
  refine gt_64 E hM hq1 lk_2_14 dX10_enter_26 ?_
  obtain ⟨r2, hr3, hf⟩ := jb hf
  rw [hr3]
  show W p l e _ s m args below meth c H locs 0 0 _ (F0 m _ ls (.ref (g.2.2 + r2) :: _))
  refine lv_bipush (v := (7 : Int32)) hx hb dX10_enter_29 (by decide) ?_
  obtain ⟨hq4, hf⟩ := jif hf
  refine pt_7 E hM hq4 lk_2_60 dX10_enter_31 (fun H locs S5 eS5 hM => ?_)
  have hf := jlet_y eS5 hf
  refine lv_aload_n hx hb dX10_enter_34 rfl (lv_at hl 0 rfl) ?_
  refine gt_64 E hM hq1 lk_2_14 dX10_enter_35 ?_
  obtain ⟨r6, hr7, hf⟩ := jb hf
  rw [hr7]
  show W p l e _ s m args below meth c H locs 0 0 _ (F0 m _ ls (.ref (g.2.2 + r6) :: _))
  refine lv_iload_n hx hb dX10_enter_38 rfl (lv_at hl 1 rfl) ?_
  obtain ⟨hq8, hf⟩ := jif hf
  refine pt_8 E hM hq8 lk_2_63 dX10_enter_39 (fun H locs S9 eS9 hM => ?_)
  have hf := jlet_y eS9 hf
  exact jvret (jrv hf) E hM dX10_enter_42
set_option maxRecDepth 100000 in
set_option maxHeartbeats 4000000 in
theorem B_X10_enter_0 {p : Program} {l : Launch} {e : Env} {s : State} {m : MethodId} {args : Array Value} {below : List Frame} {meth : Method} {c : Code} {g : jG} {SS : jM} {v0 : Nat} {v1 : Int32} {v2 : Int32} {S : jM} (E : jEnv p s m args meth c cX10_enter "PensionHouse$Worker" none 3 g)  {H : Heap} {locs : List Loc} {ls : Array Slot} (hf : f_X10_enter v0 v1 v2 S = some SS) (hM : jAt g S s H locs) (hl : lv_has ls 3 [(0, .ref (g.2.2 + v0)), (1, .int v1), (2, .int v2)]) : W p l e (jRm 1 0 0) s m args below meth c H locs 0 0 (MQ below (jQv g SS) args s 0 0 (jA0 g)) (F0 m 0 ls []) := by
  obtain ⟨hx, hb, hml, -, hts, hown, hK, -, hstr⟩ := id E
  unfold f_X10_enter at hf
  refine lv_iload_n hx hb dX10_enter_0 rfl (lv_at hl 1 rfl) ?_
  refine lv_if_lt (tgt := 25) hx hb dX10_enter_1 (by decide) (fun c10 => ?_) (fun c10 => ?_)
  · have hf := jt c10 hf
    exact B_X10_enter_25 E  hf hM (lv_sub hl [0, 2] rfl)
  · have hf := jf c10 hf
    refine lv_iload_n hx hb dX10_enter_4 rfl (lv_at hl 1 rfl) ?_
    refine lv_aload_n hx hb dX10_enter_5 rfl (lv_at hl 0 rfl) ?_
    obtain ⟨hq11, hf⟩ := jif hf
    refine gt_65 E hM hq11 lk_2_15 dX10_enter_6 ?_
    obtain ⟨r12, hr13, hf⟩ := jb hf
    rw [hr13]
    show W p l e _ s m args below meth c H locs 0 0 _ (F0 m _ ls (.ref (g.2.2 + r12) :: _))
    obtain ⟨hq14, hf⟩ := jif hf
    refine gt_45 E hM hq14 lk_1_177 dX10_enter_9 ?_
    refine lv_icmp_ge (tgt := 25) hx hb dX10_enter_12 (by decide) (fun c15 => ?_) (fun c15 => ?_)
    · have hf := jt c15 hf
      exact B_X10_enter_25 E  hf hM (lv_sub hl [0, 2] rfl)
    · have hf := jf c15 hf
      refine lv_aload_n hx hb dX10_enter_15 rfl (lv_at hl 0 rfl) ?_
      refine gt_60 E hM hq11 lk_2_10 dX10_enter_16 ?_
      refine lv_sipush (v := (300 : Int32)) hx hb dX10_enter_19 (by decide) ?_
      refine lv_icmp_lt (tgt := 43) hx hb dX10_enter_22 (by decide) (fun c16 => ?_) (fun c16 => ?_)
      · have hf := jt c16 hf
        refine lv_aload_n hx hb dX10_enter_43 rfl (lv_at hl 0 rfl) ?_
        refine gt_56 E hM hq11 lk_2_6 dX10_enter_44 ?_
        obtain ⟨r17, hr18, hf⟩ := jb hf
        rw [hr18]
        show W p l e _ s m args below meth c H locs 0 0 _ (F0 m _ ls (.ref (g.2.2 + r17) :: _))
        refine lv_aload_n hx hb dX10_enter_47 rfl (lv_at hl 0 rfl) ?_
        refine gt_60 E hM hq11 lk_2_10 dX10_enter_48 ?_
        refine lv_iload_n hx hb dX10_enter_51 rfl (lv_at hl 1 rfl) ?_
        obtain ⟨ha19, hf⟩ := jif hf
        refine jiast E hM ha19 dX10_enter_52 (fun H locs S20 eS20 hM => ?_)
        have hf := jlet_y eS20 hf
        refine lv_aload_n hx hb dX10_enter_53 rfl (lv_at hl 0 rfl) ?_
        refine gt_57 E hM hq11 lk_2_7 dX10_enter_54 ?_
        obtain ⟨r21, hr22, hf⟩ := jb hf
        rw [hr22]
        show W p l e _ s m args below meth c H locs 0 0 _ (F0 m _ ls (.ref (g.2.2 + r21) :: _))
        refine lv_aload_n hx hb dX10_enter_57 rfl (lv_at hl 0 rfl) ?_
        refine gt_60 E hM hq11 lk_2_10 dX10_enter_58 ?_
        refine lv_iconst (v := (0 : Int32)) hx hb dX10_enter_61 (by decide) ?_
        obtain ⟨ha23, hf⟩ := jif hf
        refine jiast E hM ha23 dX10_enter_62 (fun H locs S24 eS24 hM => ?_)
        have hf := jlet_y eS24 hf
        refine lv_aload_n hx hb dX10_enter_63 rfl (lv_at hl 0 rfl) ?_
        refine gt_58 E hM hq11 lk_2_8 dX10_enter_64 ?_
        obtain ⟨r25, hr26, hf⟩ := jb hf
        rw [hr26]
        show W p l e _ s m args below meth c H locs 0 0 _ (F0 m _ ls (.ref (g.2.2 + r25) :: _))
        refine lv_aload_n hx hb dX10_enter_67 rfl (lv_at hl 0 rfl) ?_
        refine gt_60 E hM hq11 lk_2_10 dX10_enter_68 ?_
        refine lv_aload_n hx hb dX10_enter_71 rfl (lv_at hl 0 rfl) ?_
        refine gt_62 E hM hq11 lk_2_12 dX10_enter_72 ?_
        obtain ⟨ha27, hf⟩ := jif hf
        refine jiast E hM ha27 dX10_enter_75 (fun H locs S28 eS28 hM => ?_)
        have hf := jlet_y eS28 hf
        refine lv_aload_n hx hb dX10_enter_76 rfl (lv_at hl 0 rfl) ?_
        refine gt_59 E hM hq11 lk_2_9 dX10_enter_77 ?_
        obtain ⟨r29, hr30, hf⟩ := jb hf
        rw [hr30]
        show W p l e _ s m args below meth c H locs 0 0 _ (F0 m _ ls (.ref (g.2.2 + r29) :: _))
        refine lv_aload_n hx hb dX10_enter_80 rfl (lv_at hl 0 rfl) ?_
        refine gt_60 E hM hq11 lk_2_10 dX10_enter_81 ?_
        refine lv_iload_n hx hb dX10_enter_84 rfl (lv_at hl 2 rfl) ?_
        obtain ⟨ha31, hf⟩ := jif hf
        refine jiast E hM ha31 dX10_enter_85 (fun H locs S32 eS32 hM => ?_)
        have hf := jlet_y eS32 hf
        refine lv_aload_n hx hb dX10_enter_86 rfl (lv_at hl 0 rfl) ?_
        refine lv_dup hx hb dX10_enter_87 rfl ?_
        refine gt_60 E hM hq11 lk_2_10 dX10_enter_88 ?_
        refine lv_iconst (v := (1 : Int32)) hx hb dX10_enter_91 (by decide) ?_
        refine lv_iadd hx hb dX10_enter_92 ?_
        refine pt_60 E hM hq11 lk_2_10 dX10_enter_93 (fun H locs S33 eS33 hM => ?_)
        have hf := jlet_y eS33 hf
        exact jvret (jrv hf) E hM dX10_enter_96
      · have hf := jf c16 hf
        exact B_X10_enter_25 E  hf hM (lv_sub hl [0, 2] rfl)
set_option maxRecDepth 100000 in
theorem C_X10_enter {l : Launch} {g : jG} {a0 : Nat} {a1 : Int32} {a2 : Int32} {S : jM} {SS : jM} (hf : f_X10_enter a0 a1 a2 S = some SS) : jMet l g yX10_enter cX10_enter 3 none 1 0 0 [.ref (g.2.2 + a0), .int a1, .int a2] S (jQv g SS) := by
  refine jof (by decide +kernel) (Nat.le_of_ble_eq_true rfl) ?_
  intro p e s m below meth c E hM ls hl
  have hl : lv_has ls 3 [(0, .ref (g.2.2 + a0)),(1, .int a1),(2, .int a2)] := hl
  exact B_X10_enter_0 E hf hM hl
-- PensionHouse$Worker.enterInner(II)V  mode M
noncomputable def f_X10_enterInner (v0 : Nat) (v1 : Int32) (v2 : Int32) (S : jM) : Option jM := if jK v0 = 8 then (jR S 65 v0).bind (fun r2 => if jK r2 = 6 then (f_X8_inner r2 v1 v2 S).bind (fun x4 => (jR S 59 v0).bind (fun r7 => if jA r7 13 ((jI S 60 v0) - (1 : Int32)) = true then (f_X10_enter v0 x4 (jAI S r7 ((jI S 60 v0) - (1 : Int32)).toNatClampNeg) S).bind (fun S10 => some S10) else none)) else none) else none
set_option maxRecDepth 100000 in
set_option maxHeartbeats 4000000 in
theorem B_X10_enterInner_0 {p : Program} {l : Launch} {e : Env} {s : State} {m : MethodId} {args : Array Value} {below : List Frame} {meth : Method} {c : Code} {g : jG} {SS : jM} {v0 : Nat} {v1 : Int32} {v2 : Int32} {S : jM} (E : jEnv p s m args meth c cX10_enterInner "PensionHouse$Worker" none 3 g)  {H : Heap} {locs : List Loc} {ls : Array Slot} (hf : f_X10_enterInner v0 v1 v2 S = some SS) (hM : jAt g S s H locs) (hl : lv_has ls 3 [(0, .ref (g.2.2 + v0)), (1, .int v1), (2, .int v2)]) : W p l e (jRm 2 0 0) s m args below meth c H locs 0 0 (MQ below (jQv g SS) args s 0 0 (jA0 g)) (F0 m 0 ls []) := by
  obtain ⟨hx, hb, hml, -, hts, hown, hK, -, hstr⟩ := id E
  unfold f_X10_enterInner at hf
  refine lv_aload_n hx hb dX10_enterInner_0 rfl (lv_at hl 0 rfl) ?_
  refine lv_aload_n hx hb dX10_enterInner_1 rfl (lv_at hl 0 rfl) ?_
  obtain ⟨hq1, hf⟩ := jif hf
  refine gt_65 E hM hq1 lk_2_15 dX10_enterInner_2 ?_
  obtain ⟨r2, hr3, hf⟩ := jb hf
  rw [hr3]
  show W p l e _ s m args below meth c H locs 0 0 _ (F0 m _ ls (.ref (g.2.2 + r2) :: _))
  refine lv_iload_n hx hb dX10_enterInner_5 rfl (lv_at hl 1 rfl) ?_
  refine lv_iload_n hx hb dX10_enterInner_6 rfl (lv_at hl 2 rfl) ?_
  obtain ⟨hq6, hf⟩ := jif hf
  obtain ⟨x4, hc5, hf⟩ := jb hf
  refine jbackI hM (jrunV E hM ci_X8_inner (C_X8_inner hc5) lk_4_224 hq6 (by decide) rfl hl.1 rfl rfl (Nat.le_of_ble_eq_true rfl) ⟨Nat.le_of_ble_eq_true rfl, Nat.le_of_ble_eq_true rfl⟩ ⟨Nat.le_refl _, Nat.le_refl _⟩ dX10_enterInner_7) (fun H locs hM => ?_)
  refine lv_aload_n hx hb dX10_enterInner_10 rfl (lv_at hl 0 rfl) ?_
  refine gt_59 E hM hq1 lk_2_9 dX10_enterInner_11 ?_
  obtain ⟨r7, hr8, hf⟩ := jb hf
  rw [hr8]
  show W p l e _ s m args below meth c H locs 0 0 _ (F0 m _ ls (.ref (g.2.2 + r7) :: _))
  refine lv_aload_n hx hb dX10_enterInner_14 rfl (lv_at hl 0 rfl) ?_
  refine gt_60 E hM hq1 lk_2_10 dX10_enterInner_15 ?_
  refine lv_iconst (v := (1 : Int32)) hx hb dX10_enterInner_18 (by decide) ?_
  refine lv_isub hx hb dX10_enterInner_19 ?_
  obtain ⟨ha9, hf⟩ := jif hf
  refine jiald E hM ha9 dX10_enterInner_20 ?_
  obtain ⟨S10, hc11, hf⟩ := jb hf
  refine jbackV hM (jrunV E hM ci_X10_enter (C_X10_enter hc11) lk_4_158 hq1 (by decide) rfl hl.1 rfl rfl (Nat.le_of_ble_eq_true rfl) ⟨Nat.le_of_ble_eq_true rfl, Nat.le_of_ble_eq_true rfl⟩ ⟨Nat.le_refl _, Nat.le_refl _⟩ dX10_enterInner_21) (fun H locs hM => ?_)
  exact jvret (jrv hf) E hM dX10_enterInner_24
set_option maxRecDepth 100000 in
theorem C_X10_enterInner {l : Launch} {g : jG} {a0 : Nat} {a1 : Int32} {a2 : Int32} {S : jM} {SS : jM} (hf : f_X10_enterInner a0 a1 a2 S = some SS) : jMet l g yX10_enterInner cX10_enterInner 3 none 2 0 0 [.ref (g.2.2 + a0), .int a1, .int a2] S (jQv g SS) := by
  refine jof (by decide +kernel) (Nat.le_of_ble_eq_true rfl) ?_
  intro p e s m below meth c E hM ls hl
  have hl : lv_has ls 3 [(0, .ref (g.2.2 + a0)),(1, .int a1),(2, .int a2)] := hl
  exact B_X10_enterInner_0 E hf hM hl
-- PensionHouse$Worker.fail(I)V  mode M
noncomputable def f_X10_fail (v0 : Nat) (v1 : Int32) (S : jM) : Option jM := if jK v0 = 8 then (jR S 64 v0).bind (fun r2 => if jK r2 = 1 then jlet (jsI S 7 r2 v1) (fun S5 => (jR S5 64 v0).bind (fun r6 => (jR S5 59 v0).bind (fun r8 => if jA r8 13 ((jI S5 60 v0) - (1 : Int32)) = true then if jK r6 = 1 then jlet (jsI S5 8 r6 (jAI S5 r8 ((jI S5 60 v0) - (1 : Int32)).toNatClampNeg)) (fun S12 => some S12) else none else none))) else none) else none
set_option maxRecDepth 100000 in
set_option maxHeartbeats 4000000 in
theorem B_X10_fail_0 {p : Program} {l : Launch} {e : Env} {s : State} {m : MethodId} {args : Array Value} {below : List Frame} {meth : Method} {c : Code} {g : jG} {SS : jM} {v0 : Nat} {v1 : Int32} {S : jM} (E : jEnv p s m args meth c cX10_fail "PensionHouse$Worker" none 2 g)  {H : Heap} {locs : List Loc} {ls : Array Slot} (hf : f_X10_fail v0 v1 S = some SS) (hM : jAt g S s H locs) (hl : lv_has ls 2 [(0, .ref (g.2.2 + v0)), (1, .int v1)]) : W p l e (jRm 1 0 0) s m args below meth c H locs 0 0 (MQ below (jQv g SS) args s 0 0 (jA0 g)) (F0 m 0 ls []) := by
  obtain ⟨hx, hb, hml, -, hts, hown, hK, -, hstr⟩ := id E
  unfold f_X10_fail at hf
  refine lv_aload_n hx hb dX10_fail_0 rfl (lv_at hl 0 rfl) ?_
  obtain ⟨hq1, hf⟩ := jif hf
  refine gt_64 E hM hq1 lk_2_14 dX10_fail_1 ?_
  obtain ⟨r2, hr3, hf⟩ := jb hf
  rw [hr3]
  show W p l e _ s m args below meth c H locs 0 0 _ (F0 m _ ls (.ref (g.2.2 + r2) :: _))
  refine lv_iload_n hx hb dX10_fail_4 rfl (lv_at hl 1 rfl) ?_
  obtain ⟨hq4, hf⟩ := jif hf
  refine pt_7 E hM hq4 lk_2_60 dX10_fail_5 (fun H locs S5 eS5 hM => ?_)
  have hf := jlet_y eS5 hf
  refine lv_aload_n hx hb dX10_fail_8 rfl (lv_at hl 0 rfl) ?_
  refine gt_64 E hM hq1 lk_2_14 dX10_fail_9 ?_
  obtain ⟨r6, hr7, hf⟩ := jb hf
  rw [hr7]
  show W p l e _ s m args below meth c H locs 0 0 _ (F0 m _ ls (.ref (g.2.2 + r6) :: _))
  refine lv_aload_n hx hb dX10_fail_12 rfl (lv_at hl 0 rfl) ?_
  refine gt_59 E hM hq1 lk_2_9 dX10_fail_13 ?_
  obtain ⟨r8, hr9, hf⟩ := jb hf
  rw [hr9]
  show W p l e _ s m args below meth c H locs 0 0 _ (F0 m _ ls (.ref (g.2.2 + r8) :: _))
  refine lv_aload_n hx hb dX10_fail_16 rfl (lv_at hl 0 rfl) ?_
  refine gt_60 E hM hq1 lk_2_10 dX10_fail_17 ?_
  refine lv_iconst (v := (1 : Int32)) hx hb dX10_fail_20 (by decide) ?_
  refine lv_isub hx hb dX10_fail_21 ?_
  obtain ⟨ha10, hf⟩ := jif hf
  refine jiald E hM ha10 dX10_fail_22 ?_
  obtain ⟨hq11, hf⟩ := jif hf
  refine pt_8 E hM hq11 lk_2_63 dX10_fail_23 (fun H locs S12 eS12 hM => ?_)
  have hf := jlet_y eS12 hf
  exact jvret (jrv hf) E hM dX10_fail_26
set_option maxRecDepth 100000 in
theorem C_X10_fail {l : Launch} {g : jG} {a0 : Nat} {a1 : Int32} {S : jM} {SS : jM} (hf : f_X10_fail a0 a1 S = some SS) : jMet l g yX10_fail cX10_fail 2 none 1 0 0 [.ref (g.2.2 + a0), .int a1] S (jQv g SS) := by
  refine jof (by decide +kernel) (Nat.le_of_ble_eq_true rfl) ?_
  intro p e s m below meth c E hM ls hl
  have hl : lv_has ls 2 [(0, .ref (g.2.2 + a0)),(1, .int a1)] := hl
  exact B_X10_fail_0 E hf hM hl
-- PensionHouse$Worker.leave()V  mode M
noncomputable def f_X10_leave (v0 : Nat) (S : jM) : Option jM := if jK v0 = 8 then jlet (jsI S 60 v0 ((jI S 60 v0) - (1 : Int32))) (fun S2 => some S2) else none
set_option maxRecDepth 100000 in
set_option maxHeartbeats 4000000 in
theorem B_X10_leave_0 {p : Program} {l : Launch} {e : Env} {s : State} {m : MethodId} {args : Array Value} {below : List Frame} {meth : Method} {c : Code} {g : jG} {SS : jM} {v0 : Nat} {S : jM} (E : jEnv p s m args meth c cX10_leave "PensionHouse$Worker" none 1 g)  {H : Heap} {locs : List Loc} {ls : Array Slot} (hf : f_X10_leave v0 S = some SS) (hM : jAt g S s H locs) (hl : lv_has ls 1 [(0, .ref (g.2.2 + v0))]) : W p l e (jRm 1 0 0) s m args below meth c H locs 0 0 (MQ below (jQv g SS) args s 0 0 (jA0 g)) (F0 m 0 ls []) := by
  obtain ⟨hx, hb, hml, -, hts, hown, hK, -, hstr⟩ := id E
  unfold f_X10_leave at hf
  refine lv_aload_n hx hb dX10_leave_0 rfl (lv_at hl 0 rfl) ?_
  refine lv_dup hx hb dX10_leave_1 rfl ?_
  obtain ⟨hq1, hf⟩ := jif hf
  refine gt_60 E hM hq1 lk_2_10 dX10_leave_2 ?_
  refine lv_iconst (v := (1 : Int32)) hx hb dX10_leave_5 (by decide) ?_
  refine lv_isub hx hb dX10_leave_6 ?_
  refine pt_60 E hM hq1 lk_2_10 dX10_leave_7 (fun H locs S2 eS2 hM => ?_)
  have hf := jlet_y eS2 hf
  exact jvret (jrv hf) E hM dX10_leave_10
set_option maxRecDepth 100000 in
theorem C_X10_leave {l : Launch} {g : jG} {a0 : Nat} {S : jM} {SS : jM} (hf : f_X10_leave a0 S = some SS) : jMet l g yX10_leave cX10_leave 1 none 1 0 0 [.ref (g.2.2 + a0)] S (jQv g SS) := by
  refine jof (by decide +kernel) (Nat.le_of_ble_eq_true rfl) ?_
  intro p e s m below meth c E hM ls hl
  have hl : lv_has ls 1 [(0, .ref (g.2.2 + a0))] := hl
  exact B_X10_leave_0 E hf hM hl
-- PensionHouse$Worker.spend(I)Z  mode M
noncomputable def f_X10_spend (v0 : Nat) (v1 : Int32) (S : jM) : Option (Int32 × jM) := if jK v0 = 8 then (jR S 64 v0).bind (fun r2 => if jK r2 = 1 then if ((jI S 9 r2) + v1) ≤ (400 : Int32) then (jR S 64 v0).bind (fun r6 => if jK r6 = 1 then jlet (jsI S 9 r6 ((jI S 9 r6) + v1)) (fun S9 => some ((1 : Int32), S9)) else none) else (f_X10_fail v0 (7 : Int32) S).bind (fun S10 => some ((0 : Int32), S10)) else none) else none
set_option maxRecDepth 100000 in
set_option maxHeartbeats 4000000 in
theorem B_X10_spend_0 {p : Program} {l : Launch} {e : Env} {s : State} {m : MethodId} {args : Array Value} {below : List Frame} {meth : Method} {c : Code} {g : jG} {rr : Int32} {SS : jM} {v0 : Nat} {v1 : Int32} {S : jM} (E : jEnv p s m args meth c cX10_spend "PensionHouse$Worker" (some .boolean) 2 g)  {H : Heap} {locs : List Loc} {ls : Array Slot} (hf : f_X10_spend v0 v1 S = some (rr, SS)) (hM : jAt g S s H locs) (hl : lv_has ls 2 [(0, .ref (g.2.2 + v0)), (1, .int v1)]) : W p l e (jRm 2 0 0) s m args below meth c H locs 0 0 (MQ below (jQi g rr SS) args s 0 0 (jA0 g)) (F0 m 0 ls []) := by
  obtain ⟨hx, hb, hml, -, hts, hown, hK, -, hstr⟩ := id E
  unfold f_X10_spend at hf
  refine lv_aload_n hx hb dX10_spend_0 rfl (lv_at hl 0 rfl) ?_
  obtain ⟨hq1, hf⟩ := jif hf
  refine gt_64 E hM hq1 lk_2_14 dX10_spend_1 ?_
  obtain ⟨r2, hr3, hf⟩ := jb hf
  rw [hr3]
  show W p l e _ s m args below meth c H locs 0 0 _ (F0 m _ ls (.ref (g.2.2 + r2) :: _))
  obtain ⟨hq4, hf⟩ := jif hf
  refine gt_9 E hM hq4 lk_2_66 dX10_spend_4 ?_
  refine lv_iload_n hx hb dX10_spend_7 rfl (lv_at hl 1 rfl) ?_
  refine lv_iadd hx hb dX10_spend_8 ?_
  refine lv_sipush (v := (400 : Int32)) hx hb dX10_spend_9 (by decide) ?_
  refine lv_icmp_le (tgt := 23) hx hb dX10_spend_12 (by decide) (fun c5 => ?_) (fun c5 => ?_)
  · have hf := jt c5 hf
    refine lv_aload_n hx hb dX10_spend_23 rfl (lv_at hl 0 rfl) ?_
    refine gt_64 E hM hq1 lk_2_14 dX10_spend_24 ?_
    obtain ⟨r6, hr7, hf⟩ := jb hf
    rw [hr7]
    show W p l e _ s m args below meth c H locs 0 0 _ (F0 m _ ls (.ref (g.2.2 + r6) :: _))
    refine lv_dup hx hb dX10_spend_27 rfl ?_
    obtain ⟨hq8, hf⟩ := jif hf
    refine gt_9 E hM hq8 lk_2_66 dX10_spend_28 ?_
    refine lv_iload_n hx hb dX10_spend_31 rfl (lv_at hl 1 rfl) ?_
    refine lv_iadd hx hb dX10_spend_32 ?_
    refine pt_9 E hM hq8 lk_2_66 dX10_spend_33 (fun H locs S9 eS9 hM => ?_)
    have hf := jlet_y eS9 hf
    refine lv_iconst (v := (1 : Int32)) hx hb dX10_spend_36 (by decide) ?_
    exact jiretz (jr2 hf) E hM (by decide) dX10_spend_37
  · have hf := jf c5 hf
    refine lv_aload_n hx hb dX10_spend_15 rfl (lv_at hl 0 rfl) ?_
    refine lv_bipush (v := (7 : Int32)) hx hb dX10_spend_16 (by decide) ?_
    obtain ⟨S10, hc11, hf⟩ := jb hf
    refine jbackV hM (jrunV E hM ci_X10_fail (C_X10_fail hc11) lk_4_174 hq1 (by decide) rfl hl.1 rfl rfl (Nat.le_of_ble_eq_true rfl) ⟨Nat.le_of_ble_eq_true rfl, Nat.le_of_ble_eq_true rfl⟩ ⟨Nat.le_refl _, Nat.le_refl _⟩ dX10_spend_18) (fun H locs hM => ?_)
    refine lv_iconst (v := (0 : Int32)) hx hb dX10_spend_21 (by decide) ?_
    exact jiretz (jr2 hf) E hM (by decide) dX10_spend_22
set_option maxRecDepth 100000 in
theorem C_X10_spend {l : Launch} {g : jG} {a0 : Nat} {a1 : Int32} {S : jM} {rr : Int32} {SS : jM} (hf : f_X10_spend a0 a1 S = some (rr, SS)) : jMet l g yX10_spend cX10_spend 2 (some .boolean) 2 0 0 [.ref (g.2.2 + a0), .int a1] S (jQi g rr SS) := by
  refine jof (by decide +kernel) (Nat.le_of_ble_eq_true rfl) ?_
  intro p e s m below meth c E hM ls hl
  have hl : lv_has ls 2 [(0, .ref (g.2.2 + a0)),(1, .int a1)] := hl
  exact B_X10_spend_0 E hf hM hl
-- PensionHouse$Worker.addUp(II)V  mode M
noncomputable def f_X10_addUp_210 (v0 : Nat) (v1 : Int32) (v3 : Int32) (v4 : Nat) (v6 : Nat) (v7 : Int32) (S : jM) : Option jM := if v7 = 0 then if jK v0 = 8 then jbd (f_X10_spend v0 (1 : Int32) S) (fun x2 S3 => if x2 = 0 then some S3 else jlet (jsI S3 62 v0 (v3 + (3 : Int32))) (fun S7 => (f_X10_enterInner v0 v1 (2 : Int32) S7).bind (fun S8 => some S8))) else none else if jK v4 = 7 then (f_X9_setTo v4 v6 S).bind (fun S10 => if jK v0 = 8 then jlet (jsI S10 62 v0 (v3 + (1 : Int32))) (fun S14 => (f_X10_leave v0 S14).bind (fun S15 => some S15)) else none) else none
noncomputable def f_X10_addUp_198 (v0 : Nat) (v1 : Int32) (v3 : Int32) (v4 : Nat) (v6 : Nat) (t0 : Int32) (S : jM) : Option jM := if jK v0 = 8 then (jR S 63 v0).bind (fun r18 => if jA r18 14 v1 = true then if jA r18 14 v1 = true then jlet (jrL S r18 (vp_updL (jAL S r18) (v1).toNatClampNeg ((jAL S r18 (v1).toNatClampNeg) + (1 : Int64)))) (fun S22 => f_X10_addUp_210 v0 v1 v3 v4 v6 t0 S22) else none else none) else none
noncomputable def f_X10_addUp_142 (v0 : Nat) (v1 : Int32) (v3 : Int32) (v4 : Nat) (v6 : Nat) (t0 : Int32) (S : jM) : Option jM := f_X10_addUp_210 v0 v1 v3 v4 v6 t0 S
noncomputable def f_X10_addUp_93 (v0 : Nat) (S : jM) : Option jM := if jK v0 = 8 then (f_X10_fail v0 (2 : Int32) S).bind (fun S23 => some S23) else none
noncomputable def f_X10_addUp_37 (v0 : Nat) (S : jM) : Option jM := if jK v0 = 8 then (f_X10_fail v0 (7 : Int32) S).bind (fun S26 => some S26) else none
noncomputable def f_X10_addUp (v0 : Nat) (v1 : Int32) (v2 : Int32) (S : jM) : Option jM := if (2 : Int32) ≤ v2 then if jK v0 = 8 then (jR S 58 v0).bind (fun r31 => if jA r31 13 ((jI S 60 v0) - (1 : Int32)) = true then jlet (jAI S r31 ((jI S 60 v0) - (1 : Int32)).toNatClampNeg) (fun x34 => if x34 < 0 then f_X10_addUp_37 v0 S else if (x34 + (3 : Int32)) < (600 : Int32) then (jR S 61 v0).bind (fun r37 => if jA r37 19 x34 = true then (jAR S r37 (x34).toNatClampNeg).bind (fun r40 => (jR S 61 v0).bind (fun r42 => if jA r42 19 (x34 + (1 : Int32)) = true then (jAR S r42 (x34 + (1 : Int32)).toNatClampNeg).bind (fun r45 => (jR S 61 v0).bind (fun r47 => if jA r47 19 (x34 + (2 : Int32)) = true then (jAR S r47 (x34 + (2 : Int32)).toNatClampNeg).bind (fun r50 => if v2 = (2 : Int32) then if jK r40 = 7 then if (jI S 52 r40) = 0 then if jK r45 = 7 then if (jI S 52 r45) = 0 then if jK r50 = 7 then (f_X9_setNumber r50 (0 : Int32) (0 : Int64) S).bind (fun S76 => (jR S76 63 v0).bind (fun r79 => (jR S76 54 r40).bind (fun r81 => if jA r81 14 (0 : Int32) = true then if jA r79 14 v1 = true then jlet (jrL S76 r79 (vp_updL (jAL S76 r79) (v1).toNatClampNeg (jAL S76 r81 ((0 : Int32)).toNatClampNeg))) (fun S85 => (jR S85 54 r40).bind (fun r86 => if jA r86 14 (0 : Int32) = true then (jR S85 54 r45).bind (fun r89 => if jA r89 14 (0 : Int32) = true then if (jAL S85 r86 ((0 : Int32)).toNatClampNeg) ≤ (jAL S85 r89 ((0 : Int32)).toNatClampNeg) then f_X10_addUp_142 v0 v1 x34 r40 r50 (0 : Int32) S85 else f_X10_addUp_142 v0 v1 x34 r40 r50 (1 : Int32) S85 else none) else none)) else none else none))) else none else f_X10_addUp_93 v0 S else none else f_X10_addUp_93 v0 S else none else (jR S 61 v0).bind (fun r53 => if jA r53 19 (x34 + (3 : Int32)) = true then (jAR S r53 (x34 + (3 : Int32)).toNatClampNeg).bind (fun r56 => jbd (f_X3_arithmetic (43 : Int32) r50 r56 S) (fun x58 S59 => if x58 = 0 then (jR S59 63 v0).bind (fun r62 => if jA r62 14 v1 = true then if jK r45 = 7 then (jR S59 54 r45).bind (fun r66 => if jA r66 14 (0 : Int32) = true then if (jAL S59 r62 (v1).toNatClampNeg) = (jAL S59 r66 ((0 : Int32)).toNatClampNeg) then f_X10_addUp_198 v0 v1 x34 r40 r50 (1 : Int32) S59 else f_X10_addUp_198 v0 v1 x34 r40 r50 (0 : Int32) S59 else none) else none else none) else (f_X10_fail v0 x58 S59).bind (fun S70 => some S70))) else none)) else none)) else none)) else none) else f_X10_addUp_37 v0 S) else none) else none else if jK v0 = 8 then (f_X10_enterInner v0 v1 v2 S).bind (fun S93 => some S93) else none
set_option maxRecDepth 100000 in
set_option maxHeartbeats 4000000 in
theorem B_X10_addUp_210 {p : Program} {l : Launch} {e : Env} {s : State} {m : MethodId} {args : Array Value} {below : List Frame} {meth : Method} {c : Code} {g : jG} {SS : jM} {v0 : Nat} {v1 : Int32} {v3 : Int32} {v4 : Nat} {v6 : Nat} {v7 : Int32} {S : jM} (E : jEnv p s m args meth c cX10_addUp "PensionHouse$Worker" none 9 g)  {H : Heap} {locs : List Loc} {ls : Array Slot} (hf : f_X10_addUp_210 v0 v1 v3 v4 v6 v7 S = some SS) (hM : jAt g S s H locs) (hl : lv_has ls 9 [(0, .ref (g.2.2 + v0)), (1, .int v1), (3, .int v3), (4, .ref (g.2.2 + v4)), (6, .ref (g.2.2 + v6)), (7, .int v7)]) : W p l e (jRm 4 0 0) s m args below meth c H locs 0 0 (MQ below (jQv g SS) args s 0 0 (jA0 g)) (F0 m 210 ls []) := by
  obtain ⟨hx, hb, hml, -, hts, hown, hK, -, hstr⟩ := id E
  unfold f_X10_addUp_210 at hf
  refine lv_iload hx hb dX10_addUp_210 (lv_at hl 5 rfl) ?_
  refine lv_if_eq (tgt := 236) hx hb dX10_addUp_212 (by decide) (fun c1 => ?_) (fun c1 => ?_)
  · have hf := jt c1 hf
    refine lv_aload_n hx hb dX10_addUp_236 rfl (lv_at hl 0 rfl) ?_
    refine lv_iconst (v := (1 : Int32)) hx hb dX10_addUp_237 (by decide) ?_
    obtain ⟨hq5, hf⟩ := jif hf
    obtain ⟨x2, S3, hc4, hf⟩ := jbd_e hf
    refine jbackI hM (jrunV E hM ci_X10_spend (C_X10_spend hc4) lk_4_170 hq5 (by decide) rfl hl.1 rfl rfl (Nat.le_of_ble_eq_true rfl) ⟨Nat.le_of_ble_eq_true rfl, Nat.le_of_ble_eq_true rfl⟩ ⟨Nat.le_refl _, Nat.le_refl _⟩ dX10_addUp_238) (fun H locs hM => ?_)
    refine lv_if_eq (tgt := 257) hx hb dX10_addUp_241 (by decide) (fun c6 => ?_) (fun c6 => ?_)
    · have hf := jt c6 hf
      exact jvret (jrv hf) E hM dX10_addUp_257
    · have hf := jf c6 hf
      refine lv_aload_n hx hb dX10_addUp_244 rfl (lv_at hl 0 rfl) ?_
      refine lv_iload_n hx hb dX10_addUp_245 rfl (lv_at hl 2 rfl) ?_
      refine lv_iconst (v := (3 : Int32)) hx hb dX10_addUp_246 (by decide) ?_
      refine lv_iadd hx hb dX10_addUp_247 ?_
      refine pt_62 E hM hq5 lk_2_12 dX10_addUp_248 (fun H locs S7 eS7 hM => ?_)
      have hf := jlet_y eS7 hf
      refine lv_aload_n hx hb dX10_addUp_251 rfl (lv_at hl 0 rfl) ?_
      refine lv_iload_n hx hb dX10_addUp_252 rfl (lv_at hl 1 rfl) ?_
      refine lv_iconst (v := (2 : Int32)) hx hb dX10_addUp_253 (by decide) ?_
      obtain ⟨S8, hc9, hf⟩ := jb hf
      refine jbackV hM (jrunV E hM ci_X10_enterInner (C_X10_enterInner hc9) lk_4_220 hq5 (by decide) rfl hl.1 rfl rfl (Nat.le_of_ble_eq_true rfl) ⟨Nat.le_of_ble_eq_true rfl, Nat.le_of_ble_eq_true rfl⟩ ⟨Nat.le_refl _, Nat.le_refl _⟩ dX10_addUp_254) (fun H locs hM => ?_)
      exact jvret (jrv hf) E hM dX10_addUp_257
  · have hf := jf c1 hf
    refine lv_aload hx hb dX10_addUp_215 (lv_at hl 3 rfl) ?_
    refine lv_aload hx hb dX10_addUp_217 (lv_at hl 4 rfl) ?_
    obtain ⟨hq12, hf⟩ := jif hf
    obtain ⟨S10, hc11, hf⟩ := jb hf
    refine jbackV hM (jrunV E hM ci_X9_setTo (C_X9_setTo hc11) lk_4_200 hq12 (by decide) rfl hl.1 rfl rfl (Nat.le_of_ble_eq_true rfl) ⟨Nat.le_of_ble_eq_true rfl, Nat.le_of_ble_eq_true rfl⟩ ⟨Nat.le_refl _, Nat.le_refl _⟩ dX10_addUp_219) (fun H locs hM => ?_)
    refine lv_aload_n hx hb dX10_addUp_222 rfl (lv_at hl 0 rfl) ?_
    refine lv_iload_n hx hb dX10_addUp_223 rfl (lv_at hl 2 rfl) ?_
    refine lv_iconst (v := (1 : Int32)) hx hb dX10_addUp_224 (by decide) ?_
    refine lv_iadd hx hb dX10_addUp_225 ?_
    obtain ⟨hq13, hf⟩ := jif hf
    refine pt_62 E hM hq13 lk_2_12 dX10_addUp_226 (fun H locs S14 eS14 hM => ?_)
    have hf := jlet_y eS14 hf
    refine lv_aload_n hx hb dX10_addUp_229 rfl (lv_at hl 0 rfl) ?_
    obtain ⟨S15, hc16, hf⟩ := jb hf
    refine jbackV hM (jrunV E hM ci_X10_leave (C_X10_leave hc16) lk_4_187 hq13 (by decide) rfl hl.1 rfl rfl (Nat.le_of_ble_eq_true rfl) ⟨Nat.le_of_ble_eq_true rfl, Nat.le_of_ble_eq_true rfl⟩ ⟨Nat.le_refl _, Nat.le_refl _⟩ dX10_addUp_230) (fun H locs hM => ?_)
    refine lv_goto (tgt := 257) hx hb dX10_addUp_233 (by decide) ?_
    exact jvret (jrv hf) E hM dX10_addUp_257
set_option maxRecDepth 100000 in
set_option maxHeartbeats 4000000 in
theorem B_X10_addUp_198 {p : Program} {l : Launch} {e : Env} {s : State} {m : MethodId} {args : Array Value} {below : List Frame} {meth : Method} {c : Code} {g : jG} {SS : jM} {v0 : Nat} {v1 : Int32} {v3 : Int32} {v4 : Nat} {v6 : Nat} {t0 : Int32} {S : jM} (E : jEnv p s m args meth c cX10_addUp "PensionHouse$Worker" none 9 g)  {H : Heap} {locs : List Loc} {ls : Array Slot} (hf : f_X10_addUp_198 v0 v1 v3 v4 v6 t0 S = some SS) (hM : jAt g S s H locs) (hl : lv_has ls 9 [(0, .ref (g.2.2 + v0)), (1, .int v1), (3, .int v3), (4, .ref (g.2.2 + v4)), (6, .ref (g.2.2 + v6))]) : W p l e (jRm 4 0 0) s m args below meth c H locs 0 0 (MQ below (jQv g SS) args s 0 0 (jA0 g)) (F0 m 198 ls [.int t0]) := by
  obtain ⟨hx, hb, hml, -, hts, hown, hK, -, hstr⟩ := id E
  unfold f_X10_addUp_198 at hf
  refine lv_istore (lv' := [(7, .int t0), (0, .ref (g.2.2 + v0)), (1, .int v1), (3, .int v3), (4, .ref (g.2.2 + v4)), (6, .ref (g.2.2 + v6))]) hx hb dX10_addUp_198 hl (by decide) rfl (fun ls hl => ?_)
  refine lv_aload_n hx hb dX10_addUp_200 rfl (lv_at hl 1 rfl) ?_
  obtain ⟨hq17, hf⟩ := jif hf
  refine gt_63 E hM hq17 lk_2_13 dX10_addUp_201 ?_
  obtain ⟨r18, hr19, hf⟩ := jb hf
  rw [hr19]
  show W p l e _ s m args below meth c H locs 0 0 _ (F0 m _ ls (.ref (g.2.2 + r18) :: _))
  refine lv_iload_n hx hb dX10_addUp_204 rfl (lv_at hl 2 rfl) ?_
  refine lv_dup2_11 hx hb dX10_addUp_205 rfl rfl ?_
  obtain ⟨ha20, hf⟩ := jif hf
  refine jlald E hM ha20 dX10_addUp_206 ?_
  refine lv_lconst (v := (1 : Int64)) hx hb dX10_addUp_207 (by decide) ?_
  refine lv_ladd hx hb dX10_addUp_208 ?_
  obtain ⟨ha21, hf⟩ := jif hf
  refine jlast E hM ha21 dX10_addUp_209 (fun H locs S22 eS22 hM => ?_)
  have hf := jlet_y eS22 hf
  exact B_X10_addUp_210 E  hf hM (lv_sub hl [1, 2, 3, 4, 5, 0] rfl)
set_option maxRecDepth 100000 in
set_option maxHeartbeats 4000000 in
theorem B_X10_addUp_142 {p : Program} {l : Launch} {e : Env} {s : State} {m : MethodId} {args : Array Value} {below : List Frame} {meth : Method} {c : Code} {g : jG} {SS : jM} {v0 : Nat} {v1 : Int32} {v3 : Int32} {v4 : Nat} {v6 : Nat} {t0 : Int32} {S : jM} (E : jEnv p s m args meth c cX10_addUp "PensionHouse$Worker" none 9 g)  {H : Heap} {locs : List Loc} {ls : Array Slot} (hf : f_X10_addUp_142 v0 v1 v3 v4 v6 t0 S = some SS) (hM : jAt g S s H locs) (hl : lv_has ls 9 [(0, .ref (g.2.2 + v0)), (1, .int v1), (3, .int v3), (4, .ref (g.2.2 + v4)), (6, .ref (g.2.2 + v6))]) : W p l e (jRm 4 0 0) s m args below meth c H locs 0 0 (MQ below (jQv g SS) args s 0 0 (jA0 g)) (F0 m 142 ls [.int t0]) := by
  obtain ⟨hx, hb, hml, -, hts, hown, hK, -, hstr⟩ := id E
  unfold f_X10_addUp_142 at hf
  refine lv_istore (lv' := [(7, .int t0), (0, .ref (g.2.2 + v0)), (1, .int v1), (3, .int v3), (4, .ref (g.2.2 + v4)), (6, .ref (g.2.2 + v6))]) hx hb dX10_addUp_142 hl (by decide) rfl (fun ls hl => ?_)
  refine lv_goto (tgt := 210) hx hb dX10_addUp_144 (by decide) ?_
  exact B_X10_addUp_210 E  hf hM (lv_sub hl [1, 2, 3, 4, 5, 0] rfl)
set_option maxRecDepth 100000 in
set_option maxHeartbeats 4000000 in
theorem B_X10_addUp_93 {p : Program} {l : Launch} {e : Env} {s : State} {m : MethodId} {args : Array Value} {below : List Frame} {meth : Method} {c : Code} {g : jG} {SS : jM} {v0 : Nat} {S : jM} (E : jEnv p s m args meth c cX10_addUp "PensionHouse$Worker" none 9 g)  {H : Heap} {locs : List Loc} {ls : Array Slot} (hf : f_X10_addUp_93 v0 S = some SS) (hM : jAt g S s H locs) (hl : lv_has ls 9 [(0, .ref (g.2.2 + v0))]) : W p l e (jRm 4 0 0) s m args below meth c H locs 0 0 (MQ below (jQv g SS) args s 0 0 (jA0 g)) (F0 m 93 ls []) := by
  obtain ⟨hx, hb, hml, -, hts, hown, hK, -, hstr⟩ := id E
  unfold f_X10_addUp_93 at hf
  refine lv_aload_n hx hb dX10_addUp_93 rfl (lv_at hl 0 rfl) ?_
  refine lv_iconst (v := (2 : Int32)) hx hb dX10_addUp_94 (by decide) ?_
  obtain ⟨hq25, hf⟩ := jif hf
  obtain ⟨S23, hc24, hf⟩ := jb hf
  refine jbackV hM (jrunV E hM ci_X10_fail (C_X10_fail hc24) lk_4_174 hq25 (by decide) rfl hl.1 rfl rfl (Nat.le_of_ble_eq_true rfl) ⟨Nat.le_of_ble_eq_true rfl, Nat.le_of_ble_eq_true rfl⟩ ⟨Nat.le_refl _, Nat.le_refl _⟩ dX10_addUp_95) (fun H locs hM => ?_)
  exact jvret (jrv hf) E hM dX10_addUp_98
set_option maxRecDepth 100000 in
set_option maxHeartbeats 4000000 in
theorem B_X10_addUp_37 {p : Program} {l : Launch} {e : Env} {s : State} {m : MethodId} {args : Array Value} {below : List Frame} {meth : Method} {c : Code} {g : jG} {SS : jM} {v0 : Nat} {S : jM} (E : jEnv p s m args meth c cX10_addUp "PensionHouse$Worker" none 9 g)  {H : Heap} {locs : List Loc} {ls : Array Slot} (hf : f_X10_addUp_37 v0 S = some SS) (hM : jAt g S s H locs) (hl : lv_has ls 9 [(0, .ref (g.2.2 + v0))]) : W p l e (jRm 4 0 0) s m args below meth c H locs 0 0 (MQ below (jQv g SS) args s 0 0 (jA0 g)) (F0 m 37 ls []) := by
  obtain ⟨hx, hb, hml, -, hts, hown, hK, -, hstr⟩ := id E
  unfold f_X10_addUp_37 at hf
  refine lv_aload_n hx hb dX10_addUp_37 rfl (lv_at hl 0 rfl) ?_
  refine lv_bipush (v := (7 : Int32)) hx hb dX10_addUp_38 (by decide) ?_
  obtain ⟨hq28, hf⟩ := jif hf
  obtain ⟨S26, hc27, hf⟩ := jb hf
  refine jbackV hM (jrunV E hM ci_X10_fail (C_X10_fail hc27) lk_4_174 hq28 (by decide) rfl hl.1 rfl rfl (Nat.le_of_ble_eq_true rfl) ⟨Nat.le_of_ble_eq_true rfl, Nat.le_of_ble_eq_true rfl⟩ ⟨Nat.le_refl _, Nat.le_refl _⟩ dX10_addUp_40) (fun H locs hM => ?_)
  exact jvret (jrv hf) E hM dX10_addUp_43
set_option maxRecDepth 100000 in
set_option maxHeartbeats 4000000 in
theorem B_X10_addUp_0 {p : Program} {l : Launch} {e : Env} {s : State} {m : MethodId} {args : Array Value} {below : List Frame} {meth : Method} {c : Code} {g : jG} {SS : jM} {v0 : Nat} {v1 : Int32} {v2 : Int32} {S : jM} (E : jEnv p s m args meth c cX10_addUp "PensionHouse$Worker" none 9 g)  {H : Heap} {locs : List Loc} {ls : Array Slot} (hf : f_X10_addUp v0 v1 v2 S = some SS) (hM : jAt g S s H locs) (hl : lv_has ls 9 [(0, .ref (g.2.2 + v0)), (1, .int v1), (2, .int v2)]) : W p l e (jRm 4 0 0) s m args below meth c H locs 0 0 (MQ below (jQv g SS) args s 0 0 (jA0 g)) (F0 m 0 ls []) := by
  obtain ⟨hx, hb, hml, -, hts, hown, hK, -, hstr⟩ := id E
  unfold f_X10_addUp at hf
  refine lv_iload_n hx hb dX10_addUp_0 rfl (lv_at hl 2 rfl) ?_
  refine lv_iconst (v := (2 : Int32)) hx hb dX10_addUp_1 (by decide) ?_
  refine lv_icmp_ge (tgt := 12) hx hb dX10_addUp_2 (by decide) (fun c29 => ?_) (fun c29 => ?_)
  · have hf := jt c29 hf
    refine lv_aload_n hx hb dX10_addUp_12 rfl (lv_at hl 0 rfl) ?_
    obtain ⟨hq30, hf⟩ := jif hf
    refine gt_58 E hM hq30 lk_2_8 dX10_addUp_13 ?_
    obtain ⟨r31, hr32, hf⟩ := jb hf
    rw [hr32]
    show W p l e _ s m args below meth c H locs 0 0 _ (F0 m _ ls (.ref (g.2.2 + r31) :: _))
    refine lv_aload_n hx hb dX10_addUp_16 rfl (lv_at hl 0 rfl) ?_
    refine gt_60 E hM hq30 lk_2_10 dX10_addUp_17 ?_
    refine lv_iconst (v := (1 : Int32)) hx hb dX10_addUp_20 (by decide) ?_
    refine lv_isub hx hb dX10_addUp_21 ?_
    obtain ⟨ha33, hf⟩ := jif hf
    refine jiald E hM ha33 dX10_addUp_22 ?_
    refine lv_topi (fun x34 ex34 => ?_)
    have hf := jlet_y ex34 hf
    refine lv_istore_n (lv' := [(3, .int x34), (0, .ref (g.2.2 + v0)), (1, .int v1), (2, .int v2)]) hx hb dX10_addUp_23 rfl hl (by decide) rfl (fun ls hl => ?_)
    refine lv_iload_n hx hb dX10_addUp_24 rfl (lv_at hl 0 rfl) ?_
    refine lv_if_lt (tgt := 37) hx hb dX10_addUp_25 (by decide) (fun c35 => ?_) (fun c35 => ?_)
    · have hf := jt c35 hf
      exact B_X10_addUp_37 E  hf hM (lv_sub hl [1] rfl)
    · have hf := jf c35 hf
      refine lv_iload_n hx hb dX10_addUp_28 rfl (lv_at hl 0 rfl) ?_
      refine lv_iconst (v := (3 : Int32)) hx hb dX10_addUp_29 (by decide) ?_
      refine lv_iadd hx hb dX10_addUp_30 ?_
      refine lv_sipush (v := (600 : Int32)) hx hb dX10_addUp_31 (by decide) ?_
      refine lv_icmp_lt (tgt := 44) hx hb dX10_addUp_34 (by decide) (fun c36 => ?_) (fun c36 => ?_)
      · have hf := jt c36 hf
        refine lv_aload_n hx hb dX10_addUp_44 rfl (lv_at hl 1 rfl) ?_
        refine gt_61 E hM hq30 lk_2_11 dX10_addUp_45 ?_
        obtain ⟨r37, hr38, hf⟩ := jb hf
        rw [hr38]
        show W p l e _ s m args below meth c H locs 0 0 _ (F0 m _ ls (.ref (g.2.2 + r37) :: _))
        refine lv_iload_n hx hb dX10_addUp_48 rfl (lv_at hl 0 rfl) ?_
        obtain ⟨ha39, hf⟩ := jif hf
        refine jaald (k := 19) (t0 := 8) E hM ha39 (by decide) (by decide) rfl dX10_addUp_49 ?_
        obtain ⟨r40, hr41, hf⟩ := jb hf
        rw [hr41]
        show W p l e _ s m args below meth c H locs 0 0 _ (F0 m _ ls (.ref (g.2.2 + r40) :: _))
        refine lv_astore (lv' := [(4, .ref (g.2.2 + r40)), (3, .int x34), (0, .ref (g.2.2 + v0)), (1, .int v1), (2, .int v2)]) hx hb dX10_addUp_50 hl (by decide) rfl (fun ls hl => ?_)
        refine lv_aload_n hx hb dX10_addUp_52 rfl (lv_at hl 2 rfl) ?_
        refine gt_61 E hM hq30 lk_2_11 dX10_addUp_53 ?_
        obtain ⟨r42, hr43, hf⟩ := jb hf
        rw [hr43]
        show W p l e _ s m args below meth c H locs 0 0 _ (F0 m _ ls (.ref (g.2.2 + r42) :: _))
        refine lv_iload_n hx hb dX10_addUp_56 rfl (lv_at hl 1 rfl) ?_
        refine lv_iconst (v := (1 : Int32)) hx hb dX10_addUp_57 (by decide) ?_
        refine lv_iadd hx hb dX10_addUp_58 ?_
        obtain ⟨ha44, hf⟩ := jif hf
        refine jaald (k := 19) (t0 := 8) E hM ha44 (by decide) (by decide) rfl dX10_addUp_59 ?_
        obtain ⟨r45, hr46, hf⟩ := jb hf
        rw [hr46]
        show W p l e _ s m args below meth c H locs 0 0 _ (F0 m _ ls (.ref (g.2.2 + r45) :: _))
        refine lv_astore (lv' := [(5, .ref (g.2.2 + r45)), (4, .ref (g.2.2 + r40)), (3, .int x34), (0, .ref (g.2.2 + v0)), (1, .int v1), (2, .int v2)]) hx hb dX10_addUp_60 hl (by decide) rfl (fun ls hl => ?_)
        refine lv_aload_n hx hb dX10_addUp_62 rfl (lv_at hl 3 rfl) ?_
        refine gt_61 E hM hq30 lk_2_11 dX10_addUp_63 ?_
        obtain ⟨r47, hr48, hf⟩ := jb hf
        rw [hr48]
        show W p l e _ s m args below meth c H locs 0 0 _ (F0 m _ ls (.ref (g.2.2 + r47) :: _))
        refine lv_iload_n hx hb dX10_addUp_66 rfl (lv_at hl 2 rfl) ?_
        refine lv_iconst (v := (2 : Int32)) hx hb dX10_addUp_67 (by decide) ?_
        refine lv_iadd hx hb dX10_addUp_68 ?_
        obtain ⟨ha49, hf⟩ := jif hf
        refine jaald (k := 19) (t0 := 8) E hM ha49 (by decide) (by decide) rfl dX10_addUp_69 ?_
        obtain ⟨r50, hr51, hf⟩ := jb hf
        rw [hr51]
        show W p l e _ s m args below meth c H locs 0 0 _ (F0 m _ ls (.ref (g.2.2 + r50) :: _))
        refine lv_astore (lv' := [(6, .ref (g.2.2 + r50)), (5, .ref (g.2.2 + r45)), (4, .ref (g.2.2 + r40)), (3, .int x34), (0, .ref (g.2.2 + v0)), (1, .int v1), (2, .int v2)]) hx hb dX10_addUp_70 hl (by decide) rfl (fun ls hl => ?_)
        refine lv_iload_n hx hb dX10_addUp_72 rfl (lv_at hl 6 rfl) ?_
        refine lv_iconst (v := (2 : Int32)) hx hb dX10_addUp_73 (by decide) ?_
        refine lv_icmp_ne (tgt := 147) hx hb dX10_addUp_74 (by decide) (fun c52 => ?_) (fun c52 => ?_)
        · have hf := jf c52 hf
          refine lv_bipush (v := (43 : Int32)) hx hb dX10_addUp_147 (by decide) ?_
          refine lv_aload hx hb dX10_addUp_149 (lv_at hl 0 rfl) ?_
          refine lv_aload_n hx hb dX10_addUp_151 rfl (lv_at hl 4 rfl) ?_
          refine gt_61 E hM hq30 lk_2_11 dX10_addUp_152 ?_
          obtain ⟨r53, hr54, hf⟩ := jb hf
          rw [hr54]
          show W p l e _ s m args below meth c H locs 0 0 _ (F0 m _ ls (.ref (g.2.2 + r53) :: _))
          refine lv_iload_n hx hb dX10_addUp_155 rfl (lv_at hl 3 rfl) ?_
          refine lv_iconst (v := (3 : Int32)) hx hb dX10_addUp_156 (by decide) ?_
          refine lv_iadd hx hb dX10_addUp_157 ?_
          obtain ⟨ha55, hf⟩ := jif hf
          refine jaald (k := 19) (t0 := 8) E hM ha55 (by decide) (by decide) rfl dX10_addUp_158 ?_
          obtain ⟨r56, hr57, hf⟩ := jb hf
          rw [hr57]
          show W p l e _ s m args below meth c H locs 0 0 _ (F0 m _ ls (.ref (g.2.2 + r56) :: _))
          obtain ⟨x58, S59, hc60, hf⟩ := jbd_e hf
          refine jbackI hM (jrunS E hM ci_X3_arithmetic (C_X3_arithmetic hc60) lk_4_236 hl.1 rfl rfl (Nat.le_of_ble_eq_true rfl) ⟨Nat.le_of_ble_eq_true rfl, Nat.le_of_ble_eq_true rfl⟩ ⟨Nat.le_refl _, Nat.le_refl _⟩ dX10_addUp_159) (fun H locs hM => ?_)
          refine lv_istore (lv' := [(8, .int x58), (6, .ref (g.2.2 + r50)), (5, .ref (g.2.2 + r45)), (4, .ref (g.2.2 + r40)), (3, .int x34), (0, .ref (g.2.2 + v0)), (1, .int v1), (2, .int v2)]) hx hb dX10_addUp_162 hl (by decide) rfl (fun ls hl => ?_)
          refine lv_iload hx hb dX10_addUp_164 (lv_at hl 0 rfl) ?_
          refine lv_if_eq (tgt := 176) hx hb dX10_addUp_166 (by decide) (fun c61 => ?_) (fun c61 => ?_)
          · have hf := jt c61 hf
            refine lv_aload_n hx hb dX10_addUp_176 rfl (lv_at hl 5 rfl) ?_
            refine gt_63 E hM hq30 lk_2_13 dX10_addUp_177 ?_
            obtain ⟨r62, hr63, hf⟩ := jb hf
            rw [hr63]
            show W p l e _ s m args below meth c H locs 0 0 _ (F0 m _ ls (.ref (g.2.2 + r62) :: _))
            refine lv_iload_n hx hb dX10_addUp_180 rfl (lv_at hl 6 rfl) ?_
            obtain ⟨ha64, hf⟩ := jif hf
            refine jlald E hM ha64 dX10_addUp_181 ?_
            refine lv_aload hx hb dX10_addUp_182 (lv_at hl 2 rfl) ?_
            obtain ⟨hq65, hf⟩ := jif hf
            refine gt_54 E hM hq65 lk_1_61 dX10_addUp_184 ?_
            obtain ⟨r66, hr67, hf⟩ := jb hf
            rw [hr67]
            show W p l e _ s m args below meth c H locs 0 0 _ (F0 m _ ls (.ref (g.2.2 + r66) :: _))
            refine lv_iconst (v := (0 : Int32)) hx hb dX10_addUp_187 (by decide) ?_
            obtain ⟨ha68, hf⟩ := jif hf
            refine jlald E hM ha68 dX10_addUp_188 ?_
            refine jl_ne (tgt := 197) hx hb dX10_addUp_189 dX10_addUp_190 (by decide) (fun c69 => ?_) (fun c69 => ?_)
            · have hf := jf c69 hf
              refine lv_iconst (v := (0 : Int32)) hx hb dX10_addUp_197 (by decide) ?_
              exact B_X10_addUp_198 E  hf hM (lv_sub hl [5, 6, 4, 3, 1] rfl)
            · have hf := jt c69 hf
              refine lv_iconst (v := (1 : Int32)) hx hb dX10_addUp_193 (by decide) ?_
              refine lv_goto (tgt := 198) hx hb dX10_addUp_194 (by decide) ?_
              exact B_X10_addUp_198 E  hf hM (lv_sub hl [5, 6, 4, 3, 1] rfl)
          · have hf := jf c61 hf
            refine lv_aload_n hx hb dX10_addUp_169 rfl (lv_at hl 5 rfl) ?_
            refine lv_iload hx hb dX10_addUp_170 (lv_at hl 0 rfl) ?_
            obtain ⟨S70, hc71, hf⟩ := jb hf
            refine jbackV hM (jrunV E hM ci_X10_fail (C_X10_fail hc71) lk_4_174 hq30 (by decide) rfl hl.1 rfl rfl (Nat.le_of_ble_eq_true rfl) ⟨Nat.le_of_ble_eq_true rfl, Nat.le_of_ble_eq_true rfl⟩ ⟨Nat.le_refl _, Nat.le_refl _⟩ dX10_addUp_172) (fun H locs hM => ?_)
            exact jvret (jrv hf) E hM dX10_addUp_175
        · have hf := jt c52 hf
          refine lv_aload hx hb dX10_addUp_77 (lv_at hl 2 rfl) ?_
          obtain ⟨hq72, hf⟩ := jif hf
          refine gt_52 E hM hq72 lk_1_53 dX10_addUp_79 ?_
          refine lv_if_ne (tgt := 93) hx hb dX10_addUp_82 (by decide) (fun c73 => ?_) (fun c73 => ?_)
          · have hf := jf c73 hf
            exact B_X10_addUp_93 E  hf hM (lv_sub hl [4] rfl)
          · have hf := jt c73 hf
            refine lv_aload hx hb dX10_addUp_85 (lv_at hl 1 rfl) ?_
            obtain ⟨hq74, hf⟩ := jif hf
            refine gt_52 E hM hq74 lk_1_53 dX10_addUp_87 ?_
            refine lv_if_eq (tgt := 99) hx hb dX10_addUp_90 (by decide) (fun c75 => ?_) (fun c75 => ?_)
            · have hf := jt c75 hf
              refine lv_aload hx hb dX10_addUp_99 (lv_at hl 0 rfl) ?_
              refine lv_iconst (v := (0 : Int32)) hx hb dX10_addUp_101 (by decide) ?_
              refine lv_lconst (v := (0 : Int64)) hx hb dX10_addUp_102 (by decide) ?_
              obtain ⟨hq78, hf⟩ := jif hf
              obtain ⟨S76, hc77, hf⟩ := jb hf
              refine jbackV hM (jrunV E hM ci_X9_setNumber (C_X9_setNumber hc77) lk_4_186 hq78 (by decide) rfl hl.1 rfl rfl (Nat.le_of_ble_eq_true rfl) ⟨Nat.le_of_ble_eq_true rfl, Nat.le_of_ble_eq_true rfl⟩ ⟨Nat.le_refl _, Nat.le_refl _⟩ dX10_addUp_103) (fun H locs hM => ?_)
              refine lv_aload_n hx hb dX10_addUp_106 rfl (lv_at hl 4 rfl) ?_
              refine gt_63 E hM hq30 lk_2_13 dX10_addUp_107 ?_
              obtain ⟨r79, hr80, hf⟩ := jb hf
              rw [hr80]
              show W p l e _ s m args below meth c H locs 0 0 _ (F0 m _ ls (.ref (g.2.2 + r79) :: _))
              refine lv_iload_n hx hb dX10_addUp_110 rfl (lv_at hl 5 rfl) ?_
              refine lv_aload hx hb dX10_addUp_111 (lv_at hl 2 rfl) ?_
              refine gt_54 E hM hq72 lk_1_61 dX10_addUp_113 ?_
              obtain ⟨r81, hr82, hf⟩ := jb hf
              rw [hr82]
              show W p l e _ s m args below meth c H locs 0 0 _ (F0 m _ ls (.ref (g.2.2 + r81) :: _))
              refine lv_iconst (v := (0 : Int32)) hx hb dX10_addUp_116 (by decide) ?_
              obtain ⟨ha83, hf⟩ := jif hf
              refine jlald E hM ha83 dX10_addUp_117 ?_
              obtain ⟨ha84, hf⟩ := jif hf
              refine jlast E hM ha84 dX10_addUp_118 (fun H locs S85 eS85 hM => ?_)
              have hf := jlet_y eS85 hf
              refine lv_aload hx hb dX10_addUp_119 (lv_at hl 2 rfl) ?_
              refine gt_54 E hM hq72 lk_1_61 dX10_addUp_121 ?_
              obtain ⟨r86, hr87, hf⟩ := jb hf
              rw [hr87]
              show W p l e _ s m args below meth c H locs 0 0 _ (F0 m _ ls (.ref (g.2.2 + r86) :: _))
              refine lv_iconst (v := (0 : Int32)) hx hb dX10_addUp_124 (by decide) ?_
              obtain ⟨ha88, hf⟩ := jif hf
              refine jlald E hM ha88 dX10_addUp_125 ?_
              refine lv_aload hx hb dX10_addUp_126 (lv_at hl 1 rfl) ?_
              refine gt_54 E hM hq74 lk_1_61 dX10_addUp_128 ?_
              obtain ⟨r89, hr90, hf⟩ := jb hf
              rw [hr90]
              show W p l e _ s m args below meth c H locs 0 0 _ (F0 m _ ls (.ref (g.2.2 + r89) :: _))
              refine lv_iconst (v := (0 : Int32)) hx hb dX10_addUp_131 (by decide) ?_
              obtain ⟨ha91, hf⟩ := jif hf
              refine jlald E hM ha91 dX10_addUp_132 ?_
              refine jl_le (tgt := 141) hx hb dX10_addUp_133 dX10_addUp_134 (by decide) (fun c92 => ?_) (fun c92 => ?_)
              · have hf := jt c92 hf
                refine lv_iconst (v := (0 : Int32)) hx hb dX10_addUp_141 (by decide) ?_
                exact B_X10_addUp_142 E  hf hM (lv_sub hl [4, 5, 3, 2, 0] rfl)
              · have hf := jf c92 hf
                refine lv_iconst (v := (1 : Int32)) hx hb dX10_addUp_137 (by decide) ?_
                refine lv_goto (tgt := 142) hx hb dX10_addUp_138 (by decide) ?_
                exact B_X10_addUp_142 E  hf hM (lv_sub hl [4, 5, 3, 2, 0] rfl)
            · have hf := jf c75 hf
              exact B_X10_addUp_93 E  hf hM (lv_sub hl [4] rfl)
      · have hf := jf c36 hf
        exact B_X10_addUp_37 E  hf hM (lv_sub hl [1] rfl)
  · have hf := jf c29 hf
    refine lv_aload_n hx hb dX10_addUp_5 rfl (lv_at hl 0 rfl) ?_
    refine lv_iload_n hx hb dX10_addUp_6 rfl (lv_at hl 1 rfl) ?_
    refine lv_iload_n hx hb dX10_addUp_7 rfl (lv_at hl 2 rfl) ?_
    obtain ⟨hq95, hf⟩ := jif hf
    obtain ⟨S93, hc94, hf⟩ := jb hf
    refine jbackV hM (jrunV E hM ci_X10_enterInner (C_X10_enterInner hc94) lk_4_220 hq95 (by decide) rfl hl.1 rfl rfl (Nat.le_of_ble_eq_true rfl) ⟨Nat.le_of_ble_eq_true rfl, Nat.le_of_ble_eq_true rfl⟩ ⟨Nat.le_refl _, Nat.le_refl _⟩ dX10_addUp_8) (fun H locs hM => ?_)
    exact jvret (jrv hf) E hM dX10_addUp_11
set_option maxRecDepth 100000 in
theorem C_X10_addUp {l : Launch} {g : jG} {a0 : Nat} {a1 : Int32} {a2 : Int32} {S : jM} {SS : jM} (hf : f_X10_addUp a0 a1 a2 S = some SS) : jMet l g yX10_addUp cX10_addUp 9 none 4 0 0 [.ref (g.2.2 + a0), .int a1, .int a2] S (jQv g SS) := by
  refine jof (by decide +kernel) (Nat.le_of_ble_eq_true rfl) ?_
  intro p e s m below meth c E hM ls hl
  have hl : lv_has ls 9 [(0, .ref (g.2.2 + a0)),(1, .int a1),(2, .int a2)] := hl
  exact B_X10_addUp_0 E hf hM hl
-- PensionHouse$Worker.arityOf(I)I  mode T
noncomputable def f_X10_arityOf (v0 : Int32) : Int32 := if v0 < (128 : Int32) then if v0 = (5 : Int32) then (1 : Int32) else (2 : Int32) else f_X7_arity v0
set_option maxRecDepth 100000 in
set_option maxHeartbeats 4000000 in
theorem B_X10_arityOf_0 {p : Program} {l : Launch} {e : Env} {s : State} {m : MethodId} {args : Array Value} {below : List Frame} {meth : Method} {c : Code} {g : jG} {rr : Int32} {S : jM} {v0 : Int32} (E : jEnv p s m args meth c cX10_arityOf "PensionHouse$Worker" (some .int) 1 g)  {H : Heap} {locs : List Loc} {ls : Array Slot} (hf : f_X10_arityOf v0 = rr) (hM : jAt g S s H locs) (hl : lv_has ls 1 [(0, .int v0)]) : W p l e (jRm 2 0 0) s m args below meth c H locs 0 0 (MQ below (jQi g rr S) args s 0 0 (jA0 g)) (F0 m 0 ls []) := by
  obtain ⟨hx, hb, hml, -, hts, hown, hK, -, hstr⟩ := id E
  unfold f_X10_arityOf at hf
  refine lv_iload_n hx hb dX10_arityOf_0 rfl (lv_at hl 0 rfl) ?_
  refine lv_sipush (v := (128 : Int32)) hx hb dX10_arityOf_1 (by decide) ?_
  refine lv_icmp_lt (tgt := 12) hx hb dX10_arityOf_4 (by decide) (fun c1 => ?_) (fun c1 => ?_)
  · have hf := jt c1 hf
    refine lv_iload_n hx hb dX10_arityOf_12 rfl (lv_at hl 0 rfl) ?_
    refine lv_iconst (v := (5 : Int32)) hx hb dX10_arityOf_13 (by decide) ?_
    refine lv_icmp_ne (tgt := 21) hx hb dX10_arityOf_14 (by decide) (fun c2 => ?_) (fun c2 => ?_)
    · have hf := jf c2 hf
      refine lv_iconst (v := (2 : Int32)) hx hb dX10_arityOf_21 (by decide) ?_
      exact jireti (jr0 hf) E hM dX10_arityOf_22
    · have hf := jt c2 hf
      refine lv_iconst (v := (1 : Int32)) hx hb dX10_arityOf_17 (by decide) ?_
      refine lv_goto (tgt := 22) hx hb dX10_arityOf_18 (by decide) ?_
      exact jireti (jr0 hf) E hM dX10_arityOf_22
  · have hf := jf c1 hf
    refine lv_iload_n hx hb dX10_arityOf_7 rfl (lv_at hl 0 rfl) ?_
    refine jbackI hM (jrunS E hM ci_X7_arity (C_X7_arity rfl) lk_5_26 hl.1 rfl rfl (Nat.le_of_ble_eq_true rfl) ⟨Nat.le_of_ble_eq_true rfl, Nat.le_of_ble_eq_true rfl⟩ ⟨Nat.le_refl _, Nat.le_refl _⟩ dX10_arityOf_8) (fun H locs hM => ?_)
    exact jireti (jr0 hf) E hM dX10_arityOf_11
set_option maxRecDepth 100000 in
theorem C_X10_arityOf {l : Launch} {g : jG} {a0 : Int32} {S : jM} {rr : Int32} (hf : f_X10_arityOf a0 = rr) : jMet l g yX10_arityOf cX10_arityOf 1 (some .int) 2 0 0 [.int a0] S (jQi g rr S) := by
  refine jof (by decide +kernel) (Nat.le_of_ble_eq_true rfl) ?_
  intro p e s m below meth c E hM ls hl
  have hl : lv_has ls 1 [(0, .int a0)] := hl
  exact B_X10_arityOf_0 E hf hM hl
-- PensionHouse$Worker.pushed()LPensionHouse$Value;  mode M
noncomputable def f_X10_pushed_31 (t0 : Nat) (t1 : Int32) (S : jM) : Option (Option Nat × jM) := if jA t0 19 t1 = true then (jAR S t0 (t1).toNatClampNeg).bind (fun r2 => some (some r2, S)) else none
noncomputable def f_X10_pushed (v0 : Nat) (S : jM) : Option (Option Nat × jM) := if jK v0 = 8 then (jR S 61 v0).bind (fun r5 => if (600 : Int32) ≤ (jI S 62 v0) then f_X10_pushed_31 r5 (599 : Int32) S else jlet (jI S 62 v0) (fun x8 => jlet (jsI S 62 v0 (x8 + (1 : Int32))) (fun S9 => f_X10_pushed_31 r5 x8 S9))) else none
set_option maxRecDepth 100000 in
set_option maxHeartbeats 4000000 in
theorem B_X10_pushed_31 {p : Program} {l : Launch} {e : Env} {s : State} {m : MethodId} {args : Array Value} {below : List Frame} {meth : Method} {c : Code} {g : jG} {rr : Option Nat} {SS : jM} {t0 : Nat} {t1 : Int32} {S : jM} (E : jEnv p s m args meth c cX10_pushed "PensionHouse$Worker" (some (.object "PensionHouse$Value")) 1 g)  {H : Heap} {locs : List Loc} {ls : Array Slot} (hf : f_X10_pushed_31 t0 t1 S = some (rr, SS)) (hM : jAt g S s H locs) (hl : lv_has ls 1 []) : W p l e (jRm 1 0 0) s m args below meth c H locs 0 0 (MQ below (jQq g rr SS) args s 0 0 (jA0 g)) (F0 m 31 ls [.int t1, .ref (g.2.2 + t0)]) := by
  obtain ⟨hx, hb, hml, -, hts, hown, hK, -, hstr⟩ := id E
  unfold f_X10_pushed_31 at hf
  obtain ⟨ha1, hf⟩ := jif hf
  refine jaald (k := 19) (t0 := 8) E hM ha1 (by decide) (by decide) rfl dX10_pushed_31 ?_
  obtain ⟨r2, hr3, hf⟩ := jb hf
  rw [hr3]
  show W p l e _ s m args below meth c H locs 0 0 _ (F0 m _ ls (.ref (g.2.2 + r2) :: _))
  exact jaret (jr2 hf) E hM dX10_pushed_32
set_option maxRecDepth 100000 in
set_option maxHeartbeats 4000000 in
theorem B_X10_pushed_0 {p : Program} {l : Launch} {e : Env} {s : State} {m : MethodId} {args : Array Value} {below : List Frame} {meth : Method} {c : Code} {g : jG} {rr : Option Nat} {SS : jM} {v0 : Nat} {S : jM} (E : jEnv p s m args meth c cX10_pushed "PensionHouse$Worker" (some (.object "PensionHouse$Value")) 1 g)  {H : Heap} {locs : List Loc} {ls : Array Slot} (hf : f_X10_pushed v0 S = some (rr, SS)) (hM : jAt g S s H locs) (hl : lv_has ls 1 [(0, .ref (g.2.2 + v0))]) : W p l e (jRm 1 0 0) s m args below meth c H locs 0 0 (MQ below (jQq g rr SS) args s 0 0 (jA0 g)) (F0 m 0 ls []) := by
  obtain ⟨hx, hb, hml, -, hts, hown, hK, -, hstr⟩ := id E
  unfold f_X10_pushed at hf
  refine lv_aload_n hx hb dX10_pushed_0 rfl (lv_at hl 0 rfl) ?_
  obtain ⟨hq4, hf⟩ := jif hf
  refine gt_61 E hM hq4 lk_2_11 dX10_pushed_1 ?_
  obtain ⟨r5, hr6, hf⟩ := jb hf
  rw [hr6]
  show W p l e _ s m args below meth c H locs 0 0 _ (F0 m _ ls (.ref (g.2.2 + r5) :: _))
  refine lv_aload_n hx hb dX10_pushed_4 rfl (lv_at hl 0 rfl) ?_
  refine gt_62 E hM hq4 lk_2_12 dX10_pushed_5 ?_
  refine lv_sipush (v := (600 : Int32)) hx hb dX10_pushed_8 (by decide) ?_
  refine lv_icmp_ge (tgt := 28) hx hb dX10_pushed_11 (by decide) (fun c7 => ?_) (fun c7 => ?_)
  · have hf := jt c7 hf
    refine lv_sipush (v := (599 : Int32)) hx hb dX10_pushed_28 (by decide) ?_
    exact B_X10_pushed_31 E  hf hM (lv_sub hl [] rfl)
  · have hf := jf c7 hf
    refine lv_aload_n hx hb dX10_pushed_14 rfl (lv_at hl 0 rfl) ?_
    refine lv_dup hx hb dX10_pushed_15 rfl ?_
    refine gt_62 E hM hq4 lk_2_12 dX10_pushed_16 ?_
    refine lv_topi (fun x8 ex8 => ?_)
    have hf := jlet_y ex8 hf
    refine lv_dup_x1 hx hb dX10_pushed_19 rfl rfl ?_
    refine lv_iconst (v := (1 : Int32)) hx hb dX10_pushed_20 (by decide) ?_
    refine lv_iadd hx hb dX10_pushed_21 ?_
    refine pt_62 E hM hq4 lk_2_12 dX10_pushed_22 (fun H locs S9 eS9 hM => ?_)
    have hf := jlet_y eS9 hf
    refine lv_goto (tgt := 31) hx hb dX10_pushed_25 (by decide) ?_
    exact B_X10_pushed_31 E  hf hM (lv_sub hl [] rfl)
set_option maxRecDepth 100000 in
theorem C_X10_pushed {l : Launch} {g : jG} {a0 : Nat} {S : jM} {rr : Option Nat} {SS : jM} (hf : f_X10_pushed a0 S = some (rr, SS)) : jMet l g yX10_pushed cX10_pushed 1 (some (.object "PensionHouse$Value")) 1 0 0 [.ref (g.2.2 + a0)] S (jQq g rr SS) := by
  refine jof (by decide +kernel) (Nat.le_of_ble_eq_true rfl) ?_
  intro p e s m below meth c E hM ls hl
  have hl : lv_has ls 1 [(0, .ref (g.2.2 + a0))] := hl
  exact B_X10_pushed_0 E hf hM hl
-- PensionHouse$Worker.askFact(J)V  mode M
noncomputable def f_X10_askFact_45 (v0 : Nat) (S : jM) : Option jM := if jK v0 = 8 then (f_X10_fail v0 (1 : Int32) S).bind (fun S1 => some S1) else none
noncomputable def f_X10_askFact (v0 : Nat) (v1 : Int64) (S : jM) : Option jM := if jK v0 = 8 then (jR S 64 v0).bind (fun r5 => if jK r5 = 1 then jlet (jsI S 10 r5 ((jI S 10 r5) + (1 : Int32))) (fun S8 => (jR S8 55 v0).bind (fun r9 => if jK r9 = 4 then (f_X6_latest r9 (jI S8 66 v0) v1 (jI S8 67 v0) (jI S8 68 v0) S8).bind (fun x11 => if x11 < 0 then f_X10_askFact_45 v0 S8 else if x11 < (200 : Int32) then jbd (f_X10_pushed v0 S8) (fun x16 S17 => (x16).bind (fun r19 => (jR S17 55 v0).bind (fun r21 => if jK r21 = 4 then (jR S17 35 r21).bind (fun r24 => if jA r24 17 x11 = true then (jAR S17 r24 (x11).toNatClampNeg).bind (fun r27 => if jK r27 = 2 then (jR S17 23 r27).bind (fun r30 => if jK r19 = 7 then (f_X9_setTo r19 r30 S17).bind (fun S32 => (f_X10_leave v0 S32).bind (fun S35 => some S35)) else none) else none) else none) else none))) else f_X10_askFact_45 v0 S8) else none)) else none) else none
set_option maxRecDepth 100000 in
set_option maxHeartbeats 4000000 in
theorem B_X10_askFact_45 {p : Program} {l : Launch} {e : Env} {s : State} {m : MethodId} {args : Array Value} {below : List Frame} {meth : Method} {c : Code} {g : jG} {SS : jM} {v0 : Nat} {S : jM} (E : jEnv p s m args meth c cX10_askFact "PensionHouse$Worker" none 4 g)  {H : Heap} {locs : List Loc} {ls : Array Slot} (hf : f_X10_askFact_45 v0 S = some SS) (hM : jAt g S s H locs) (hl : lv_has ls 4 [(0, .ref (g.2.2 + v0))]) : W p l e (jRm 3 0 0) s m args below meth c H locs 0 0 (MQ below (jQv g SS) args s 0 0 (jA0 g)) (F0 m 45 ls []) := by
  obtain ⟨hx, hb, hml, -, hts, hown, hK, -, hstr⟩ := id E
  unfold f_X10_askFact_45 at hf
  refine lv_aload_n hx hb dX10_askFact_45 rfl (lv_at hl 0 rfl) ?_
  refine lv_iconst (v := (1 : Int32)) hx hb dX10_askFact_46 (by decide) ?_
  obtain ⟨hq3, hf⟩ := jif hf
  obtain ⟨S1, hc2, hf⟩ := jb hf
  refine jbackV hM (jrunV E hM ci_X10_fail (C_X10_fail hc2) lk_4_174 hq3 (by decide) rfl hl.1 rfl rfl (Nat.le_of_ble_eq_true rfl) ⟨Nat.le_of_ble_eq_true rfl, Nat.le_of_ble_eq_true rfl⟩ ⟨Nat.le_refl _, Nat.le_refl _⟩ dX10_askFact_47) (fun H locs hM => ?_)
  exact jvret (jrv hf) E hM dX10_askFact_50
set_option maxRecDepth 100000 in
set_option maxHeartbeats 4000000 in
theorem B_X10_askFact_0 {p : Program} {l : Launch} {e : Env} {s : State} {m : MethodId} {args : Array Value} {below : List Frame} {meth : Method} {c : Code} {g : jG} {SS : jM} {v0 : Nat} {v1 : Int64} {S : jM} (E : jEnv p s m args meth c cX10_askFact "PensionHouse$Worker" none 4 g)  {H : Heap} {locs : List Loc} {ls : Array Slot} (hf : f_X10_askFact v0 v1 S = some SS) (hM : jAt g S s H locs) (hl : lv_has ls 4 [(0, .ref (g.2.2 + v0)), (1, .long v1)]) : W p l e (jRm 3 0 0) s m args below meth c H locs 0 0 (MQ below (jQv g SS) args s 0 0 (jA0 g)) (F0 m 0 ls []) := by
  obtain ⟨hx, hb, hml, -, hts, hown, hK, -, hstr⟩ := id E
  unfold f_X10_askFact at hf
  refine lv_aload_n hx hb dX10_askFact_0 rfl (lv_at hl 0 rfl) ?_
  obtain ⟨hq4, hf⟩ := jif hf
  refine gt_64 E hM hq4 lk_2_14 dX10_askFact_1 ?_
  obtain ⟨r5, hr6, hf⟩ := jb hf
  rw [hr6]
  show W p l e _ s m args below meth c H locs 0 0 _ (F0 m _ ls (.ref (g.2.2 + r5) :: _))
  refine lv_dup hx hb dX10_askFact_4 rfl ?_
  obtain ⟨hq7, hf⟩ := jif hf
  refine gt_10 E hM hq7 lk_2_69 dX10_askFact_5 ?_
  refine lv_iconst (v := (1 : Int32)) hx hb dX10_askFact_8 (by decide) ?_
  refine lv_iadd hx hb dX10_askFact_9 ?_
  refine pt_10 E hM hq7 lk_2_69 dX10_askFact_10 (fun H locs S8 eS8 hM => ?_)
  have hf := jlet_y eS8 hf
  refine lv_aload_n hx hb dX10_askFact_13 rfl (lv_at hl 0 rfl) ?_
  refine gt_55 E hM hq4 lk_2_5 dX10_askFact_14 ?_
  obtain ⟨r9, hr10, hf⟩ := jb hf
  rw [hr10]
  show W p l e _ s m args below meth c H locs 0 0 _ (F0 m _ ls (.ref (g.2.2 + r9) :: _))
  refine lv_aload_n hx hb dX10_askFact_17 rfl (lv_at hl 0 rfl) ?_
  refine gt_66 E hM hq4 lk_2_16 dX10_askFact_18 ?_
  refine lv_lload_n hx hb dX10_askFact_21 rfl (lv_at hl 1 rfl) ?_
  refine lv_aload_n hx hb dX10_askFact_22 rfl (lv_at hl 0 rfl) ?_
  refine gt_67 E hM hq4 lk_2_17 dX10_askFact_23 ?_
  refine lv_aload_n hx hb dX10_askFact_26 rfl (lv_at hl 0 rfl) ?_
  refine gt_68 E hM hq4 lk_2_18 dX10_askFact_27 ?_
  obtain ⟨hq13, hf⟩ := jif hf
  obtain ⟨x11, hc12, hf⟩ := jb hf
  refine jbackI hM (jrunV E hM ci_X6_latest (C_X6_latest hc12) lk_4_199 hq13 (by decide) rfl hl.1 rfl rfl (Nat.le_of_ble_eq_true rfl) ⟨Nat.le_of_ble_eq_true rfl, Nat.le_of_ble_eq_true rfl⟩ ⟨Nat.le_refl _, Nat.le_refl _⟩ dX10_askFact_30) (fun H locs hM => ?_)
  refine lv_istore_n (lv' := [(3, .int x11), (0, .ref (g.2.2 + v0)), (1, .long v1)]) hx hb dX10_askFact_33 rfl hl (by decide) rfl (fun ls hl => ?_)
  refine lv_iload_n hx hb dX10_askFact_34 rfl (lv_at hl 0 rfl) ?_
  refine lv_if_lt (tgt := 45) hx hb dX10_askFact_35 (by decide) (fun c14 => ?_) (fun c14 => ?_)
  · have hf := jt c14 hf
    exact B_X10_askFact_45 E  hf hM (lv_sub hl [1] rfl)
  · have hf := jf c14 hf
    refine lv_iload_n hx hb dX10_askFact_38 rfl (lv_at hl 0 rfl) ?_
    refine lv_sipush (v := (200 : Int32)) hx hb dX10_askFact_39 (by decide) ?_
    refine lv_icmp_lt (tgt := 51) hx hb dX10_askFact_42 (by decide) (fun c15 => ?_) (fun c15 => ?_)
    · have hf := jt c15 hf
      refine lv_aload_n hx hb dX10_askFact_51 rfl (lv_at hl 1 rfl) ?_
      obtain ⟨x16, S17, hc18, hf⟩ := jbd_e hf
      refine jbackQ hM (jrunV E hM ci_X10_pushed (C_X10_pushed hc18) lk_4_182 hq4 (by decide) rfl hl.1 rfl rfl (Nat.le_of_ble_eq_true rfl) ⟨Nat.le_of_ble_eq_true rfl, Nat.le_of_ble_eq_true rfl⟩ ⟨Nat.le_refl _, Nat.le_refl _⟩ dX10_askFact_52) (fun H locs hM => ?_)
      obtain ⟨r19, hr20, hf⟩ := jb hf
      rw [hr20]
      show W p l e _ s m args below meth c H locs 0 0 _ (F0 m _ ls (.ref (g.2.2 + r19) :: _))
      refine lv_aload_n hx hb dX10_askFact_55 rfl (lv_at hl 1 rfl) ?_
      refine gt_55 E hM hq4 lk_2_5 dX10_askFact_56 ?_
      obtain ⟨r21, hr22, hf⟩ := jb hf
      rw [hr22]
      show W p l e _ s m args below meth c H locs 0 0 _ (F0 m _ ls (.ref (g.2.2 + r21) :: _))
      obtain ⟨hq23, hf⟩ := jif hf
      refine gt_35 E hM hq23 lk_1_111 dX10_askFact_59 ?_
      obtain ⟨r24, hr25, hf⟩ := jb hf
      rw [hr25]
      show W p l e _ s m args below meth c H locs 0 0 _ (F0 m _ ls (.ref (g.2.2 + r24) :: _))
      refine lv_iload_n hx hb dX10_askFact_62 rfl (lv_at hl 0 rfl) ?_
      obtain ⟨ha26, hf⟩ := jif hf
      refine jaald (k := 17) (t0 := 6) E hM ha26 (by decide) (by decide) rfl dX10_askFact_63 ?_
      obtain ⟨r27, hr28, hf⟩ := jb hf
      rw [hr28]
      show W p l e _ s m args below meth c H locs 0 0 _ (F0 m _ ls (.ref (g.2.2 + r27) :: _))
      obtain ⟨hq29, hf⟩ := jif hf
      refine gt_23 E hM hq29 lk_1_86 dX10_askFact_64 ?_
      obtain ⟨r30, hr31, hf⟩ := jb hf
      rw [hr31]
      show W p l e _ s m args below meth c H locs 0 0 _ (F0 m _ ls (.ref (g.2.2 + r30) :: _))
      obtain ⟨hq34, hf⟩ := jif hf
      obtain ⟨S32, hc33, hf⟩ := jb hf
      refine jbackV hM (jrunV E hM ci_X9_setTo (C_X9_setTo hc33) lk_4_200 hq34 (by decide) rfl hl.1 rfl rfl (Nat.le_of_ble_eq_true rfl) ⟨Nat.le_of_ble_eq_true rfl, Nat.le_of_ble_eq_true rfl⟩ ⟨Nat.le_refl _, Nat.le_refl _⟩ dX10_askFact_67) (fun H locs hM => ?_)
      refine lv_aload_n hx hb dX10_askFact_70 rfl (lv_at hl 1 rfl) ?_
      obtain ⟨S35, hc36, hf⟩ := jb hf
      refine jbackV hM (jrunV E hM ci_X10_leave (C_X10_leave hc36) lk_4_187 hq4 (by decide) rfl hl.1 rfl rfl (Nat.le_of_ble_eq_true rfl) ⟨Nat.le_of_ble_eq_true rfl, Nat.le_of_ble_eq_true rfl⟩ ⟨Nat.le_refl _, Nat.le_refl _⟩ dX10_askFact_71) (fun H locs hM => ?_)
      exact jvret (jrv hf) E hM dX10_askFact_74
    · have hf := jf c15 hf
      exact B_X10_askFact_45 E  hf hM (lv_sub hl [1] rfl)
set_option maxRecDepth 100000 in
theorem C_X10_askFact {l : Launch} {g : jG} {a0 : Nat} {a1 : Int64} {S : jM} {SS : jM} (hf : f_X10_askFact a0 a1 S = some SS) : jMet l g yX10_askFact cX10_askFact 4 none 3 0 0 [.ref (g.2.2 + a0), .long a1] S (jQv g SS) := by
  refine jof (by decide +kernel) (Nat.le_of_ble_eq_true rfl) ?_
  intro p e s m below meth c E hM ls hl
  have hl : lv_has ls 4 [(0, .ref (g.2.2 + a0)),(1, .long a1)] := hl
  exact B_X10_askFact_0 E hf hM hl
-- PensionHouse$Worker.attempt(II)V  mode M
noncomputable def f_X10_attempt (v0 : Nat) (v1 : Int32) (v2 : Int32) (S : jM) : Option jM := if v2 = 0 then if jK v0 = 8 then (f_X10_enterInner v0 v1 (0 : Int32) S).bind (fun S5 => some S5) else none else if jK v0 = 8 then (f_X10_leave v0 S).bind (fun S2 => some S2) else none
set_option maxRecDepth 100000 in
set_option maxHeartbeats 4000000 in
theorem B_X10_attempt_0 {p : Program} {l : Launch} {e : Env} {s : State} {m : MethodId} {args : Array Value} {below : List Frame} {meth : Method} {c : Code} {g : jG} {SS : jM} {v0 : Nat} {v1 : Int32} {v2 : Int32} {S : jM} (E : jEnv p s m args meth c cX10_attempt "PensionHouse$Worker" none 3 g)  {H : Heap} {locs : List Loc} {ls : Array Slot} (hf : f_X10_attempt v0 v1 v2 S = some SS) (hM : jAt g S s H locs) (hl : lv_has ls 3 [(0, .ref (g.2.2 + v0)), (1, .int v1), (2, .int v2)]) : W p l e (jRm 3 0 0) s m args below meth c H locs 0 0 (MQ below (jQv g SS) args s 0 0 (jA0 g)) (F0 m 0 ls []) := by
  obtain ⟨hx, hb, hml, -, hts, hown, hK, -, hstr⟩ := id E
  unfold f_X10_attempt at hf
  refine lv_iload_n hx hb dX10_attempt_0 rfl (lv_at hl 2 rfl) ?_
  refine lv_if_ne (tgt := 13) hx hb dX10_attempt_1 (by decide) (fun c1 => ?_) (fun c1 => ?_)
  · have hf := jf c1 hf
    refine lv_aload_n hx hb dX10_attempt_13 rfl (lv_at hl 0 rfl) ?_
    obtain ⟨hq4, hf⟩ := jif hf
    obtain ⟨S2, hc3, hf⟩ := jb hf
    refine jbackV hM (jrunV E hM ci_X10_leave (C_X10_leave hc3) lk_4_187 hq4 (by decide) rfl hl.1 rfl rfl (Nat.le_of_ble_eq_true rfl) ⟨Nat.le_of_ble_eq_true rfl, Nat.le_of_ble_eq_true rfl⟩ ⟨Nat.le_refl _, Nat.le_refl _⟩ dX10_attempt_14) (fun H locs hM => ?_)
    exact jvret (jrv hf) E hM dX10_attempt_17
  · have hf := jt c1 hf
    refine lv_aload_n hx hb dX10_attempt_4 rfl (lv_at hl 0 rfl) ?_
    refine lv_iload_n hx hb dX10_attempt_5 rfl (lv_at hl 1 rfl) ?_
    refine lv_iconst (v := (0 : Int32)) hx hb dX10_attempt_6 (by decide) ?_
    obtain ⟨hq7, hf⟩ := jif hf
    obtain ⟨S5, hc6, hf⟩ := jb hf
    refine jbackV hM (jrunV E hM ci_X10_enterInner (C_X10_enterInner hc6) lk_4_220 hq7 (by decide) rfl hl.1 rfl rfl (Nat.le_of_ble_eq_true rfl) ⟨Nat.le_of_ble_eq_true rfl, Nat.le_of_ble_eq_true rfl⟩ ⟨Nat.le_refl _, Nat.le_refl _⟩ dX10_attempt_7) (fun H locs hM => ?_)
    refine lv_goto (tgt := 17) hx hb dX10_attempt_10 (by decide) ?_
    exact jvret (jrv hf) E hM dX10_attempt_17
set_option maxRecDepth 100000 in
theorem C_X10_attempt {l : Launch} {g : jG} {a0 : Nat} {a1 : Int32} {a2 : Int32} {S : jM} {SS : jM} (hf : f_X10_attempt a0 a1 a2 S = some SS) : jMet l g yX10_attempt cX10_attempt 3 none 3 0 0 [.ref (g.2.2 + a0), .int a1, .int a2] S (jQv g SS) := by
  refine jof (by decide +kernel) (Nat.le_of_ble_eq_true rfl) ?_
  intro p e s m below meth c E hM ls hl
  have hl : lv_has ls 3 [(0, .ref (g.2.2 + a0)),(1, .int a1),(2, .int a2)] := hl
  exact B_X10_attempt_0 E hf hM hl
-- PensionHouse$Worker.counterOf(J)J  mode R
noncomputable def f_X10_counterOf (v0 : Nat) (v1 : Int64) (S : jM) : Option Int64 := if v1 < (0 : Int64) then some (0 : Int64) else if jK v0 = 8 then (jR S 63 v0).bind (fun r3 => if jK r3 = 14 then if ((Int32.ofNat (jLen r3)).toInt64) ≤ v1 then some (0 : Int64) else (jR S 63 v0).bind (fun r7 => if jA r7 14 (v1.toInt32) = true then some (jAL S r7 (v1.toInt32).toNatClampNeg) else none) else none) else none
set_option maxRecDepth 100000 in
set_option maxHeartbeats 4000000 in
theorem B_X10_counterOf_0 {p : Program} {l : Launch} {e : Env} {s : State} {m : MethodId} {args : Array Value} {below : List Frame} {meth : Method} {c : Code} {g : jG} {rr : Int64} {S : jM} {v0 : Nat} {v1 : Int64} (E : jEnv p s m args meth c cX10_counterOf "PensionHouse$Worker" (some .long) 3 g)  {H : Heap} {locs : List Loc} {ls : Array Slot} (hf : f_X10_counterOf v0 v1 S = some rr) (hM : jAt g S s H locs) (hl : lv_has ls 3 [(0, .ref (g.2.2 + v0)), (1, .long v1)]) : W p l e (jRm 1 0 0) s m args below meth c H locs 0 0 (MQ below (jQl g rr S) args s 0 0 (jA0 g)) (F0 m 0 ls []) := by
  obtain ⟨hx, hb, hml, -, hts, hown, hK, -, hstr⟩ := id E
  unfold f_X10_counterOf at hf
  refine lv_lload_n hx hb dX10_counterOf_0 rfl (lv_at hl 1 rfl) ?_
  refine lv_lconst (v := (0 : Int64)) hx hb dX10_counterOf_1 (by decide) ?_
  refine jl_lt (tgt := 27) hx hb dX10_counterOf_2 dX10_counterOf_3 (by decide) (fun c1 => ?_) (fun c1 => ?_)
  · have hf := jt c1 hf
    refine lv_lconst (v := (0 : Int64)) hx hb dX10_counterOf_27 (by decide) ?_
    exact jlret (jr1 hf) E hM dX10_counterOf_28
  · have hf := jf c1 hf
    refine lv_lload_n hx hb dX10_counterOf_6 rfl (lv_at hl 1 rfl) ?_
    refine lv_aload_n hx hb dX10_counterOf_7 rfl (lv_at hl 0 rfl) ?_
    obtain ⟨hq2, hf⟩ := jif hf
    refine gt_63 E hM hq2 lk_2_13 dX10_counterOf_8 ?_
    obtain ⟨r3, hr4, hf⟩ := jb hf
    rw [hr4]
    show W p l e _ s m args below meth c H locs 0 0 _ (F0 m _ ls (.ref (g.2.2 + r3) :: _))
    obtain ⟨hq5, hf⟩ := jif hf
    refine jalen (t0 := 3) E hM hq5 (by decide) (by decide) rfl dX10_counterOf_11 ?_
    refine lv_i2l hx hb dX10_counterOf_12 rfl ?_
    refine jl_ge (tgt := 27) hx hb dX10_counterOf_13 dX10_counterOf_14 (by decide) (fun c6 => ?_) (fun c6 => ?_)
    · have hf := jt c6 hf
      refine lv_lconst (v := (0 : Int64)) hx hb dX10_counterOf_27 (by decide) ?_
      exact jlret (jr1 hf) E hM dX10_counterOf_28
    · have hf := jf c6 hf
      refine lv_aload_n hx hb dX10_counterOf_17 rfl (lv_at hl 0 rfl) ?_
      refine gt_63 E hM hq2 lk_2_13 dX10_counterOf_18 ?_
      obtain ⟨r7, hr8, hf⟩ := jb hf
      rw [hr8]
      show W p l e _ s m args below meth c H locs 0 0 _ (F0 m _ ls (.ref (g.2.2 + r7) :: _))
      refine lv_lload_n hx hb dX10_counterOf_21 rfl (lv_at hl 1 rfl) ?_
      refine lv_l2i hx hb dX10_counterOf_22 rfl ?_
      obtain ⟨ha9, hf⟩ := jif hf
      refine jlald E hM ha9 dX10_counterOf_23 ?_
      refine lv_goto (tgt := 28) hx hb dX10_counterOf_24 (by decide) ?_
      exact jlret (jr1 hf) E hM dX10_counterOf_28
set_option maxRecDepth 100000 in
theorem C_X10_counterOf {l : Launch} {g : jG} {a0 : Nat} {a1 : Int64} {S : jM} {rr : Int64} (hf : f_X10_counterOf a0 a1 S = some rr) : jMet l g yX10_counterOf cX10_counterOf 3 (some .long) 1 0 0 [.ref (g.2.2 + a0), .long a1] S (jQl g rr S) := by
  refine jof (by decide +kernel) (Nat.le_of_ble_eq_true rfl) ?_
  intro p e s m below meth c E hM ls hl
  have hl : lv_has ls 3 [(0, .ref (g.2.2 + a0)),(1, .long a1)] := hl
  exact B_X10_counterOf_0 E hf hM hl
-- PensionHouse$Worker.decide(II)V  mode M
noncomputable def f_X10_decide_105 (t0 : Nat) (t1 : Int32) (t2 : Int32) (S : jM) : Option jM := if jK t0 = 8 then (f_X10_enterInner t0 t1 t2 S).bind (fun S1 => some S1) else none
noncomputable def f_X10_decide_23 (v0 : Nat) (S : jM) : Option jM := if jK v0 = 8 then (f_X10_fail v0 (7 : Int32) S).bind (fun S4 => some S4) else none
noncomputable def f_X10_decide (v0 : Nat) (v1 : Int32) (v2 : Int32) (S : jM) : Option jM := if jK v0 = 8 then (jR S 58 v0).bind (fun r8 => if jA r8 13 ((jI S 60 v0) - (1 : Int32)) = true then jlet (jAI S r8 ((jI S 60 v0) - (1 : Int32)).toNatClampNeg) (fun x11 => if x11 < 0 then f_X10_decide_23 v0 S else if x11 < (600 : Int32) then if v2 = 0 then (f_X10_enterInner v0 v1 (0 : Int32) S).bind (fun S38 => some S38) else if v2 ≤ (1 : Int32) then (jR S 61 v0).bind (fun r16 => if jA r16 19 x11 = true then (jAR S r16 (x11).toNatClampNeg).bind (fun r19 => if jK r19 = 7 then if (jI S 52 r19) = 0 then jlet (jsI S 62 v0 x11) (fun S23 => (jR S23 61 v0).bind (fun r24 => if jA r24 19 x11 = true then (jAR S23 r24 (x11).toNatClampNeg).bind (fun r27 => if jK r27 = 7 then (jR S23 54 r27).bind (fun r30 => if jA r30 14 (0 : Int32) = true then if (jAL S23 r30 ((0 : Int32)).toNatClampNeg) = (0 : Int64) then f_X10_decide_105 v0 v1 (2 : Int32) S23 else f_X10_decide_105 v0 v1 (1 : Int32) S23 else none) else none) else none)) else (f_X10_fail v0 (2 : Int32) S).bind (fun S34 => some S34) else none) else none) else (f_X10_leave v0 S).bind (fun S36 => some S36) else f_X10_decide_23 v0 S) else none) else none
set_option maxRecDepth 100000 in
set_option maxHeartbeats 4000000 in
theorem B_X10_decide_105 {p : Program} {l : Launch} {e : Env} {s : State} {m : MethodId} {args : Array Value} {below : List Frame} {meth : Method} {c : Code} {g : jG} {SS : jM} {t0 : Nat} {t1 : Int32} {t2 : Int32} {S : jM} (E : jEnv p s m args meth c cX10_decide "PensionHouse$Worker" none 4 g)  {H : Heap} {locs : List Loc} {ls : Array Slot} (hf : f_X10_decide_105 t0 t1 t2 S = some SS) (hM : jAt g S s H locs) (hl : lv_has ls 4 []) : W p l e (jRm 3 0 0) s m args below meth c H locs 0 0 (MQ below (jQv g SS) args s 0 0 (jA0 g)) (F0 m 105 ls [.int t2, .int t1, .ref (g.2.2 + t0)]) := by
  obtain ⟨hx, hb, hml, -, hts, hown, hK, -, hstr⟩ := id E
  unfold f_X10_decide_105 at hf
  obtain ⟨hq3, hf⟩ := jif hf
  obtain ⟨S1, hc2, hf⟩ := jb hf
  refine jbackV hM (jrunV E hM ci_X10_enterInner (C_X10_enterInner hc2) lk_4_220 hq3 (by decide) rfl hl.1 rfl rfl (Nat.le_of_ble_eq_true rfl) ⟨Nat.le_of_ble_eq_true rfl, Nat.le_of_ble_eq_true rfl⟩ ⟨Nat.le_refl _, Nat.le_refl _⟩ dX10_decide_105) (fun H locs hM => ?_)
  exact jvret (jrv hf) E hM dX10_decide_108
set_option maxRecDepth 100000 in
set_option maxHeartbeats 4000000 in
theorem B_X10_decide_23 {p : Program} {l : Launch} {e : Env} {s : State} {m : MethodId} {args : Array Value} {below : List Frame} {meth : Method} {c : Code} {g : jG} {SS : jM} {v0 : Nat} {S : jM} (E : jEnv p s m args meth c cX10_decide "PensionHouse$Worker" none 4 g)  {H : Heap} {locs : List Loc} {ls : Array Slot} (hf : f_X10_decide_23 v0 S = some SS) (hM : jAt g S s H locs) (hl : lv_has ls 4 [(0, .ref (g.2.2 + v0))]) : W p l e (jRm 3 0 0) s m args below meth c H locs 0 0 (MQ below (jQv g SS) args s 0 0 (jA0 g)) (F0 m 23 ls []) := by
  obtain ⟨hx, hb, hml, -, hts, hown, hK, -, hstr⟩ := id E
  unfold f_X10_decide_23 at hf
  refine lv_aload_n hx hb dX10_decide_23 rfl (lv_at hl 0 rfl) ?_
  refine lv_bipush (v := (7 : Int32)) hx hb dX10_decide_24 (by decide) ?_
  obtain ⟨hq6, hf⟩ := jif hf
  obtain ⟨S4, hc5, hf⟩ := jb hf
  refine jbackV hM (jrunV E hM ci_X10_fail (C_X10_fail hc5) lk_4_174 hq6 (by decide) rfl hl.1 rfl rfl (Nat.le_of_ble_eq_true rfl) ⟨Nat.le_of_ble_eq_true rfl, Nat.le_of_ble_eq_true rfl⟩ ⟨Nat.le_refl _, Nat.le_refl _⟩ dX10_decide_26) (fun H locs hM => ?_)
  refine lv_goto (tgt := 108) hx hb dX10_decide_29 (by decide) ?_
  exact jvret (jrv hf) E hM dX10_decide_108
set_option maxRecDepth 100000 in
set_option maxHeartbeats 4000000 in
theorem B_X10_decide_0 {p : Program} {l : Launch} {e : Env} {s : State} {m : MethodId} {args : Array Value} {below : List Frame} {meth : Method} {c : Code} {g : jG} {SS : jM} {v0 : Nat} {v1 : Int32} {v2 : Int32} {S : jM} (E : jEnv p s m args meth c cX10_decide "PensionHouse$Worker" none 4 g)  {H : Heap} {locs : List Loc} {ls : Array Slot} (hf : f_X10_decide v0 v1 v2 S = some SS) (hM : jAt g S s H locs) (hl : lv_has ls 4 [(0, .ref (g.2.2 + v0)), (1, .int v1), (2, .int v2)]) : W p l e (jRm 3 0 0) s m args below meth c H locs 0 0 (MQ below (jQv g SS) args s 0 0 (jA0 g)) (F0 m 0 ls []) := by
  obtain ⟨hx, hb, hml, -, hts, hown, hK, -, hstr⟩ := id E
  unfold f_X10_decide at hf
  refine lv_aload_n hx hb dX10_decide_0 rfl (lv_at hl 0 rfl) ?_
  obtain ⟨hq7, hf⟩ := jif hf
  refine gt_58 E hM hq7 lk_2_8 dX10_decide_1 ?_
  obtain ⟨r8, hr9, hf⟩ := jb hf
  rw [hr9]
  show W p l e _ s m args below meth c H locs 0 0 _ (F0 m _ ls (.ref (g.2.2 + r8) :: _))
  refine lv_aload_n hx hb dX10_decide_4 rfl (lv_at hl 0 rfl) ?_
  refine gt_60 E hM hq7 lk_2_10 dX10_decide_5 ?_
  refine lv_iconst (v := (1 : Int32)) hx hb dX10_decide_8 (by decide) ?_
  refine lv_isub hx hb dX10_decide_9 ?_
  obtain ⟨ha10, hf⟩ := jif hf
  refine jiald E hM ha10 dX10_decide_10 ?_
  refine lv_topi (fun x11 ex11 => ?_)
  have hf := jlet_y ex11 hf
  refine lv_istore_n (lv' := [(3, .int x11), (0, .ref (g.2.2 + v0)), (1, .int v1), (2, .int v2)]) hx hb dX10_decide_11 rfl hl (by decide) rfl (fun ls hl => ?_)
  refine lv_iload_n hx hb dX10_decide_12 rfl (lv_at hl 0 rfl) ?_
  refine lv_if_lt (tgt := 23) hx hb dX10_decide_13 (by decide) (fun c12 => ?_) (fun c12 => ?_)
  · have hf := jt c12 hf
    exact B_X10_decide_23 E  hf hM (lv_sub hl [1] rfl)
  · have hf := jf c12 hf
    refine lv_iload_n hx hb dX10_decide_16 rfl (lv_at hl 0 rfl) ?_
    refine lv_sipush (v := (600 : Int32)) hx hb dX10_decide_17 (by decide) ?_
    refine lv_icmp_lt (tgt := 32) hx hb dX10_decide_20 (by decide) (fun c13 => ?_) (fun c13 => ?_)
    · have hf := jt c13 hf
      refine lv_iload_n hx hb dX10_decide_32 rfl (lv_at hl 3 rfl) ?_
      refine lv_if_ne (tgt := 45) hx hb dX10_decide_33 (by decide) (fun c14 => ?_) (fun c14 => ?_)
      · have hf := jf c14 hf
        refine lv_iload_n hx hb dX10_decide_45 rfl (lv_at hl 3 rfl) ?_
        refine lv_iconst (v := (1 : Int32)) hx hb dX10_decide_46 (by decide) ?_
        refine lv_icmp_le (tgt := 57) hx hb dX10_decide_47 (by decide) (fun c15 => ?_) (fun c15 => ?_)
        · have hf := jt c15 hf
          refine lv_aload_n hx hb dX10_decide_57 rfl (lv_at hl 1 rfl) ?_
          refine gt_61 E hM hq7 lk_2_11 dX10_decide_58 ?_
          obtain ⟨r16, hr17, hf⟩ := jb hf
          rw [hr17]
          show W p l e _ s m args below meth c H locs 0 0 _ (F0 m _ ls (.ref (g.2.2 + r16) :: _))
          refine lv_iload_n hx hb dX10_decide_61 rfl (lv_at hl 0 rfl) ?_
          obtain ⟨ha18, hf⟩ := jif hf
          refine jaald (k := 19) (t0 := 8) E hM ha18 (by decide) (by decide) rfl dX10_decide_62 ?_
          obtain ⟨r19, hr20, hf⟩ := jb hf
          rw [hr20]
          show W p l e _ s m args below meth c H locs 0 0 _ (F0 m _ ls (.ref (g.2.2 + r19) :: _))
          obtain ⟨hq21, hf⟩ := jif hf
          refine gt_52 E hM hq21 lk_1_53 dX10_decide_63 ?_
          refine lv_if_eq (tgt := 77) hx hb dX10_decide_66 (by decide) (fun c22 => ?_) (fun c22 => ?_)
          · have hf := jt c22 hf
            refine lv_aload_n hx hb dX10_decide_77 rfl (lv_at hl 1 rfl) ?_
            refine lv_iload_n hx hb dX10_decide_78 rfl (lv_at hl 0 rfl) ?_
            refine pt_62 E hM hq7 lk_2_12 dX10_decide_79 (fun H locs S23 eS23 hM => ?_)
            have hf := jlet_y eS23 hf
            refine lv_aload_n hx hb dX10_decide_82 rfl (lv_at hl 1 rfl) ?_
            refine lv_iload_n hx hb dX10_decide_83 rfl (lv_at hl 2 rfl) ?_
            refine lv_aload_n hx hb dX10_decide_84 rfl (lv_at hl 1 rfl) ?_
            refine gt_61 E hM hq7 lk_2_11 dX10_decide_85 ?_
            obtain ⟨r24, hr25, hf⟩ := jb hf
            rw [hr25]
            show W p l e _ s m args below meth c H locs 0 0 _ (F0 m _ ls (.ref (g.2.2 + r24) :: _))
            refine lv_iload_n hx hb dX10_decide_88 rfl (lv_at hl 0 rfl) ?_
            obtain ⟨ha26, hf⟩ := jif hf
            refine jaald (k := 19) (t0 := 8) E hM ha26 (by decide) (by decide) rfl dX10_decide_89 ?_
            obtain ⟨r27, hr28, hf⟩ := jb hf
            rw [hr28]
            show W p l e _ s m args below meth c H locs 0 0 _ (F0 m _ ls (.ref (g.2.2 + r27) :: _))
            obtain ⟨hq29, hf⟩ := jif hf
            refine gt_54 E hM hq29 lk_1_61 dX10_decide_90 ?_
            obtain ⟨r30, hr31, hf⟩ := jb hf
            rw [hr31]
            show W p l e _ s m args below meth c H locs 0 0 _ (F0 m _ ls (.ref (g.2.2 + r30) :: _))
            refine lv_iconst (v := (0 : Int32)) hx hb dX10_decide_93 (by decide) ?_
            obtain ⟨ha32, hf⟩ := jif hf
            refine jlald E hM ha32 dX10_decide_94 ?_
            refine lv_lconst (v := (0 : Int64)) hx hb dX10_decide_95 (by decide) ?_
            refine jl_eq (tgt := 104) hx hb dX10_decide_96 dX10_decide_97 (by decide) (fun c33 => ?_) (fun c33 => ?_)
            · have hf := jt c33 hf
              refine lv_iconst (v := (2 : Int32)) hx hb dX10_decide_104 (by decide) ?_
              exact B_X10_decide_105 E  hf hM (lv_sub hl [] rfl)
            · have hf := jf c33 hf
              refine lv_iconst (v := (1 : Int32)) hx hb dX10_decide_100 (by decide) ?_
              refine lv_goto (tgt := 105) hx hb dX10_decide_101 (by decide) ?_
              exact B_X10_decide_105 E  hf hM (lv_sub hl [] rfl)
          · have hf := jf c22 hf
            refine lv_aload_n hx hb dX10_decide_69 rfl (lv_at hl 1 rfl) ?_
            refine lv_iconst (v := (2 : Int32)) hx hb dX10_decide_70 (by decide) ?_
            obtain ⟨S34, hc35, hf⟩ := jb hf
            refine jbackV hM (jrunV E hM ci_X10_fail (C_X10_fail hc35) lk_4_174 hq7 (by decide) rfl hl.1 rfl rfl (Nat.le_of_ble_eq_true rfl) ⟨Nat.le_of_ble_eq_true rfl, Nat.le_of_ble_eq_true rfl⟩ ⟨Nat.le_refl _, Nat.le_refl _⟩ dX10_decide_71) (fun H locs hM => ?_)
            refine lv_goto (tgt := 108) hx hb dX10_decide_74 (by decide) ?_
            exact jvret (jrv hf) E hM dX10_decide_108
        · have hf := jf c15 hf
          refine lv_aload_n hx hb dX10_decide_50 rfl (lv_at hl 1 rfl) ?_
          obtain ⟨S36, hc37, hf⟩ := jb hf
          refine jbackV hM (jrunV E hM ci_X10_leave (C_X10_leave hc37) lk_4_187 hq7 (by decide) rfl hl.1 rfl rfl (Nat.le_of_ble_eq_true rfl) ⟨Nat.le_of_ble_eq_true rfl, Nat.le_of_ble_eq_true rfl⟩ ⟨Nat.le_refl _, Nat.le_refl _⟩ dX10_decide_51) (fun H locs hM => ?_)
          refine lv_goto (tgt := 108) hx hb dX10_decide_54 (by decide) ?_
          exact jvret (jrv hf) E hM dX10_decide_108
      · have hf := jt c14 hf
        refine lv_aload_n hx hb dX10_decide_36 rfl (lv_at hl 1 rfl) ?_
        refine lv_iload_n hx hb dX10_decide_37 rfl (lv_at hl 2 rfl) ?_
        refine lv_iconst (v := (0 : Int32)) hx hb dX10_decide_38 (by decide) ?_
        obtain ⟨S38, hc39, hf⟩ := jb hf
        refine jbackV hM (jrunV E hM ci_X10_enterInner (C_X10_enterInner hc39) lk_4_220 hq7 (by decide) rfl hl.1 rfl rfl (Nat.le_of_ble_eq_true rfl) ⟨Nat.le_of_ble_eq_true rfl, Nat.le_of_ble_eq_true rfl⟩ ⟨Nat.le_refl _, Nat.le_refl _⟩ dX10_decide_39) (fun H locs hM => ?_)
        refine lv_goto (tgt := 108) hx hb dX10_decide_42 (by decide) ?_
        exact jvret (jrv hf) E hM dX10_decide_108
    · have hf := jf c13 hf
      exact B_X10_decide_23 E  hf hM (lv_sub hl [1] rfl)
set_option maxRecDepth 100000 in
theorem C_X10_decide {l : Launch} {g : jG} {a0 : Nat} {a1 : Int32} {a2 : Int32} {S : jM} {SS : jM} (hf : f_X10_decide a0 a1 a2 S = some SS) : jMet l g yX10_decide cX10_decide 4 none 3 0 0 [.ref (g.2.2 + a0), .int a1, .int a2] S (jQv g SS) := by
  refine jof (by decide +kernel) (Nat.le_of_ble_eq_true rfl) ?_
  intro p e s m below meth c E hM ls hl
  have hl : lv_has ls 4 [(0, .ref (g.2.2 + a0)),(1, .int a1),(2, .int a2)] := hl
  exact B_X10_decide_0 E hf hM hl
-- PensionHouse$Worker.finish(II)V  mode M
noncomputable def f_X10_finish_390 (v0 : Nat) (v2 : Int32) (v5 : Int32) (S : jM) : Option jM := if v5 = 0 then if jK v0 = 8 then jlet (jsI S 62 v0 (v2 + (1 : Int32))) (fun S3 => (f_X10_leave v0 S3).bind (fun S4 => some S4)) else none else if jK v0 = 8 then (f_X10_fail v0 v5 S).bind (fun S6 => some S6) else none
noncomputable def f_X10_finish_358 (v0 : Nat) (v2 : Int32) (v3 : Nat) (v4 : Nat) (t0 : Int32) (S : jM) : Option jM := jbd (f_X3_extreme t0 v3 v4 S) (fun x9 S10 => f_X10_finish_390 v0 v2 x9 S10)
noncomputable def f_X10_finish_13 (v0 : Nat) (S : jM) : Option jM := if jK v0 = 8 then (f_X10_fail v0 (7 : Int32) S).bind (fun S12 => some S12) else none
noncomputable def f_X10_finish (v0 : Nat) (v1 : Int32) (v2 : Int32) (S : jM) : Option jM := if v2 < 0 then f_X10_finish_13 v0 S else if (v2 + (2 : Int32)) < (600 : Int32) then if jK v0 = 8 then (jR S 61 v0).bind (fun r18 => if jA r18 19 v2 = true then (jAR S r18 (v2).toNatClampNeg).bind (fun r21 => (jR S 61 v0).bind (fun r23 => if jA r23 19 (v2 + (1 : Int32)) = true then (jAR S r23 (v2 + (1 : Int32)).toNatClampNeg).bind (fun r26 => if v1 = (5 : Int32) then jbd (f_X3_negative r21 S) (fun x28 S29 => f_X10_finish_390 v0 v2 x28 S29) else if v1 = (9 : Int32) then jbd (f_X3_compare v1 r21 r26 S) (fun x32 S33 => f_X10_finish_390 v0 v2 x32 S33) else if v1 = (10 : Int32) then jbd (f_X3_compare v1 r21 r26 S) (fun x36 S37 => f_X10_finish_390 v0 v2 x36 S37) else if v1 = (60 : Int32) then jbd (f_X3_compare v1 r21 r26 S) (fun x40 S41 => f_X10_finish_390 v0 v2 x40 S41) else if v1 = (61 : Int32) then jbd (f_X3_compare v1 r21 r26 S) (fun x44 S45 => f_X10_finish_390 v0 v2 x44 S45) else if v1 = (91 : Int32) then jbd (f_X3_item r21 r26 S) (fun x48 S49 => f_X10_finish_390 v0 v2 x48 S49) else if v1 = (128 : Int32) then jbd (f_X3_best r21 r26 S) (fun x52 S53 => f_X10_finish_390 v0 v2 x52 S53) else if v1 = (129 : Int32) then (jR S 55 v0).bind (fun r56 => jbd (f_X3_born r56 r21 S) (fun x58 S59 => f_X10_finish_390 v0 v2 x58 S59)) else if v1 = (130 : Int32) then jbd (f_X3_real v1 r21 S) (fun x62 S63 => f_X10_finish_390 v0 v2 x62 S63) else if v1 = (133 : Int32) then jbd (f_X3_real v1 r21 S) (fun x66 S67 => f_X10_finish_390 v0 v2 x66 S67) else if v1 = (136 : Int32) then (jR S 55 v0).bind (fun r70 => jbd (f_X3_join r70 r21 r26 S) (fun x72 S73 => f_X10_finish_390 v0 v2 x72 S73)) else if v1 = (137 : Int32) then jbd (f_X3_last r21 r26 S) (fun x76 S77 => f_X10_finish_390 v0 v2 x76 S77) else if v1 = (138 : Int32) then jbd (f_X3_len r21 S) (fun x80 S81 => f_X10_finish_390 v0 v2 x80 S81) else if v1 = (139 : Int32) then if v1 = (140 : Int32) then f_X10_finish_358 v0 v2 r21 r26 (1 : Int32) S else f_X10_finish_358 v0 v2 r21 r26 (0 : Int32) S else if v1 = (140 : Int32) then if v1 = (140 : Int32) then f_X10_finish_358 v0 v2 r21 r26 (1 : Int32) S else f_X10_finish_358 v0 v2 r21 r26 (0 : Int32) S else if v1 = (141 : Int32) then jbd (f_X3_real v1 r21 S) (fun x88 S89 => f_X10_finish_390 v0 v2 x88 S89) else if v1 = (143 : Int32) then jbd (f_X3_real v1 r21 S) (fun x92 S93 => f_X10_finish_390 v0 v2 x92 S93) else if v1 = (144 : Int32) then jbd (f_X3_real v1 r21 S) (fun x96 S97 => f_X10_finish_390 v0 v2 x96 S97) else if v1 = (150 : Int32) then jbd (f_X3_whole r21 S) (fun x100 S101 => f_X10_finish_390 v0 v2 x100 S101) else if v1 = (151 : Int32) then (jR S 55 v0).bind (fun r104 => (jR S 61 v0).bind (fun r106 => if jA r106 19 (v2 + (2 : Int32)) = true then (jAR S r106 (v2 + (2 : Int32)).toNatClampNeg).bind (fun r109 => jbd (f_X3_with r104 r21 r26 r109 S) (fun x111 S112 => f_X10_finish_390 v0 v2 x111 S112)) else none)) else if v1 = (152 : Int32) then jbd (f_X3_zeros r21 S) (fun x115 S116 => f_X10_finish_390 v0 v2 x115 S116) else jbd (f_X3_arithmetic v1 r21 r26 S) (fun x119 S120 => f_X10_finish_390 v0 v2 x119 S120)) else none)) else none) else none else f_X10_finish_13 v0 S
set_option maxRecDepth 100000 in
set_option maxHeartbeats 4000000 in
theorem B_X10_finish_390 {p : Program} {l : Launch} {e : Env} {s : State} {m : MethodId} {args : Array Value} {below : List Frame} {meth : Method} {c : Code} {g : jG} {SS : jM} {v0 : Nat} {v2 : Int32} {v5 : Int32} {S : jM} (E : jEnv p s m args meth c cX10_finish "PensionHouse$Worker" none 6 g)  {H : Heap} {locs : List Loc} {ls : Array Slot} (hf : f_X10_finish_390 v0 v2 v5 S = some SS) (hM : jAt g S s H locs) (hl : lv_has ls 6 [(0, .ref (g.2.2 + v0)), (2, .int v2), (5, .int v5)]) : W p l e (jRm 4 0 0) s m args below meth c H locs 0 0 (MQ below (jQv g SS) args s 0 0 (jA0 g)) (F0 m 390 ls []) := by
  obtain ⟨hx, hb, hml, -, hts, hown, hK, -, hstr⟩ := id E
  unfold f_X10_finish_390 at hf
  refine lv_iload hx hb dX10_finish_390 (lv_at hl 2 rfl) ?_
  refine lv_if_eq (tgt := 402) hx hb dX10_finish_392 (by decide) (fun c1 => ?_) (fun c1 => ?_)
  · have hf := jt c1 hf
    refine lv_aload_n hx hb dX10_finish_402 rfl (lv_at hl 0 rfl) ?_
    refine lv_iload_n hx hb dX10_finish_403 rfl (lv_at hl 1 rfl) ?_
    refine lv_iconst (v := (1 : Int32)) hx hb dX10_finish_404 (by decide) ?_
    refine lv_iadd hx hb dX10_finish_405 ?_
    obtain ⟨hq2, hf⟩ := jif hf
    refine pt_62 E hM hq2 lk_2_12 dX10_finish_406 (fun H locs S3 eS3 hM => ?_)
    have hf := jlet_y eS3 hf
    refine lv_aload_n hx hb dX10_finish_409 rfl (lv_at hl 0 rfl) ?_
    obtain ⟨S4, hc5, hf⟩ := jb hf
    refine jbackV hM (jrunV E hM ci_X10_leave (C_X10_leave hc5) lk_4_187 hq2 (by decide) rfl hl.1 rfl rfl (Nat.le_of_ble_eq_true rfl) ⟨Nat.le_of_ble_eq_true rfl, Nat.le_of_ble_eq_true rfl⟩ ⟨Nat.le_refl _, Nat.le_refl _⟩ dX10_finish_410) (fun H locs hM => ?_)
    exact jvret (jrv hf) E hM dX10_finish_413
  · have hf := jf c1 hf
    refine lv_aload_n hx hb dX10_finish_395 rfl (lv_at hl 0 rfl) ?_
    refine lv_iload hx hb dX10_finish_396 (lv_at hl 2 rfl) ?_
    obtain ⟨hq8, hf⟩ := jif hf
    obtain ⟨S6, hc7, hf⟩ := jb hf
    refine jbackV hM (jrunV E hM ci_X10_fail (C_X10_fail hc7) lk_4_174 hq8 (by decide) rfl hl.1 rfl rfl (Nat.le_of_ble_eq_true rfl) ⟨Nat.le_of_ble_eq_true rfl, Nat.le_of_ble_eq_true rfl⟩ ⟨Nat.le_refl _, Nat.le_refl _⟩ dX10_finish_398) (fun H locs hM => ?_)
    exact jvret (jrv hf) E hM dX10_finish_401
set_option maxRecDepth 100000 in
set_option maxHeartbeats 4000000 in
theorem B_X10_finish_358 {p : Program} {l : Launch} {e : Env} {s : State} {m : MethodId} {args : Array Value} {below : List Frame} {meth : Method} {c : Code} {g : jG} {SS : jM} {v0 : Nat} {v2 : Int32} {v3 : Nat} {v4 : Nat} {t0 : Int32} {S : jM} (E : jEnv p s m args meth c cX10_finish "PensionHouse$Worker" none 6 g)  {H : Heap} {locs : List Loc} {ls : Array Slot} (hf : f_X10_finish_358 v0 v2 v3 v4 t0 S = some SS) (hM : jAt g S s H locs) (hl : lv_has ls 6 [(0, .ref (g.2.2 + v0)), (2, .int v2), (3, .ref (g.2.2 + v3)), (4, .ref (g.2.2 + v4))]) : W p l e (jRm 4 0 0) s m args below meth c H locs 0 0 (MQ below (jQv g SS) args s 0 0 (jA0 g)) (F0 m 358 ls [.int t0]) := by
  obtain ⟨hx, hb, hml, -, hts, hown, hK, -, hstr⟩ := id E
  unfold f_X10_finish_358 at hf
  refine lv_aload_n hx hb dX10_finish_358 rfl (lv_at hl 2 rfl) ?_
  refine lv_aload hx hb dX10_finish_359 (lv_at hl 3 rfl) ?_
  obtain ⟨x9, S10, hc11, hf⟩ := jbd_e hf
  refine jbackI hM (jrunS E hM ci_X3_extreme (C_X3_extreme hc11) lk_5_103 hl.1 rfl rfl (Nat.le_of_ble_eq_true rfl) ⟨Nat.le_of_ble_eq_true rfl, Nat.le_of_ble_eq_true rfl⟩ ⟨Nat.le_refl _, Nat.le_refl _⟩ dX10_finish_361) (fun H locs hM => ?_)
  refine lv_istore (lv' := [(5, .int x9), (0, .ref (g.2.2 + v0)), (2, .int v2), (3, .ref (g.2.2 + v3)), (4, .ref (g.2.2 + v4))]) hx hb dX10_finish_364 hl (by decide) rfl (fun ls hl => ?_)
  refine lv_goto (tgt := 390) hx hb dX10_finish_366 (by decide) ?_
  exact B_X10_finish_390 E  hf hM (lv_sub hl [1, 2, 0] rfl)
set_option maxRecDepth 100000 in
set_option maxHeartbeats 4000000 in
theorem B_X10_finish_13 {p : Program} {l : Launch} {e : Env} {s : State} {m : MethodId} {args : Array Value} {below : List Frame} {meth : Method} {c : Code} {g : jG} {SS : jM} {v0 : Nat} {S : jM} (E : jEnv p s m args meth c cX10_finish "PensionHouse$Worker" none 6 g)  {H : Heap} {locs : List Loc} {ls : Array Slot} (hf : f_X10_finish_13 v0 S = some SS) (hM : jAt g S s H locs) (hl : lv_has ls 6 [(0, .ref (g.2.2 + v0))]) : W p l e (jRm 4 0 0) s m args below meth c H locs 0 0 (MQ below (jQv g SS) args s 0 0 (jA0 g)) (F0 m 13 ls []) := by
  obtain ⟨hx, hb, hml, -, hts, hown, hK, -, hstr⟩ := id E
  unfold f_X10_finish_13 at hf
  refine lv_aload_n hx hb dX10_finish_13 rfl (lv_at hl 0 rfl) ?_
  refine lv_bipush (v := (7 : Int32)) hx hb dX10_finish_14 (by decide) ?_
  obtain ⟨hq14, hf⟩ := jif hf
  obtain ⟨S12, hc13, hf⟩ := jb hf
  refine jbackV hM (jrunV E hM ci_X10_fail (C_X10_fail hc13) lk_4_174 hq14 (by decide) rfl hl.1 rfl rfl (Nat.le_of_ble_eq_true rfl) ⟨Nat.le_of_ble_eq_true rfl, Nat.le_of_ble_eq_true rfl⟩ ⟨Nat.le_refl _, Nat.le_refl _⟩ dX10_finish_16) (fun H locs hM => ?_)
  exact jvret (jrv hf) E hM dX10_finish_19
set_option maxRecDepth 100000 in
set_option maxHeartbeats 4000000 in
theorem B_X10_finish_0 {p : Program} {l : Launch} {e : Env} {s : State} {m : MethodId} {args : Array Value} {below : List Frame} {meth : Method} {c : Code} {g : jG} {SS : jM} {v0 : Nat} {v1 : Int32} {v2 : Int32} {S : jM} (E : jEnv p s m args meth c cX10_finish "PensionHouse$Worker" none 6 g)  {H : Heap} {locs : List Loc} {ls : Array Slot} (hf : f_X10_finish v0 v1 v2 S = some SS) (hM : jAt g S s H locs) (hl : lv_has ls 6 [(0, .ref (g.2.2 + v0)), (1, .int v1), (2, .int v2)]) : W p l e (jRm 4 0 0) s m args below meth c H locs 0 0 (MQ below (jQv g SS) args s 0 0 (jA0 g)) (F0 m 0 ls []) := by
  obtain ⟨hx, hb, hml, -, hts, hown, hK, -, hstr⟩ := id E
  unfold f_X10_finish at hf
  refine lv_iload_n hx hb dX10_finish_0 rfl (lv_at hl 2 rfl) ?_
  refine lv_if_lt (tgt := 13) hx hb dX10_finish_1 (by decide) (fun c15 => ?_) (fun c15 => ?_)
  · have hf := jt c15 hf
    exact B_X10_finish_13 E  hf hM (lv_sub hl [0] rfl)
  · have hf := jf c15 hf
    refine lv_iload_n hx hb dX10_finish_4 rfl (lv_at hl 2 rfl) ?_
    refine lv_iconst (v := (2 : Int32)) hx hb dX10_finish_5 (by decide) ?_
    refine lv_iadd hx hb dX10_finish_6 ?_
    refine lv_sipush (v := (600 : Int32)) hx hb dX10_finish_7 (by decide) ?_
    refine lv_icmp_lt (tgt := 20) hx hb dX10_finish_10 (by decide) (fun c16 => ?_) (fun c16 => ?_)
    · have hf := jt c16 hf
      refine lv_aload_n hx hb dX10_finish_20 rfl (lv_at hl 0 rfl) ?_
      obtain ⟨hq17, hf⟩ := jif hf
      refine gt_61 E hM hq17 lk_2_11 dX10_finish_21 ?_
      obtain ⟨r18, hr19, hf⟩ := jb hf
      rw [hr19]
      show W p l e _ s m args below meth c H locs 0 0 _ (F0 m _ ls (.ref (g.2.2 + r18) :: _))
      refine lv_iload_n hx hb dX10_finish_24 rfl (lv_at hl 2 rfl) ?_
      obtain ⟨ha20, hf⟩ := jif hf
      refine jaald (k := 19) (t0 := 8) E hM ha20 (by decide) (by decide) rfl dX10_finish_25 ?_
      obtain ⟨r21, hr22, hf⟩ := jb hf
      rw [hr22]
      show W p l e _ s m args below meth c H locs 0 0 _ (F0 m _ ls (.ref (g.2.2 + r21) :: _))
      refine lv_astore_n (lv' := [(3, .ref (g.2.2 + r21)), (0, .ref (g.2.2 + v0)), (1, .int v1), (2, .int v2)]) hx hb dX10_finish_26 rfl hl (by decide) rfl (fun ls hl => ?_)
      refine lv_aload_n hx hb dX10_finish_27 rfl (lv_at hl 1 rfl) ?_
      refine gt_61 E hM hq17 lk_2_11 dX10_finish_28 ?_
      obtain ⟨r23, hr24, hf⟩ := jb hf
      rw [hr24]
      show W p l e _ s m args below meth c H locs 0 0 _ (F0 m _ ls (.ref (g.2.2 + r23) :: _))
      refine lv_iload_n hx hb dX10_finish_31 rfl (lv_at hl 3 rfl) ?_
      refine lv_iconst (v := (1 : Int32)) hx hb dX10_finish_32 (by decide) ?_
      refine lv_iadd hx hb dX10_finish_33 ?_
      obtain ⟨ha25, hf⟩ := jif hf
      refine jaald (k := 19) (t0 := 8) E hM ha25 (by decide) (by decide) rfl dX10_finish_34 ?_
      obtain ⟨r26, hr27, hf⟩ := jb hf
      rw [hr27]
      show W p l e _ s m args below meth c H locs 0 0 _ (F0 m _ ls (.ref (g.2.2 + r26) :: _))
      refine lv_astore (lv' := [(4, .ref (g.2.2 + r26)), (3, .ref (g.2.2 + r21)), (0, .ref (g.2.2 + v0)), (1, .int v1), (2, .int v2)]) hx hb dX10_finish_35 hl (by decide) rfl (fun ls hl => ?_)
      refine lv_iload_n hx hb dX10_finish_37 rfl (lv_at hl 3 rfl) ?_
      by_cases c31 : v1 = (5 : Int32)
      · have hf := jt c31 hf
        refine lv_lookup (off := 189) (tgt := 227) hx hb dX10_finish_38 (by decide) (by rw [c31]; rfl) (by decide) ?_
        refine lv_aload_n hx hb dX10_finish_227 rfl (lv_at hl 1 rfl) ?_
        obtain ⟨x28, S29, hc30, hf⟩ := jbd_e hf
        refine jbackI hM (jrunS E hM ci_X3_negative (C_X3_negative hc30) lk_5_37 hl.1 rfl rfl (Nat.le_of_ble_eq_true rfl) ⟨Nat.le_of_ble_eq_true rfl, Nat.le_of_ble_eq_true rfl⟩ ⟨Nat.le_refl _, Nat.le_refl _⟩ dX10_finish_228) (fun H locs hM => ?_)
        refine lv_istore (lv' := [(5, .int x28), (4, .ref (g.2.2 + r26)), (3, .ref (g.2.2 + r21)), (0, .ref (g.2.2 + v0)), (1, .int v1), (2, .int v2)]) hx hb dX10_finish_231 hl (by decide) rfl (fun ls hl => ?_)
        refine lv_goto (tgt := 390) hx hb dX10_finish_233 (by decide) ?_
        exact B_X10_finish_390 E  hf hM (lv_sub hl [3, 5, 0] rfl)
      have hf := jf c31 hf
      by_cases c35 : v1 = (9 : Int32)
      · have hf := jt c35 hf
        refine lv_lookup (off := 331) (tgt := 369) hx hb dX10_finish_38 (by decide) (by rw [c35]; rfl) (by decide) ?_
        refine lv_iload_n hx hb dX10_finish_369 rfl (lv_at hl 3 rfl) ?_
        refine lv_aload_n hx hb dX10_finish_370 rfl (lv_at hl 1 rfl) ?_
        refine lv_aload hx hb dX10_finish_371 (lv_at hl 0 rfl) ?_
        obtain ⟨x32, S33, hc34, hf⟩ := jbd_e hf
        refine jbackI hM (jrunS E hM ci_X3_compare (C_X3_compare hc34) lk_5_113 hl.1 rfl rfl (Nat.le_of_ble_eq_true rfl) ⟨Nat.le_of_ble_eq_true rfl, Nat.le_of_ble_eq_true rfl⟩ ⟨Nat.le_refl _, Nat.le_refl _⟩ dX10_finish_373) (fun H locs hM => ?_)
        refine lv_istore (lv' := [(5, .int x32), (4, .ref (g.2.2 + r26)), (3, .ref (g.2.2 + r21)), (0, .ref (g.2.2 + v0)), (1, .int v1), (2, .int v2)]) hx hb dX10_finish_376 hl (by decide) rfl (fun ls hl => ?_)
        refine lv_goto (tgt := 390) hx hb dX10_finish_378 (by decide) ?_
        exact B_X10_finish_390 E  hf hM (lv_sub hl [3, 5, 0] rfl)
      have hf := jf c35 hf
      by_cases c39 : v1 = (10 : Int32)
      · have hf := jt c39 hf
        refine lv_lookup (off := 331) (tgt := 369) hx hb dX10_finish_38 (by decide) (by rw [c39]; rfl) (by decide) ?_
        refine lv_iload_n hx hb dX10_finish_369 rfl (lv_at hl 3 rfl) ?_
        refine lv_aload_n hx hb dX10_finish_370 rfl (lv_at hl 1 rfl) ?_
        refine lv_aload hx hb dX10_finish_371 (lv_at hl 0 rfl) ?_
        obtain ⟨x36, S37, hc38, hf⟩ := jbd_e hf
        refine jbackI hM (jrunS E hM ci_X3_compare (C_X3_compare hc38) lk_5_113 hl.1 rfl rfl (Nat.le_of_ble_eq_true rfl) ⟨Nat.le_of_ble_eq_true rfl, Nat.le_of_ble_eq_true rfl⟩ ⟨Nat.le_refl _, Nat.le_refl _⟩ dX10_finish_373) (fun H locs hM => ?_)
        refine lv_istore (lv' := [(5, .int x36), (4, .ref (g.2.2 + r26)), (3, .ref (g.2.2 + r21)), (0, .ref (g.2.2 + v0)), (1, .int v1), (2, .int v2)]) hx hb dX10_finish_376 hl (by decide) rfl (fun ls hl => ?_)
        refine lv_goto (tgt := 390) hx hb dX10_finish_378 (by decide) ?_
        exact B_X10_finish_390 E  hf hM (lv_sub hl [3, 5, 0] rfl)
      have hf := jf c39 hf
      by_cases c43 : v1 = (60 : Int32)
      · have hf := jt c43 hf
        refine lv_lookup (off := 331) (tgt := 369) hx hb dX10_finish_38 (by decide) (by rw [c43]; rfl) (by decide) ?_
        refine lv_iload_n hx hb dX10_finish_369 rfl (lv_at hl 3 rfl) ?_
        refine lv_aload_n hx hb dX10_finish_370 rfl (lv_at hl 1 rfl) ?_
        refine lv_aload hx hb dX10_finish_371 (lv_at hl 0 rfl) ?_
        obtain ⟨x40, S41, hc42, hf⟩ := jbd_e hf
        refine jbackI hM (jrunS E hM ci_X3_compare (C_X3_compare hc42) lk_5_113 hl.1 rfl rfl (Nat.le_of_ble_eq_true rfl) ⟨Nat.le_of_ble_eq_true rfl, Nat.le_of_ble_eq_true rfl⟩ ⟨Nat.le_refl _, Nat.le_refl _⟩ dX10_finish_373) (fun H locs hM => ?_)
        refine lv_istore (lv' := [(5, .int x40), (4, .ref (g.2.2 + r26)), (3, .ref (g.2.2 + r21)), (0, .ref (g.2.2 + v0)), (1, .int v1), (2, .int v2)]) hx hb dX10_finish_376 hl (by decide) rfl (fun ls hl => ?_)
        refine lv_goto (tgt := 390) hx hb dX10_finish_378 (by decide) ?_
        exact B_X10_finish_390 E  hf hM (lv_sub hl [3, 5, 0] rfl)
      have hf := jf c43 hf
      by_cases c47 : v1 = (61 : Int32)
      · have hf := jt c47 hf
        refine lv_lookup (off := 331) (tgt := 369) hx hb dX10_finish_38 (by decide) (by rw [c47]; rfl) (by decide) ?_
        refine lv_iload_n hx hb dX10_finish_369 rfl (lv_at hl 3 rfl) ?_
        refine lv_aload_n hx hb dX10_finish_370 rfl (lv_at hl 1 rfl) ?_
        refine lv_aload hx hb dX10_finish_371 (lv_at hl 0 rfl) ?_
        obtain ⟨x44, S45, hc46, hf⟩ := jbd_e hf
        refine jbackI hM (jrunS E hM ci_X3_compare (C_X3_compare hc46) lk_5_113 hl.1 rfl rfl (Nat.le_of_ble_eq_true rfl) ⟨Nat.le_of_ble_eq_true rfl, Nat.le_of_ble_eq_true rfl⟩ ⟨Nat.le_refl _, Nat.le_refl _⟩ dX10_finish_373) (fun H locs hM => ?_)
        refine lv_istore (lv' := [(5, .int x44), (4, .ref (g.2.2 + r26)), (3, .ref (g.2.2 + r21)), (0, .ref (g.2.2 + v0)), (1, .int v1), (2, .int v2)]) hx hb dX10_finish_376 hl (by decide) rfl (fun ls hl => ?_)
        refine lv_goto (tgt := 390) hx hb dX10_finish_378 (by decide) ?_
        exact B_X10_finish_390 E  hf hM (lv_sub hl [3, 5, 0] rfl)
      have hf := jf c47 hf
      by_cases c51 : v1 = (91 : Int32)
      · have hf := jt c51 hf
        refine lv_lookup (off := 178) (tgt := 216) hx hb dX10_finish_38 (by decide) (by rw [c51]; rfl) (by decide) ?_
        refine lv_aload_n hx hb dX10_finish_216 rfl (lv_at hl 1 rfl) ?_
        refine lv_aload hx hb dX10_finish_217 (lv_at hl 0 rfl) ?_
        obtain ⟨x48, S49, hc50, hf⟩ := jbd_e hf
        refine jbackI hM (jrunS E hM ci_X3_item (C_X3_item hc50) lk_5_31 hl.1 rfl rfl (Nat.le_of_ble_eq_true rfl) ⟨Nat.le_of_ble_eq_true rfl, Nat.le_of_ble_eq_true rfl⟩ ⟨Nat.le_refl _, Nat.le_refl _⟩ dX10_finish_219) (fun H locs hM => ?_)
        refine lv_istore (lv' := [(5, .int x48), (4, .ref (g.2.2 + r26)), (3, .ref (g.2.2 + r21)), (0, .ref (g.2.2 + v0)), (1, .int v1), (2, .int v2)]) hx hb dX10_finish_222 hl (by decide) rfl (fun ls hl => ?_)
        refine lv_goto (tgt := 390) hx hb dX10_finish_224 (by decide) ?_
        exact B_X10_finish_390 E  hf hM (lv_sub hl [3, 5, 0] rfl)
      have hf := jf c51 hf
      by_cases c55 : v1 = (128 : Int32)
      · have hf := jt c55 hf
        refine lv_lookup (off := 248) (tgt := 286) hx hb dX10_finish_38 (by decide) (by rw [c55]; rfl) (by decide) ?_
        refine lv_aload_n hx hb dX10_finish_286 rfl (lv_at hl 1 rfl) ?_
        refine lv_aload hx hb dX10_finish_287 (lv_at hl 0 rfl) ?_
        obtain ⟨x52, S53, hc54, hf⟩ := jbd_e hf
        refine jbackI hM (jrunS E hM ci_X3_best (C_X3_best hc54) lk_5_79 hl.1 rfl rfl (Nat.le_of_ble_eq_true rfl) ⟨Nat.le_of_ble_eq_true rfl, Nat.le_of_ble_eq_true rfl⟩ ⟨Nat.le_refl _, Nat.le_refl _⟩ dX10_finish_289) (fun H locs hM => ?_)
        refine lv_istore (lv' := [(5, .int x52), (4, .ref (g.2.2 + r26)), (3, .ref (g.2.2 + r21)), (0, .ref (g.2.2 + v0)), (1, .int v1), (2, .int v2)]) hx hb dX10_finish_292 hl (by decide) rfl (fun ls hl => ?_)
        refine lv_goto (tgt := 390) hx hb dX10_finish_294 (by decide) ?_
        exact B_X10_finish_390 E  hf hM (lv_sub hl [3, 5, 0] rfl)
      have hf := jf c55 hf
      by_cases c61 : v1 = (129 : Int32)
      · have hf := jt c61 hf
        refine lv_lookup (off := 198) (tgt := 236) hx hb dX10_finish_38 (by decide) (by rw [c61]; rfl) (by decide) ?_
        refine lv_aload_n hx hb dX10_finish_236 rfl (lv_at hl 2 rfl) ?_
        refine gt_55 E hM hq17 lk_2_5 dX10_finish_237 ?_
        obtain ⟨r56, hr57, hf⟩ := jb hf
        rw [hr57]
        show W p l e _ s m args below meth c H locs 0 0 _ (F0 m _ ls (.ref (g.2.2 + r56) :: _))
        refine lv_aload_n hx hb dX10_finish_240 rfl (lv_at hl 1 rfl) ?_
        obtain ⟨x58, S59, hc60, hf⟩ := jbd_e hf
        refine jbackI hM (jrunS E hM ci_X3_born (C_X3_born hc60) lk_5_41 hl.1 rfl rfl (Nat.le_of_ble_eq_true rfl) ⟨Nat.le_of_ble_eq_true rfl, Nat.le_of_ble_eq_true rfl⟩ ⟨Nat.le_refl _, Nat.le_refl _⟩ dX10_finish_241) (fun H locs hM => ?_)
        refine lv_istore (lv' := [(5, .int x58), (4, .ref (g.2.2 + r26)), (3, .ref (g.2.2 + r21)), (0, .ref (g.2.2 + v0)), (1, .int v1), (2, .int v2)]) hx hb dX10_finish_244 hl (by decide) rfl (fun ls hl => ?_)
        refine lv_goto (tgt := 390) hx hb dX10_finish_246 (by decide) ?_
        exact B_X10_finish_390 E  hf hM (lv_sub hl [3, 5, 0] rfl)
      have hf := jf c61 hf
      by_cases c65 : v1 = (130 : Int32)
      · have hf := jt c65 hf
        refine lv_lookup (off := 229) (tgt := 267) hx hb dX10_finish_38 (by decide) (by rw [c65]; rfl) (by decide) ?_
        refine lv_iload_n hx hb dX10_finish_267 rfl (lv_at hl 3 rfl) ?_
        refine lv_aload_n hx hb dX10_finish_268 rfl (lv_at hl 1 rfl) ?_
        obtain ⟨x62, S63, hc64, hf⟩ := jbd_e hf
        refine jbackI hM (jrunS E hM ci_X3_real (C_X3_real hc64) lk_5_57 hl.1 rfl rfl (Nat.le_of_ble_eq_true rfl) ⟨Nat.le_of_ble_eq_true rfl, Nat.le_of_ble_eq_true rfl⟩ ⟨Nat.le_refl _, Nat.le_refl _⟩ dX10_finish_269) (fun H locs hM => ?_)
        refine lv_istore (lv' := [(5, .int x62), (4, .ref (g.2.2 + r26)), (3, .ref (g.2.2 + r21)), (0, .ref (g.2.2 + v0)), (1, .int v1), (2, .int v2)]) hx hb dX10_finish_272 hl (by decide) rfl (fun ls hl => ?_)
        refine lv_goto (tgt := 390) hx hb dX10_finish_274 (by decide) ?_
        exact B_X10_finish_390 E  hf hM (lv_sub hl [3, 5, 0] rfl)
      have hf := jf c65 hf
      by_cases c69 : v1 = (133 : Int32)
      · have hf := jt c69 hf
        refine lv_lookup (off := 229) (tgt := 267) hx hb dX10_finish_38 (by decide) (by rw [c69]; rfl) (by decide) ?_
        refine lv_iload_n hx hb dX10_finish_267 rfl (lv_at hl 3 rfl) ?_
        refine lv_aload_n hx hb dX10_finish_268 rfl (lv_at hl 1 rfl) ?_
        obtain ⟨x66, S67, hc68, hf⟩ := jbd_e hf
        refine jbackI hM (jrunS E hM ci_X3_real (C_X3_real hc68) lk_5_57 hl.1 rfl rfl (Nat.le_of_ble_eq_true rfl) ⟨Nat.le_of_ble_eq_true rfl, Nat.le_of_ble_eq_true rfl⟩ ⟨Nat.le_refl _, Nat.le_refl _⟩ dX10_finish_269) (fun H locs hM => ?_)
        refine lv_istore (lv' := [(5, .int x66), (4, .ref (g.2.2 + r26)), (3, .ref (g.2.2 + r21)), (0, .ref (g.2.2 + v0)), (1, .int v1), (2, .int v2)]) hx hb dX10_finish_272 hl (by decide) rfl (fun ls hl => ?_)
        refine lv_goto (tgt := 390) hx hb dX10_finish_274 (by decide) ?_
        exact B_X10_finish_390 E  hf hM (lv_sub hl [3, 5, 0] rfl)
      have hf := jf c69 hf
      by_cases c75 : v1 = (136 : Int32)
      · have hf := jt c75 hf
        refine lv_lookup (off := 259) (tgt := 297) hx hb dX10_finish_38 (by decide) (by rw [c75]; rfl) (by decide) ?_
        refine lv_aload_n hx hb dX10_finish_297 rfl (lv_at hl 2 rfl) ?_
        refine gt_55 E hM hq17 lk_2_5 dX10_finish_298 ?_
        obtain ⟨r70, hr71, hf⟩ := jb hf
        rw [hr71]
        show W p l e _ s m args below meth c H locs 0 0 _ (F0 m _ ls (.ref (g.2.2 + r70) :: _))
        refine lv_aload_n hx hb dX10_finish_301 rfl (lv_at hl 1 rfl) ?_
        refine lv_aload hx hb dX10_finish_302 (lv_at hl 0 rfl) ?_
        obtain ⟨x72, S73, hc74, hf⟩ := jbd_e hf
        refine jbackI hM (jrunS E hM ci_X3_join (C_X3_join hc74) lk_5_89 hl.1 rfl rfl (Nat.le_of_ble_eq_true rfl) ⟨Nat.le_of_ble_eq_true rfl, Nat.le_of_ble_eq_true rfl⟩ ⟨Nat.le_refl _, Nat.le_refl _⟩ dX10_finish_304) (fun H locs hM => ?_)
        refine lv_istore (lv' := [(5, .int x72), (4, .ref (g.2.2 + r26)), (3, .ref (g.2.2 + r21)), (0, .ref (g.2.2 + v0)), (1, .int v1), (2, .int v2)]) hx hb dX10_finish_307 hl (by decide) rfl (fun ls hl => ?_)
        refine lv_goto (tgt := 390) hx hb dX10_finish_309 (by decide) ?_
        exact B_X10_finish_390 E  hf hM (lv_sub hl [3, 5, 0] rfl)
      have hf := jf c75 hf
      by_cases c79 : v1 = (137 : Int32)
      · have hf := jt c79 hf
        refine lv_lookup (off := 274) (tgt := 312) hx hb dX10_finish_38 (by decide) (by rw [c79]; rfl) (by decide) ?_
        refine lv_aload_n hx hb dX10_finish_312 rfl (lv_at hl 1 rfl) ?_
        refine lv_aload hx hb dX10_finish_313 (lv_at hl 0 rfl) ?_
        obtain ⟨x76, S77, hc78, hf⟩ := jbd_e hf
        refine jbackI hM (jrunS E hM ci_X3_last (C_X3_last hc78) lk_5_94 hl.1 rfl rfl (Nat.le_of_ble_eq_true rfl) ⟨Nat.le_of_ble_eq_true rfl, Nat.le_of_ble_eq_true rfl⟩ ⟨Nat.le_refl _, Nat.le_refl _⟩ dX10_finish_315) (fun H locs hM => ?_)
        refine lv_istore (lv' := [(5, .int x76), (4, .ref (g.2.2 + r26)), (3, .ref (g.2.2 + r21)), (0, .ref (g.2.2 + v0)), (1, .int v1), (2, .int v2)]) hx hb dX10_finish_318 hl (by decide) rfl (fun ls hl => ?_)
        refine lv_goto (tgt := 390) hx hb dX10_finish_320 (by decide) ?_
        exact B_X10_finish_390 E  hf hM (lv_sub hl [3, 5, 0] rfl)
      have hf := jf c79 hf
      by_cases c83 : v1 = (138 : Int32)
      · have hf := jt c83 hf
        refine lv_lookup (off := 211) (tgt := 249) hx hb dX10_finish_38 (by decide) (by rw [c83]; rfl) (by decide) ?_
        refine lv_aload_n hx hb dX10_finish_249 rfl (lv_at hl 1 rfl) ?_
        obtain ⟨x80, S81, hc82, hf⟩ := jbd_e hf
        refine jbackI hM (jrunS E hM ci_X3_len (C_X3_len hc82) lk_5_45 hl.1 rfl rfl (Nat.le_of_ble_eq_true rfl) ⟨Nat.le_of_ble_eq_true rfl, Nat.le_of_ble_eq_true rfl⟩ ⟨Nat.le_refl _, Nat.le_refl _⟩ dX10_finish_250) (fun H locs hM => ?_)
        refine lv_istore (lv' := [(5, .int x80), (4, .ref (g.2.2 + r26)), (3, .ref (g.2.2 + r21)), (0, .ref (g.2.2 + v0)), (1, .int v1), (2, .int v2)]) hx hb dX10_finish_253 hl (by decide) rfl (fun ls hl => ?_)
        refine lv_goto (tgt := 390) hx hb dX10_finish_255 (by decide) ?_
        exact B_X10_finish_390 E  hf hM (lv_sub hl [3, 5, 0] rfl)
      have hf := jf c83 hf
      by_cases c85 : v1 = (139 : Int32)
      · have hf := jt c85 hf
        refine lv_lookup (off := 308) (tgt := 346) hx hb dX10_finish_38 (by decide) (by rw [c85]; rfl) (by decide) ?_
        refine lv_iload_n hx hb dX10_finish_346 rfl (lv_at hl 3 rfl) ?_
        refine lv_sipush (v := (140 : Int32)) hx hb dX10_finish_347 (by decide) ?_
        refine lv_icmp_ne (tgt := 357) hx hb dX10_finish_350 (by decide) (fun c84 => ?_) (fun c84 => ?_)
        · have hf := jf c84 hf
          refine lv_iconst (v := (0 : Int32)) hx hb dX10_finish_357 (by decide) ?_
          exact B_X10_finish_358 E  hf hM (lv_sub hl [2, 4, 1, 0] rfl)
        · have hf := jt c84 hf
          refine lv_iconst (v := (1 : Int32)) hx hb dX10_finish_353 (by decide) ?_
          refine lv_goto (tgt := 358) hx hb dX10_finish_354 (by decide) ?_
          exact B_X10_finish_358 E  hf hM (lv_sub hl [2, 4, 1, 0] rfl)
      have hf := jf c85 hf
      by_cases c87 : v1 = (140 : Int32)
      · have hf := jt c87 hf
        refine lv_lookup (off := 308) (tgt := 346) hx hb dX10_finish_38 (by decide) (by rw [c87]; rfl) (by decide) ?_
        refine lv_iload_n hx hb dX10_finish_346 rfl (lv_at hl 3 rfl) ?_
        refine lv_sipush (v := (140 : Int32)) hx hb dX10_finish_347 (by decide) ?_
        refine lv_icmp_ne (tgt := 357) hx hb dX10_finish_350 (by decide) (fun c86 => ?_) (fun c86 => ?_)
        · have hf := jf c86 hf
          refine lv_iconst (v := (0 : Int32)) hx hb dX10_finish_357 (by decide) ?_
          exact B_X10_finish_358 E  hf hM (lv_sub hl [2, 4, 1, 0] rfl)
        · have hf := jt c86 hf
          refine lv_iconst (v := (1 : Int32)) hx hb dX10_finish_353 (by decide) ?_
          refine lv_goto (tgt := 358) hx hb dX10_finish_354 (by decide) ?_
          exact B_X10_finish_358 E  hf hM (lv_sub hl [2, 4, 1, 0] rfl)
      have hf := jf c87 hf
      by_cases c91 : v1 = (141 : Int32)
      · have hf := jt c91 hf
        refine lv_lookup (off := 229) (tgt := 267) hx hb dX10_finish_38 (by decide) (by rw [c91]; rfl) (by decide) ?_
        refine lv_iload_n hx hb dX10_finish_267 rfl (lv_at hl 3 rfl) ?_
        refine lv_aload_n hx hb dX10_finish_268 rfl (lv_at hl 1 rfl) ?_
        obtain ⟨x88, S89, hc90, hf⟩ := jbd_e hf
        refine jbackI hM (jrunS E hM ci_X3_real (C_X3_real hc90) lk_5_57 hl.1 rfl rfl (Nat.le_of_ble_eq_true rfl) ⟨Nat.le_of_ble_eq_true rfl, Nat.le_of_ble_eq_true rfl⟩ ⟨Nat.le_refl _, Nat.le_refl _⟩ dX10_finish_269) (fun H locs hM => ?_)
        refine lv_istore (lv' := [(5, .int x88), (4, .ref (g.2.2 + r26)), (3, .ref (g.2.2 + r21)), (0, .ref (g.2.2 + v0)), (1, .int v1), (2, .int v2)]) hx hb dX10_finish_272 hl (by decide) rfl (fun ls hl => ?_)
        refine lv_goto (tgt := 390) hx hb dX10_finish_274 (by decide) ?_
        exact B_X10_finish_390 E  hf hM (lv_sub hl [3, 5, 0] rfl)
      have hf := jf c91 hf
      by_cases c95 : v1 = (143 : Int32)
      · have hf := jt c95 hf
        refine lv_lookup (off := 229) (tgt := 267) hx hb dX10_finish_38 (by decide) (by rw [c95]; rfl) (by decide) ?_
        refine lv_iload_n hx hb dX10_finish_267 rfl (lv_at hl 3 rfl) ?_
        refine lv_aload_n hx hb dX10_finish_268 rfl (lv_at hl 1 rfl) ?_
        obtain ⟨x92, S93, hc94, hf⟩ := jbd_e hf
        refine jbackI hM (jrunS E hM ci_X3_real (C_X3_real hc94) lk_5_57 hl.1 rfl rfl (Nat.le_of_ble_eq_true rfl) ⟨Nat.le_of_ble_eq_true rfl, Nat.le_of_ble_eq_true rfl⟩ ⟨Nat.le_refl _, Nat.le_refl _⟩ dX10_finish_269) (fun H locs hM => ?_)
        refine lv_istore (lv' := [(5, .int x92), (4, .ref (g.2.2 + r26)), (3, .ref (g.2.2 + r21)), (0, .ref (g.2.2 + v0)), (1, .int v1), (2, .int v2)]) hx hb dX10_finish_272 hl (by decide) rfl (fun ls hl => ?_)
        refine lv_goto (tgt := 390) hx hb dX10_finish_274 (by decide) ?_
        exact B_X10_finish_390 E  hf hM (lv_sub hl [3, 5, 0] rfl)
      have hf := jf c95 hf
      by_cases c99 : v1 = (144 : Int32)
      · have hf := jt c99 hf
        refine lv_lookup (off := 229) (tgt := 267) hx hb dX10_finish_38 (by decide) (by rw [c99]; rfl) (by decide) ?_
        refine lv_iload_n hx hb dX10_finish_267 rfl (lv_at hl 3 rfl) ?_
        refine lv_aload_n hx hb dX10_finish_268 rfl (lv_at hl 1 rfl) ?_
        obtain ⟨x96, S97, hc98, hf⟩ := jbd_e hf
        refine jbackI hM (jrunS E hM ci_X3_real (C_X3_real hc98) lk_5_57 hl.1 rfl rfl (Nat.le_of_ble_eq_true rfl) ⟨Nat.le_of_ble_eq_true rfl, Nat.le_of_ble_eq_true rfl⟩ ⟨Nat.le_refl _, Nat.le_refl _⟩ dX10_finish_269) (fun H locs hM => ?_)
        refine lv_istore (lv' := [(5, .int x96), (4, .ref (g.2.2 + r26)), (3, .ref (g.2.2 + r21)), (0, .ref (g.2.2 + v0)), (1, .int v1), (2, .int v2)]) hx hb dX10_finish_272 hl (by decide) rfl (fun ls hl => ?_)
        refine lv_goto (tgt := 390) hx hb dX10_finish_274 (by decide) ?_
        exact B_X10_finish_390 E  hf hM (lv_sub hl [3, 5, 0] rfl)
      have hf := jf c99 hf
      by_cases c103 : v1 = (150 : Int32)
      · have hf := jt c103 hf
        refine lv_lookup (off := 220) (tgt := 258) hx hb dX10_finish_38 (by decide) (by rw [c103]; rfl) (by decide) ?_
        refine lv_aload_n hx hb dX10_finish_258 rfl (lv_at hl 1 rfl) ?_
        obtain ⟨x100, S101, hc102, hf⟩ := jbd_e hf
        refine jbackI hM (jrunS E hM ci_X3_whole (C_X3_whole hc102) lk_5_48 hl.1 rfl rfl (Nat.le_of_ble_eq_true rfl) ⟨Nat.le_of_ble_eq_true rfl, Nat.le_of_ble_eq_true rfl⟩ ⟨Nat.le_refl _, Nat.le_refl _⟩ dX10_finish_259) (fun H locs hM => ?_)
        refine lv_istore (lv' := [(5, .int x100), (4, .ref (g.2.2 + r26)), (3, .ref (g.2.2 + r21)), (0, .ref (g.2.2 + v0)), (1, .int v1), (2, .int v2)]) hx hb dX10_finish_262 hl (by decide) rfl (fun ls hl => ?_)
        refine lv_goto (tgt := 390) hx hb dX10_finish_264 (by decide) ?_
        exact B_X10_finish_390 E  hf hM (lv_sub hl [3, 5, 0] rfl)
      have hf := jf c103 hf
      by_cases c114 : v1 = (151 : Int32)
      · have hf := jt c114 hf
        refine lv_lookup (off := 285) (tgt := 323) hx hb dX10_finish_38 (by decide) (by rw [c114]; rfl) (by decide) ?_
        refine lv_aload_n hx hb dX10_finish_323 rfl (lv_at hl 2 rfl) ?_
        refine gt_55 E hM hq17 lk_2_5 dX10_finish_324 ?_
        obtain ⟨r104, hr105, hf⟩ := jb hf
        rw [hr105]
        show W p l e _ s m args below meth c H locs 0 0 _ (F0 m _ ls (.ref (g.2.2 + r104) :: _))
        refine lv_aload_n hx hb dX10_finish_327 rfl (lv_at hl 1 rfl) ?_
        refine lv_aload hx hb dX10_finish_328 (lv_at hl 0 rfl) ?_
        refine lv_aload_n hx hb dX10_finish_330 rfl (lv_at hl 2 rfl) ?_
        refine gt_61 E hM hq17 lk_2_11 dX10_finish_331 ?_
        obtain ⟨r106, hr107, hf⟩ := jb hf
        rw [hr107]
        show W p l e _ s m args below meth c H locs 0 0 _ (F0 m _ ls (.ref (g.2.2 + r106) :: _))
        refine lv_iload_n hx hb dX10_finish_334 rfl (lv_at hl 4 rfl) ?_
        refine lv_iconst (v := (2 : Int32)) hx hb dX10_finish_335 (by decide) ?_
        refine lv_iadd hx hb dX10_finish_336 ?_
        obtain ⟨ha108, hf⟩ := jif hf
        refine jaald (k := 19) (t0 := 8) E hM ha108 (by decide) (by decide) rfl dX10_finish_337 ?_
        obtain ⟨r109, hr110, hf⟩ := jb hf
        rw [hr110]
        show W p l e _ s m args below meth c H locs 0 0 _ (F0 m _ ls (.ref (g.2.2 + r109) :: _))
        obtain ⟨x111, S112, hc113, hf⟩ := jbd_e hf
        refine jbackI hM (jrunS E hM ci_X3_with (C_X3_with hc113) lk_5_97 hl.1 rfl rfl (Nat.le_of_ble_eq_true rfl) ⟨Nat.le_of_ble_eq_true rfl, Nat.le_of_ble_eq_true rfl⟩ ⟨Nat.le_refl _, Nat.le_refl _⟩ dX10_finish_338) (fun H locs hM => ?_)
        refine lv_istore (lv' := [(5, .int x111), (4, .ref (g.2.2 + r26)), (3, .ref (g.2.2 + r21)), (0, .ref (g.2.2 + v0)), (1, .int v1), (2, .int v2)]) hx hb dX10_finish_341 hl (by decide) rfl (fun ls hl => ?_)
        refine lv_goto (tgt := 390) hx hb dX10_finish_343 (by decide) ?_
        exact B_X10_finish_390 E  hf hM (lv_sub hl [3, 5, 0] rfl)
      have hf := jf c114 hf
      by_cases c118 : v1 = (152 : Int32)
      · have hf := jt c118 hf
        refine lv_lookup (off := 239) (tgt := 277) hx hb dX10_finish_38 (by decide) (by rw [c118]; rfl) (by decide) ?_
        refine lv_aload_n hx hb dX10_finish_277 rfl (lv_at hl 1 rfl) ?_
        obtain ⟨x115, S116, hc117, hf⟩ := jbd_e hf
        refine jbackI hM (jrunS E hM ci_X3_zeros (C_X3_zeros hc117) lk_5_74 hl.1 rfl rfl (Nat.le_of_ble_eq_true rfl) ⟨Nat.le_of_ble_eq_true rfl, Nat.le_of_ble_eq_true rfl⟩ ⟨Nat.le_refl _, Nat.le_refl _⟩ dX10_finish_278) (fun H locs hM => ?_)
        refine lv_istore (lv' := [(5, .int x115), (4, .ref (g.2.2 + r26)), (3, .ref (g.2.2 + r21)), (0, .ref (g.2.2 + v0)), (1, .int v1), (2, .int v2)]) hx hb dX10_finish_281 hl (by decide) rfl (fun ls hl => ?_)
        refine lv_goto (tgt := 390) hx hb dX10_finish_283 (by decide) ?_
        exact B_X10_finish_390 E  hf hM (lv_sub hl [3, 5, 0] rfl)
      have hf := jf c118 hf
      refine jlookD (tgt := 381) hx hb dX10_finish_38 (by decide) (by decide) (List.forall_mem_cons.mpr ⟨jne (k := 5) c31 rfl, List.forall_mem_cons.mpr ⟨jne (k := 9) c35 rfl, List.forall_mem_cons.mpr ⟨jne (k := 10) c39 rfl, List.forall_mem_cons.mpr ⟨jne (k := 60) c43 rfl, List.forall_mem_cons.mpr ⟨jne (k := 61) c47 rfl, List.forall_mem_cons.mpr ⟨jne (k := 91) c51 rfl, List.forall_mem_cons.mpr ⟨jne (k := 128) c55 rfl, List.forall_mem_cons.mpr ⟨jne (k := 129) c61 rfl, List.forall_mem_cons.mpr ⟨jne (k := 130) c65 rfl, List.forall_mem_cons.mpr ⟨jne (k := 133) c69 rfl, List.forall_mem_cons.mpr ⟨jne (k := 136) c75 rfl, List.forall_mem_cons.mpr ⟨jne (k := 137) c79 rfl, List.forall_mem_cons.mpr ⟨jne (k := 138) c83 rfl, List.forall_mem_cons.mpr ⟨jne (k := 139) c85 rfl, List.forall_mem_cons.mpr ⟨jne (k := 140) c87 rfl, List.forall_mem_cons.mpr ⟨jne (k := 141) c91 rfl, List.forall_mem_cons.mpr ⟨jne (k := 143) c95 rfl, List.forall_mem_cons.mpr ⟨jne (k := 144) c99 rfl, List.forall_mem_cons.mpr ⟨jne (k := 150) c103 rfl, List.forall_mem_cons.mpr ⟨jne (k := 151) c114 rfl, List.forall_mem_cons.mpr ⟨jne (k := 152) c118 rfl, fun _ h => absurd h List.not_mem_nil⟩⟩⟩⟩⟩⟩⟩⟩⟩⟩⟩⟩⟩⟩⟩⟩⟩⟩⟩⟩⟩) ?_
      refine lv_iload_n hx hb dX10_finish_381 rfl (lv_at hl 3 rfl) ?_
      refine lv_aload_n hx hb dX10_finish_382 rfl (lv_at hl 1 rfl) ?_
      refine lv_aload hx hb dX10_finish_383 (lv_at hl 0 rfl) ?_
      obtain ⟨x119, S120, hc121, hf⟩ := jbd_e hf
      refine jbackI hM (jrunS E hM ci_X3_arithmetic (C_X3_arithmetic hc121) lk_4_236 hl.1 rfl rfl (Nat.le_of_ble_eq_true rfl) ⟨Nat.le_of_ble_eq_true rfl, Nat.le_of_ble_eq_true rfl⟩ ⟨Nat.le_refl _, Nat.le_refl _⟩ dX10_finish_385) (fun H locs hM => ?_)
      refine lv_istore (lv' := [(5, .int x119), (4, .ref (g.2.2 + r26)), (3, .ref (g.2.2 + r21)), (0, .ref (g.2.2 + v0)), (1, .int v1), (2, .int v2)]) hx hb dX10_finish_388 hl (by decide) rfl (fun ls hl => ?_)
      exact B_X10_finish_390 E  hf hM (lv_sub hl [3, 5, 0] rfl)
    · have hf := jf c16 hf
      exact B_X10_finish_13 E  hf hM (lv_sub hl [0] rfl)
set_option maxRecDepth 100000 in
theorem C_X10_finish {l : Launch} {g : jG} {a0 : Nat} {a1 : Int32} {a2 : Int32} {S : jM} {SS : jM} (hf : f_X10_finish a0 a1 a2 S = some SS) : jMet l g yX10_finish cX10_finish 6 none 4 0 0 [.ref (g.2.2 + a0), .int a1, .int a2] S (jQv g SS) := by
  refine jof (by decide +kernel) (Nat.le_of_ble_eq_true rfl) ?_
  intro p e s m below meth c E hM ls hl
  have hl : lv_has ls 6 [(0, .ref (g.2.2 + a0)),(1, .int a1),(2, .int a2)] := hl
  exact B_X10_finish_0 E hf hM hl
-- PensionHouse$Worker.leaveFailed()V  mode M
noncomputable def f_X10_leaveFailed_150 (v0 : Nat) (S : jM) : Option jM := if jK v0 = 8 then (f_X10_leave v0 S).bind (fun S1 => some S1) else none
noncomputable def f_X10_leaveFailed_104 (v0 : Nat) (v1 : Int32) (v2 : Int32) (S : jM) : Option jM := if jK v0 = 8 then (jR S 65 v0).bind (fun r5 => if jK r5 = 6 then (jR S 46 r5).bind (fun r8 => if jA r8 13 v2 = true then if (jAI S r8 (v2).toNatClampNeg) = (7 : Int32) then (jR S 57 v0).bind (fun r12 => if jA r12 13 v1 = true then if (jAI S r12 (v1).toNatClampNeg) ≤ 0 then f_X10_leaveFailed_150 v0 S else (jR S 64 v0).bind (fun r16 => (jR S 65 v0).bind (fun r18 => if jK r18 = 6 then (jR S 47 r18).bind (fun r21 => if jA r21 14 v2 = true then (jR S 61 v0).bind (fun r24 => if jA r24 19 (0 : Int32) = true then (jAR S r24 ((0 : Int32)).toNatClampNeg).bind (fun r27 => if jK r16 = 1 then (f_X1_endRule r16 ((jAL S r21 (v2).toNatClampNeg).toInt32) r27 S).bind (fun S29 => f_X10_leaveFailed_150 v0 S29) else none) else none) else none) else none)) else none) else f_X10_leaveFailed_150 v0 S else none) else none) else none
noncomputable def f_X10_leaveFailed (v0 : Nat) (S : jM) : Option jM := if jK v0 = 8 then jlet ((jI S 60 v0) - (1 : Int32)) (fun x33 => (jR S 56 v0).bind (fun r34 => if jA r34 13 x33 = true then jlet (jAI S r34 (x33).toNatClampNeg) (fun x37 => (jR S 65 v0).bind (fun r38 => if jK r38 = 6 then (jR S 46 r38).bind (fun r41 => if jA r41 13 x37 = true then if (jAI S r41 (x37).toNatClampNeg) = (149 : Int32) then (jR S 57 v0).bind (fun r45 => if jA r45 13 x33 = true then if (jAI S r45 (x33).toNatClampNeg) = (1 : Int32) then (jR S 64 v0).bind (fun r49 => if jK r49 = 1 then if (jI S 7 r49) = (7 : Int32) then f_X10_leaveFailed_104 v0 x33 x37 S else (jR S 64 v0).bind (fun r53 => if jK r53 = 1 then jlet (jsI S 7 r53 (0 : Int32)) (fun S56 => (jR S56 64 v0).bind (fun r57 => if jK r57 = 1 then jlet (jsI S56 8 r57 (-1 : Int32)) (fun S60 => (jR S60 64 v0).bind (fun r61 => if jK r61 = 1 then jlet (jsI S60 11 r61 ((jI S60 11 r61) + (1 : Int32))) (fun S64 => (jR S64 58 v0).bind (fun r65 => if jA r65 13 x33 = true then jlet (jsI S64 62 v0 (jAI S64 r65 (x33).toNatClampNeg)) (fun S68 => (jR S68 57 v0).bind (fun r69 => if jA r69 13 x33 = true then jlet (jrI S68 r69 (upd (jAI S68 r69) (x33).toNatClampNeg (2 : Int32))) (fun S72 => (f_X10_enterInner v0 x37 (1 : Int32) S72).bind (fun S73 => some S73)) else none)) else none)) else none)) else none)) else none) else none) else f_X10_leaveFailed_104 v0 x33 x37 S else none) else f_X10_leaveFailed_104 v0 x33 x37 S else none) else none)) else none)) else none
set_option maxRecDepth 100000 in
set_option maxHeartbeats 4000000 in
theorem B_X10_leaveFailed_150 {p : Program} {l : Launch} {e : Env} {s : State} {m : MethodId} {args : Array Value} {below : List Frame} {meth : Method} {c : Code} {g : jG} {SS : jM} {v0 : Nat} {S : jM} (E : jEnv p s m args meth c cX10_leaveFailed "PensionHouse$Worker" none 3 g)  {H : Heap} {locs : List Loc} {ls : Array Slot} (hf : f_X10_leaveFailed_150 v0 S = some SS) (hM : jAt g S s H locs) (hl : lv_has ls 3 [(0, .ref (g.2.2 + v0))]) : W p l e (jRm 4 0 0) s m args below meth c H locs 0 0 (MQ below (jQv g SS) args s 0 0 (jA0 g)) (F0 m 150 ls []) := by
  obtain ⟨hx, hb, hml, -, hts, hown, hK, -, hstr⟩ := id E
  unfold f_X10_leaveFailed_150 at hf
  refine lv_aload_n hx hb dX10_leaveFailed_150 rfl (lv_at hl 0 rfl) ?_
  obtain ⟨hq3, hf⟩ := jif hf
  obtain ⟨S1, hc2, hf⟩ := jb hf
  refine jbackV hM (jrunV E hM ci_X10_leave (C_X10_leave hc2) lk_4_187 hq3 (by decide) rfl hl.1 rfl rfl (Nat.le_of_ble_eq_true rfl) ⟨Nat.le_of_ble_eq_true rfl, Nat.le_of_ble_eq_true rfl⟩ ⟨Nat.le_refl _, Nat.le_refl _⟩ dX10_leaveFailed_151) (fun H locs hM => ?_)
  exact jvret (jrv hf) E hM dX10_leaveFailed_154
set_option maxRecDepth 100000 in
set_option maxHeartbeats 4000000 in
theorem B_X10_leaveFailed_104 {p : Program} {l : Launch} {e : Env} {s : State} {m : MethodId} {args : Array Value} {below : List Frame} {meth : Method} {c : Code} {g : jG} {SS : jM} {v0 : Nat} {v1 : Int32} {v2 : Int32} {S : jM} (E : jEnv p s m args meth c cX10_leaveFailed "PensionHouse$Worker" none 3 g)  {H : Heap} {locs : List Loc} {ls : Array Slot} (hf : f_X10_leaveFailed_104 v0 v1 v2 S = some SS) (hM : jAt g S s H locs) (hl : lv_has ls 3 [(0, .ref (g.2.2 + v0)), (1, .int v1), (2, .int v2)]) : W p l e (jRm 4 0 0) s m args below meth c H locs 0 0 (MQ below (jQv g SS) args s 0 0 (jA0 g)) (F0 m 104 ls []) := by
  obtain ⟨hx, hb, hml, -, hts, hown, hK, -, hstr⟩ := id E
  unfold f_X10_leaveFailed_104 at hf
  refine lv_aload_n hx hb dX10_leaveFailed_104 rfl (lv_at hl 0 rfl) ?_
  obtain ⟨hq4, hf⟩ := jif hf
  refine gt_65 E hM hq4 lk_2_15 dX10_leaveFailed_105 ?_
  obtain ⟨r5, hr6, hf⟩ := jb hf
  rw [hr6]
  show W p l e _ s m args below meth c H locs 0 0 _ (F0 m _ ls (.ref (g.2.2 + r5) :: _))
  obtain ⟨hq7, hf⟩ := jif hf
  refine gt_46 E hM hq7 lk_1_179 dX10_leaveFailed_108 ?_
  obtain ⟨r8, hr9, hf⟩ := jb hf
  rw [hr9]
  show W p l e _ s m args below meth c H locs 0 0 _ (F0 m _ ls (.ref (g.2.2 + r8) :: _))
  refine lv_iload_n hx hb dX10_leaveFailed_111 rfl (lv_at hl 2 rfl) ?_
  obtain ⟨ha10, hf⟩ := jif hf
  refine jiald E hM ha10 dX10_leaveFailed_112 ?_
  refine lv_bipush (v := (7 : Int32)) hx hb dX10_leaveFailed_113 (by decide) ?_
  refine lv_icmp_ne (tgt := 150) hx hb dX10_leaveFailed_115 (by decide) (fun c11 => ?_) (fun c11 => ?_)
  · have hf := jf c11 hf
    exact B_X10_leaveFailed_150 E  hf hM (lv_sub hl [0] rfl)
  · have hf := jt c11 hf
    refine lv_aload_n hx hb dX10_leaveFailed_118 rfl (lv_at hl 0 rfl) ?_
    refine gt_57 E hM hq4 lk_2_7 dX10_leaveFailed_119 ?_
    obtain ⟨r12, hr13, hf⟩ := jb hf
    rw [hr13]
    show W p l e _ s m args below meth c H locs 0 0 _ (F0 m _ ls (.ref (g.2.2 + r12) :: _))
    refine lv_iload_n hx hb dX10_leaveFailed_122 rfl (lv_at hl 1 rfl) ?_
    obtain ⟨ha14, hf⟩ := jif hf
    refine jiald E hM ha14 dX10_leaveFailed_123 ?_
    refine lv_if_le (tgt := 150) hx hb dX10_leaveFailed_124 (by decide) (fun c15 => ?_) (fun c15 => ?_)
    · have hf := jt c15 hf
      exact B_X10_leaveFailed_150 E  hf hM (lv_sub hl [0] rfl)
    · have hf := jf c15 hf
      refine lv_aload_n hx hb dX10_leaveFailed_127 rfl (lv_at hl 0 rfl) ?_
      refine gt_64 E hM hq4 lk_2_14 dX10_leaveFailed_128 ?_
      obtain ⟨r16, hr17, hf⟩ := jb hf
      rw [hr17]
      show W p l e _ s m args below meth c H locs 0 0 _ (F0 m _ ls (.ref (g.2.2 + r16) :: _))
      refine lv_aload_n hx hb dX10_leaveFailed_131 rfl (lv_at hl 0 rfl) ?_
      refine gt_65 E hM hq4 lk_2_15 dX10_leaveFailed_132 ?_
      obtain ⟨r18, hr19, hf⟩ := jb hf
      rw [hr19]
      show W p l e _ s m args below meth c H locs 0 0 _ (F0 m _ ls (.ref (g.2.2 + r18) :: _))
      obtain ⟨hq20, hf⟩ := jif hf
      refine gt_47 E hM hq20 lk_1_181 dX10_leaveFailed_135 ?_
      obtain ⟨r21, hr22, hf⟩ := jb hf
      rw [hr22]
      show W p l e _ s m args below meth c H locs 0 0 _ (F0 m _ ls (.ref (g.2.2 + r21) :: _))
      refine lv_iload_n hx hb dX10_leaveFailed_138 rfl (lv_at hl 2 rfl) ?_
      obtain ⟨ha23, hf⟩ := jif hf
      refine jlald E hM ha23 dX10_leaveFailed_139 ?_
      refine lv_l2i hx hb dX10_leaveFailed_140 rfl ?_
      refine lv_aload_n hx hb dX10_leaveFailed_141 rfl (lv_at hl 0 rfl) ?_
      refine gt_61 E hM hq4 lk_2_11 dX10_leaveFailed_142 ?_
      obtain ⟨r24, hr25, hf⟩ := jb hf
      rw [hr25]
      show W p l e _ s m args below meth c H locs 0 0 _ (F0 m _ ls (.ref (g.2.2 + r24) :: _))
      refine lv_iconst (v := (0 : Int32)) hx hb dX10_leaveFailed_145 (by decide) ?_
      obtain ⟨ha26, hf⟩ := jif hf
      refine jaald (k := 19) (t0 := 8) E hM ha26 (by decide) (by decide) rfl dX10_leaveFailed_146 ?_
      obtain ⟨r27, hr28, hf⟩ := jb hf
      rw [hr28]
      show W p l e _ s m args below meth c H locs 0 0 _ (F0 m _ ls (.ref (g.2.2 + r27) :: _))
      obtain ⟨hq31, hf⟩ := jif hf
      obtain ⟨S29, hc30, hf⟩ := jb hf
      refine jbackV hM (jrunV E hM ci_X1_endRule (C_X1_endRule hc30) lk_4_206 hq31 (by decide) rfl hl.1 rfl rfl (Nat.le_of_ble_eq_true rfl) ⟨Nat.le_of_ble_eq_true rfl, Nat.le_of_ble_eq_true rfl⟩ ⟨Nat.le_refl _, Nat.le_refl _⟩ dX10_leaveFailed_147) (fun H locs hM => ?_)
      exact B_X10_leaveFailed_150 E  hf hM (lv_sub hl [0] rfl)
set_option maxRecDepth 100000 in
set_option maxHeartbeats 4000000 in
theorem B_X10_leaveFailed_0 {p : Program} {l : Launch} {e : Env} {s : State} {m : MethodId} {args : Array Value} {below : List Frame} {meth : Method} {c : Code} {g : jG} {SS : jM} {v0 : Nat} {S : jM} (E : jEnv p s m args meth c cX10_leaveFailed "PensionHouse$Worker" none 3 g)  {H : Heap} {locs : List Loc} {ls : Array Slot} (hf : f_X10_leaveFailed v0 S = some SS) (hM : jAt g S s H locs) (hl : lv_has ls 3 [(0, .ref (g.2.2 + v0))]) : W p l e (jRm 4 0 0) s m args below meth c H locs 0 0 (MQ below (jQv g SS) args s 0 0 (jA0 g)) (F0 m 0 ls []) := by
  obtain ⟨hx, hb, hml, -, hts, hown, hK, -, hstr⟩ := id E
  unfold f_X10_leaveFailed at hf
  refine lv_aload_n hx hb dX10_leaveFailed_0 rfl (lv_at hl 0 rfl) ?_
  obtain ⟨hq32, hf⟩ := jif hf
  refine gt_60 E hM hq32 lk_2_10 dX10_leaveFailed_1 ?_
  refine lv_iconst (v := (1 : Int32)) hx hb dX10_leaveFailed_4 (by decide) ?_
  refine lv_isub hx hb dX10_leaveFailed_5 ?_
  refine lv_topi (fun x33 ex33 => ?_)
  have hf := jlet_y ex33 hf
  refine lv_istore_n (lv' := [(1, .int x33), (0, .ref (g.2.2 + v0))]) hx hb dX10_leaveFailed_6 rfl hl (by decide) rfl (fun ls hl => ?_)
  refine lv_aload_n hx hb dX10_leaveFailed_7 rfl (lv_at hl 1 rfl) ?_
  refine gt_56 E hM hq32 lk_2_6 dX10_leaveFailed_8 ?_
  obtain ⟨r34, hr35, hf⟩ := jb hf
  rw [hr35]
  show W p l e _ s m args below meth c H locs 0 0 _ (F0 m _ ls (.ref (g.2.2 + r34) :: _))
  refine lv_iload_n hx hb dX10_leaveFailed_11 rfl (lv_at hl 0 rfl) ?_
  obtain ⟨ha36, hf⟩ := jif hf
  refine jiald E hM ha36 dX10_leaveFailed_12 ?_
  refine lv_topi (fun x37 ex37 => ?_)
  have hf := jlet_y ex37 hf
  refine lv_istore_n (lv' := [(2, .int x37), (1, .int x33), (0, .ref (g.2.2 + v0))]) hx hb dX10_leaveFailed_13 rfl hl (by decide) rfl (fun ls hl => ?_)
  refine lv_aload_n hx hb dX10_leaveFailed_14 rfl (lv_at hl 2 rfl) ?_
  refine gt_65 E hM hq32 lk_2_15 dX10_leaveFailed_15 ?_
  obtain ⟨r38, hr39, hf⟩ := jb hf
  rw [hr39]
  show W p l e _ s m args below meth c H locs 0 0 _ (F0 m _ ls (.ref (g.2.2 + r38) :: _))
  obtain ⟨hq40, hf⟩ := jif hf
  refine gt_46 E hM hq40 lk_1_179 dX10_leaveFailed_18 ?_
  obtain ⟨r41, hr42, hf⟩ := jb hf
  rw [hr42]
  show W p l e _ s m args below meth c H locs 0 0 _ (F0 m _ ls (.ref (g.2.2 + r41) :: _))
  refine lv_iload_n hx hb dX10_leaveFailed_21 rfl (lv_at hl 0 rfl) ?_
  obtain ⟨ha43, hf⟩ := jif hf
  refine jiald E hM ha43 dX10_leaveFailed_22 ?_
  refine lv_sipush (v := (149 : Int32)) hx hb dX10_leaveFailed_23 (by decide) ?_
  refine lv_icmp_ne (tgt := 104) hx hb dX10_leaveFailed_26 (by decide) (fun c44 => ?_) (fun c44 => ?_)
  · have hf := jf c44 hf
    exact B_X10_leaveFailed_104 E  hf hM (lv_sub hl [2, 1, 0] rfl)
  · have hf := jt c44 hf
    refine lv_aload_n hx hb dX10_leaveFailed_29 rfl (lv_at hl 2 rfl) ?_
    refine gt_57 E hM hq32 lk_2_7 dX10_leaveFailed_30 ?_
    obtain ⟨r45, hr46, hf⟩ := jb hf
    rw [hr46]
    show W p l e _ s m args below meth c H locs 0 0 _ (F0 m _ ls (.ref (g.2.2 + r45) :: _))
    refine lv_iload_n hx hb dX10_leaveFailed_33 rfl (lv_at hl 1 rfl) ?_
    obtain ⟨ha47, hf⟩ := jif hf
    refine jiald E hM ha47 dX10_leaveFailed_34 ?_
    refine lv_iconst (v := (1 : Int32)) hx hb dX10_leaveFailed_35 (by decide) ?_
    refine lv_icmp_ne (tgt := 104) hx hb dX10_leaveFailed_36 (by decide) (fun c48 => ?_) (fun c48 => ?_)
    · have hf := jf c48 hf
      exact B_X10_leaveFailed_104 E  hf hM (lv_sub hl [2, 1, 0] rfl)
    · have hf := jt c48 hf
      refine lv_aload_n hx hb dX10_leaveFailed_39 rfl (lv_at hl 2 rfl) ?_
      refine gt_64 E hM hq32 lk_2_14 dX10_leaveFailed_40 ?_
      obtain ⟨r49, hr50, hf⟩ := jb hf
      rw [hr50]
      show W p l e _ s m args below meth c H locs 0 0 _ (F0 m _ ls (.ref (g.2.2 + r49) :: _))
      obtain ⟨hq51, hf⟩ := jif hf
      refine gt_7 E hM hq51 lk_2_60 dX10_leaveFailed_43 ?_
      refine lv_bipush (v := (7 : Int32)) hx hb dX10_leaveFailed_46 (by decide) ?_
      refine lv_icmp_eq (tgt := 104) hx hb dX10_leaveFailed_48 (by decide) (fun c52 => ?_) (fun c52 => ?_)
      · have hf := jt c52 hf
        exact B_X10_leaveFailed_104 E  hf hM (lv_sub hl [2, 1, 0] rfl)
      · have hf := jf c52 hf
        refine lv_aload_n hx hb dX10_leaveFailed_51 rfl (lv_at hl 2 rfl) ?_
        refine gt_64 E hM hq32 lk_2_14 dX10_leaveFailed_52 ?_
        obtain ⟨r53, hr54, hf⟩ := jb hf
        rw [hr54]
        show W p l e _ s m args below meth c H locs 0 0 _ (F0 m _ ls (.ref (g.2.2 + r53) :: _))
        refine lv_iconst (v := (0 : Int32)) hx hb dX10_leaveFailed_55 (by decide) ?_
        obtain ⟨hq55, hf⟩ := jif hf
        refine pt_7 E hM hq55 lk_2_60 dX10_leaveFailed_56 (fun H locs S56 eS56 hM => ?_)
        have hf := jlet_y eS56 hf
        refine lv_aload_n hx hb dX10_leaveFailed_59 rfl (lv_at hl 2 rfl) ?_
        refine gt_64 E hM hq32 lk_2_14 dX10_leaveFailed_60 ?_
        obtain ⟨r57, hr58, hf⟩ := jb hf
        rw [hr58]
        show W p l e _ s m args below meth c H locs 0 0 _ (F0 m _ ls (.ref (g.2.2 + r57) :: _))
        refine lv_iconst (v := (-1 : Int32)) hx hb dX10_leaveFailed_63 (by decide) ?_
        obtain ⟨hq59, hf⟩ := jif hf
        refine pt_8 E hM hq59 lk_2_63 dX10_leaveFailed_64 (fun H locs S60 eS60 hM => ?_)
        have hf := jlet_y eS60 hf
        refine lv_aload_n hx hb dX10_leaveFailed_67 rfl (lv_at hl 2 rfl) ?_
        refine gt_64 E hM hq32 lk_2_14 dX10_leaveFailed_68 ?_
        obtain ⟨r61, hr62, hf⟩ := jb hf
        rw [hr62]
        show W p l e _ s m args below meth c H locs 0 0 _ (F0 m _ ls (.ref (g.2.2 + r61) :: _))
        refine lv_dup hx hb dX10_leaveFailed_71 rfl ?_
        obtain ⟨hq63, hf⟩ := jif hf
        refine gt_11 E hM hq63 lk_2_72 dX10_leaveFailed_72 ?_
        refine lv_iconst (v := (1 : Int32)) hx hb dX10_leaveFailed_75 (by decide) ?_
        refine lv_iadd hx hb dX10_leaveFailed_76 ?_
        refine pt_11 E hM hq63 lk_2_72 dX10_leaveFailed_77 (fun H locs S64 eS64 hM => ?_)
        have hf := jlet_y eS64 hf
        refine lv_aload_n hx hb dX10_leaveFailed_80 rfl (lv_at hl 2 rfl) ?_
        refine lv_aload_n hx hb dX10_leaveFailed_81 rfl (lv_at hl 2 rfl) ?_
        refine gt_58 E hM hq32 lk_2_8 dX10_leaveFailed_82 ?_
        obtain ⟨r65, hr66, hf⟩ := jb hf
        rw [hr66]
        show W p l e _ s m args below meth c H locs 0 0 _ (F0 m _ ls (.ref (g.2.2 + r65) :: _))
        refine lv_iload_n hx hb dX10_leaveFailed_85 rfl (lv_at hl 1 rfl) ?_
        obtain ⟨ha67, hf⟩ := jif hf
        refine jiald E hM ha67 dX10_leaveFailed_86 ?_
        refine pt_62 E hM hq32 lk_2_12 dX10_leaveFailed_87 (fun H locs S68 eS68 hM => ?_)
        have hf := jlet_y eS68 hf
        refine lv_aload_n hx hb dX10_leaveFailed_90 rfl (lv_at hl 2 rfl) ?_
        refine gt_57 E hM hq32 lk_2_7 dX10_leaveFailed_91 ?_
        obtain ⟨r69, hr70, hf⟩ := jb hf
        rw [hr70]
        show W p l e _ s m args below meth c H locs 0 0 _ (F0 m _ ls (.ref (g.2.2 + r69) :: _))
        refine lv_iload_n hx hb dX10_leaveFailed_94 rfl (lv_at hl 1 rfl) ?_
        refine lv_iconst (v := (2 : Int32)) hx hb dX10_leaveFailed_95 (by decide) ?_
        obtain ⟨ha71, hf⟩ := jif hf
        refine jiast E hM ha71 dX10_leaveFailed_96 (fun H locs S72 eS72 hM => ?_)
        have hf := jlet_y eS72 hf
        refine lv_aload_n hx hb dX10_leaveFailed_97 rfl (lv_at hl 2 rfl) ?_
        refine lv_iload_n hx hb dX10_leaveFailed_98 rfl (lv_at hl 0 rfl) ?_
        refine lv_iconst (v := (1 : Int32)) hx hb dX10_leaveFailed_99 (by decide) ?_
        obtain ⟨S73, hc74, hf⟩ := jb hf
        refine jbackV hM (jrunV E hM ci_X10_enterInner (C_X10_enterInner hc74) lk_4_220 hq32 (by decide) rfl hl.1 rfl rfl (Nat.le_of_ble_eq_true rfl) ⟨Nat.le_of_ble_eq_true rfl, Nat.le_of_ble_eq_true rfl⟩ ⟨Nat.le_refl _, Nat.le_refl _⟩ dX10_leaveFailed_100) (fun H locs hM => ?_)
        exact jvret (jrv hf) E hM dX10_leaveFailed_103
set_option maxRecDepth 100000 in
theorem C_X10_leaveFailed {l : Launch} {g : jG} {a0 : Nat} {S : jM} {SS : jM} (hf : f_X10_leaveFailed a0 S = some SS) : jMet l g yX10_leaveFailed cX10_leaveFailed 3 none 4 0 0 [.ref (g.2.2 + a0)] S (jQv g SS) := by
  refine jof (by decide +kernel) (Nat.le_of_ble_eq_true rfl) ?_
  intro p e s m below meth c E hM ls hl
  have hl : lv_has ls 3 [(0, .ref (g.2.2 + a0))] := hl
  exact B_X10_leaveFailed_0 E hf hM hl
-- PensionHouse$Worker.pushNumber(IJ)V  mode M
noncomputable def f_X10_pushNumber (v0 : Nat) (v1 : Int32) (v2 : Int64) (S : jM) : Option jM := if jK v0 = 8 then jbd (f_X10_pushed v0 S) (fun x1 S2 => (x1).bind (fun r5 => if jK r5 = 7 then (f_X9_setNumber r5 v1 v2 S2).bind (fun S7 => (f_X10_leave v0 S7).bind (fun S10 => some S10)) else none)) else none
set_option maxRecDepth 100000 in
set_option maxHeartbeats 4000000 in
theorem B_X10_pushNumber_0 {p : Program} {l : Launch} {e : Env} {s : State} {m : MethodId} {args : Array Value} {below : List Frame} {meth : Method} {c : Code} {g : jG} {SS : jM} {v0 : Nat} {v1 : Int32} {v2 : Int64} {S : jM} (E : jEnv p s m args meth c cX10_pushNumber "PensionHouse$Worker" none 4 g)  {H : Heap} {locs : List Loc} {ls : Array Slot} (hf : f_X10_pushNumber v0 v1 v2 S = some SS) (hM : jAt g S s H locs) (hl : lv_has ls 4 [(0, .ref (g.2.2 + v0)), (1, .int v1), (2, .long v2)]) : W p l e (jRm 2 0 0) s m args below meth c H locs 0 0 (MQ below (jQv g SS) args s 0 0 (jA0 g)) (F0 m 0 ls []) := by
  obtain ⟨hx, hb, hml, -, hts, hown, hK, -, hstr⟩ := id E
  unfold f_X10_pushNumber at hf
  refine lv_aload_n hx hb dX10_pushNumber_0 rfl (lv_at hl 0 rfl) ?_
  obtain ⟨hq4, hf⟩ := jif hf
  obtain ⟨x1, S2, hc3, hf⟩ := jbd_e hf
  refine jbackQ hM (jrunV E hM ci_X10_pushed (C_X10_pushed hc3) lk_4_182 hq4 (by decide) rfl hl.1 rfl rfl (Nat.le_of_ble_eq_true rfl) ⟨Nat.le_of_ble_eq_true rfl, Nat.le_of_ble_eq_true rfl⟩ ⟨Nat.le_refl _, Nat.le_refl _⟩ dX10_pushNumber_1) (fun H locs hM => ?_)
  obtain ⟨r5, hr6, hf⟩ := jb hf
  rw [hr6]
  show W p l e _ s m args below meth c H locs 0 0 _ (F0 m _ ls (.ref (g.2.2 + r5) :: _))
  refine lv_iload_n hx hb dX10_pushNumber_4 rfl (lv_at hl 1 rfl) ?_
  refine lv_lload_n hx hb dX10_pushNumber_5 rfl (lv_at hl 2 rfl) ?_
  obtain ⟨hq9, hf⟩ := jif hf
  obtain ⟨S7, hc8, hf⟩ := jb hf
  refine jbackV hM (jrunV E hM ci_X9_setNumber (C_X9_setNumber hc8) lk_4_186 hq9 (by decide) rfl hl.1 rfl rfl (Nat.le_of_ble_eq_true rfl) ⟨Nat.le_of_ble_eq_true rfl, Nat.le_of_ble_eq_true rfl⟩ ⟨Nat.le_refl _, Nat.le_refl _⟩ dX10_pushNumber_6) (fun H locs hM => ?_)
  refine lv_aload_n hx hb dX10_pushNumber_9 rfl (lv_at hl 0 rfl) ?_
  obtain ⟨S10, hc11, hf⟩ := jb hf
  refine jbackV hM (jrunV E hM ci_X10_leave (C_X10_leave hc11) lk_4_187 hq4 (by decide) rfl hl.1 rfl rfl (Nat.le_of_ble_eq_true rfl) ⟨Nat.le_of_ble_eq_true rfl, Nat.le_of_ble_eq_true rfl⟩ ⟨Nat.le_refl _, Nat.le_refl _⟩ dX10_pushNumber_10) (fun H locs hM => ?_)
  exact jvret (jrv hf) E hM dX10_pushNumber_13
set_option maxRecDepth 100000 in
theorem C_X10_pushNumber {l : Launch} {g : jG} {a0 : Nat} {a1 : Int32} {a2 : Int64} {S : jM} {SS : jM} (hf : f_X10_pushNumber a0 a1 a2 S = some SS) : jMet l g yX10_pushNumber cX10_pushNumber 4 none 2 0 0 [.ref (g.2.2 + a0), .int a1, .long a2] S (jQv g SS) := by
  refine jof (by decide +kernel) (Nat.le_of_ble_eq_true rfl) ?_
  intro p e s m below meth c E hM ls hl
  have hl : lv_has ls 4 [(0, .ref (g.2.2 + a0)),(1, .int a1),(2, .long a2)] := hl
  exact B_X10_pushNumber_0 E hf hM hl
-- PensionHouse$Worker.workOf(I)I  mode T
noncomputable def f_X10_workOf (v0 : Int32) : Int32 := if v0 = (136 : Int32) then (25 : Int32) else if v0 = (137 : Int32) then (25 : Int32) else if v0 = (149 : Int32) then (150 : Int32) else if v0 = (151 : Int32) then (25 : Int32) else if v0 = (152 : Int32) then (25 : Int32) else (1 : Int32)
set_option maxRecDepth 100000 in
set_option maxHeartbeats 4000000 in
theorem B_X10_workOf_0 {p : Program} {l : Launch} {e : Env} {s : State} {m : MethodId} {args : Array Value} {below : List Frame} {meth : Method} {c : Code} {g : jG} {rr : Int32} {S : jM} {v0 : Int32} (E : jEnv p s m args meth c cX10_workOf "PensionHouse$Worker" (some .int) 1 g)  {H : Heap} {locs : List Loc} {ls : Array Slot} (hf : f_X10_workOf v0 = rr) (hM : jAt g S s H locs) (hl : lv_has ls 1 [(0, .int v0)]) : W p l e (jRm 1 0 0) s m args below meth c H locs 0 0 (MQ below (jQi g rr S) args s 0 0 (jA0 g)) (F0 m 0 ls []) := by
  obtain ⟨hx, hb, hml, -, hts, hown, hK, -, hstr⟩ := id E
  unfold f_X10_workOf at hf
  refine lv_iload_n hx hb dX10_workOf_0 rfl (lv_at hl 0 rfl) ?_
  by_cases c1 : v0 = (136 : Int32)
  · have hf := jt c1 hf
    refine lv_lookup (off := 55) (tgt := 56) hx hb dX10_workOf_1 (by decide) (by rw [c1]; rfl) (by decide) ?_
    refine lv_bipush (v := (25 : Int32)) hx hb dX10_workOf_56 (by decide) ?_
    exact jireti (jr0 hf) E hM dX10_workOf_58
  have hf := jf c1 hf
  by_cases c2 : v0 = (137 : Int32)
  · have hf := jt c2 hf
    refine lv_lookup (off := 55) (tgt := 56) hx hb dX10_workOf_1 (by decide) (by rw [c2]; rfl) (by decide) ?_
    refine lv_bipush (v := (25 : Int32)) hx hb dX10_workOf_56 (by decide) ?_
    exact jireti (jr0 hf) E hM dX10_workOf_58
  have hf := jf c2 hf
  by_cases c3 : v0 = (149 : Int32)
  · have hf := jt c3 hf
    refine lv_lookup (off := 51) (tgt := 52) hx hb dX10_workOf_1 (by decide) (by rw [c3]; rfl) (by decide) ?_
    refine lv_sipush (v := (150 : Int32)) hx hb dX10_workOf_52 (by decide) ?_
    exact jireti (jr0 hf) E hM dX10_workOf_55
  have hf := jf c3 hf
  by_cases c4 : v0 = (151 : Int32)
  · have hf := jt c4 hf
    refine lv_lookup (off := 55) (tgt := 56) hx hb dX10_workOf_1 (by decide) (by rw [c4]; rfl) (by decide) ?_
    refine lv_bipush (v := (25 : Int32)) hx hb dX10_workOf_56 (by decide) ?_
    exact jireti (jr0 hf) E hM dX10_workOf_58
  have hf := jf c4 hf
  by_cases c5 : v0 = (152 : Int32)
  · have hf := jt c5 hf
    refine lv_lookup (off := 55) (tgt := 56) hx hb dX10_workOf_1 (by decide) (by rw [c5]; rfl) (by decide) ?_
    refine lv_bipush (v := (25 : Int32)) hx hb dX10_workOf_56 (by decide) ?_
    exact jireti (jr0 hf) E hM dX10_workOf_58
  have hf := jf c5 hf
  refine jlookD (tgt := 59) hx hb dX10_workOf_1 (by decide) (by decide) (List.forall_mem_cons.mpr ⟨jne (k := 136) c1 rfl, List.forall_mem_cons.mpr ⟨jne (k := 137) c2 rfl, List.forall_mem_cons.mpr ⟨jne (k := 149) c3 rfl, List.forall_mem_cons.mpr ⟨jne (k := 151) c4 rfl, List.forall_mem_cons.mpr ⟨jne (k := 152) c5 rfl, fun _ h => absurd h List.not_mem_nil⟩⟩⟩⟩⟩) ?_
  refine lv_iconst (v := (1 : Int32)) hx hb dX10_workOf_59 (by decide) ?_
  exact jireti (jr0 hf) E hM dX10_workOf_60
set_option maxRecDepth 100000 in
theorem C_X10_workOf {l : Launch} {g : jG} {a0 : Int32} {S : jM} {rr : Int32} (hf : f_X10_workOf a0 = rr) : jMet l g yX10_workOf cX10_workOf 1 (some .int) 1 0 0 [.int a0] S (jQi g rr S) := by
  refine jof (by decide +kernel) (Nat.le_of_ble_eq_true rfl) ?_
  intro p e s m below meth c E hM ls hl
  have hl : lv_has ls 1 [(0, .int a0)] := hl
  exact B_X10_workOf_0 E hf hM hl
-- PensionHouse$Worker.wantRule(II)V  mode M
noncomputable def f_X10_wantRule_15 (v0 : Nat) (S : jM) : Option jM := if jK v0 = 8 then (f_X10_fail v0 (1 : Int32) S).bind (fun S1 => some S1) else none
noncomputable def f_X10_wantRule (v0 : Nat) (v1 : Int32) (v2 : Int32) (S : jM) : Option jM := if v1 < 0 then f_X10_wantRule_15 v0 S else if jK v0 = 8 then (jR S 65 v0).bind (fun r6 => if jK r6 = 6 then if v1 < (jI S 49 r6) then if v2 ≤ 0 then (jR S 64 v0).bind (fun r11 => if jK r11 = 1 then (f_X1_isWorked r11 v1 S).bind (fun x13 => if x13 = 0 then (jR S 65 v0).bind (fun r62 => if jK r62 = 6 then (jR S 51 r62).bind (fun r65 => if jA r65 13 v1 = true then (f_X10_enter v0 (jAI S r65 (v1).toNatClampNeg) v1 S).bind (fun S68 => some S68) else none) else none) else (jR S 64 v0).bind (fun r17 => if jK r17 = 1 then (jR S 12 r17).bind (fun r20 => if jA r20 13 v1 = true then if (jAI S r20 (v1).toNatClampNeg) = 0 then jbd (f_X10_pushed v0 S) (fun x24 S25 => (x24).bind (fun r27 => (jR S25 64 v0).bind (fun r29 => if jK r29 = 1 then (jR S25 14 r29).bind (fun r32 => if jA r32 19 v1 = true then (jAR S25 r32 (v1).toNatClampNeg).bind (fun r35 => if jK r27 = 7 then (f_X9_setTo r27 r35 S25).bind (fun S37 => (f_X10_leave v0 S37).bind (fun S40 => some S40)) else none) else none) else none))) else (jR S 64 v0).bind (fun r42 => (jR S 64 v0).bind (fun r44 => if jK r44 = 1 then (jR S 12 r44).bind (fun r47 => if jA r47 13 v1 = true then if jK r42 = 1 then jlet (jsI S 7 r42 (jAI S r47 (v1).toNatClampNeg)) (fun S51 => (jR S51 64 v0).bind (fun r52 => (jR S51 64 v0).bind (fun r54 => if jK r54 = 1 then (jR S51 13 r54).bind (fun r57 => if jA r57 13 v1 = true then if jK r52 = 1 then jlet (jsI S51 8 r52 (jAI S51 r57 (v1).toNatClampNeg)) (fun S61 => some S61) else none else none) else none))) else none else none) else none)) else none) else none)) else none) else (jR S 64 v0).bind (fun r70 => (jR S 61 v0).bind (fun r72 => if jA r72 19 (if (0 : Int32) < ((jI S 62 v0) - (1 : Int32)) then ((jI S 62 v0) - (1 : Int32)) else (0 : Int32)) = true then (jAR S r72 ((if (0 : Int32) < ((jI S 62 v0) - (1 : Int32)) then ((jI S 62 v0) - (1 : Int32)) else (0 : Int32))).toNatClampNeg).bind (fun r75 => if jK r70 = 1 then (f_X1_endRule r70 v1 r75 S).bind (fun S77 => (f_X10_leave v0 S77).bind (fun S80 => some S80)) else none) else none)) else f_X10_wantRule_15 v0 S else none) else none
set_option maxRecDepth 100000 in
set_option maxHeartbeats 4000000 in
theorem B_X10_wantRule_15 {p : Program} {l : Launch} {e : Env} {s : State} {m : MethodId} {args : Array Value} {below : List Frame} {meth : Method} {c : Code} {g : jG} {SS : jM} {v0 : Nat} {S : jM} (E : jEnv p s m args meth c cX10_wantRule "PensionHouse$Worker" none 3 g)  {H : Heap} {locs : List Loc} {ls : Array Slot} (hf : f_X10_wantRule_15 v0 S = some SS) (hM : jAt g S s H locs) (hl : lv_has ls 3 [(0, .ref (g.2.2 + v0))]) : W p l e (jRm 4 0 0) s m args below meth c H locs 0 0 (MQ below (jQv g SS) args s 0 0 (jA0 g)) (F0 m 15 ls []) := by
  obtain ⟨hx, hb, hml, -, hts, hown, hK, -, hstr⟩ := id E
  unfold f_X10_wantRule_15 at hf
  refine lv_aload_n hx hb dX10_wantRule_15 rfl (lv_at hl 0 rfl) ?_
  refine lv_iconst (v := (1 : Int32)) hx hb dX10_wantRule_16 (by decide) ?_
  obtain ⟨hq3, hf⟩ := jif hf
  obtain ⟨S1, hc2, hf⟩ := jb hf
  refine jbackV hM (jrunV E hM ci_X10_fail (C_X10_fail hc2) lk_4_174 hq3 (by decide) rfl hl.1 rfl rfl (Nat.le_of_ble_eq_true rfl) ⟨Nat.le_of_ble_eq_true rfl, Nat.le_of_ble_eq_true rfl⟩ ⟨Nat.le_refl _, Nat.le_refl _⟩ dX10_wantRule_17) (fun H locs hM => ?_)
  refine lv_goto (tgt := 152) hx hb dX10_wantRule_20 (by decide) ?_
  exact jvret (jrv hf) E hM dX10_wantRule_152
set_option maxRecDepth 100000 in
set_option maxHeartbeats 4000000 in
theorem B_X10_wantRule_0 {p : Program} {l : Launch} {e : Env} {s : State} {m : MethodId} {args : Array Value} {below : List Frame} {meth : Method} {c : Code} {g : jG} {SS : jM} {v0 : Nat} {v1 : Int32} {v2 : Int32} {S : jM} (E : jEnv p s m args meth c cX10_wantRule "PensionHouse$Worker" none 3 g)  {H : Heap} {locs : List Loc} {ls : Array Slot} (hf : f_X10_wantRule v0 v1 v2 S = some SS) (hM : jAt g S s H locs) (hl : lv_has ls 3 [(0, .ref (g.2.2 + v0)), (1, .int v1), (2, .int v2)]) : W p l e (jRm 4 0 0) s m args below meth c H locs 0 0 (MQ below (jQv g SS) args s 0 0 (jA0 g)) (F0 m 0 ls []) := by
  obtain ⟨hx, hb, hml, -, hts, hown, hK, -, hstr⟩ := id E
  unfold f_X10_wantRule at hf
  refine lv_iload_n hx hb dX10_wantRule_0 rfl (lv_at hl 1 rfl) ?_
  refine lv_if_lt (tgt := 15) hx hb dX10_wantRule_1 (by decide) (fun c4 => ?_) (fun c4 => ?_)
  · have hf := jt c4 hf
    exact B_X10_wantRule_15 E  hf hM (lv_sub hl [0] rfl)
  · have hf := jf c4 hf
    refine lv_iload_n hx hb dX10_wantRule_4 rfl (lv_at hl 1 rfl) ?_
    refine lv_aload_n hx hb dX10_wantRule_5 rfl (lv_at hl 0 rfl) ?_
    obtain ⟨hq5, hf⟩ := jif hf
    refine gt_65 E hM hq5 lk_2_15 dX10_wantRule_6 ?_
    obtain ⟨r6, hr7, hf⟩ := jb hf
    rw [hr7]
    show W p l e _ s m args below meth c H locs 0 0 _ (F0 m _ ls (.ref (g.2.2 + r6) :: _))
    obtain ⟨hq8, hf⟩ := jif hf
    refine gt_49 E hM hq8 lk_1_185 dX10_wantRule_9 ?_
    refine lv_icmp_lt (tgt := 23) hx hb dX10_wantRule_12 (by decide) (fun c9 => ?_) (fun c9 => ?_)
    · have hf := jt c9 hf
      refine lv_iload_n hx hb dX10_wantRule_23 rfl (lv_at hl 2 rfl) ?_
      refine lv_if_le (tgt := 57) hx hb dX10_wantRule_24 (by decide) (fun c10 => ?_) (fun c10 => ?_)
      · have hf := jt c10 hf
        refine lv_aload_n hx hb dX10_wantRule_57 rfl (lv_at hl 0 rfl) ?_
        refine gt_64 E hM hq5 lk_2_14 dX10_wantRule_58 ?_
        obtain ⟨r11, hr12, hf⟩ := jb hf
        rw [hr12]
        show W p l e _ s m args below meth c H locs 0 0 _ (F0 m _ ls (.ref (g.2.2 + r11) :: _))
        refine lv_iload_n hx hb dX10_wantRule_61 rfl (lv_at hl 1 rfl) ?_
        obtain ⟨hq15, hf⟩ := jif hf
        obtain ⟨x13, hc14, hf⟩ := jb hf
        refine jbackI hM (jrunV E hM ci_X1_isWorked (C_X1_isWorked hc14) lk_4_215 hq15 (by decide) rfl hl.1 rfl rfl (Nat.le_of_ble_eq_true rfl) ⟨Nat.le_of_ble_eq_true rfl, Nat.le_of_ble_eq_true rfl⟩ ⟨Nat.le_refl _, Nat.le_refl _⟩ dX10_wantRule_62) (fun H locs hM => ?_)
        refine lv_if_ne (tgt := 85) hx hb dX10_wantRule_65 (by decide) (fun c16 => ?_) (fun c16 => ?_)
        · have hf := jf c16 hf
          refine lv_aload_n hx hb dX10_wantRule_85 rfl (lv_at hl 0 rfl) ?_
          refine gt_64 E hM hq5 lk_2_14 dX10_wantRule_86 ?_
          obtain ⟨r17, hr18, hf⟩ := jb hf
          rw [hr18]
          show W p l e _ s m args below meth c H locs 0 0 _ (F0 m _ ls (.ref (g.2.2 + r17) :: _))
          obtain ⟨hq19, hf⟩ := jif hf
          refine gt_12 E hM hq19 lk_2_75 dX10_wantRule_89 ?_
          obtain ⟨r20, hr21, hf⟩ := jb hf
          rw [hr21]
          show W p l e _ s m args below meth c H locs 0 0 _ (F0 m _ ls (.ref (g.2.2 + r20) :: _))
          refine lv_iload_n hx hb dX10_wantRule_92 rfl (lv_at hl 1 rfl) ?_
          obtain ⟨ha22, hf⟩ := jif hf
          refine jiald E hM ha22 dX10_wantRule_93 ?_
          refine lv_if_eq (tgt := 132) hx hb dX10_wantRule_94 (by decide) (fun c23 => ?_) (fun c23 => ?_)
          · have hf := jt c23 hf
            refine lv_aload_n hx hb dX10_wantRule_132 rfl (lv_at hl 0 rfl) ?_
            obtain ⟨x24, S25, hc26, hf⟩ := jbd_e hf
            refine jbackQ hM (jrunV E hM ci_X10_pushed (C_X10_pushed hc26) lk_4_182 hq5 (by decide) rfl hl.1 rfl rfl (Nat.le_of_ble_eq_true rfl) ⟨Nat.le_of_ble_eq_true rfl, Nat.le_of_ble_eq_true rfl⟩ ⟨Nat.le_refl _, Nat.le_refl _⟩ dX10_wantRule_133) (fun H locs hM => ?_)
            obtain ⟨r27, hr28, hf⟩ := jb hf
            rw [hr28]
            show W p l e _ s m args below meth c H locs 0 0 _ (F0 m _ ls (.ref (g.2.2 + r27) :: _))
            refine lv_aload_n hx hb dX10_wantRule_136 rfl (lv_at hl 0 rfl) ?_
            refine gt_64 E hM hq5 lk_2_14 dX10_wantRule_137 ?_
            obtain ⟨r29, hr30, hf⟩ := jb hf
            rw [hr30]
            show W p l e _ s m args below meth c H locs 0 0 _ (F0 m _ ls (.ref (g.2.2 + r29) :: _))
            obtain ⟨hq31, hf⟩ := jif hf
            refine gt_14 E hM hq31 lk_2_80 dX10_wantRule_140 ?_
            obtain ⟨r32, hr33, hf⟩ := jb hf
            rw [hr33]
            show W p l e _ s m args below meth c H locs 0 0 _ (F0 m _ ls (.ref (g.2.2 + r32) :: _))
            refine lv_iload_n hx hb dX10_wantRule_143 rfl (lv_at hl 1 rfl) ?_
            obtain ⟨ha34, hf⟩ := jif hf
            refine jaald (k := 19) (t0 := 8) E hM ha34 (by decide) (by decide) rfl dX10_wantRule_144 ?_
            obtain ⟨r35, hr36, hf⟩ := jb hf
            rw [hr36]
            show W p l e _ s m args below meth c H locs 0 0 _ (F0 m _ ls (.ref (g.2.2 + r35) :: _))
            obtain ⟨hq39, hf⟩ := jif hf
            obtain ⟨S37, hc38, hf⟩ := jb hf
            refine jbackV hM (jrunV E hM ci_X9_setTo (C_X9_setTo hc38) lk_4_200 hq39 (by decide) rfl hl.1 rfl rfl (Nat.le_of_ble_eq_true rfl) ⟨Nat.le_of_ble_eq_true rfl, Nat.le_of_ble_eq_true rfl⟩ ⟨Nat.le_refl _, Nat.le_refl _⟩ dX10_wantRule_145) (fun H locs hM => ?_)
            refine lv_aload_n hx hb dX10_wantRule_148 rfl (lv_at hl 0 rfl) ?_
            obtain ⟨S40, hc41, hf⟩ := jb hf
            refine jbackV hM (jrunV E hM ci_X10_leave (C_X10_leave hc41) lk_4_187 hq5 (by decide) rfl hl.1 rfl rfl (Nat.le_of_ble_eq_true rfl) ⟨Nat.le_of_ble_eq_true rfl, Nat.le_of_ble_eq_true rfl⟩ ⟨Nat.le_refl _, Nat.le_refl _⟩ dX10_wantRule_149) (fun H locs hM => ?_)
            exact jvret (jrv hf) E hM dX10_wantRule_152
          · have hf := jf c23 hf
            refine lv_aload_n hx hb dX10_wantRule_97 rfl (lv_at hl 0 rfl) ?_
            refine gt_64 E hM hq5 lk_2_14 dX10_wantRule_98 ?_
            obtain ⟨r42, hr43, hf⟩ := jb hf
            rw [hr43]
            show W p l e _ s m args below meth c H locs 0 0 _ (F0 m _ ls (.ref (g.2.2 + r42) :: _))
            refine lv_aload_n hx hb dX10_wantRule_101 rfl (lv_at hl 0 rfl) ?_
            refine gt_64 E hM hq5 lk_2_14 dX10_wantRule_102 ?_
            obtain ⟨r44, hr45, hf⟩ := jb hf
            rw [hr45]
            show W p l e _ s m args below meth c H locs 0 0 _ (F0 m _ ls (.ref (g.2.2 + r44) :: _))
            obtain ⟨hq46, hf⟩ := jif hf
            refine gt_12 E hM hq46 lk_2_75 dX10_wantRule_105 ?_
            obtain ⟨r47, hr48, hf⟩ := jb hf
            rw [hr48]
            show W p l e _ s m args below meth c H locs 0 0 _ (F0 m _ ls (.ref (g.2.2 + r47) :: _))
            refine lv_iload_n hx hb dX10_wantRule_108 rfl (lv_at hl 1 rfl) ?_
            obtain ⟨ha49, hf⟩ := jif hf
            refine jiald E hM ha49 dX10_wantRule_109 ?_
            obtain ⟨hq50, hf⟩ := jif hf
            refine pt_7 E hM hq50 lk_2_60 dX10_wantRule_110 (fun H locs S51 eS51 hM => ?_)
            have hf := jlet_y eS51 hf
            refine lv_aload_n hx hb dX10_wantRule_113 rfl (lv_at hl 0 rfl) ?_
            refine gt_64 E hM hq5 lk_2_14 dX10_wantRule_114 ?_
            obtain ⟨r52, hr53, hf⟩ := jb hf
            rw [hr53]
            show W p l e _ s m args below meth c H locs 0 0 _ (F0 m _ ls (.ref (g.2.2 + r52) :: _))
            refine lv_aload_n hx hb dX10_wantRule_117 rfl (lv_at hl 0 rfl) ?_
            refine gt_64 E hM hq5 lk_2_14 dX10_wantRule_118 ?_
            obtain ⟨r54, hr55, hf⟩ := jb hf
            rw [hr55]
            show W p l e _ s m args below meth c H locs 0 0 _ (F0 m _ ls (.ref (g.2.2 + r54) :: _))
            obtain ⟨hq56, hf⟩ := jif hf
            refine gt_13 E hM hq56 lk_2_78 dX10_wantRule_121 ?_
            obtain ⟨r57, hr58, hf⟩ := jb hf
            rw [hr58]
            show W p l e _ s m args below meth c H locs 0 0 _ (F0 m _ ls (.ref (g.2.2 + r57) :: _))
            refine lv_iload_n hx hb dX10_wantRule_124 rfl (lv_at hl 1 rfl) ?_
            obtain ⟨ha59, hf⟩ := jif hf
            refine jiald E hM ha59 dX10_wantRule_125 ?_
            obtain ⟨hq60, hf⟩ := jif hf
            refine pt_8 E hM hq60 lk_2_63 dX10_wantRule_126 (fun H locs S61 eS61 hM => ?_)
            have hf := jlet_y eS61 hf
            refine lv_goto (tgt := 152) hx hb dX10_wantRule_129 (by decide) ?_
            exact jvret (jrv hf) E hM dX10_wantRule_152
        · have hf := jt c16 hf
          refine lv_aload_n hx hb dX10_wantRule_68 rfl (lv_at hl 0 rfl) ?_
          refine lv_aload_n hx hb dX10_wantRule_69 rfl (lv_at hl 0 rfl) ?_
          refine gt_65 E hM hq5 lk_2_15 dX10_wantRule_70 ?_
          obtain ⟨r62, hr63, hf⟩ := jb hf
          rw [hr63]
          show W p l e _ s m args below meth c H locs 0 0 _ (F0 m _ ls (.ref (g.2.2 + r62) :: _))
          obtain ⟨hq64, hf⟩ := jif hf
          refine gt_51 E hM hq64 lk_1_189 dX10_wantRule_73 ?_
          obtain ⟨r65, hr66, hf⟩ := jb hf
          rw [hr66]
          show W p l e _ s m args below meth c H locs 0 0 _ (F0 m _ ls (.ref (g.2.2 + r65) :: _))
          refine lv_iload_n hx hb dX10_wantRule_76 rfl (lv_at hl 1 rfl) ?_
          obtain ⟨ha67, hf⟩ := jif hf
          refine jiald E hM ha67 dX10_wantRule_77 ?_
          refine lv_iload_n hx hb dX10_wantRule_78 rfl (lv_at hl 1 rfl) ?_
          obtain ⟨S68, hc69, hf⟩ := jb hf
          refine jbackV hM (jrunV E hM ci_X10_enter (C_X10_enter hc69) lk_4_158 hq5 (by decide) rfl hl.1 rfl rfl (Nat.le_of_ble_eq_true rfl) ⟨Nat.le_of_ble_eq_true rfl, Nat.le_of_ble_eq_true rfl⟩ ⟨Nat.le_refl _, Nat.le_refl _⟩ dX10_wantRule_79) (fun H locs hM => ?_)
          refine lv_goto (tgt := 152) hx hb dX10_wantRule_82 (by decide) ?_
          exact jvret (jrv hf) E hM dX10_wantRule_152
      · have hf := jf c10 hf
        refine lv_aload_n hx hb dX10_wantRule_27 rfl (lv_at hl 0 rfl) ?_
        refine gt_64 E hM hq5 lk_2_14 dX10_wantRule_28 ?_
        obtain ⟨r70, hr71, hf⟩ := jb hf
        rw [hr71]
        show W p l e _ s m args below meth c H locs 0 0 _ (F0 m _ ls (.ref (g.2.2 + r70) :: _))
        refine lv_iload_n hx hb dX10_wantRule_31 rfl (lv_at hl 1 rfl) ?_
        refine lv_aload_n hx hb dX10_wantRule_32 rfl (lv_at hl 0 rfl) ?_
        refine gt_61 E hM hq5 lk_2_11 dX10_wantRule_33 ?_
        obtain ⟨r72, hr73, hf⟩ := jb hf
        rw [hr73]
        show W p l e _ s m args below meth c H locs 0 0 _ (F0 m _ ls (.ref (g.2.2 + r72) :: _))
        refine lv_iconst (v := (0 : Int32)) hx hb dX10_wantRule_36 (by decide) ?_
        refine lv_aload_n hx hb dX10_wantRule_37 rfl (lv_at hl 0 rfl) ?_
        refine gt_62 E hM hq5 lk_2_12 dX10_wantRule_38 ?_
        refine lv_iconst (v := (1 : Int32)) hx hb dX10_wantRule_41 (by decide) ?_
        refine lv_isub hx hb dX10_wantRule_42 ?_
        refine va_mmax hx hb (by rw [hml, hl.1]) hown (hts _ lk_4_205) (hts _ lk_3_167) (hts _ lk_1_18) (hts _ lk_3_168) (Nat.le_of_ble_eq_true rfl) (Nat.le_of_ble_eq_true rfl) (Nat.le_refl _) (Nat.le_refl _) dX10_wantRule_43 ?_
        obtain ⟨ha74, hf⟩ := jif hf
        refine jaald (k := 19) (t0 := 8) E hM ha74 (by decide) (by decide) rfl dX10_wantRule_46 ?_
        obtain ⟨r75, hr76, hf⟩ := jb hf
        rw [hr76]
        show W p l e _ s m args below meth c H locs 0 0 _ (F0 m _ ls (.ref (g.2.2 + r75) :: _))
        obtain ⟨hq79, hf⟩ := jif hf
        obtain ⟨S77, hc78, hf⟩ := jb hf
        refine jbackV hM (jrunV E hM ci_X1_endRule (C_X1_endRule hc78) lk_4_206 hq79 (by decide) rfl hl.1 rfl rfl (Nat.le_of_ble_eq_true rfl) ⟨Nat.le_of_ble_eq_true rfl, Nat.le_of_ble_eq_true rfl⟩ ⟨Nat.le_refl _, Nat.le_refl _⟩ dX10_wantRule_47) (fun H locs hM => ?_)
        refine lv_aload_n hx hb dX10_wantRule_50 rfl (lv_at hl 0 rfl) ?_
        obtain ⟨S80, hc81, hf⟩ := jb hf
        refine jbackV hM (jrunV E hM ci_X10_leave (C_X10_leave hc81) lk_4_187 hq5 (by decide) rfl hl.1 rfl rfl (Nat.le_of_ble_eq_true rfl) ⟨Nat.le_of_ble_eq_true rfl, Nat.le_of_ble_eq_true rfl⟩ ⟨Nat.le_refl _, Nat.le_refl _⟩ dX10_wantRule_51) (fun H locs hM => ?_)
        refine lv_goto (tgt := 152) hx hb dX10_wantRule_54 (by decide) ?_
        exact jvret (jrv hf) E hM dX10_wantRule_152
    · have hf := jf c9 hf
      exact B_X10_wantRule_15 E  hf hM (lv_sub hl [0] rfl)
set_option maxRecDepth 100000 in
theorem C_X10_wantRule {l : Launch} {g : jG} {a0 : Nat} {a1 : Int32} {a2 : Int32} {S : jM} {SS : jM} (hf : f_X10_wantRule a0 a1 a2 S = some SS) : jMet l g yX10_wantRule cX10_wantRule 3 none 4 0 0 [.ref (g.2.2 + a0), .int a1, .int a2] S (jQv g SS) := by
  refine jof (by decide +kernel) (Nat.le_of_ble_eq_true rfl) ?_
  intro p e s m below meth c E hM ls hl
  have hl : lv_has ls 3 [(0, .ref (g.2.2 + a0)),(1, .int a1),(2, .int a2)] := hl
  exact B_X10_wantRule_0 E hf hM hl
-- PensionHouse$Worker.turn()V  mode M
noncomputable def f_X10_turn_50 (v0 : Nat) (v1 : Int32) (v2 : Int32) (v3 : Int32) (S : jM) : Option jM := if jK v0 = 8 then (jR S 57 v0).bind (fun r2 => if jA r2 13 ((jI S 60 v0) - (1 : Int32)) = true then if jA r2 13 ((jI S 60 v0) - (1 : Int32)) = true then jlet (jrI S r2 (upd (jAI S r2) ((jI S 60 v0) - (1 : Int32)).toNatClampNeg ((jAI S r2 ((jI S 60 v0) - (1 : Int32)).toNatClampNeg) + (1 : Int32)))) (fun S6 => if v2 = (3 : Int32) then (jR S6 65 v0).bind (fun r7 => if jK r7 = 6 then (jR S6 47 r7).bind (fun r10 => if jA r10 14 v1 = true then (f_X10_pushNumber v0 (0 : Int32) (jAL S6 r10 (v1).toNatClampNeg) S6).bind (fun S13 => some S13) else none) else none) else if v2 = (4 : Int32) then (jR S6 65 v0).bind (fun r16 => if jK r16 = 6 then (jR S6 47 r16).bind (fun r19 => if jA r19 14 v1 = true then (f_X10_pushNumber v0 (1 : Int32) (jAL S6 r19 (v1).toNatClampNeg) S6).bind (fun S22 => some S22) else none) else none) else if v2 = (6 : Int32) then (jR S6 65 v0).bind (fun r25 => if jK r25 = 6 then (jR S6 47 r25).bind (fun r28 => if jA r28 14 v1 = true then (f_X10_counterOf v0 (jAL S6 r28 (v1).toNatClampNeg) S6).bind (fun x31 => (f_X10_pushNumber v0 (0 : Int32) x31 S6).bind (fun S33 => some S33)) else none) else none) else if v2 = (7 : Int32) then (jR S6 65 v0).bind (fun r36 => if jK r36 = 6 then (jR S6 47 r36).bind (fun r39 => if jA r39 14 v1 = true then (f_X10_wantRule v0 ((jAL S6 r39 (v1).toNatClampNeg).toInt32) v3 S6).bind (fun S42 => some S42) else none) else none) else if v2 = (8 : Int32) then (jR S6 65 v0).bind (fun r45 => if jK r45 = 6 then (jR S6 47 r45).bind (fun r48 => if jA r48 14 v1 = true then (f_X10_askFact v0 (jAL S6 r48 (v1).toNatClampNeg) S6).bind (fun S51 => some S51) else none) else none) else if v2 = (131 : Int32) then (f_X10_pushNumber v0 (0 : Int32) ((jI S6 67 v0).toInt64) S6).bind (fun S54 => some S54) else if v2 = (135 : Int32) then (f_X10_decide v0 v1 v3 S6).bind (fun S57 => some S57) else if v2 = (146 : Int32) then (f_X10_addUp v0 v1 v3 S6).bind (fun S60 => some S60) else if v2 = (149 : Int32) then (f_X10_attempt v0 v1 v3 S6).bind (fun S63 => some S63) else if (f_X10_arityOf v2) ≤ v3 then (jR S6 58 v0).bind (fun r67 => if jA r67 13 ((jI S6 60 v0) - (1 : Int32)) = true then (f_X10_finish v0 v2 (jAI S6 r67 ((jI S6 60 v0) - (1 : Int32)).toNatClampNeg) S6).bind (fun S70 => some S70) else none) else (f_X10_enterInner v0 v1 v3 S6).bind (fun S72 => some S72)) else none else none) else none
noncomputable def f_X10_turn (v0 : Nat) (S : jM) : Option jM := if jK v0 = 8 then (jR S 56 v0).bind (fun r75 => if jA r75 13 ((jI S 60 v0) - (1 : Int32)) = true then jlet (jAI S r75 ((jI S 60 v0) - (1 : Int32)).toNatClampNeg) (fun x78 => (jR S 65 v0).bind (fun r79 => if jK r79 = 6 then (jR S 46 r79).bind (fun r82 => if jA r82 13 x78 = true then jlet (jAI S r82 (x78).toNatClampNeg) (fun x85 => (jR S 57 v0).bind (fun r86 => if jA r86 13 ((jI S 60 v0) - (1 : Int32)) = true then jlet (jAI S r86 ((jI S 60 v0) - (1 : Int32)).toNatClampNeg) (fun x89 => if x89 = 0 then jbd (f_X10_spend v0 (f_X10_workOf x85) S) (fun x91 S92 => if x91 = 0 then some S92 else f_X10_turn_50 v0 x78 x85 x89 S92) else f_X10_turn_50 v0 x78 x85 x89 S) else none)) else none) else none)) else none) else none
set_option maxRecDepth 100000 in
set_option maxHeartbeats 4000000 in
theorem B_X10_turn_50 {p : Program} {l : Launch} {e : Env} {s : State} {m : MethodId} {args : Array Value} {below : List Frame} {meth : Method} {c : Code} {g : jG} {SS : jM} {v0 : Nat} {v1 : Int32} {v2 : Int32} {v3 : Int32} {S : jM} (E : jEnv p s m args meth c cX10_turn "PensionHouse$Worker" none 4 g)  {H : Heap} {locs : List Loc} {ls : Array Slot} (hf : f_X10_turn_50 v0 v1 v2 v3 S = some SS) (hM : jAt g S s H locs) (hl : lv_has ls 4 [(0, .ref (g.2.2 + v0)), (1, .int v1), (2, .int v2), (3, .int v3)]) : W p l e (jRm 5 0 0) s m args below meth c H locs 0 0 (MQ below (jQv g SS) args s 0 0 (jA0 g)) (F0 m 50 ls []) := by
  obtain ⟨hx, hb, hml, -, hts, hown, hK, -, hstr⟩ := id E
  unfold f_X10_turn_50 at hf
  refine lv_aload_n hx hb dX10_turn_50 rfl (lv_at hl 0 rfl) ?_
  obtain ⟨hq1, hf⟩ := jif hf
  refine gt_57 E hM hq1 lk_2_7 dX10_turn_51 ?_
  obtain ⟨r2, hr3, hf⟩ := jb hf
  rw [hr3]
  show W p l e _ s m args below meth c H locs 0 0 _ (F0 m _ ls (.ref (g.2.2 + r2) :: _))
  refine lv_aload_n hx hb dX10_turn_54 rfl (lv_at hl 0 rfl) ?_
  refine gt_60 E hM hq1 lk_2_10 dX10_turn_55 ?_
  refine lv_iconst (v := (1 : Int32)) hx hb dX10_turn_58 (by decide) ?_
  refine lv_isub hx hb dX10_turn_59 ?_
  refine lv_dup2_11 hx hb dX10_turn_60 rfl rfl ?_
  obtain ⟨ha4, hf⟩ := jif hf
  refine jiald E hM ha4 dX10_turn_61 ?_
  refine lv_iconst (v := (1 : Int32)) hx hb dX10_turn_62 (by decide) ?_
  refine lv_iadd hx hb dX10_turn_63 ?_
  obtain ⟨ha5, hf⟩ := jif hf
  refine jiast E hM ha5 dX10_turn_64 (fun H locs S6 eS6 hM => ?_)
  have hf := jlet_y eS6 hf
  refine lv_iload_n hx hb dX10_turn_65 rfl (lv_at hl 2 rfl) ?_
  by_cases c15 : v2 = (3 : Int32)
  · have hf := jt c15 hf
    refine lv_lookup (off := 82) (tgt := 148) hx hb dX10_turn_66 (by decide) (by rw [c15]; rfl) (by decide) ?_
    refine lv_aload_n hx hb dX10_turn_148 rfl (lv_at hl 0 rfl) ?_
    refine lv_iconst (v := (0 : Int32)) hx hb dX10_turn_149 (by decide) ?_
    refine lv_aload_n hx hb dX10_turn_150 rfl (lv_at hl 0 rfl) ?_
    refine gt_65 E hM hq1 lk_2_15 dX10_turn_151 ?_
    obtain ⟨r7, hr8, hf⟩ := jb hf
    rw [hr8]
    show W p l e _ s m args below meth c H locs 0 0 _ (F0 m _ ls (.ref (g.2.2 + r7) :: _))
    obtain ⟨hq9, hf⟩ := jif hf
    refine gt_47 E hM hq9 lk_1_181 dX10_turn_154 ?_
    obtain ⟨r10, hr11, hf⟩ := jb hf
    rw [hr11]
    show W p l e _ s m args below meth c H locs 0 0 _ (F0 m _ ls (.ref (g.2.2 + r10) :: _))
    refine lv_iload_n hx hb dX10_turn_157 rfl (lv_at hl 1 rfl) ?_
    obtain ⟨ha12, hf⟩ := jif hf
    refine jlald E hM ha12 dX10_turn_158 ?_
    obtain ⟨S13, hc14, hf⟩ := jb hf
    refine jbackV hM (jrunV E hM ci_X10_pushNumber (C_X10_pushNumber hc14) lk_4_178 hq1 (by decide) rfl hl.1 rfl rfl (Nat.le_of_ble_eq_true rfl) ⟨Nat.le_of_ble_eq_true rfl, Nat.le_of_ble_eq_true rfl⟩ ⟨Nat.le_refl _, Nat.le_refl _⟩ dX10_turn_159) (fun H locs hM => ?_)
    refine lv_goto (tgt := 310) hx hb dX10_turn_162 (by decide) ?_
    exact jvret (jrv hf) E hM dX10_turn_310
  have hf := jf c15 hf
  by_cases c24 : v2 = (4 : Int32)
  · have hf := jt c24 hf
    refine lv_lookup (off := 99) (tgt := 165) hx hb dX10_turn_66 (by decide) (by rw [c24]; rfl) (by decide) ?_
    refine lv_aload_n hx hb dX10_turn_165 rfl (lv_at hl 0 rfl) ?_
    refine lv_iconst (v := (1 : Int32)) hx hb dX10_turn_166 (by decide) ?_
    refine lv_aload_n hx hb dX10_turn_167 rfl (lv_at hl 0 rfl) ?_
    refine gt_65 E hM hq1 lk_2_15 dX10_turn_168 ?_
    obtain ⟨r16, hr17, hf⟩ := jb hf
    rw [hr17]
    show W p l e _ s m args below meth c H locs 0 0 _ (F0 m _ ls (.ref (g.2.2 + r16) :: _))
    obtain ⟨hq18, hf⟩ := jif hf
    refine gt_47 E hM hq18 lk_1_181 dX10_turn_171 ?_
    obtain ⟨r19, hr20, hf⟩ := jb hf
    rw [hr20]
    show W p l e _ s m args below meth c H locs 0 0 _ (F0 m _ ls (.ref (g.2.2 + r19) :: _))
    refine lv_iload_n hx hb dX10_turn_174 rfl (lv_at hl 1 rfl) ?_
    obtain ⟨ha21, hf⟩ := jif hf
    refine jlald E hM ha21 dX10_turn_175 ?_
    obtain ⟨S22, hc23, hf⟩ := jb hf
    refine jbackV hM (jrunV E hM ci_X10_pushNumber (C_X10_pushNumber hc23) lk_4_178 hq1 (by decide) rfl hl.1 rfl rfl (Nat.le_of_ble_eq_true rfl) ⟨Nat.le_of_ble_eq_true rfl, Nat.le_of_ble_eq_true rfl⟩ ⟨Nat.le_refl _, Nat.le_refl _⟩ dX10_turn_176) (fun H locs hM => ?_)
    refine lv_goto (tgt := 310) hx hb dX10_turn_179 (by decide) ?_
    exact jvret (jrv hf) E hM dX10_turn_310
  have hf := jf c24 hf
  by_cases c35 : v2 = (6 : Int32)
  · have hf := jt c35 hf
    refine lv_lookup (off := 129) (tgt := 195) hx hb dX10_turn_66 (by decide) (by rw [c35]; rfl) (by decide) ?_
    refine lv_aload_n hx hb dX10_turn_195 rfl (lv_at hl 0 rfl) ?_
    refine lv_iconst (v := (0 : Int32)) hx hb dX10_turn_196 (by decide) ?_
    refine lv_aload_n hx hb dX10_turn_197 rfl (lv_at hl 0 rfl) ?_
    refine lv_aload_n hx hb dX10_turn_198 rfl (lv_at hl 0 rfl) ?_
    refine gt_65 E hM hq1 lk_2_15 dX10_turn_199 ?_
    obtain ⟨r25, hr26, hf⟩ := jb hf
    rw [hr26]
    show W p l e _ s m args below meth c H locs 0 0 _ (F0 m _ ls (.ref (g.2.2 + r25) :: _))
    obtain ⟨hq27, hf⟩ := jif hf
    refine gt_47 E hM hq27 lk_1_181 dX10_turn_202 ?_
    obtain ⟨r28, hr29, hf⟩ := jb hf
    rw [hr29]
    show W p l e _ s m args below meth c H locs 0 0 _ (F0 m _ ls (.ref (g.2.2 + r28) :: _))
    refine lv_iload_n hx hb dX10_turn_205 rfl (lv_at hl 1 rfl) ?_
    obtain ⟨ha30, hf⟩ := jif hf
    refine jlald E hM ha30 dX10_turn_206 ?_
    obtain ⟨x31, hc32, hf⟩ := jb hf
    refine jbackL hM (jrunV E hM ci_X10_counterOf (C_X10_counterOf hc32) lk_4_191 hq1 (by decide) rfl hl.1 rfl rfl (Nat.le_of_ble_eq_true rfl) ⟨Nat.le_of_ble_eq_true rfl, Nat.le_of_ble_eq_true rfl⟩ ⟨Nat.le_refl _, Nat.le_refl _⟩ dX10_turn_207) (fun H locs hM => ?_)
    obtain ⟨S33, hc34, hf⟩ := jb hf
    refine jbackV hM (jrunV E hM ci_X10_pushNumber (C_X10_pushNumber hc34) lk_4_178 hq1 (by decide) rfl hl.1 rfl rfl (Nat.le_of_ble_eq_true rfl) ⟨Nat.le_of_ble_eq_true rfl, Nat.le_of_ble_eq_true rfl⟩ ⟨Nat.le_refl _, Nat.le_refl _⟩ dX10_turn_210) (fun H locs hM => ?_)
    refine lv_goto (tgt := 310) hx hb dX10_turn_213 (by decide) ?_
    exact jvret (jrv hf) E hM dX10_turn_310
  have hf := jf c35 hf
  by_cases c44 : v2 = (7 : Int32)
  · have hf := jt c44 hf
    refine lv_lookup (off := 166) (tgt := 232) hx hb dX10_turn_66 (by decide) (by rw [c44]; rfl) (by decide) ?_
    refine lv_aload_n hx hb dX10_turn_232 rfl (lv_at hl 0 rfl) ?_
    refine lv_aload_n hx hb dX10_turn_233 rfl (lv_at hl 0 rfl) ?_
    refine gt_65 E hM hq1 lk_2_15 dX10_turn_234 ?_
    obtain ⟨r36, hr37, hf⟩ := jb hf
    rw [hr37]
    show W p l e _ s m args below meth c H locs 0 0 _ (F0 m _ ls (.ref (g.2.2 + r36) :: _))
    obtain ⟨hq38, hf⟩ := jif hf
    refine gt_47 E hM hq38 lk_1_181 dX10_turn_237 ?_
    obtain ⟨r39, hr40, hf⟩ := jb hf
    rw [hr40]
    show W p l e _ s m args below meth c H locs 0 0 _ (F0 m _ ls (.ref (g.2.2 + r39) :: _))
    refine lv_iload_n hx hb dX10_turn_240 rfl (lv_at hl 1 rfl) ?_
    obtain ⟨ha41, hf⟩ := jif hf
    refine jlald E hM ha41 dX10_turn_241 ?_
    refine lv_l2i hx hb dX10_turn_242 rfl ?_
    refine lv_iload_n hx hb dX10_turn_243 rfl (lv_at hl 3 rfl) ?_
    obtain ⟨S42, hc43, hf⟩ := jb hf
    refine jbackV hM (jrunV E hM ci_X10_wantRule (C_X10_wantRule hc43) lk_4_201 hq1 (by decide) rfl hl.1 rfl rfl (Nat.le_of_ble_eq_true rfl) ⟨Nat.le_of_ble_eq_true rfl, Nat.le_of_ble_eq_true rfl⟩ ⟨Nat.le_refl _, Nat.le_refl _⟩ dX10_turn_244) (fun H locs hM => ?_)
    refine lv_goto (tgt := 310) hx hb dX10_turn_247 (by decide) ?_
    exact jvret (jrv hf) E hM dX10_turn_310
  have hf := jf c44 hf
  by_cases c53 : v2 = (8 : Int32)
  · have hf := jt c53 hf
    refine lv_lookup (off := 150) (tgt := 216) hx hb dX10_turn_66 (by decide) (by rw [c53]; rfl) (by decide) ?_
    refine lv_aload_n hx hb dX10_turn_216 rfl (lv_at hl 0 rfl) ?_
    refine lv_aload_n hx hb dX10_turn_217 rfl (lv_at hl 0 rfl) ?_
    refine gt_65 E hM hq1 lk_2_15 dX10_turn_218 ?_
    obtain ⟨r45, hr46, hf⟩ := jb hf
    rw [hr46]
    show W p l e _ s m args below meth c H locs 0 0 _ (F0 m _ ls (.ref (g.2.2 + r45) :: _))
    obtain ⟨hq47, hf⟩ := jif hf
    refine gt_47 E hM hq47 lk_1_181 dX10_turn_221 ?_
    obtain ⟨r48, hr49, hf⟩ := jb hf
    rw [hr49]
    show W p l e _ s m args below meth c H locs 0 0 _ (F0 m _ ls (.ref (g.2.2 + r48) :: _))
    refine lv_iload_n hx hb dX10_turn_224 rfl (lv_at hl 1 rfl) ?_
    obtain ⟨ha50, hf⟩ := jif hf
    refine jlald E hM ha50 dX10_turn_225 ?_
    obtain ⟨S51, hc52, hf⟩ := jb hf
    refine jbackV hM (jrunV E hM ci_X10_askFact (C_X10_askFact hc52) lk_4_195 hq1 (by decide) rfl hl.1 rfl rfl (Nat.le_of_ble_eq_true rfl) ⟨Nat.le_of_ble_eq_true rfl, Nat.le_of_ble_eq_true rfl⟩ ⟨Nat.le_refl _, Nat.le_refl _⟩ dX10_turn_226) (fun H locs hM => ?_)
    refine lv_goto (tgt := 310) hx hb dX10_turn_229 (by decide) ?_
    exact jvret (jrv hf) E hM dX10_turn_310
  have hf := jf c53 hf
  by_cases c56 : v2 = (131 : Int32)
  · have hf := jt c56 hf
    refine lv_lookup (off := 116) (tgt := 182) hx hb dX10_turn_66 (by decide) (by rw [c56]; rfl) (by decide) ?_
    refine lv_aload_n hx hb dX10_turn_182 rfl (lv_at hl 0 rfl) ?_
    refine lv_iconst (v := (0 : Int32)) hx hb dX10_turn_183 (by decide) ?_
    refine lv_aload_n hx hb dX10_turn_184 rfl (lv_at hl 0 rfl) ?_
    refine gt_67 E hM hq1 lk_2_17 dX10_turn_185 ?_
    refine lv_i2l hx hb dX10_turn_188 rfl ?_
    obtain ⟨S54, hc55, hf⟩ := jb hf
    refine jbackV hM (jrunV E hM ci_X10_pushNumber (C_X10_pushNumber hc55) lk_4_178 hq1 (by decide) rfl hl.1 rfl rfl (Nat.le_of_ble_eq_true rfl) ⟨Nat.le_of_ble_eq_true rfl, Nat.le_of_ble_eq_true rfl⟩ ⟨Nat.le_refl _, Nat.le_refl _⟩ dX10_turn_189) (fun H locs hM => ?_)
    refine lv_goto (tgt := 310) hx hb dX10_turn_192 (by decide) ?_
    exact jvret (jrv hf) E hM dX10_turn_310
  have hf := jf c56 hf
  by_cases c59 : v2 = (135 : Int32)
  · have hf := jt c59 hf
    refine lv_lookup (off := 184) (tgt := 250) hx hb dX10_turn_66 (by decide) (by rw [c59]; rfl) (by decide) ?_
    refine lv_aload_n hx hb dX10_turn_250 rfl (lv_at hl 0 rfl) ?_
    refine lv_iload_n hx hb dX10_turn_251 rfl (lv_at hl 1 rfl) ?_
    refine lv_iload_n hx hb dX10_turn_252 rfl (lv_at hl 3 rfl) ?_
    obtain ⟨S57, hc58, hf⟩ := jb hf
    refine jbackV hM (jrunV E hM ci_X10_decide (C_X10_decide hc58) lk_4_216 hq1 (by decide) rfl hl.1 rfl rfl (Nat.le_of_ble_eq_true rfl) ⟨Nat.le_of_ble_eq_true rfl, Nat.le_of_ble_eq_true rfl⟩ ⟨Nat.le_refl _, Nat.le_refl _⟩ dX10_turn_253) (fun H locs hM => ?_)
    refine lv_goto (tgt := 310) hx hb dX10_turn_256 (by decide) ?_
    exact jvret (jrv hf) E hM dX10_turn_310
  have hf := jf c59 hf
  by_cases c62 : v2 = (146 : Int32)
  · have hf := jt c62 hf
    refine lv_lookup (off := 202) (tgt := 268) hx hb dX10_turn_66 (by decide) (by rw [c62]; rfl) (by decide) ?_
    refine lv_aload_n hx hb dX10_turn_268 rfl (lv_at hl 0 rfl) ?_
    refine lv_iload_n hx hb dX10_turn_269 rfl (lv_at hl 1 rfl) ?_
    refine lv_iload_n hx hb dX10_turn_270 rfl (lv_at hl 3 rfl) ?_
    obtain ⟨S60, hc61, hf⟩ := jb hf
    refine jbackV hM (jrunV E hM ci_X10_addUp (C_X10_addUp hc61) lk_4_232 hq1 (by decide) rfl hl.1 rfl rfl (Nat.le_of_ble_eq_true rfl) ⟨Nat.le_of_ble_eq_true rfl, Nat.le_of_ble_eq_true rfl⟩ ⟨Nat.le_refl _, Nat.le_refl _⟩ dX10_turn_271) (fun H locs hM => ?_)
    refine lv_goto (tgt := 310) hx hb dX10_turn_274 (by decide) ?_
    exact jvret (jrv hf) E hM dX10_turn_310
  have hf := jf c62 hf
  by_cases c65 : v2 = (149 : Int32)
  · have hf := jt c65 hf
    refine lv_lookup (off := 193) (tgt := 259) hx hb dX10_turn_66 (by decide) (by rw [c65]; rfl) (by decide) ?_
    refine lv_aload_n hx hb dX10_turn_259 rfl (lv_at hl 0 rfl) ?_
    refine lv_iload_n hx hb dX10_turn_260 rfl (lv_at hl 1 rfl) ?_
    refine lv_iload_n hx hb dX10_turn_261 rfl (lv_at hl 3 rfl) ?_
    obtain ⟨S63, hc64, hf⟩ := jb hf
    refine jbackV hM (jrunV E hM ci_X10_attempt (C_X10_attempt hc64) lk_4_228 hq1 (by decide) rfl hl.1 rfl rfl (Nat.le_of_ble_eq_true rfl) ⟨Nat.le_of_ble_eq_true rfl, Nat.le_of_ble_eq_true rfl⟩ ⟨Nat.le_refl _, Nat.le_refl _⟩ dX10_turn_262) (fun H locs hM => ?_)
    refine lv_goto (tgt := 310) hx hb dX10_turn_265 (by decide) ?_
    exact jvret (jrv hf) E hM dX10_turn_310
  have hf := jf c65 hf
  refine jlookD (tgt := 277) hx hb dX10_turn_66 (by decide) (by decide) (List.forall_mem_cons.mpr ⟨jne (k := 3) c15 rfl, List.forall_mem_cons.mpr ⟨jne (k := 4) c24 rfl, List.forall_mem_cons.mpr ⟨jne (k := 6) c35 rfl, List.forall_mem_cons.mpr ⟨jne (k := 7) c44 rfl, List.forall_mem_cons.mpr ⟨jne (k := 8) c53 rfl, List.forall_mem_cons.mpr ⟨jne (k := 131) c56 rfl, List.forall_mem_cons.mpr ⟨jne (k := 135) c59 rfl, List.forall_mem_cons.mpr ⟨jne (k := 146) c62 rfl, List.forall_mem_cons.mpr ⟨jne (k := 149) c65 rfl, fun _ h => absurd h List.not_mem_nil⟩⟩⟩⟩⟩⟩⟩⟩⟩) ?_
  refine lv_iload_n hx hb dX10_turn_277 rfl (lv_at hl 3 rfl) ?_
  refine lv_iload_n hx hb dX10_turn_278 rfl (lv_at hl 2 rfl) ?_
  refine jbackI hM (jrunS E hM ci_X10_arityOf (C_X10_arityOf rfl) lk_5_23 hl.1 rfl rfl (Nat.le_of_ble_eq_true rfl) ⟨Nat.le_of_ble_eq_true rfl, Nat.le_of_ble_eq_true rfl⟩ ⟨Nat.le_refl _, Nat.le_refl _⟩ dX10_turn_279) (fun H locs hM => ?_)
  refine lv_icmp_ge (tgt := 294) hx hb dX10_turn_282 (by decide) (fun c66 => ?_) (fun c66 => ?_)
  · have hf := jt c66 hf
    refine lv_aload_n hx hb dX10_turn_294 rfl (lv_at hl 0 rfl) ?_
    refine lv_iload_n hx hb dX10_turn_295 rfl (lv_at hl 2 rfl) ?_
    refine lv_aload_n hx hb dX10_turn_296 rfl (lv_at hl 0 rfl) ?_
    refine gt_58 E hM hq1 lk_2_8 dX10_turn_297 ?_
    obtain ⟨r67, hr68, hf⟩ := jb hf
    rw [hr68]
    show W p l e _ s m args below meth c H locs 0 0 _ (F0 m _ ls (.ref (g.2.2 + r67) :: _))
    refine lv_aload_n hx hb dX10_turn_300 rfl (lv_at hl 0 rfl) ?_
    refine gt_60 E hM hq1 lk_2_10 dX10_turn_301 ?_
    refine lv_iconst (v := (1 : Int32)) hx hb dX10_turn_304 (by decide) ?_
    refine lv_isub hx hb dX10_turn_305 ?_
    obtain ⟨ha69, hf⟩ := jif hf
    refine jiald E hM ha69 dX10_turn_306 ?_
    obtain ⟨S70, hc71, hf⟩ := jb hf
    refine jbackV hM (jrunV E hM ci_X10_finish (C_X10_finish hc71) lk_5_27 hq1 (by decide) rfl hl.1 rfl rfl (Nat.le_of_ble_eq_true rfl) ⟨Nat.le_of_ble_eq_true rfl, Nat.le_of_ble_eq_true rfl⟩ ⟨Nat.le_refl _, Nat.le_refl _⟩ dX10_turn_307) (fun H locs hM => ?_)
    exact jvret (jrv hf) E hM dX10_turn_310
  · have hf := jf c66 hf
    refine lv_aload_n hx hb dX10_turn_285 rfl (lv_at hl 0 rfl) ?_
    refine lv_iload_n hx hb dX10_turn_286 rfl (lv_at hl 1 rfl) ?_
    refine lv_iload_n hx hb dX10_turn_287 rfl (lv_at hl 3 rfl) ?_
    obtain ⟨S72, hc73, hf⟩ := jb hf
    refine jbackV hM (jrunV E hM ci_X10_enterInner (C_X10_enterInner hc73) lk_4_220 hq1 (by decide) rfl hl.1 rfl rfl (Nat.le_of_ble_eq_true rfl) ⟨Nat.le_of_ble_eq_true rfl, Nat.le_of_ble_eq_true rfl⟩ ⟨Nat.le_refl _, Nat.le_refl _⟩ dX10_turn_288) (fun H locs hM => ?_)
    refine lv_goto (tgt := 310) hx hb dX10_turn_291 (by decide) ?_
    exact jvret (jrv hf) E hM dX10_turn_310
set_option maxRecDepth 100000 in
set_option maxHeartbeats 4000000 in
theorem B_X10_turn_0 {p : Program} {l : Launch} {e : Env} {s : State} {m : MethodId} {args : Array Value} {below : List Frame} {meth : Method} {c : Code} {g : jG} {SS : jM} {v0 : Nat} {S : jM} (E : jEnv p s m args meth c cX10_turn "PensionHouse$Worker" none 4 g)  {H : Heap} {locs : List Loc} {ls : Array Slot} (hf : f_X10_turn v0 S = some SS) (hM : jAt g S s H locs) (hl : lv_has ls 4 [(0, .ref (g.2.2 + v0))]) : W p l e (jRm 5 0 0) s m args below meth c H locs 0 0 (MQ below (jQv g SS) args s 0 0 (jA0 g)) (F0 m 0 ls []) := by
  obtain ⟨hx, hb, hml, -, hts, hown, hK, -, hstr⟩ := id E
  unfold f_X10_turn at hf
  refine lv_aload_n hx hb dX10_turn_0 rfl (lv_at hl 0 rfl) ?_
  obtain ⟨hq74, hf⟩ := jif hf
  refine gt_56 E hM hq74 lk_2_6 dX10_turn_1 ?_
  obtain ⟨r75, hr76, hf⟩ := jb hf
  rw [hr76]
  show W p l e _ s m args below meth c H locs 0 0 _ (F0 m _ ls (.ref (g.2.2 + r75) :: _))
  refine lv_aload_n hx hb dX10_turn_4 rfl (lv_at hl 0 rfl) ?_
  refine gt_60 E hM hq74 lk_2_10 dX10_turn_5 ?_
  refine lv_iconst (v := (1 : Int32)) hx hb dX10_turn_8 (by decide) ?_
  refine lv_isub hx hb dX10_turn_9 ?_
  obtain ⟨ha77, hf⟩ := jif hf
  refine jiald E hM ha77 dX10_turn_10 ?_
  refine lv_topi (fun x78 ex78 => ?_)
  have hf := jlet_y ex78 hf
  refine lv_istore_n (lv' := [(1, .int x78), (0, .ref (g.2.2 + v0))]) hx hb dX10_turn_11 rfl hl (by decide) rfl (fun ls hl => ?_)
  refine lv_aload_n hx hb dX10_turn_12 rfl (lv_at hl 1 rfl) ?_
  refine gt_65 E hM hq74 lk_2_15 dX10_turn_13 ?_
  obtain ⟨r79, hr80, hf⟩ := jb hf
  rw [hr80]
  show W p l e _ s m args below meth c H locs 0 0 _ (F0 m _ ls (.ref (g.2.2 + r79) :: _))
  obtain ⟨hq81, hf⟩ := jif hf
  refine gt_46 E hM hq81 lk_1_179 dX10_turn_16 ?_
  obtain ⟨r82, hr83, hf⟩ := jb hf
  rw [hr83]
  show W p l e _ s m args below meth c H locs 0 0 _ (F0 m _ ls (.ref (g.2.2 + r82) :: _))
  refine lv_iload_n hx hb dX10_turn_19 rfl (lv_at hl 0 rfl) ?_
  obtain ⟨ha84, hf⟩ := jif hf
  refine jiald E hM ha84 dX10_turn_20 ?_
  refine lv_topi (fun x85 ex85 => ?_)
  have hf := jlet_y ex85 hf
  refine lv_istore_n (lv' := [(2, .int x85), (1, .int x78), (0, .ref (g.2.2 + v0))]) hx hb dX10_turn_21 rfl hl (by decide) rfl (fun ls hl => ?_)
  refine lv_aload_n hx hb dX10_turn_22 rfl (lv_at hl 2 rfl) ?_
  refine gt_57 E hM hq74 lk_2_7 dX10_turn_23 ?_
  obtain ⟨r86, hr87, hf⟩ := jb hf
  rw [hr87]
  show W p l e _ s m args below meth c H locs 0 0 _ (F0 m _ ls (.ref (g.2.2 + r86) :: _))
  refine lv_aload_n hx hb dX10_turn_26 rfl (lv_at hl 2 rfl) ?_
  refine gt_60 E hM hq74 lk_2_10 dX10_turn_27 ?_
  refine lv_iconst (v := (1 : Int32)) hx hb dX10_turn_30 (by decide) ?_
  refine lv_isub hx hb dX10_turn_31 ?_
  obtain ⟨ha88, hf⟩ := jif hf
  refine jiald E hM ha88 dX10_turn_32 ?_
  refine lv_topi (fun x89 ex89 => ?_)
  have hf := jlet_y ex89 hf
  refine lv_istore_n (lv' := [(3, .int x89), (2, .int x85), (1, .int x78), (0, .ref (g.2.2 + v0))]) hx hb dX10_turn_33 rfl hl (by decide) rfl (fun ls hl => ?_)
  refine lv_iload_n hx hb dX10_turn_34 rfl (lv_at hl 0 rfl) ?_
  refine lv_if_ne (tgt := 50) hx hb dX10_turn_35 (by decide) (fun c90 => ?_) (fun c90 => ?_)
  · have hf := jf c90 hf
    exact B_X10_turn_50 E  hf hM (lv_sub hl [3, 2, 1, 0] rfl)
  · have hf := jt c90 hf
    refine lv_aload_n hx hb dX10_turn_38 rfl (lv_at hl 3 rfl) ?_
    refine lv_iload_n hx hb dX10_turn_39 rfl (lv_at hl 1 rfl) ?_
    refine jbackI hM (jrunS E hM ci_X10_workOf (C_X10_workOf rfl) lk_4_167 hl.1 rfl rfl (Nat.le_of_ble_eq_true rfl) ⟨Nat.le_of_ble_eq_true rfl, Nat.le_of_ble_eq_true rfl⟩ ⟨Nat.le_refl _, Nat.le_refl _⟩ dX10_turn_40) (fun H locs hM => ?_)
    obtain ⟨x91, S92, hc93, hf⟩ := jbd_e hf
    refine jbackI hM (jrunV E hM ci_X10_spend (C_X10_spend hc93) lk_4_170 hq74 (by decide) rfl hl.1 rfl rfl (Nat.le_of_ble_eq_true rfl) ⟨Nat.le_of_ble_eq_true rfl, Nat.le_of_ble_eq_true rfl⟩ ⟨Nat.le_refl _, Nat.le_refl _⟩ dX10_turn_43) (fun H locs hM => ?_)
    refine lv_if_ne (tgt := 50) hx hb dX10_turn_46 (by decide) (fun c94 => ?_) (fun c94 => ?_)
    · have hf := jf c94 hf
      exact B_X10_turn_50 E  hf hM (lv_sub hl [3, 2, 1, 0] rfl)
    · have hf := jt c94 hf
      exact jvret (jrv hf) E hM dX10_turn_49
set_option maxRecDepth 100000 in
theorem C_X10_turn {l : Launch} {g : jG} {a0 : Nat} {S : jM} {SS : jM} (hf : f_X10_turn a0 S = some SS) : jMet l g yX10_turn cX10_turn 4 none 5 0 0 [.ref (g.2.2 + a0)] S (jQv g SS) := by
  refine jof (by decide +kernel) (Nat.le_of_ble_eq_true rfl) ?_
  intro p e s m below meth c E hM ls hl
  have hl : lv_has ls 4 [(0, .ref (g.2.2 + a0))] := hl
  exact B_X10_turn_0 E hf hM hl
-- PensionHouse$Worker.work(LPensionHouse$Case;LPensionHouse$Text;JIII)V  mode M
noncomputable def f_X10_work_150 (v0 : Nat) (v8 : Int32) (S : jM) : Option jM := if jK v0 = 8 then (jR S 64 v0).bind (fun r2 => (jR S 61 v0).bind (fun r4 => if jA r4 19 (0 : Int32) = true then (jAR S r4 ((0 : Int32)).toNatClampNeg).bind (fun r7 => if jK r2 = 1 then (f_X1_endRule r2 v8 r7 S).bind (fun S9 => some S9) else none) else none)) else none
noncomputable def f_X10_work_144 (k109 : Nat → Int32 → Int32 → jM → Option jM) (v0 : Nat) (v8 : Int32) (v9 : Int32) (S : jM) : Option jM := jlet (v9 + (1 : Int32)) (fun x12 => k109 v0 v8 x12 S)
noncomputable def f_X10_work_109 : Nat → Nat → Int32 → Int32 → jM → Option jM
  | 0, _, _, _, _ => none
  | n + 1, v0, v8, v9, S => if (1000000 : Int32) ≤ v9 then f_X10_work_150 v0 v8 S else if jK v0 = 8 then if (jI S 60 v0) ≤ 0 then f_X10_work_150 v0 v8 S else (jR S 64 v0).bind (fun r16 => if jK r16 = 1 then if (jI S 7 r16) = 0 then (f_X10_turn v0 S).bind (fun S22 => f_X10_work_144 (f_X10_work_109 n) v0 v8 v9 S22) else (f_X10_leaveFailed v0 S).bind (fun S20 => f_X10_work_144 (f_X10_work_109 n) v0 v8 v9 S20) else none) else none
noncomputable def f_X10_work_54 (v0 : Nat) (t0 : Int32) (S : jM) : Option jM := if t0 = (-1 : Int32) then if jK v0 = 8 then (jR S 64 v0).bind (fun r41 => if jK r41 = 1 then jlet (jsI S 7 r41 (1 : Int32)) (fun S44 => some S44) else none) else none else if jK v0 = 8 then (jR S 64 v0).bind (fun r26 => if jK r26 = 1 then jlet (jsI S 6 r26 t0) (fun S29 => jlet (jsI S29 60 v0 (0 : Int32)) (fun S30 => jlet (jsI S30 62 v0 (0 : Int32)) (fun S31 => (jR S31 65 v0).bind (fun r32 => if jK r32 = 6 then (jR S31 51 r32).bind (fun r35 => if jA r35 13 t0 = true then (f_X10_enter v0 (jAI S31 r35 (t0).toNatClampNeg) t0 S31).bind (fun S38 => f_X10_work_109 1100000 v0 t0 (0 : Int32) S38) else none) else none)))) else none) else none
noncomputable def f_X10_work (v0 : Nat) (v1 : Nat) (v2 : Option Nat) (v3 : Int64) (v5 : Int32) (v6 : Int32) (v7 : Int32) (S : jM) : Option jM := if jK v0 = 8 then jlet (jsR S 64 v0 (some v1)) (fun S46 => jlet (jsR S46 65 v0 v2) (fun S47 => jlet (jsI S47 66 v0 v5) (fun S48 => jlet (jsI S48 67 v0 v6) (fun S49 => jlet (jsI S49 68 v0 v7) (fun S50 => (jR S50 64 v0).bind (fun r51 => if jK r51 = 1 then (f_X1_clear r51 S50).bind (fun S53 => if (jR S53 65 v0).isNone = true then f_X10_work_54 v0 (-1 : Int32) S53 else (jR S53 65 v0).bind (fun r57 => if jK r57 = 6 then (f_X8_ruleNamed r57 v3 S53).bind (fun x59 => f_X10_work_54 v0 x59 S53) else none)) else none)))))) else none
set_option maxRecDepth 100000 in
set_option maxHeartbeats 4000000 in
theorem B_X10_work_150 {p : Program} {l : Launch} {e : Env} {s : State} {m : MethodId} {args : Array Value} {below : List Frame} {meth : Method} {c : Code} {g : jG} {SS : jM} {v0 : Nat} {v8 : Int32} {S : jM} (E : jEnv p s m args meth c cX10_work "PensionHouse$Worker" none 10 g)  {H : Heap} {locs : List Loc} {ls : Array Slot} (hf : f_X10_work_150 v0 v8 S = some SS) (hM : jAt g S s H locs) (hl : lv_has ls 10 [(0, .ref (g.2.2 + v0)), (8, .int v8)]) : W p l e (jRm 6 0 0) s m args below meth c H locs 0 0 (MQ below (jQv g SS) args s 0 0 (jA0 g)) (F0 m 150 ls []) := by
  obtain ⟨hx, hb, hml, -, hts, hown, hK, -, hstr⟩ := id E
  unfold f_X10_work_150 at hf
  refine lv_aload_n hx hb dX10_work_150 rfl (lv_at hl 0 rfl) ?_
  obtain ⟨hq1, hf⟩ := jif hf
  refine gt_64 E hM hq1 lk_2_14 dX10_work_151 ?_
  obtain ⟨r2, hr3, hf⟩ := jb hf
  rw [hr3]
  show W p l e _ s m args below meth c H locs 0 0 _ (F0 m _ ls (.ref (g.2.2 + r2) :: _))
  refine lv_iload hx hb dX10_work_154 (lv_at hl 1 rfl) ?_
  refine lv_aload_n hx hb dX10_work_156 rfl (lv_at hl 0 rfl) ?_
  refine gt_61 E hM hq1 lk_2_11 dX10_work_157 ?_
  obtain ⟨r4, hr5, hf⟩ := jb hf
  rw [hr5]
  show W p l e _ s m args below meth c H locs 0 0 _ (F0 m _ ls (.ref (g.2.2 + r4) :: _))
  refine lv_iconst (v := (0 : Int32)) hx hb dX10_work_160 (by decide) ?_
  obtain ⟨ha6, hf⟩ := jif hf
  refine jaald (k := 19) (t0 := 8) E hM ha6 (by decide) (by decide) rfl dX10_work_161 ?_
  obtain ⟨r7, hr8, hf⟩ := jb hf
  rw [hr8]
  show W p l e _ s m args below meth c H locs 0 0 _ (F0 m _ ls (.ref (g.2.2 + r7) :: _))
  obtain ⟨hq11, hf⟩ := jif hf
  obtain ⟨S9, hc10, hf⟩ := jb hf
  refine jbackV hM (jrunV E hM ci_X1_endRule (C_X1_endRule hc10) lk_4_206 hq11 (by decide) rfl hl.1 rfl rfl (Nat.le_of_ble_eq_true rfl) ⟨Nat.le_of_ble_eq_true rfl, Nat.le_of_ble_eq_true rfl⟩ ⟨Nat.le_refl _, Nat.le_refl _⟩ dX10_work_162) (fun H locs hM => ?_)
  exact jvret (jrv hf) E hM dX10_work_165
set_option maxRecDepth 100000 in
set_option maxHeartbeats 4000000 in
theorem B_X10_work_144 {p : Program} {l : Launch} {e : Env} {s : State} {m : MethodId} {args : Array Value} {below : List Frame} {meth : Method} {c : Code} {g : jG} {SS : jM} {v0 : Nat} {v8 : Int32} {v9 : Int32} {S : jM} {k109 : Nat → Int32 → Int32 → jM → Option jM} (E : jEnv p s m args meth c cX10_work "PensionHouse$Worker" none 10 g) (hk109 : ∀ (v0 : Nat) (v8 : Int32) (v9 : Int32) (S : jM) (H : Heap) (locs : List Loc) (ls : Array Slot), k109 v0 v8 v9 S = some SS → jAt g S s H locs → lv_has ls 10 [(0, .ref (g.2.2 + v0)), (8, .int v8), (9, .int v9)] → W p l e (jRm 6 0 0) s m args below meth c H locs 0 0 (MQ below (jQv g SS) args s 0 0 (jA0 g)) (F0 m 109 ls [])) {H : Heap} {locs : List Loc} {ls : Array Slot} (hf : f_X10_work_144 k109 v0 v8 v9 S = some SS) (hM : jAt g S s H locs) (hl : lv_has ls 10 [(0, .ref (g.2.2 + v0)), (8, .int v8), (9, .int v9)]) : W p l e (jRm 6 0 0) s m args below meth c H locs 0 0 (MQ below (jQv g SS) args s 0 0 (jA0 g)) (F0 m 144 ls []) := by
  obtain ⟨hx, hb, hml, -, hts, hown, hK, -, hstr⟩ := id E
  unfold f_X10_work_144 at hf
  obtain ⟨x12, ex12⟩ : ∃ z, z = v9 + (1 : Int32) := ⟨_, rfl⟩
  have hf := jlet_y ex12 hf
  refine lv_iinc (v := x12) (lv' := [(9, .int x12), (0, .ref (g.2.2 + v0)), (8, .int v8)]) hx hb dX10_work_144 hl (k := 2) rfl (by rw [ex12]; rfl) (by decide) rfl (fun ls hl => ?_)
  refine lv_goto (tgt := 109) hx hb dX10_work_147 (by decide) ?_
  exact hk109 v0 v8 x12 S _ _ _ hf hM (lv_sub hl [1, 2, 0] rfl)
set_option maxRecDepth 100000 in
set_option maxHeartbeats 4000000 in
theorem B_X10_work_109 {p : Program} {l : Launch} {e : Env} {s : State} {m : MethodId} {args : Array Value} {below : List Frame} {meth : Method} {c : Code} {g : jG} {SS : jM} (E : jEnv p s m args meth c cX10_work "PensionHouse$Worker" none 10 g)  : ∀ (n : Nat) (v0 : Nat) (v8 : Int32) (v9 : Int32) (S : jM) (H : Heap) (locs : List Loc) (ls : Array Slot), f_X10_work_109 n v0 v8 v9 S = some SS → jAt g S s H locs → lv_has ls 10 [(0, .ref (g.2.2 + v0)), (8, .int v8), (9, .int v9)] → W p l e (jRm 6 0 0) s m args below meth c H locs 0 0 (MQ below (jQv g SS) args s 0 0 (jA0 g)) (F0 m 109 ls []) := by
  obtain ⟨hx, hb, hml, -, hts, hown, hK, -, hstr⟩ := id E
  intro n
  induction n with
  | zero => intro v0 v8 v9 S H locs ls hf hM hl; rw [f_X10_work_109] at hf; cases hf
  | succ n ih =>
    intro v0 v8 v9 S H locs ls hf hM hl
    rw [f_X10_work_109] at hf
    refine lv_iload hx hb dX10_work_109 (lv_at hl 2 rfl) ?_
    refine lv_ldc (v := (1000000 : Int32)) hx hb hown (hts _ lk_4_162) dX10_work_111 ?_
    refine lv_icmp_ge (tgt := 150) hx hb dX10_work_113 (by decide) (fun c13 => ?_) (fun c13 => ?_)
    · have hf := jt c13 hf
      exact B_X10_work_150 E  hf hM (lv_sub hl [0, 1] rfl)
    · have hf := jf c13 hf
      refine lv_aload_n hx hb dX10_work_116 rfl (lv_at hl 0 rfl) ?_
      obtain ⟨hq14, hf⟩ := jif hf
      refine gt_60 E hM hq14 lk_2_10 dX10_work_117 ?_
      refine lv_if_le (tgt := 150) hx hb dX10_work_120 (by decide) (fun c15 => ?_) (fun c15 => ?_)
      · have hf := jt c15 hf
        exact B_X10_work_150 E  hf hM (lv_sub hl [0, 1] rfl)
      · have hf := jf c15 hf
        refine lv_aload_n hx hb dX10_work_123 rfl (lv_at hl 0 rfl) ?_
        refine gt_64 E hM hq14 lk_2_14 dX10_work_124 ?_
        obtain ⟨r16, hr17, hf⟩ := jb hf
        rw [hr17]
        show W p l e _ s m args below meth c H locs 0 0 _ (F0 m _ ls (.ref (g.2.2 + r16) :: _))
        obtain ⟨hq18, hf⟩ := jif hf
        refine gt_7 E hM hq18 lk_2_60 dX10_work_127 ?_
        refine lv_if_ne (tgt := 140) hx hb dX10_work_130 (by decide) (fun c19 => ?_) (fun c19 => ?_)
        · have hf := jf c19 hf
          refine lv_aload_n hx hb dX10_work_140 rfl (lv_at hl 0 rfl) ?_
          obtain ⟨S20, hc21, hf⟩ := jb hf
          refine jbackV hM (jrunV E hM ci_X10_leaveFailed (C_X10_leaveFailed hc21) lk_5_123 hq14 (by decide) rfl hl.1 rfl rfl (Nat.le_of_ble_eq_true rfl) ⟨Nat.le_of_ble_eq_true rfl, Nat.le_of_ble_eq_true rfl⟩ ⟨Nat.le_refl _, Nat.le_refl _⟩ dX10_work_141) (fun H locs hM => ?_)
          exact B_X10_work_144 E ih hf hM (lv_sub hl [0, 1, 2] rfl)
        · have hf := jt c19 hf
          refine lv_aload_n hx hb dX10_work_133 rfl (lv_at hl 0 rfl) ?_
          obtain ⟨S22, hc23, hf⟩ := jb hf
          refine jbackV hM (jrunV E hM ci_X10_turn (C_X10_turn hc23) lk_4_163 hq14 (by decide) rfl hl.1 rfl rfl (Nat.le_of_ble_eq_true rfl) ⟨Nat.le_of_ble_eq_true rfl, Nat.le_of_ble_eq_true rfl⟩ ⟨Nat.le_refl _, Nat.le_refl _⟩ dX10_work_134) (fun H locs hM => ?_)
          refine lv_goto (tgt := 144) hx hb dX10_work_137 (by decide) ?_
          exact B_X10_work_144 E ih hf hM (lv_sub hl [0, 1, 2] rfl)
set_option maxRecDepth 100000 in
set_option maxHeartbeats 4000000 in
theorem B_X10_work_54 {p : Program} {l : Launch} {e : Env} {s : State} {m : MethodId} {args : Array Value} {below : List Frame} {meth : Method} {c : Code} {g : jG} {SS : jM} {v0 : Nat} {t0 : Int32} {S : jM} (E : jEnv p s m args meth c cX10_work "PensionHouse$Worker" none 10 g)  {H : Heap} {locs : List Loc} {ls : Array Slot} (hf : f_X10_work_54 v0 t0 S = some SS) (hM : jAt g S s H locs) (hl : lv_has ls 10 [(0, .ref (g.2.2 + v0))]) : W p l e (jRm 6 0 0) s m args below meth c H locs 0 0 (MQ below (jQv g SS) args s 0 0 (jA0 g)) (F0 m 54 ls [.int t0]) := by
  obtain ⟨hx, hb, hml, -, hts, hown, hK, -, hstr⟩ := id E
  unfold f_X10_work_54 at hf
  refine lv_istore (lv' := [(8, .int t0), (0, .ref (g.2.2 + v0))]) hx hb dX10_work_54 hl (by decide) rfl (fun ls hl => ?_)
  refine lv_iload hx hb dX10_work_56 (lv_at hl 0 rfl) ?_
  refine lv_iconst (v := (-1 : Int32)) hx hb dX10_work_58 (by decide) ?_
  refine lv_icmp_ne (tgt := 71) hx hb dX10_work_59 (by decide) (fun c24 => ?_) (fun c24 => ?_)
  · have hf := jf c24 hf
    refine lv_aload_n hx hb dX10_work_71 rfl (lv_at hl 1 rfl) ?_
    obtain ⟨hq25, hf⟩ := jif hf
    refine gt_64 E hM hq25 lk_2_14 dX10_work_72 ?_
    obtain ⟨r26, hr27, hf⟩ := jb hf
    rw [hr27]
    show W p l e _ s m args below meth c H locs 0 0 _ (F0 m _ ls (.ref (g.2.2 + r26) :: _))
    refine lv_iload hx hb dX10_work_75 (lv_at hl 0 rfl) ?_
    obtain ⟨hq28, hf⟩ := jif hf
    refine pt_6 E hM hq28 lk_2_57 dX10_work_77 (fun H locs S29 eS29 hM => ?_)
    have hf := jlet_y eS29 hf
    refine lv_aload_n hx hb dX10_work_80 rfl (lv_at hl 1 rfl) ?_
    refine lv_iconst (v := (0 : Int32)) hx hb dX10_work_81 (by decide) ?_
    refine pt_60 E hM hq25 lk_2_10 dX10_work_82 (fun H locs S30 eS30 hM => ?_)
    have hf := jlet_y eS30 hf
    refine lv_aload_n hx hb dX10_work_85 rfl (lv_at hl 1 rfl) ?_
    refine lv_iconst (v := (0 : Int32)) hx hb dX10_work_86 (by decide) ?_
    refine pt_62 E hM hq25 lk_2_12 dX10_work_87 (fun H locs S31 eS31 hM => ?_)
    have hf := jlet_y eS31 hf
    refine lv_aload_n hx hb dX10_work_90 rfl (lv_at hl 1 rfl) ?_
    refine lv_aload_n hx hb dX10_work_91 rfl (lv_at hl 1 rfl) ?_
    refine gt_65 E hM hq25 lk_2_15 dX10_work_92 ?_
    obtain ⟨r32, hr33, hf⟩ := jb hf
    rw [hr33]
    show W p l e _ s m args below meth c H locs 0 0 _ (F0 m _ ls (.ref (g.2.2 + r32) :: _))
    obtain ⟨hq34, hf⟩ := jif hf
    refine gt_51 E hM hq34 lk_1_189 dX10_work_95 ?_
    obtain ⟨r35, hr36, hf⟩ := jb hf
    rw [hr36]
    show W p l e _ s m args below meth c H locs 0 0 _ (F0 m _ ls (.ref (g.2.2 + r35) :: _))
    refine lv_iload hx hb dX10_work_98 (lv_at hl 0 rfl) ?_
    obtain ⟨ha37, hf⟩ := jif hf
    refine jiald E hM ha37 dX10_work_100 ?_
    refine lv_iload hx hb dX10_work_101 (lv_at hl 0 rfl) ?_
    obtain ⟨S38, hc39, hf⟩ := jb hf
    refine jbackV hM (jrunV E hM ci_X10_enter (C_X10_enter hc39) lk_4_158 hq25 (by decide) rfl hl.1 rfl rfl (Nat.le_of_ble_eq_true rfl) ⟨Nat.le_of_ble_eq_true rfl, Nat.le_of_ble_eq_true rfl⟩ ⟨Nat.le_refl _, Nat.le_refl _⟩ dX10_work_103) (fun H locs hM => ?_)
    refine lv_iconst (v := (0 : Int32)) hx hb dX10_work_106 (by decide) ?_
    refine lv_istore (lv' := [(9, .int (0 : Int32)), (8, .int t0), (0, .ref (g.2.2 + v0))]) hx hb dX10_work_107 hl (by decide) rfl (fun ls hl => ?_)
    exact B_X10_work_109 E  1100000 v0 t0 (0 : Int32) S38 _ _ _ hf hM (lv_sub hl [2, 1, 0] rfl)
  · have hf := jt c24 hf
    refine lv_aload_n hx hb dX10_work_62 rfl (lv_at hl 1 rfl) ?_
    obtain ⟨hq40, hf⟩ := jif hf
    refine gt_64 E hM hq40 lk_2_14 dX10_work_63 ?_
    obtain ⟨r41, hr42, hf⟩ := jb hf
    rw [hr42]
    show W p l e _ s m args below meth c H locs 0 0 _ (F0 m _ ls (.ref (g.2.2 + r41) :: _))
    refine lv_iconst (v := (1 : Int32)) hx hb dX10_work_66 (by decide) ?_
    obtain ⟨hq43, hf⟩ := jif hf
    refine pt_7 E hM hq43 lk_2_60 dX10_work_67 (fun H locs S44 eS44 hM => ?_)
    have hf := jlet_y eS44 hf
    exact jvret (jrv hf) E hM dX10_work_70
set_option maxRecDepth 100000 in
set_option maxHeartbeats 4000000 in
theorem B_X10_work_0 {p : Program} {l : Launch} {e : Env} {s : State} {m : MethodId} {args : Array Value} {below : List Frame} {meth : Method} {c : Code} {g : jG} {SS : jM} {v0 : Nat} {v1 : Nat} {v2 : Option Nat} {v3 : Int64} {v5 : Int32} {v6 : Int32} {v7 : Int32} {S : jM} (E : jEnv p s m args meth c cX10_work "PensionHouse$Worker" none 10 g)  {H : Heap} {locs : List Loc} {ls : Array Slot} (hf : f_X10_work v0 v1 v2 v3 v5 v6 v7 S = some SS) (hM : jAt g S s H locs) (hl : lv_has ls 10 [(0, .ref (g.2.2 + v0)), (1, .ref (g.2.2 + v1)), (2, jo g v2), (3, .long v3), (5, .int v5), (6, .int v6), (7, .int v7)]) : W p l e (jRm 6 0 0) s m args below meth c H locs 0 0 (MQ below (jQv g SS) args s 0 0 (jA0 g)) (F0 m 0 ls []) := by
  obtain ⟨hx, hb, hml, -, hts, hown, hK, -, hstr⟩ := id E
  unfold f_X10_work at hf
  refine lv_aload_n hx hb dX10_work_0 rfl (lv_at hl 0 rfl) ?_
  refine lv_aload_n hx hb dX10_work_1 rfl (lv_at hl 1 rfl) ?_
  obtain ⟨hq45, hf⟩ := jif hf
  refine pt_64 (v := (some v1)) E hM hq45 lk_2_14 dX10_work_2 (fun H locs S46 eS46 hM => ?_)
  have hf := jlet_y eS46 hf
  refine lv_aload_n hx hb dX10_work_5 rfl (lv_at hl 0 rfl) ?_
  refine jaload hx hb dX10_work_6 rfl (lv_at hl 2 rfl) ?_
  refine pt_65 (v := v2) E hM hq45 lk_2_15 dX10_work_7 (fun H locs S47 eS47 hM => ?_)
  have hf := jlet_y eS47 hf
  refine lv_aload_n hx hb dX10_work_10 rfl (lv_at hl 0 rfl) ?_
  refine lv_iload hx hb dX10_work_11 (lv_at hl 4 rfl) ?_
  refine pt_66 E hM hq45 lk_2_16 dX10_work_13 (fun H locs S48 eS48 hM => ?_)
  have hf := jlet_y eS48 hf
  refine lv_aload_n hx hb dX10_work_16 rfl (lv_at hl 0 rfl) ?_
  refine lv_iload hx hb dX10_work_17 (lv_at hl 5 rfl) ?_
  refine pt_67 E hM hq45 lk_2_17 dX10_work_19 (fun H locs S49 eS49 hM => ?_)
  have hf := jlet_y eS49 hf
  refine lv_aload_n hx hb dX10_work_22 rfl (lv_at hl 0 rfl) ?_
  refine lv_iload hx hb dX10_work_23 (lv_at hl 6 rfl) ?_
  refine pt_68 E hM hq45 lk_2_18 dX10_work_25 (fun H locs S50 eS50 hM => ?_)
  have hf := jlet_y eS50 hf
  refine lv_aload_n hx hb dX10_work_28 rfl (lv_at hl 0 rfl) ?_
  refine gt_64 E hM hq45 lk_2_14 dX10_work_29 ?_
  obtain ⟨r51, hr52, hf⟩ := jb hf
  rw [hr52]
  show W p l e _ s m args below meth c H locs 0 0 _ (F0 m _ ls (.ref (g.2.2 + r51) :: _))
  obtain ⟨hq55, hf⟩ := jif hf
  obtain ⟨S53, hc54, hf⟩ := jb hf
  refine jbackV hM (jrunV E hM ci_X1_clear (C_X1_clear hc54) lk_4_150 hq55 (by decide) rfl hl.1 rfl rfl (Nat.le_of_ble_eq_true rfl) ⟨Nat.le_of_ble_eq_true rfl, Nat.le_of_ble_eq_true rfl⟩ ⟨Nat.le_refl _, Nat.le_refl _⟩ dX10_work_32) (fun H locs hM => ?_)
  refine lv_aload_n hx hb dX10_work_35 rfl (lv_at hl 0 rfl) ?_
  refine gt_65 E hM hq45 lk_2_15 dX10_work_36 ?_
  refine jifnonnull (tgt := 46) hx hb dX10_work_39 (by decide) (fun c56 => ?_) (fun c56 => ?_)
  · have hf := jf c56 hf
    refine lv_aload_n hx hb dX10_work_46 rfl (lv_at hl 0 rfl) ?_
    refine gt_65 E hM hq45 lk_2_15 dX10_work_47 ?_
    obtain ⟨r57, hr58, hf⟩ := jb hf
    rw [hr58]
    show W p l e _ s m args below meth c H locs 0 0 _ (F0 m _ ls (.ref (g.2.2 + r57) :: _))
    refine lv_lload_n hx hb dX10_work_50 rfl (lv_at hl 3 rfl) ?_
    obtain ⟨hq61, hf⟩ := jif hf
    obtain ⟨x59, hc60, hf⟩ := jb hf
    refine jbackI hM (jrunV E hM ci_X8_ruleNamed (C_X8_ruleNamed hc60) lk_4_157 hq61 (by decide) rfl hl.1 rfl rfl (Nat.le_of_ble_eq_true rfl) ⟨Nat.le_of_ble_eq_true rfl, Nat.le_of_ble_eq_true rfl⟩ ⟨Nat.le_refl _, Nat.le_refl _⟩ dX10_work_51) (fun H locs hM => ?_)
    exact B_X10_work_54 E  hf hM (lv_sub hl [0] rfl)
  · have hf := jt c56 hf
    refine lv_iconst (v := (-1 : Int32)) hx hb dX10_work_42 (by decide) ?_
    refine lv_goto (tgt := 54) hx hb dX10_work_43 (by decide) ?_
    exact B_X10_work_54 E  hf hM (lv_sub hl [0] rfl)
set_option maxRecDepth 100000 in
theorem C_X10_work {l : Launch} {g : jG} {a0 : Nat} {a1 : Nat} {a2 : Option Nat} {a3 : Int64} {a5 : Int32} {a6 : Int32} {a7 : Int32} {S : jM} {SS : jM} (hf : f_X10_work a0 a1 a2 a3 a5 a6 a7 S = some SS) : jMet l g yX10_work cX10_work 10 none 6 0 0 [.ref (g.2.2 + a0), .ref (g.2.2 + a1), jo g a2, .long a3, .int a5, .int a6, .int a7] S (jQv g SS) := by
  cases a2 with
  | none =>
    refine jof (by decide +kernel) (Nat.le_of_ble_eq_true rfl) ?_
    intro p e s m below meth c E hM ls hl
    have hl : lv_has ls 10 [(0, .ref (g.2.2 + a0)),(1, .ref (g.2.2 + a1)),(2, jo g none),(3, .long a3),(5, .int a5),(6, .int a6),(7, .int a7)] := hl
    exact B_X10_work_0 E hf hM hl
  | some z =>
    refine jof (by decide +kernel) (Nat.le_of_ble_eq_true rfl) ?_
    intro p e s m below meth c E hM ls hl
    have hl : lv_has ls 10 [(0, .ref (g.2.2 + a0)),(1, .ref (g.2.2 + a1)),(2, jo g (some z)),(3, .long a3),(5, .int a5),(6, .int a6),(7, .int a7)] := hl
    exact B_X10_work_0 E hf hM hl
