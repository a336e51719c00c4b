theorem jcell_11 (g : jG) (S : jM) (n : Nat) : vp_cell (g.2.1 11) (n, jArr g (jnew S) 11 (jn S)) = arrV (g.2.1 11) n (fun _ => defaultValue .byte) := by simp [jArr, jAI, jnew, jn, vp_cell_i]; rfl
theorem jcell_12 (g : jG) (S : jM) (n : Nat) : vp_cell (g.2.1 12) (n, jArr g (jnew S) 12 (jn S)) = arrV (g.2.1 12) n (fun _ => defaultValue .double) := by simp [jArr, jAD, jnew, jn, vp_cell_d]; rfl
theorem jcell_13 (g : jG) (S : jM) (n : Nat) : vp_cell (g.2.1 13) (n, jArr g (jnew S) 13 (jn S)) = arrV (g.2.1 13) n (fun _ => defaultValue .int) := by simp [jArr, jAI, jnew, jn, vp_cell_i]; rfl
theorem jcell_14 (g : jG) (S : jM) (n : Nat) : vp_cell (g.2.1 14) (n, jArr g (jnew S) 14 (jn S)) = arrV (g.2.1 14) n (fun _ => defaultValue .long) := by simp [jArr, jAL, jnew, jn, vp_cell_l]; rfl
theorem jcell_15 (g : jG) (S : jM) (n : Nat) : vp_cell (g.2.1 15) (n, jArr g (jnew S) 15 (jn S)) = arrV (g.2.1 15) n (fun _ => defaultValue .boolean) := by simp [jArr, jAI, jnew, jn, vp_cell_i]; rfl
theorem jdefb_0 : (List.range 6).all (fun j => decide (vp_V ((jFT 0).map (fun q => if q.1 = 0 then Value.int 0 else if q.1 = 1 then .long 0 else .null)) j = defaultValue (tyX0 j))) = true := by decide +kernel
theorem jdef_0 : ∀ j, j < 6 → vp_V ((jFT 0).map (fun q => if q.1 = 0 then Value.int 0 else if q.1 = 1 then .long 0 else .null)) j = defaultValue (tyX0 j) := fun j hj => of_decide_eq_true (List.all_eq_true.mp jdefb_0 j (List.mem_range.mpr hj))
theorem jdefb_1 : (List.range 11).all (fun j => decide (vp_V ((jFT 1).map (fun q => if q.1 = 0 then Value.int 0 else if q.1 = 1 then .long 0 else .null)) j = defaultValue (tyX1 j))) = true := by decide +kernel
theorem jdef_1 : ∀ j, j < 11 → vp_V ((jFT 1).map (fun q => if q.1 = 0 then Value.int 0 else if q.1 = 1 then .long 0 else .null)) j = defaultValue (tyX1 j) := fun j hj => of_decide_eq_true (List.all_eq_true.mp jdefb_1 j (List.mem_range.mpr hj))
theorem jdefb_2 : (List.range 7).all (fun j => decide (vp_V ((jFT 2).map (fun q => if q.1 = 0 then Value.int 0 else if q.1 = 1 then .long 0 else .null)) j = defaultValue (tyX2 j))) = true := by decide +kernel
theorem jdef_2 : ∀ j, j < 7 → vp_V ((jFT 2).map (fun q => if q.1 = 0 then Value.int 0 else if q.1 = 1 then .long 0 else .null)) j = defaultValue (tyX2 j) := fun j hj => of_decide_eq_true (List.all_eq_true.mp jdefb_2 j (List.mem_range.mpr hj))
theorem jdefb_3 : (List.range 7).all (fun j => decide (vp_V ((jFT 3).map (fun q => if q.1 = 0 then Value.int 0 else if q.1 = 1 then .long 0 else .null)) j = defaultValue (tyX4 j))) = true := by decide +kernel
theorem jdef_3 : ∀ j, j < 7 → vp_V ((jFT 3).map (fun q => if q.1 = 0 then Value.int 0 else if q.1 = 1 then .long 0 else .null)) j = defaultValue (tyX4 j) := fun j hj => of_decide_eq_true (List.all_eq_true.mp jdefb_3 j (List.mem_range.mpr hj))
theorem jdefb_4 : (List.range 5).all (fun j => decide (vp_V ((jFT 4).map (fun q => if q.1 = 0 then Value.int 0 else if q.1 = 1 then .long 0 else .null)) j = defaultValue (tyX6 j))) = true := by decide +kernel
theorem jdef_4 : ∀ j, j < 5 → vp_V ((jFT 4).map (fun q => if q.1 = 0 then Value.int 0 else if q.1 = 1 then .long 0 else .null)) j = defaultValue (tyX6 j) := fun j hj => of_decide_eq_true (List.all_eq_true.mp jdefb_4 j (List.mem_range.mpr hj))
theorem jdefb_5 : (List.range 8).all (fun j => decide (vp_V ((jFT 5).map (fun q => if q.1 = 0 then Value.int 0 else if q.1 = 1 then .long 0 else .null)) j = defaultValue (tyX7 j))) = true := by decide +kernel
theorem jdef_5 : ∀ j, j < 8 → vp_V ((jFT 5).map (fun q => if q.1 = 0 then Value.int 0 else if q.1 = 1 then .long 0 else .null)) j = defaultValue (tyX7 j) := fun j hj => of_decide_eq_true (List.all_eq_true.mp jdefb_5 j (List.mem_range.mpr hj))
theorem jdefb_6 : (List.range 8).all (fun j => decide (vp_V ((jFT 6).map (fun q => if q.1 = 0 then Value.int 0 else if q.1 = 1 then .long 0 else .null)) j = defaultValue (tyX8 j))) = true := by decide +kernel
theorem jdef_6 : ∀ j, j < 8 → vp_V ((jFT 6).map (fun q => if q.1 = 0 then Value.int 0 else if q.1 = 1 then .long 0 else .null)) j = defaultValue (tyX8 j) := fun j hj => of_decide_eq_true (List.all_eq_true.mp jdefb_6 j (List.mem_range.mpr hj))
theorem jdefb_7 : (List.range 3).all (fun j => decide (vp_V ((jFT 7).map (fun q => if q.1 = 0 then Value.int 0 else if q.1 = 1 then .long 0 else .null)) j = defaultValue (tyX9 j))) = true := by decide +kernel
theorem jdef_7 : ∀ j, j < 3 → vp_V ((jFT 7).map (fun q => if q.1 = 0 then Value.int 0 else if q.1 = 1 then .long 0 else .null)) j = defaultValue (tyX9 j) := fun j hj => of_decide_eq_true (List.all_eq_true.mp jdefb_7 j (List.mem_range.mpr hj))
theorem jdefb_8 : (List.range 14).all (fun j => decide (vp_V ((jFT 8).map (fun q => if q.1 = 0 then Value.int 0 else if q.1 = 1 then .long 0 else .null)) j = defaultValue (tyX10 j))) = true := by decide +kernel
theorem jdef_8 : ∀ j, j < 14 → vp_V ((jFT 8).map (fun q => if q.1 = 0 then Value.int 0 else if q.1 = 1 then .long 0 else .null)) j = defaultValue (tyX10 j) := fun j hj => of_decide_eq_true (List.all_eq_true.mp jdefb_8 j (List.mem_range.mpr hj))
theorem jdefb_9 : (List.range 19).all (fun j => decide (vp_V ((jFT 9).map (fun q => if q.1 = 0 then Value.int 0 else if q.1 = 1 then .long 0 else .null)) j = defaultValue (tyX11 j))) = true := by decide +kernel
theorem jdef_9 : ∀ j, j < 19 → vp_V ((jFT 9).map (fun q => if q.1 = 0 then Value.int 0 else if q.1 = 1 then .long 0 else .null)) j = defaultValue (tyX11 j) := fun j hj => of_decide_eq_true (List.all_eq_true.mp jdefb_9 j (List.mem_range.mpr hj))
theorem jdefb_10 : (List.range 89).all (fun j => decide (vp_V ((jFT 10).map (fun q => if q.1 = 0 then Value.int 0 else if q.1 = 1 then .long 0 else .null)) j = defaultValue (tyX12 j))) = true := by decide +kernel
theorem jdef_10 : ∀ j, j < 89 → vp_V ((jFT 10).map (fun q => if q.1 = 0 then Value.int 0 else if q.1 = 1 then .long 0 else .null)) j = defaultValue (tyX12 j) := fun j hj => of_decide_eq_true (List.all_eq_true.mp jdefb_10 j (List.mem_range.mpr hj))
-- X9_init
set_option maxRecDepth 100000 in
noncomputable def f_X9_init_0 (n0 : Nat) (v0 : Nat) (S : jM) : Option jM := if jK (jn S) = 14 then if jLen (jn S) = ((12 : Int32)).toNatClampNeg then if jn S + 1 ≤ n0 + 1 then jlet (jnew S) (fun S4 => if v0 < jn S4 then if jK v0 = 7 then jlet (jsR S4 54 v0 (some (jn S))) (fun S7 => if jn S7 = n0 + 1 then some S7 else none) else none else none) else none else none else none
set_option maxRecDepth 100000 in
noncomputable def f_X9_init (a0 : Nat) (S : jM) : Option jM := f_X9_init_0 (jn S) a0 S
set_option maxRecDepth 100000 in
set_option maxHeartbeats 4000000 in
theorem B_X9_init_0 {p : Program} {l : Launch} {e : Env} {s : State} {m : MethodId} {args : Array Value} {below : List Frame} {meth : Method} {c : Code} {g : jG} {n0 : Nat} (hao : jAO s) (hin : meth.name = "<init>") {SS : jM} {v0 : Nat} {S : jM} (E : jEnv p s m args meth c cX9_init "PensionHouse$Value" none 1 g)  {H : Heap} {locs : List Loc} {ls : Array Slot} (hf : f_X9_init_0 n0 v0 S = some SS) (h0 : n0 ≤ jn S) (hM : jAtN g S s H locs) (hl : lv_has ls 1 [(0, .ref (g.2.2 + v0))]) : jWC p l e 2 1 n0 s m args below meth c g SS S H locs (F0 m 0 ls []) := by
  obtain ⟨hx, hb, hml, -, hts, hown, hK, -, hstr⟩ := id E
  unfold f_X9_init_0 at hf
  refine lv_aload_n hx hb dX9_init_0 rfl (lv_at hl 0 rfl) ?_
  refine jcObj E lk_1_48 lk_1_28 lk_1_29 hl.1 (Nat.le_of_ble_eq_true rfl) (Nat.le_of_ble_eq_true rfl) dX9_init_1 ?_
  refine lv_aload_n hx hb dX9_init_4 rfl (lv_at hl 0 rfl) ?_
  refine lv_bipush (v := (12 : Int32)) hx hb dX9_init_5 (by decide) ?_
  obtain ⟨hc1, hf⟩ := jif hf
  obtain ⟨hc2, hf⟩ := jif hf
  obtain ⟨hm3, hf⟩ := jif hf
  refine jcNewa (t0 := 3) E hM h0 hm3 (ty := .long) rfl hc1 (by decide) rfl (fun U cA h => h) (jcell_14 g S _) lk_1_71 (by decide) hc2 (by decide) dX9_init_7 (fun H S4 eS4 h0 hM => ?_)
  have hf := jlet_y eS4 hf
  obtain ⟨hn5, hf⟩ := jif hf
  obtain ⟨hq6, hf⟩ := jif hf
  refine jcPut (S' := jsR S4 54 v0 (some (jn S))) (k := 7) (i := 2) (N := 3) (T := TX9) (fin := true) (ty := .array .long) E hM hn5 hq6 (by decide) rfl (by decide) rfl rfl lk_1_57 (fun _ => ⟨hin, rfl⟩) (by decide +kernel) rfl rfl dX9_init_9 rfl (jV_sR_same g S4 54 v0 (some (jn S))) (fun b r h2 h => jV_sR g S4 54 v0 (some (jn S)) b r h h2) (fun _ _ => rfl) (fun H locs hM => ?_)
  obtain ⟨S7, eS7⟩ : ∃ z, z = jsR S4 54 v0 (some (jn S)) := ⟨_, rfl⟩
  rw [← eS7] at hM ⊢
  have h0 : n0 ≤ jn S7 := by rw [eS7]; exact h0
  have hf := jlet_y eS7 hf
  obtain ⟨hc8, hf⟩ := jif hf
  exact jcRet E hM (jrv hf) hc8 dX9_init_12
theorem ci_X9_init : jCI yX9_init cX9_init 1 0 := ⟨lk_1_46, lk_1_4, lk_1_47, ⟨by decide +kernel, by decide +kernel, by decide +kernel⟩, by decide, rfl⟩
set_option maxRecDepth 100000 in
theorem C_X9_init {l : Launch} {g : jG} {a0 : Nat} {S SS : jM} (hf : f_X9_init a0 S = some SS) : jMetN l g yX9_init cX9_init 1 2 1 (jn S) [.ref (g.2.2 + a0)] S (jQvN g SS) := by
  refine jcOf (by decide +kernel) (Nat.le_of_ble_eq_true rfl) rfl ?_
  intro p e s m below meth c E hao hin hM ls hl
  have hl : lv_has ls 1 [(0, .ref (g.2.2 + a0))] := hl
  exact B_X9_init_0 hao hin E hf (Nat.le_refl _) hM hl
-- X2_init
set_option maxRecDepth 100000 in
noncomputable def f_X2_init_0 (n0 : Nat) (v0 : Nat) (S : jM) : Option jM := if jK (jn S) = 7 then if jn S + 1 ≤ n0 + 2 then jlet (jnew S) (fun S3 => if jn S3 + 1 ≤ n0 + 2 then (f_X9_init (jn S) S3).bind (fun S5 => if jn S5 = jn S3 + 1 then if v0 < jn S5 then if jK v0 = 2 then jlet (jsR S5 23 v0 (some (jn S))) (fun S11 => if jn S11 = n0 + 2 then some S11 else none) else none else none else none) else none) else none else none
set_option maxRecDepth 100000 in
noncomputable def f_X2_init (a0 : Nat) (S : jM) : Option jM := f_X2_init_0 (jn S) a0 S
set_option maxRecDepth 100000 in
set_option maxHeartbeats 4000000 in
theorem B_X2_init_0 {p : Program} {l : Launch} {e : Env} {s : State} {m : MethodId} {args : Array Value} {below : List Frame} {meth : Method} {c : Code} {g : jG} {n0 : Nat} (hao : jAO s) (hin : meth.name = "<init>") {SS : jM} {v0 : Nat} {S : jM} (E : jEnv p s m args meth c cX2_init "PensionHouse$Fact" none 1 g)  {H : Heap} {locs : List Loc} {ls : Array Slot} (hf : f_X2_init_0 n0 v0 S = some SS) (h0 : n0 ≤ jn S) (hM : jAtN g S s H locs) (hl : lv_has ls 1 [(0, .ref (g.2.2 + v0))]) : jWC p l e 3 2 n0 s m args below meth c g SS S H locs (F0 m 0 ls []) := by
  obtain ⟨hx, hb, hml, -, hts, hown, hK, -, hstr⟩ := id E
  unfold f_X2_init_0 at hf
  refine lv_aload_n hx hb dX2_init_0 rfl (lv_at hl 0 rfl) ?_
  refine jcObj E lk_1_42 lk_1_28 lk_1_29 hl.1 (Nat.le_of_ble_eq_true rfl) (Nat.le_of_ble_eq_true rfl) dX2_init_1 ?_
  refine lv_aload_n hx hb dX2_init_4 rfl (lv_at hl 0 rfl) ?_
  obtain ⟨hc1, hf⟩ := jif hf
  obtain ⟨hm2, hf⟩ := jif hf
  refine jcNew E hM h0 hm2 tyX9 hc1 (by decide) rfl tyX9_ok jdef_7 rfl lk_1_43 lk_1_44 lk_1_4 dX2_init_5 (fun H S3 eS3 h0 hM => ?_)
  have hf := jlet_y eS3 hf
  refine lv_dup hx hb dX2_init_8 rfl ?_
  obtain ⟨hm7, hf⟩ := jif hf
  obtain ⟨S5, hc6, hf⟩ := jb hf
  obtain ⟨hc8, hf⟩ := jif hf
  refine jcCall E hao hM h0 ci_X9_init (C_X9_init hc6) hc8 hm7 lk_1_45 hl.1 rfl rfl (Nat.le_of_ble_eq_true rfl) (Nat.le_of_ble_eq_true rfl) dX2_init_9 (fun H locs h0 hM => ?_)
  obtain ⟨hn9, hf⟩ := jif hf
  obtain ⟨hq10, hf⟩ := jif hf
  refine jcPut (S' := jsR S5 23 v0 (some (jn S))) (k := 2) (i := 6) (N := 7) (T := TX2) (fin := true) (ty := .object "PensionHouse$Value") E hM hn9 hq10 (by decide) rfl (by decide) rfl rfl lk_1_84 (fun _ => ⟨hin, rfl⟩) (by decide +kernel) rfl rfl dX2_init_12 rfl (jV_sR_same g S5 23 v0 (some (jn S))) (fun b r h2 h => jV_sR g S5 23 v0 (some (jn S)) b r h h2) (fun _ _ => rfl) (fun H locs hM => ?_)
  obtain ⟨S11, eS11⟩ : ∃ z, z = jsR S5 23 v0 (some (jn S)) := ⟨_, rfl⟩
  rw [← eS11] at hM ⊢
  have h0 : n0 ≤ jn S11 := by rw [eS11]; exact h0
  have hf := jlet_y eS11 hf
  obtain ⟨hc12, hf⟩ := jif hf
  exact jcRet E hM (jrv hf) hc12 dX2_init_15
theorem ci_X2_init : jCI yX2_init cX2_init 1 0 := ⟨lk_1_40, lk_1_3, lk_1_41, ⟨by decide +kernel, by decide +kernel, by decide +kernel⟩, by decide, rfl⟩
set_option maxRecDepth 100000 in
theorem C_X2_init {l : Launch} {g : jG} {a0 : Nat} {S SS : jM} (hf : f_X2_init a0 S = some SS) : jMetN l g yX2_init cX2_init 1 3 2 (jn S) [.ref (g.2.2 + a0)] S (jQvN g SS) := by
  refine jcOf (by decide +kernel) (Nat.le_of_ble_eq_true rfl) rfl ?_
  intro p e s m below meth c E hao hin hM ls hl
  have hl : lv_has ls 1 [(0, .ref (g.2.2 + a0))] := hl
  exact B_X2_init_0 hao hin E hf (Nat.le_refl _) hM hl
-- X0_init
set_option maxRecDepth 100000 in
noncomputable def f_X0_init_0 (n0 : Nat) (v0 : Nat) (S : jM) : Option jM := if jK (jn S) = 13 then if jLen (jn S) = ((6 : Int32)).toNatClampNeg then if jn S + 1 ≤ n0 + 2 then jlet (jnew S) (fun S4 => if v0 < jn S4 then if jK v0 = 0 then jlet (jsR S4 4 v0 (some (jn S))) (fun S7 => if jK (jn S7) = 13 then if jLen (jn S7) = ((6 : Int32)).toNatClampNeg then if jn S7 + 1 ≤ n0 + 2 then jlet (jnew S7) (fun S11 => if v0 < jn S11 then jlet (jsR S11 5 v0 (some (jn S7))) (fun S13 => if jn S13 = n0 + 2 then some S13 else none) else none) else none else none else none) else none else none) else none else none else none
set_option maxRecDepth 100000 in
noncomputable def f_X0_init (a0 : Nat) (S : jM) : Option jM := f_X0_init_0 (jn S) a0 S
set_option maxRecDepth 100000 in
set_option maxHeartbeats 4000000 in
theorem B_X0_init_0 {p : Program} {l : Launch} {e : Env} {s : State} {m : MethodId} {args : Array Value} {below : List Frame} {meth : Method} {c : Code} {g : jG} {n0 : Nat} (hao : jAO s) (hin : meth.name = "<init>") {SS : jM} {v0 : Nat} {S : jM} (E : jEnv p s m args meth c cX0_init "PensionHouse$Award" none 1 g)  {H : Heap} {locs : List Loc} {ls : Array Slot} (hf : f_X0_init_0 n0 v0 S = some SS) (h0 : n0 ≤ jn S) (hM : jAtN g S s H locs) (hl : lv_has ls 1 [(0, .ref (g.2.2 + v0))]) : jWC p l e 2 2 n0 s m args below meth c g SS S H locs (F0 m 0 ls []) := by
  obtain ⟨hx, hb, hml, -, hts, hown, hK, -, hstr⟩ := id E
  unfold f_X0_init_0 at hf
  refine lv_aload_n hx hb dX0_init_0 rfl (lv_at hl 0 rfl) ?_
  refine jcObj E lk_2_115 lk_1_28 lk_1_29 hl.1 (Nat.le_of_ble_eq_true rfl) (Nat.le_of_ble_eq_true rfl) dX0_init_1 ?_
  refine lv_aload_n hx hb dX0_init_4 rfl (lv_at hl 0 rfl) ?_
  refine lv_bipush (v := (6 : Int32)) hx hb dX0_init_5 (by decide) ?_
  obtain ⟨hc1, hf⟩ := jif hf
  obtain ⟨hc2, hf⟩ := jif hf
  obtain ⟨hm3, hf⟩ := jif hf
  refine jcNewa (t0 := 2) E hM h0 hm3 (ty := .int) rfl hc1 (by decide) rfl (fun U cA h => h) (jcell_13 g S _) lk_1_70 (by decide) hc2 (by decide) dX0_init_7 (fun H S4 eS4 h0 hM => ?_)
  have hf := jlet_y eS4 hf
  obtain ⟨hn5, hf⟩ := jif hf
  obtain ⟨hq6, hf⟩ := jif hf
  refine jcPut (S' := jsR S4 4 v0 (some (jn S))) (k := 0) (i := 4) (N := 6) (T := TX0) (fin := true) (ty := .array .int) E hM hn5 hq6 (by decide) rfl (by decide) rfl rfl lk_2_120 (fun _ => ⟨hin, rfl⟩) (by decide +kernel) rfl rfl dX0_init_9 rfl (jV_sR_same g S4 4 v0 (some (jn S))) (fun b r h2 h => jV_sR g S4 4 v0 (some (jn S)) b r h h2) (fun _ _ => rfl) (fun H locs hM => ?_)
  obtain ⟨S7, eS7⟩ : ∃ z, z = jsR S4 4 v0 (some (jn S)) := ⟨_, rfl⟩
  rw [← eS7] at hM ⊢
  have h0 : n0 ≤ jn S7 := by rw [eS7]; exact h0
  have hf := jlet_y eS7 hf
  refine lv_aload_n hx hb dX0_init_12 rfl (lv_at hl 0 rfl) ?_
  refine lv_bipush (v := (6 : Int32)) hx hb dX0_init_13 (by decide) ?_
  obtain ⟨hc8, hf⟩ := jif hf
  obtain ⟨hc9, hf⟩ := jif hf
  obtain ⟨hm10, hf⟩ := jif hf
  refine jcNewa (t0 := 2) E hM h0 hm10 (ty := .int) rfl hc8 (by decide) rfl (fun U cA h => h) (jcell_13 g S7 _) lk_1_70 (by decide) hc9 (by decide) dX0_init_15 (fun H S11 eS11 h0 hM => ?_)
  have hf := jlet_y eS11 hf
  obtain ⟨hn12, hf⟩ := jif hf
  refine jcPut (S' := jsR S11 5 v0 (some (jn S7))) (k := 0) (i := 5) (N := 6) (T := TX0) (fin := true) (ty := .array .int) E hM hn12 hq6 (by decide) rfl (by decide) rfl rfl lk_2_121 (fun _ => ⟨hin, rfl⟩) (by decide +kernel) rfl rfl dX0_init_17 rfl (jV_sR_same g S11 5 v0 (some (jn S7))) (fun b r h2 h => jV_sR g S11 5 v0 (some (jn S7)) b r h h2) (fun _ _ => rfl) (fun H locs hM => ?_)
  obtain ⟨S13, eS13⟩ : ∃ z, z = jsR S11 5 v0 (some (jn S7)) := ⟨_, rfl⟩
  rw [← eS13] at hM ⊢
  have h0 : n0 ≤ jn S13 := by rw [eS13]; exact h0
  have hf := jlet_y eS13 hf
  obtain ⟨hc14, hf⟩ := jif hf
  exact jcRet E hM (jrv hf) hc14 dX0_init_20
theorem ci_X0_init : jCI yX0_init cX0_init 1 0 := ⟨lk_2_113, lk_1_10, lk_2_114, ⟨by decide +kernel, by decide +kernel, by decide +kernel⟩, by decide, rfl⟩
set_option maxRecDepth 100000 in
theorem C_X0_init {l : Launch} {g : jG} {a0 : Nat} {S SS : jM} (hf : f_X0_init a0 S = some SS) : jMetN l g yX0_init cX0_init 1 2 2 (jn S) [.ref (g.2.2 + a0)] S (jQvN g SS) := by
  refine jcOf (by decide +kernel) (Nat.le_of_ble_eq_true rfl) rfl ?_
  intro p e s m below meth c E hao hin hM ls hl
  have hl : lv_has ls 1 [(0, .ref (g.2.2 + a0))] := hl
  exact B_X0_init_0 hao hin E hf (Nat.le_refl _) hM hl
-- X8_init
set_option maxRecDepth 100000 in
noncomputable def f_X8_init_0 (n0 : Nat) (v0 : Nat) (S : jM) : Option jM := if v0 < jn S then if jK v0 = 6 then jlet (jsI S 44 v0 (-1 : Int32)) (fun S3 => if jK (jn S3) = 13 then if jLen (jn S3) = ((300 : Int32)).toNatClampNeg then if jn S3 + 1 ≤ n0 + 5 then jlet (jnew S3) (fun S7 => if v0 < jn S7 then jlet (jsR S7 46 v0 (some (jn S3))) (fun S9 => if jK (jn S9) = 14 then if jLen (jn S9) = ((300 : Int32)).toNatClampNeg then if jn S9 + 1 ≤ n0 + 5 then jlet (jnew S9) (fun S13 => if v0 < jn S13 then jlet (jsR S13 47 v0 (some (jn S9))) (fun S15 => if jK (jn S15) = 13 then if jLen (jn S15) = ((900 : Int32)).toNatClampNeg then if jn S15 + 1 ≤ n0 + 5 then jlet (jnew S15) (fun S19 => if v0 < jn S19 then jlet (jsR S19 48 v0 (some (jn S15))) (fun S21 => if jK (jn S21) = 14 then if jLen (jn S21) = ((24 : Int32)).toNatClampNeg then if jn S21 + 1 ≤ n0 + 5 then jlet (jnew S21) (fun S25 => if v0 < jn S25 then jlet (jsR S25 50 v0 (some (jn S21))) (fun S27 => if jK (jn S27) = 13 then if jLen (jn S27) = ((24 : Int32)).toNatClampNeg then if jn S27 + 1 ≤ n0 + 5 then jlet (jnew S27) (fun S31 => if v0 < jn S31 then jlet (jsR S31 51 v0 (some (jn S27))) (fun S33 => if jn S33 = n0 + 5 then some S33 else none) else none) else none else none else none) else none) else none else none else none) else none) else none else none else none) else none) else none else none else none) else none) else none else none else none) else none else none
set_option maxRecDepth 100000 in
noncomputable def f_X8_init (a0 : Nat) (S : jM) : Option jM := f_X8_init_0 (jn S) a0 S
set_option maxRecDepth 100000 in
set_option maxHeartbeats 4000000 in
theorem B_X8_init_0 {p : Program} {l : Launch} {e : Env} {s : State} {m : MethodId} {args : Array Value} {below : List Frame} {meth : Method} {c : Code} {g : jG} {n0 : Nat} (hao : jAO s) (hin : meth.name = "<init>") {SS : jM} {v0 : Nat} {S : jM} (E : jEnv p s m args meth c cX8_init "PensionHouse$Text" none 1 g)  {H : Heap} {locs : List Loc} {ls : Array Slot} (hf : f_X8_init_0 n0 v0 S = some SS) (h0 : n0 ≤ jn S) (hM : jAtN g S s H locs) (hl : lv_has ls 1 [(0, .ref (g.2.2 + v0))]) : jWC p l e 2 5 n0 s m args below meth c g SS S H locs (F0 m 0 ls []) := by
  obtain ⟨hx, hb, hml, -, hts, hown, hK, -, hstr⟩ := id E
  unfold f_X8_init_0 at hf
  refine lv_aload_n hx hb dX8_init_0 rfl (lv_at hl 0 rfl) ?_
  refine jcObj E lk_1_173 lk_1_28 lk_1_29 hl.1 (Nat.le_of_ble_eq_true rfl) (Nat.le_of_ble_eq_true rfl) dX8_init_1 ?_
  refine lv_aload_n hx hb dX8_init_4 rfl (lv_at hl 0 rfl) ?_
  refine lv_iconst (v := (-1 : Int32)) hx hb dX8_init_5 (by decide) ?_
  obtain ⟨hn1, hf⟩ := jif hf
  obtain ⟨hq2, hf⟩ := jif hf
  refine jcPut (S' := jsI S 44 v0 (-1 : Int32)) (k := 6) (i := 0) (N := 8) (T := TX8) (fin := false) (ty := .int) E hM hn1 hq2 (by decide) rfl (by decide) rfl rfl lk_1_174 (fun h => by cases h) (by decide +kernel) rfl rfl dX8_init_6 rfl (jV_sI_same g S 44 v0 (-1 : Int32)) (fun b r h2 h => jV_sI g S 44 v0 (-1 : Int32) b r h) (fun _ _ => rfl) (fun H locs hM => ?_)
  obtain ⟨S3, eS3⟩ : ∃ z, z = jsI S 44 v0 (-1 : Int32) := ⟨_, rfl⟩
  rw [← eS3] at hM ⊢
  have h0 : n0 ≤ jn S3 := by rw [eS3]; exact h0
  have hf := jlet_y eS3 hf
  refine lv_aload_n hx hb dX8_init_9 rfl (lv_at hl 0 rfl) ?_
  refine lv_sipush (v := (300 : Int32)) hx hb dX8_init_10 (by decide) ?_
  obtain ⟨hc4, hf⟩ := jif hf
  obtain ⟨hc5, hf⟩ := jif hf
  obtain ⟨hm6, hf⟩ := jif hf
  refine jcNewa (t0 := 2) E hM h0 hm6 (ty := .int) rfl hc4 (by decide) rfl (fun U cA h => h) (jcell_13 g S3 _) lk_1_70 (by decide) hc5 (by decide) dX8_init_13 (fun H S7 eS7 h0 hM => ?_)
  have hf := jlet_y eS7 hf
  obtain ⟨hn8, hf⟩ := jif hf
  refine jcPut (S' := jsR S7 46 v0 (some (jn S3))) (k := 6) (i := 2) (N := 8) (T := TX8) (fin := true) (ty := .array .int) E hM hn8 hq2 (by decide) rfl (by decide) rfl rfl lk_1_178 (fun _ => ⟨hin, rfl⟩) (by decide +kernel) rfl rfl dX8_init_15 rfl (jV_sR_same g S7 46 v0 (some (jn S3))) (fun b r h2 h => jV_sR g S7 46 v0 (some (jn S3)) b r h h2) (fun _ _ => rfl) (fun H locs hM => ?_)
  obtain ⟨S9, eS9⟩ : ∃ z, z = jsR S7 46 v0 (some (jn S3)) := ⟨_, rfl⟩
  rw [← eS9] at hM ⊢
  have h0 : n0 ≤ jn S9 := by rw [eS9]; exact h0
  have hf := jlet_y eS9 hf
  refine lv_aload_n hx hb dX8_init_18 rfl (lv_at hl 0 rfl) ?_
  refine lv_sipush (v := (300 : Int32)) hx hb dX8_init_19 (by decide) ?_
  obtain ⟨hc10, hf⟩ := jif hf
  obtain ⟨hc11, hf⟩ := jif hf
  obtain ⟨hm12, hf⟩ := jif hf
  refine jcNewa (t0 := 3) E hM h0 hm12 (ty := .long) rfl hc10 (by decide) rfl (fun U cA h => h) (jcell_14 g S9 _) lk_1_71 (by decide) hc11 (by decide) dX8_init_22 (fun H S13 eS13 h0 hM => ?_)
  have hf := jlet_y eS13 hf
  obtain ⟨hn14, hf⟩ := jif hf
  refine jcPut (S' := jsR S13 47 v0 (some (jn S9))) (k := 6) (i := 3) (N := 8) (T := TX8) (fin := true) (ty := .array .long) E hM hn14 hq2 (by decide) rfl (by decide) rfl rfl lk_1_180 (fun _ => ⟨hin, rfl⟩) (by decide +kernel) rfl rfl dX8_init_24 rfl (jV_sR_same g S13 47 v0 (some (jn S9))) (fun b r h2 h => jV_sR g S13 47 v0 (some (jn S9)) b r h h2) (fun _ _ => rfl) (fun H locs hM => ?_)
  obtain ⟨S15, eS15⟩ : ∃ z, z = jsR S13 47 v0 (some (jn S9)) := ⟨_, rfl⟩
  rw [← eS15] at hM ⊢
  have h0 : n0 ≤ jn S15 := by rw [eS15]; exact h0
  have hf := jlet_y eS15 hf
  refine lv_aload_n hx hb dX8_init_27 rfl (lv_at hl 0 rfl) ?_
  refine lv_sipush (v := (900 : Int32)) hx hb dX8_init_28 (by decide) ?_
  obtain ⟨hc16, hf⟩ := jif hf
  obtain ⟨hc17, hf⟩ := jif hf
  obtain ⟨hm18, hf⟩ := jif hf
  refine jcNewa (t0 := 2) E hM h0 hm18 (ty := .int) rfl hc16 (by decide) rfl (fun U cA h => h) (jcell_13 g S15 _) lk_1_70 (by decide) hc17 (by decide) dX8_init_31 (fun H S19 eS19 h0 hM => ?_)
  have hf := jlet_y eS19 hf
  obtain ⟨hn20, hf⟩ := jif hf
  refine jcPut (S' := jsR S19 48 v0 (some (jn S15))) (k := 6) (i := 4) (N := 8) (T := TX8) (fin := true) (ty := .array .int) E hM hn20 hq2 (by decide) rfl (by decide) rfl rfl lk_1_182 (fun _ => ⟨hin, rfl⟩) (by decide +kernel) rfl rfl dX8_init_33 rfl (jV_sR_same g S19 48 v0 (some (jn S15))) (fun b r h2 h => jV_sR g S19 48 v0 (some (jn S15)) b r h h2) (fun _ _ => rfl) (fun H locs hM => ?_)
  obtain ⟨S21, eS21⟩ : ∃ z, z = jsR S19 48 v0 (some (jn S15)) := ⟨_, rfl⟩
  rw [← eS21] at hM ⊢
  have h0 : n0 ≤ jn S21 := by rw [eS21]; exact h0
  have hf := jlet_y eS21 hf
  refine lv_aload_n hx hb dX8_init_36 rfl (lv_at hl 0 rfl) ?_
  refine lv_bipush (v := (24 : Int32)) hx hb dX8_init_37 (by decide) ?_
  obtain ⟨hc22, hf⟩ := jif hf
  obtain ⟨hc23, hf⟩ := jif hf
  obtain ⟨hm24, hf⟩ := jif hf
  refine jcNewa (t0 := 3) E hM h0 hm24 (ty := .long) rfl hc22 (by decide) rfl (fun U cA h => h) (jcell_14 g S21 _) lk_1_71 (by decide) hc23 (by decide) dX8_init_39 (fun H S25 eS25 h0 hM => ?_)
  have hf := jlet_y eS25 hf
  obtain ⟨hn26, hf⟩ := jif hf
  refine jcPut (S' := jsR S25 50 v0 (some (jn S21))) (k := 6) (i := 6) (N := 8) (T := TX8) (fin := true) (ty := .array .long) E hM hn26 hq2 (by decide) rfl (by decide) rfl rfl lk_1_187 (fun _ => ⟨hin, rfl⟩) (by decide +kernel) rfl rfl dX8_init_41 rfl (jV_sR_same g S25 50 v0 (some (jn S21))) (fun b r h2 h => jV_sR g S25 50 v0 (some (jn S21)) b r h h2) (fun _ _ => rfl) (fun H locs hM => ?_)
  obtain ⟨S27, eS27⟩ : ∃ z, z = jsR S25 50 v0 (some (jn S21)) := ⟨_, rfl⟩
  rw [← eS27] at hM ⊢
  have h0 : n0 ≤ jn S27 := by rw [eS27]; exact h0
  have hf := jlet_y eS27 hf
  refine lv_aload_n hx hb dX8_init_44 rfl (lv_at hl 0 rfl) ?_
  refine lv_bipush (v := (24 : Int32)) hx hb dX8_init_45 (by decide) ?_
  obtain ⟨hc28, hf⟩ := jif hf
  obtain ⟨hc29, hf⟩ := jif hf
  obtain ⟨hm30, hf⟩ := jif hf
  refine jcNewa (t0 := 2) E hM h0 hm30 (ty := .int) rfl hc28 (by decide) rfl (fun U cA h => h) (jcell_13 g S27 _) lk_1_70 (by decide) hc29 (by decide) dX8_init_47 (fun H S31 eS31 h0 hM => ?_)
  have hf := jlet_y eS31 hf
  obtain ⟨hn32, hf⟩ := jif hf
  refine jcPut (S' := jsR S31 51 v0 (some (jn S27))) (k := 6) (i := 7) (N := 8) (T := TX8) (fin := true) (ty := .array .int) E hM hn32 hq2 (by decide) rfl (by decide) rfl rfl lk_1_188 (fun _ => ⟨hin, rfl⟩) (by decide +kernel) rfl rfl dX8_init_49 rfl (jV_sR_same g S31 51 v0 (some (jn S27))) (fun b r h2 h => jV_sR g S31 51 v0 (some (jn S27)) b r h h2) (fun _ _ => rfl) (fun H locs hM => ?_)
  obtain ⟨S33, eS33⟩ : ∃ z, z = jsR S31 51 v0 (some (jn S27)) := ⟨_, rfl⟩
  rw [← eS33] at hM ⊢
  have h0 : n0 ≤ jn S33 := by rw [eS33]; exact h0
  have hf := jlet_y eS33 hf
  obtain ⟨hc34, hf⟩ := jif hf
  exact jcRet E hM (jrv hf) hc34 dX8_init_52
theorem ci_X8_init : jCI yX8_init cX8_init 1 0 := ⟨lk_1_171, lk_1_7, lk_1_172, ⟨by decide +kernel, by decide +kernel, by decide +kernel⟩, by decide, rfl⟩
set_option maxRecDepth 100000 in
theorem C_X8_init {l : Launch} {g : jG} {a0 : Nat} {S SS : jM} (hf : f_X8_init a0 S = some SS) : jMetN l g yX8_init cX8_init 1 2 5 (jn S) [.ref (g.2.2 + a0)] S (jQvN g SS) := by
  refine jcOf (by decide +kernel) (Nat.le_of_ble_eq_true rfl) rfl ?_
  intro p e s m below meth c E hao hin hM ls hl
  have hl : lv_has ls 1 [(0, .ref (g.2.2 + a0))] := hl
  exact B_X8_init_0 hao hin E hf (Nat.le_refl _) hM hl
-- X7_init
set_option maxRecDepth 100000 in
noncomputable def f_X7_init_0 (n0 : Nat) (v0 : Nat) (S : jM) : Option jM := if jK (jn S) = 11 then if jLen (jn S) = ((1600 : Int32)).toNatClampNeg then if jn S + 1 ≤ n0 + 1 then jlet (jnew S) (fun S4 => if v0 < jn S4 then if jK v0 = 5 then jlet (jsR S4 36 v0 (some (jn S))) (fun S7 => if jn S7 = n0 + 1 then some S7 else none) else none else none) else none else none else none
set_option maxRecDepth 100000 in
noncomputable def f_X7_init (a0 : Nat) (S : jM) : Option jM := f_X7_init_0 (jn S) a0 S
set_option maxRecDepth 100000 in
set_option maxHeartbeats 4000000 in
theorem B_X7_init_0 {p : Program} {l : Launch} {e : Env} {s : State} {m : MethodId} {args : Array Value} {below : List Frame} {meth : Method} {c : Code} {g : jG} {n0 : Nat} (hao : jAO s) (hin : meth.name = "<init>") {SS : jM} {v0 : Nat} {S : jM} (E : jEnv p s m args meth c cX7_init "PensionHouse$Tape" none 1 g)  {H : Heap} {locs : List Loc} {ls : Array Slot} (hf : f_X7_init_0 n0 v0 S = some SS) (h0 : n0 ≤ jn S) (hM : jAtN g S s H locs) (hl : lv_has ls 1 [(0, .ref (g.2.2 + v0))]) : jWC p l e 2 1 n0 s m args below meth c g SS S H locs (F0 m 0 ls []) := by
  obtain ⟨hx, hb, hml, -, hts, hown, hK, -, hstr⟩ := id E
  unfold f_X7_init_0 at hf
  refine lv_aload_n hx hb dX7_init_0 rfl (lv_at hl 0 rfl) ?_
  refine jcObj E lk_1_136 lk_1_28 lk_1_29 hl.1 (Nat.le_of_ble_eq_true rfl) (Nat.le_of_ble_eq_true rfl) dX7_init_1 ?_
  refine lv_aload_n hx hb dX7_init_4 rfl (lv_at hl 0 rfl) ?_
  refine lv_sipush (v := (1600 : Int32)) hx hb dX7_init_5 (by decide) ?_
  obtain ⟨hc1, hf⟩ := jif hf
  obtain ⟨hc2, hf⟩ := jif hf
  obtain ⟨hm3, hf⟩ := jif hf
  refine jcNewa (t0 := 0) E hM h0 hm3 (ty := .byte) rfl hc1 (by decide) rfl (fun U cA h => h) (jcell_11 g S _) lk_1_167 (by decide) hc2 (by decide) dX7_init_8 (fun H S4 eS4 h0 hM => ?_)
  have hf := jlet_y eS4 hf
  obtain ⟨hn5, hf⟩ := jif hf
  obtain ⟨hq6, hf⟩ := jif hf
  refine jcPut (S' := jsR S4 36 v0 (some (jn S))) (k := 5) (i := 0) (N := 8) (T := TX7) (fin := true) (ty := .array .byte) E hM hn5 hq6 (by decide) rfl (by decide) rfl rfl lk_1_137 (fun _ => ⟨hin, rfl⟩) (by decide +kernel) rfl rfl dX7_init_10 rfl (jV_sR_same g S4 36 v0 (some (jn S))) (fun b r h2 h => jV_sR g S4 36 v0 (some (jn S)) b r h h2) (fun _ _ => rfl) (fun H locs hM => ?_)
  obtain ⟨S7, eS7⟩ : ∃ z, z = jsR S4 36 v0 (some (jn S)) := ⟨_, rfl⟩
  rw [← eS7] at hM ⊢
  have h0 : n0 ≤ jn S7 := by rw [eS7]; exact h0
  have hf := jlet_y eS7 hf
  obtain ⟨hc8, hf⟩ := jif hf
  exact jcRet E hM (jrv hf) hc8 dX7_init_13
theorem ci_X7_init : jCI yX7_init cX7_init 1 0 := ⟨lk_1_134, lk_1_6, lk_1_135, ⟨by decide +kernel, by decide +kernel, by decide +kernel⟩, by decide, rfl⟩
set_option maxRecDepth 100000 in
theorem C_X7_init {l : Launch} {g : jG} {a0 : Nat} {S SS : jM} (hf : f_X7_init a0 S = some SS) : jMetN l g yX7_init cX7_init 1 2 1 (jn S) [.ref (g.2.2 + a0)] S (jQvN g SS) := by
  refine jcOf (by decide +kernel) (Nat.le_of_ble_eq_true rfl) rfl ?_
  intro p e s m below meth c E hao hin hM ls hl
  have hl : lv_has ls 1 [(0, .ref (g.2.2 + a0))] := hl
  exact B_X7_init_0 hao hin E hf (Nat.le_refl _) hM hl
-- X1_init
set_option maxRecDepth 100000 in
noncomputable def f_X1_init_44 (n0 : Nat) : Nat → Nat → Int32 → jM → Option jM
  | 0, _, _, _ => none
  | n + 1, v0, v1, S => if v0 < jn S then if jK v0 = 1 then (jR S 14 v0).bind (fun r3 => if r3 < jn S then if jK r3 = 19 then if (Int32.ofNat (jLen r3)) ≤ v1 then if jn S = n0 + 52 then some S else none else if v0 < jn S then (jR S 14 v0).bind (fun r10 => if jK (jn S) = 7 then if jn S + 1 ≤ n0 + 52 then jlet (jnew S) (fun S14 => if jn S14 + 1 ≤ n0 + 52 then (f_X9_init (jn S) S14).bind (fun S16 => if jn S16 = jn S14 + 1 then if r10 < jn S16 then if (jn S) < jn S16 then if jA r10 19 v1 = true then if jK (jn S) = 7 then jlet (jrR S16 r10 (va_up (jAR S16 r10) (v1).toNatClampNeg (some (jn S)))) (fun S24 => jlet (v1 + (1 : Int32)) (fun x25 => (f_X1_init_44 n0 n) v0 x25 S24)) else none else none else none else none else none) else none) else none else none) else none else none else none) else none else none
set_option maxRecDepth 100000 in
noncomputable def f_X1_init_0 (n0 : Nat) (v0 : Nat) (S : jM) : Option jM := if v0 < jn S then if jK v0 = 1 then jlet (jsI S 8 v0 (-1 : Int32)) (fun S28 => if jK (jn S28) = 13 then if jLen (jn S28) = ((24 : Int32)).toNatClampNeg then if jn S28 + 1 ≤ n0 + 52 then jlet (jnew S28) (fun S32 => if v0 < jn S32 then jlet (jsR S32 12 v0 (some (jn S28))) (fun S34 => if jK (jn S34) = 13 then if jLen (jn S34) = ((24 : Int32)).toNatClampNeg then if jn S34 + 1 ≤ n0 + 52 then jlet (jnew S34) (fun S38 => if v0 < jn S38 then jlet (jsR S38 13 v0 (some (jn S34))) (fun S40 => if jK (jn S40) = 13 then if jLen (jn S40) = ((24 : Int32)).toNatClampNeg then if jn S40 + 1 ≤ n0 + 52 then jlet (jnew S40) (fun S44 => if v0 < jn S44 then jlet (jsR S44 15 v0 (some (jn S40))) (fun S46 => if jK (jn S46) = 19 then if jLen (jn S46) = ((24 : Int32)).toNatClampNeg then if jn S46 + 1 ≤ n0 + 52 then jlet (jnew S46) (fun S50 => if v0 < jn S50 then jlet (jsR S50 14 v0 (some (jn S46))) (fun S52 => f_X1_init_44 n0 1100000 v0 (0 : Int32) S52) else none) else none else none else none) else none) else none else none else none) else none) else none else none else none) else none) else none else none else none) else none else none
set_option maxRecDepth 100000 in
noncomputable def f_X1_init (a0 : Nat) (S : jM) : Option jM := f_X1_init_0 (jn S) a0 S
set_option maxRecDepth 100000 in
set_option maxHeartbeats 4000000 in
theorem B_X1_init_44 {p : Program} {l : Launch} {e : Env} {s : State} {m : MethodId} {args : Array Value} {below : List Frame} {meth : Method} {c : Code} {g : jG} {n0 : Nat} (hao : jAO s) (hin : meth.name = "<init>") {SS : jM} (E : jEnv p s m args meth c cX1_init "PensionHouse$Case" none 2 g)  : ∀ (n : Nat) (v0 : Nat) (v1 : Int32) (S : jM) (H : Heap) (locs : List Loc) (ls : Array Slot), f_X1_init_44 n0 n v0 v1 S = some SS → n0 ≤ jn S → jAtN g S s H locs → lv_has ls 2 [(0, .ref (g.2.2 + v0)), (1, .int v1)] → jWC p l e 3 52 n0 s m args below meth c g SS S H locs (F0 m 44 ls []) := by
  obtain ⟨hx, hb, hml, -, hts, hown, hK, -, hstr⟩ := id E
  intro n
  induction n with
  | zero => intro v0 v1 S H locs ls hf h0 hM hl; rw [f_X1_init_44] at hf; cases hf
  | succ n ih =>
    intro v0 v1 S H locs ls hf h0 hM hl
    rw [f_X1_init_44] at hf
    refine lv_iload_n hx hb dX1_init_44 rfl (lv_at hl 1 rfl) ?_
    refine lv_aload_n hx hb dX1_init_45 rfl (lv_at hl 0 rfl) ?_
    obtain ⟨hn1, hf⟩ := jif hf
    obtain ⟨hq2, hf⟩ := jif hf
    refine jcGetR (k := 1) (i := 8) (N := 11) (T := TX1) E hM hn1 hq2 (by decide) rfl (by decide) rfl rfl lk_2_79 dX1_init_46 ?_
    obtain ⟨r3, hr4, hf⟩ := jb hf
    rw [hr4]
    show jWC p l e 3 52 n0 s m args below meth c g SS S H locs (F0 m _ ls (.ref (g.2.2 + r3) :: _))
    obtain ⟨hn5, hf⟩ := jif hf
    obtain ⟨hq6, hf⟩ := jif hf
    refine jcAlen (t0 := 8) E hM hn5 hq6 (by decide) rfl dX1_init_49 ?_
    refine lv_icmp_ge (tgt := 72) hx hb dX1_init_50 (by decide) (fun c7 => ?_) (fun c7 => ?_)
    · have hf := jt c7 hf
      obtain ⟨hc8, hf⟩ := jif hf
      exact jcRet E hM (jrv hf) hc8 dX1_init_72
    · have hf := jf c7 hf
      refine lv_aload_n hx hb dX1_init_53 rfl (lv_at hl 0 rfl) ?_
      obtain ⟨hn9, hf⟩ := jif hf
      refine jcGetR (k := 1) (i := 8) (N := 11) (T := TX1) E hM hn9 hq2 (by decide) rfl (by decide) rfl rfl lk_2_79 dX1_init_54 ?_
      obtain ⟨r10, hr11, hf⟩ := jb hf
      rw [hr11]
      show jWC p l e 3 52 n0 s m args below meth c g SS S H locs (F0 m _ ls (.ref (g.2.2 + r10) :: _))
      refine lv_iload_n hx hb dX1_init_57 rfl (lv_at hl 1 rfl) ?_
      obtain ⟨hc12, hf⟩ := jif hf
      obtain ⟨hm13, hf⟩ := jif hf
      refine jcNew E hM h0 hm13 tyX9 hc12 (by decide) rfl tyX9_ok jdef_7 rfl lk_2_54 lk_1_44 lk_1_4 dX1_init_58 (fun H S14 eS14 h0 hM => ?_)
      have hf := jlet_y eS14 hf
      refine lv_dup hx hb dX1_init_61 rfl ?_
      obtain ⟨hm18, hf⟩ := jif hf
      obtain ⟨S16, hc17, hf⟩ := jb hf
      obtain ⟨hc19, hf⟩ := jif hf
      refine jcCall E hao hM h0 ci_X9_init (C_X9_init hc17) hc19 hm18 lk_2_55 hl.1 rfl rfl (Nat.le_of_ble_eq_true rfl) (Nat.le_of_ble_eq_true rfl) dX1_init_62 (fun H locs h0 hM => ?_)
      obtain ⟨hn20, hf⟩ := jif hf
      obtain ⟨hn21, hf⟩ := jif hf
      obtain ⟨ha22, hf⟩ := jif hf
      obtain ⟨hq23, hf⟩ := jif hf
      refine jcAast (t0 := 8) E hM hn20 hn21 ha22 (by decide) rfl hq23 (by decide) rfl dX1_init_65 (fun H locs S24 eS24 hM => ?_)
      have h0 : n0 ≤ jn S24 := by rw [eS24]; exact h0
      have hf := jlet_y eS24 hf
      obtain ⟨x25, ex25⟩ : ∃ z, z = v1 + (1 : Int32) := ⟨_, rfl⟩
      have hf := jlet_y ex25 hf
      refine lv_iinc (v := x25) (lv' := [(1, .int x25), (0, .ref (g.2.2 + v0))]) hx hb dX1_init_66 hl (k := 1) rfl (by rw [ex25]; rfl) (by decide) rfl (fun ls hl => ?_)
      refine lv_goto (tgt := 44) hx hb dX1_init_69 (by decide) ?_
      exact ih v0 x25 S24 _ _ _ hf h0 hM (lv_sub hl [1, 0] rfl)
set_option maxRecDepth 100000 in
set_option maxHeartbeats 4000000 in
theorem B_X1_init_0 {p : Program} {l : Launch} {e : Env} {s : State} {m : MethodId} {args : Array Value} {below : List Frame} {meth : Method} {c : Code} {g : jG} {n0 : Nat} (hao : jAO s) (hin : meth.name = "<init>") {SS : jM} {v0 : Nat} {S : jM} (E : jEnv p s m args meth c cX1_init "PensionHouse$Case" none 2 g)  {H : Heap} {locs : List Loc} {ls : Array Slot} (hf : f_X1_init_0 n0 v0 S = some SS) (h0 : n0 ≤ jn S) (hM : jAtN g S s H locs) (hl : lv_has ls 2 [(0, .ref (g.2.2 + v0))]) : jWC p l e 3 52 n0 s m args below meth c g SS S H locs (F0 m 0 ls []) := by
  obtain ⟨hx, hb, hml, -, hts, hown, hK, -, hstr⟩ := id E
  unfold f_X1_init_0 at hf
  refine lv_aload_n hx hb dX1_init_0 rfl (lv_at hl 0 rfl) ?_
  refine jcObj E lk_2_53 lk_1_28 lk_1_29 hl.1 (Nat.le_of_ble_eq_true rfl) (Nat.le_of_ble_eq_true rfl) dX1_init_1 ?_
  refine lv_aload_n hx hb dX1_init_4 rfl (lv_at hl 0 rfl) ?_
  refine lv_iconst (v := (-1 : Int32)) hx hb dX1_init_5 (by decide) ?_
  obtain ⟨hn26, hf⟩ := jif hf
  obtain ⟨hq27, hf⟩ := jif hf
  refine jcPut (S' := jsI S 8 v0 (-1 : Int32)) (k := 1) (i := 2) (N := 11) (T := TX1) (fin := false) (ty := .int) E hM hn26 hq27 (by decide) rfl (by decide) rfl rfl lk_2_62 (fun h => by cases h) (by decide +kernel) rfl rfl dX1_init_6 rfl (jV_sI_same g S 8 v0 (-1 : Int32)) (fun b r h2 h => jV_sI g S 8 v0 (-1 : Int32) b r h) (fun _ _ => rfl) (fun H locs hM => ?_)
  obtain ⟨S28, eS28⟩ : ∃ z, z = jsI S 8 v0 (-1 : Int32) := ⟨_, rfl⟩
  rw [← eS28] at hM ⊢
  have h0 : n0 ≤ jn S28 := by rw [eS28]; exact h0
  have hf := jlet_y eS28 hf
  refine lv_aload_n hx hb dX1_init_9 rfl (lv_at hl 0 rfl) ?_
  refine lv_bipush (v := (24 : Int32)) hx hb dX1_init_10 (by decide) ?_
  obtain ⟨hc29, hf⟩ := jif hf
  obtain ⟨hc30, hf⟩ := jif hf
  obtain ⟨hm31, hf⟩ := jif hf
  refine jcNewa (t0 := 2) E hM h0 hm31 (ty := .int) rfl hc29 (by decide) rfl (fun U cA h => h) (jcell_13 g S28 _) lk_1_70 (by decide) hc30 (by decide) dX1_init_12 (fun H S32 eS32 h0 hM => ?_)
  have hf := jlet_y eS32 hf
  obtain ⟨hn33, hf⟩ := jif hf
  refine jcPut (S' := jsR S32 12 v0 (some (jn S28))) (k := 1) (i := 6) (N := 11) (T := TX1) (fin := true) (ty := .array .int) E hM hn33 hq27 (by decide) rfl (by decide) rfl rfl lk_2_74 (fun _ => ⟨hin, rfl⟩) (by decide +kernel) rfl rfl dX1_init_14 rfl (jV_sR_same g S32 12 v0 (some (jn S28))) (fun b r h2 h => jV_sR g S32 12 v0 (some (jn S28)) b r h h2) (fun _ _ => rfl) (fun H locs hM => ?_)
  obtain ⟨S34, eS34⟩ : ∃ z, z = jsR S32 12 v0 (some (jn S28)) := ⟨_, rfl⟩
  rw [← eS34] at hM ⊢
  have h0 : n0 ≤ jn S34 := by rw [eS34]; exact h0
  have hf := jlet_y eS34 hf
  refine lv_aload_n hx hb dX1_init_17 rfl (lv_at hl 0 rfl) ?_
  refine lv_bipush (v := (24 : Int32)) hx hb dX1_init_18 (by decide) ?_
  obtain ⟨hc35, hf⟩ := jif hf
  obtain ⟨hc36, hf⟩ := jif hf
  obtain ⟨hm37, hf⟩ := jif hf
  refine jcNewa (t0 := 2) E hM h0 hm37 (ty := .int) rfl hc35 (by decide) rfl (fun U cA h => h) (jcell_13 g S34 _) lk_1_70 (by decide) hc36 (by decide) dX1_init_20 (fun H S38 eS38 h0 hM => ?_)
  have hf := jlet_y eS38 hf
  obtain ⟨hn39, hf⟩ := jif hf
  refine jcPut (S' := jsR S38 13 v0 (some (jn S34))) (k := 1) (i := 7) (N := 11) (T := TX1) (fin := true) (ty := .array .int) E hM hn39 hq27 (by decide) rfl (by decide) rfl rfl lk_2_77 (fun _ => ⟨hin, rfl⟩) (by decide +kernel) rfl rfl dX1_init_22 rfl (jV_sR_same g S38 13 v0 (some (jn S34))) (fun b r h2 h => jV_sR g S38 13 v0 (some (jn S34)) b r h h2) (fun _ _ => rfl) (fun H locs hM => ?_)
  obtain ⟨S40, eS40⟩ : ∃ z, z = jsR S38 13 v0 (some (jn S34)) := ⟨_, rfl⟩
  rw [← eS40] at hM ⊢
  have h0 : n0 ≤ jn S40 := by rw [eS40]; exact h0
  have hf := jlet_y eS40 hf
  refine lv_aload_n hx hb dX1_init_25 rfl (lv_at hl 0 rfl) ?_
  refine lv_bipush (v := (24 : Int32)) hx hb dX1_init_26 (by decide) ?_
  obtain ⟨hc41, hf⟩ := jif hf
  obtain ⟨hc42, hf⟩ := jif hf
  obtain ⟨hm43, hf⟩ := jif hf
  refine jcNewa (t0 := 2) E hM h0 hm43 (ty := .int) rfl hc41 (by decide) rfl (fun U cA h => h) (jcell_13 g S40 _) lk_1_70 (by decide) hc42 (by decide) dX1_init_28 (fun H S44 eS44 h0 hM => ?_)
  have hf := jlet_y eS44 hf
  obtain ⟨hn45, hf⟩ := jif hf
  refine jcPut (S' := jsR S44 15 v0 (some (jn S40))) (k := 1) (i := 9) (N := 11) (T := TX1) (fin := true) (ty := .array .int) E hM hn45 hq27 (by decide) rfl (by decide) rfl rfl lk_2_82 (fun _ => ⟨hin, rfl⟩) (by decide +kernel) rfl rfl dX1_init_30 rfl (jV_sR_same g S44 15 v0 (some (jn S40))) (fun b r h2 h => jV_sR g S44 15 v0 (some (jn S40)) b r h h2) (fun _ _ => rfl) (fun H locs hM => ?_)
  obtain ⟨S46, eS46⟩ : ∃ z, z = jsR S44 15 v0 (some (jn S40)) := ⟨_, rfl⟩
  rw [← eS46] at hM ⊢
  have h0 : n0 ≤ jn S46 := by rw [eS46]; exact h0
  have hf := jlet_y eS46 hf
  refine lv_aload_n hx hb dX1_init_33 rfl (lv_at hl 0 rfl) ?_
  refine lv_bipush (v := (24 : Int32)) hx hb dX1_init_34 (by decide) ?_
  obtain ⟨hc47, hf⟩ := jif hf
  obtain ⟨hc48, hf⟩ := jif hf
  obtain ⟨hm49, hf⟩ := jif hf
  refine jcNewq (t0 := 8) E hM h0 hm49 hc47 (by decide) rfl lk_2_54 hao.2.2.2.1 (by decide) hc48 (by decide) dX1_init_36 (fun H S50 eS50 h0 hM => ?_)
  have hf := jlet_y eS50 hf
  obtain ⟨hn51, hf⟩ := jif hf
  refine jcPut (S' := jsR S50 14 v0 (some (jn S46))) (k := 1) (i := 8) (N := 11) (T := TX1) (fin := true) (ty := .array (.object "PensionHouse$Value")) E hM hn51 hq27 (by decide) rfl (by decide) rfl rfl lk_2_79 (fun _ => ⟨hin, rfl⟩) (by decide +kernel) rfl rfl dX1_init_39 rfl (jV_sR_same g S50 14 v0 (some (jn S46))) (fun b r h2 h => jV_sR g S50 14 v0 (some (jn S46)) b r h h2) (fun _ _ => rfl) (fun H locs hM => ?_)
  obtain ⟨S52, eS52⟩ : ∃ z, z = jsR S50 14 v0 (some (jn S46)) := ⟨_, rfl⟩
  rw [← eS52] at hM ⊢
  have h0 : n0 ≤ jn S52 := by rw [eS52]; exact h0
  have hf := jlet_y eS52 hf
  refine lv_iconst (v := (0 : Int32)) hx hb dX1_init_42 (by decide) ?_
  refine lv_istore_n (lv' := [(1, .int (0 : Int32)), (0, .ref (g.2.2 + v0))]) hx hb dX1_init_43 rfl hl (by decide) rfl (fun ls hl => ?_)
  exact B_X1_init_44 hao hin E  1100000 v0 (0 : Int32) S52 _ _ _ hf h0 hM (lv_sub hl [1, 0] rfl)
theorem ci_X1_init : jCI yX1_init cX1_init 2 0 := ⟨lk_2_51, lk_1_9, lk_2_52, ⟨by decide +kernel, by decide +kernel, by decide +kernel⟩, by decide, rfl⟩
set_option maxRecDepth 100000 in
theorem C_X1_init {l : Launch} {g : jG} {a0 : Nat} {S SS : jM} (hf : f_X1_init a0 S = some SS) : jMetN l g yX1_init cX1_init 2 3 52 (jn S) [.ref (g.2.2 + a0)] S (jQvN g SS) := by
  refine jcOf (by decide +kernel) (Nat.le_of_ble_eq_true rfl) rfl ?_
  intro p e s m below meth c E hao hin hM ls hl
  have hl : lv_has ls 2 [(0, .ref (g.2.2 + a0))] := hl
  exact B_X1_init_0 hao hin E hf (Nat.le_refl _) hM hl
-- X6_init
set_option maxRecDepth 100000 in
noncomputable def f_X6_init_32 (n0 : Nat) : Nat → Nat → Int32 → jM → Option jM
  | 0, _, _, _ => none
  | n + 1, v0, v1, S => if v0 < jn S then if jK v0 = 4 then (jR S 35 v0).bind (fun r3 => if r3 < jn S then if jK r3 = 17 then if (Int32.ofNat (jLen r3)) ≤ v1 then if jn S = n0 + 603 then some S else none else if v0 < jn S then (jR S 35 v0).bind (fun r10 => if jK (jn S) = 2 then if jn S + 1 ≤ n0 + 603 then jlet (jnew S) (fun S14 => if jn S14 + 2 ≤ n0 + 603 then (f_X2_init (jn S) S14).bind (fun S16 => if jn S16 = jn S14 + 2 then if r10 < jn S16 then if (jn S) < jn S16 then if jA r10 17 v1 = true then if jK (jn S) = 2 then jlet (jrR S16 r10 (va_up (jAR S16 r10) (v1).toNatClampNeg (some (jn S)))) (fun S24 => jlet (v1 + (1 : Int32)) (fun x25 => (f_X6_init_32 n0 n) v0 x25 S24)) else none else none else none else none else none) else none) else none else none) else none else none else none) else none else none
set_option maxRecDepth 100000 in
noncomputable def f_X6_init_0 (n0 : Nat) (v0 : Nat) (S : jM) : Option jM := if jK (jn S) = 15 then if jLen (jn S) = ((16 : Int32)).toNatClampNeg then if jn S + 1 ≤ n0 + 603 then jlet (jnew S) (fun S29 => if v0 < jn S29 then if jK v0 = 4 then jlet (jsR S29 32 v0 (some (jn S))) (fun S32 => if jK (jn S32) = 13 then if jLen (jn S32) = ((16 : Int32)).toNatClampNeg then if jn S32 + 1 ≤ n0 + 603 then jlet (jnew S32) (fun S36 => if v0 < jn S36 then jlet (jsR S36 33 v0 (some (jn S32))) (fun S38 => if jK (jn S38) = 17 then if jLen (jn S38) = ((200 : Int32)).toNatClampNeg then if jn S38 + 1 ≤ n0 + 603 then jlet (jnew S38) (fun S42 => if v0 < jn S42 then jlet (jsR S42 35 v0 (some (jn S38))) (fun S44 => f_X6_init_32 n0 1100000 v0 (0 : Int32) S44) else none) else none else none else none) else none) else none else none else none) else none else none) else none else none else none
set_option maxRecDepth 100000 in
noncomputable def f_X6_init (a0 : Nat) (S : jM) : Option jM := f_X6_init_0 (jn S) a0 S
set_option maxRecDepth 100000 in
set_option maxHeartbeats 4000000 in
theorem B_X6_init_32 {p : Program} {l : Launch} {e : Env} {s : State} {m : MethodId} {args : Array Value} {below : List Frame} {meth : Method} {c : Code} {g : jG} {n0 : Nat} (hao : jAO s) (hin : meth.name = "<init>") {SS : jM} (E : jEnv p s m args meth c cX6_init "PensionHouse$Register" none 2 g)  : ∀ (n : Nat) (v0 : Nat) (v1 : Int32) (S : jM) (H : Heap) (locs : List Loc) (ls : Array Slot), f_X6_init_32 n0 n v0 v1 S = some SS → n0 ≤ jn S → jAtN g S s H locs → lv_has ls 2 [(0, .ref (g.2.2 + v0)), (1, .int v1)] → jWC p l e 4 603 n0 s m args below meth c g SS S H locs (F0 m 32 ls []) := by
  obtain ⟨hx, hb, hml, -, hts, hown, hK, -, hstr⟩ := id E
  intro n
  induction n with
  | zero => intro v0 v1 S H locs ls hf h0 hM hl; rw [f_X6_init_32] at hf; cases hf
  | succ n ih =>
    intro v0 v1 S H locs ls hf h0 hM hl
    rw [f_X6_init_32] at hf
    refine lv_iload_n hx hb dX6_init_32 rfl (lv_at hl 1 rfl) ?_
    refine lv_aload_n hx hb dX6_init_33 rfl (lv_at hl 0 rfl) ?_
    obtain ⟨hn1, hf⟩ := jif hf
    obtain ⟨hq2, hf⟩ := jif hf
    refine jcGetR (k := 4) (i := 4) (N := 5) (T := TX6) E hM hn1 hq2 (by decide) rfl (by decide) rfl rfl lk_1_109 dX6_init_34 ?_
    obtain ⟨r3, hr4, hf⟩ := jb hf
    rw [hr4]
    show jWC p l e 4 603 n0 s m args below meth c g SS S H locs (F0 m _ ls (.ref (g.2.2 + r3) :: _))
    obtain ⟨hn5, hf⟩ := jif hf
    obtain ⟨hq6, hf⟩ := jif hf
    refine jcAlen (t0 := 6) E hM hn5 hq6 (by decide) rfl dX6_init_37 ?_
    refine lv_icmp_ge (tgt := 60) hx hb dX6_init_38 (by decide) (fun c7 => ?_) (fun c7 => ?_)
    · have hf := jt c7 hf
      obtain ⟨hc8, hf⟩ := jif hf
      exact jcRet E hM (jrv hf) hc8 dX6_init_60
    · have hf := jf c7 hf
      refine lv_aload_n hx hb dX6_init_41 rfl (lv_at hl 0 rfl) ?_
      obtain ⟨hn9, hf⟩ := jif hf
      refine jcGetR (k := 4) (i := 4) (N := 5) (T := TX6) E hM hn9 hq2 (by decide) rfl (by decide) rfl rfl lk_1_109 dX6_init_42 ?_
      obtain ⟨r10, hr11, hf⟩ := jb hf
      rw [hr11]
      show jWC p l e 4 603 n0 s m args below meth c g SS S H locs (F0 m _ ls (.ref (g.2.2 + r10) :: _))
      refine lv_iload_n hx hb dX6_init_45 rfl (lv_at hl 1 rfl) ?_
      obtain ⟨hc12, hf⟩ := jif hf
      obtain ⟨hm13, hf⟩ := jif hf
      refine jcNew E hM h0 hm13 tyX2 hc12 (by decide) rfl tyX2_ok jdef_2 rfl lk_1_36 lk_1_38 lk_1_3 dX6_init_46 (fun H S14 eS14 h0 hM => ?_)
      have hf := jlet_y eS14 hf
      refine lv_dup hx hb dX6_init_49 rfl ?_
      obtain ⟨hm18, hf⟩ := jif hf
      obtain ⟨S16, hc17, hf⟩ := jb hf
      obtain ⟨hc19, hf⟩ := jif hf
      refine jcCall E hao hM h0 ci_X2_init (C_X2_init hc17) hc19 hm18 lk_1_39 hl.1 rfl rfl (Nat.le_of_ble_eq_true rfl) (Nat.le_of_ble_eq_true rfl) dX6_init_50 (fun H locs h0 hM => ?_)
      obtain ⟨hn20, hf⟩ := jif hf
      obtain ⟨hn21, hf⟩ := jif hf
      obtain ⟨ha22, hf⟩ := jif hf
      obtain ⟨hq23, hf⟩ := jif hf
      refine jcAast (t0 := 6) E hM hn20 hn21 ha22 (by decide) rfl hq23 (by decide) rfl dX6_init_53 (fun H locs S24 eS24 hM => ?_)
      have h0 : n0 ≤ jn S24 := by rw [eS24]; exact h0
      have hf := jlet_y eS24 hf
      obtain ⟨x25, ex25⟩ : ∃ z, z = v1 + (1 : Int32) := ⟨_, rfl⟩
      have hf := jlet_y ex25 hf
      refine lv_iinc (v := x25) (lv' := [(1, .int x25), (0, .ref (g.2.2 + v0))]) hx hb dX6_init_54 hl (k := 1) rfl (by rw [ex25]; rfl) (by decide) rfl (fun ls hl => ?_)
      refine lv_goto (tgt := 32) hx hb dX6_init_57 (by decide) ?_
      exact ih v0 x25 S24 _ _ _ hf h0 hM (lv_sub hl [1, 0] rfl)
set_option maxRecDepth 100000 in
set_option maxHeartbeats 4000000 in
theorem B_X6_init_0 {p : Program} {l : Launch} {e : Env} {s : State} {m : MethodId} {args : Array Value} {below : List Frame} {meth : Method} {c : Code} {g : jG} {n0 : Nat} (hao : jAO s) (hin : meth.name = "<init>") {SS : jM} {v0 : Nat} {S : jM} (E : jEnv p s m args meth c cX6_init "PensionHouse$Register" none 2 g)  {H : Heap} {locs : List Loc} {ls : Array Slot} (hf : f_X6_init_0 n0 v0 S = some SS) (h0 : n0 ≤ jn S) (hM : jAtN g S s H locs) (hl : lv_has ls 2 [(0, .ref (g.2.2 + v0))]) : jWC p l e 4 603 n0 s m args below meth c g SS S H locs (F0 m 0 ls []) := by
  obtain ⟨hx, hb, hml, -, hts, hown, hK, -, hstr⟩ := id E
  unfold f_X6_init_0 at hf
  refine lv_aload_n hx hb dX6_init_0 rfl (lv_at hl 0 rfl) ?_
  refine jcObj E lk_1_35 lk_1_28 lk_1_29 hl.1 (Nat.le_of_ble_eq_true rfl) (Nat.le_of_ble_eq_true rfl) dX6_init_1 ?_
  refine lv_aload_n hx hb dX6_init_4 rfl (lv_at hl 0 rfl) ?_
  refine lv_bipush (v := (16 : Int32)) hx hb dX6_init_5 (by decide) ?_
  obtain ⟨hc26, hf⟩ := jif hf
  obtain ⟨hc27, hf⟩ := jif hf
  obtain ⟨hm28, hf⟩ := jif hf
  refine jcNewa (t0 := 4) E hM h0 hm28 (ty := .boolean) rfl hc26 (by decide) rfl (fun U cA h => h) (jcell_15 g S _) lk_1_69 (by decide) hc27 (by decide) dX6_init_7 (fun H S29 eS29 h0 hM => ?_)
  have hf := jlet_y eS29 hf
  obtain ⟨hn30, hf⟩ := jif hf
  obtain ⟨hq31, hf⟩ := jif hf
  refine jcPut (S' := jsR S29 32 v0 (some (jn S))) (k := 4) (i := 1) (N := 5) (T := TX6) (fin := true) (ty := .array .boolean) E hM hn30 hq31 (by decide) rfl (by decide) rfl rfl lk_1_104 (fun _ => ⟨hin, rfl⟩) (by decide +kernel) rfl rfl dX6_init_9 rfl (jV_sR_same g S29 32 v0 (some (jn S))) (fun b r h2 h => jV_sR g S29 32 v0 (some (jn S)) b r h h2) (fun _ _ => rfl) (fun H locs hM => ?_)
  obtain ⟨S32, eS32⟩ : ∃ z, z = jsR S29 32 v0 (some (jn S)) := ⟨_, rfl⟩
  rw [← eS32] at hM ⊢
  have h0 : n0 ≤ jn S32 := by rw [eS32]; exact h0
  have hf := jlet_y eS32 hf
  refine lv_aload_n hx hb dX6_init_12 rfl (lv_at hl 0 rfl) ?_
  refine lv_bipush (v := (16 : Int32)) hx hb dX6_init_13 (by decide) ?_
  obtain ⟨hc33, hf⟩ := jif hf
  obtain ⟨hc34, hf⟩ := jif hf
  obtain ⟨hm35, hf⟩ := jif hf
  refine jcNewa (t0 := 2) E hM h0 hm35 (ty := .int) rfl hc33 (by decide) rfl (fun U cA h => h) (jcell_13 g S32 _) lk_1_70 (by decide) hc34 (by decide) dX6_init_15 (fun H S36 eS36 h0 hM => ?_)
  have hf := jlet_y eS36 hf
  obtain ⟨hn37, hf⟩ := jif hf
  refine jcPut (S' := jsR S36 33 v0 (some (jn S32))) (k := 4) (i := 2) (N := 5) (T := TX6) (fin := true) (ty := .array .int) E hM hn37 hq31 (by decide) rfl (by decide) rfl rfl lk_1_105 (fun _ => ⟨hin, rfl⟩) (by decide +kernel) rfl rfl dX6_init_17 rfl (jV_sR_same g S36 33 v0 (some (jn S32))) (fun b r h2 h => jV_sR g S36 33 v0 (some (jn S32)) b r h h2) (fun _ _ => rfl) (fun H locs hM => ?_)
  obtain ⟨S38, eS38⟩ : ∃ z, z = jsR S36 33 v0 (some (jn S32)) := ⟨_, rfl⟩
  rw [← eS38] at hM ⊢
  have h0 : n0 ≤ jn S38 := by rw [eS38]; exact h0
  have hf := jlet_y eS38 hf
  refine lv_aload_n hx hb dX6_init_20 rfl (lv_at hl 0 rfl) ?_
  refine lv_sipush (v := (200 : Int32)) hx hb dX6_init_21 (by decide) ?_
  obtain ⟨hc39, hf⟩ := jif hf
  obtain ⟨hc40, hf⟩ := jif hf
  obtain ⟨hm41, hf⟩ := jif hf
  refine jcNewq (t0 := 6) E hM h0 hm41 hc39 (by decide) rfl lk_1_36 hao.2.1 (by decide) hc40 (by decide) dX6_init_24 (fun H S42 eS42 h0 hM => ?_)
  have hf := jlet_y eS42 hf
  obtain ⟨hn43, hf⟩ := jif hf
  refine jcPut (S' := jsR S42 35 v0 (some (jn S38))) (k := 4) (i := 4) (N := 5) (T := TX6) (fin := true) (ty := .array (.object "PensionHouse$Fact")) E hM hn43 hq31 (by decide) rfl (by decide) rfl rfl lk_1_109 (fun _ => ⟨hin, rfl⟩) (by decide +kernel) rfl rfl dX6_init_27 rfl (jV_sR_same g S42 35 v0 (some (jn S38))) (fun b r h2 h => jV_sR g S42 35 v0 (some (jn S38)) b r h h2) (fun _ _ => rfl) (fun H locs hM => ?_)
  obtain ⟨S44, eS44⟩ : ∃ z, z = jsR S42 35 v0 (some (jn S38)) := ⟨_, rfl⟩
  rw [← eS44] at hM ⊢
  have h0 : n0 ≤ jn S44 := by rw [eS44]; exact h0
  have hf := jlet_y eS44 hf
  refine lv_iconst (v := (0 : Int32)) hx hb dX6_init_30 (by decide) ?_
  refine lv_istore_n (lv' := [(1, .int (0 : Int32)), (0, .ref (g.2.2 + v0))]) hx hb dX6_init_31 rfl hl (by decide) rfl (fun ls hl => ?_)
  exact B_X6_init_32 hao hin E  1100000 v0 (0 : Int32) S44 _ _ _ hf h0 hM (lv_sub hl [1, 0] rfl)
theorem ci_X6_init : jCI yX6_init cX6_init 2 0 := ⟨lk_1_33, lk_1_2, lk_1_34, ⟨by decide +kernel, by decide +kernel, by decide +kernel⟩, by decide, rfl⟩
set_option maxRecDepth 100000 in
theorem C_X6_init {l : Launch} {g : jG} {a0 : Nat} {S SS : jM} (hf : f_X6_init a0 S = some SS) : jMetN l g yX6_init cX6_init 2 4 603 (jn S) [.ref (g.2.2 + a0)] S (jQvN g SS) := by
  refine jcOf (by decide +kernel) (Nat.le_of_ble_eq_true rfl) rfl ?_
  intro p e s m below meth c E hao hin hM ls hl
  have hl : lv_has ls 2 [(0, .ref (g.2.2 + a0))] := hl
  exact B_X6_init_0 hao hin E hf (Nat.le_refl _) hM hl
-- X4_init
set_option maxRecDepth 100000 in
noncomputable def f_X4_init_0 (n0 : Nat) (v0 : Nat) (S : jM) : Option jM := if jK (jn S) = 5 then if jn S + 1 ≤ n0 + 10 then jlet (jnew S) (fun S3 => if jn S3 + 1 ≤ n0 + 10 then (f_X7_init (jn S) S3).bind (fun S5 => if jn S5 = jn S3 + 1 then if v0 < jn S5 then if jK v0 = 3 then jlet (jsR S5 24 v0 (some (jn S))) (fun S11 => if jK (jn S11) = 6 then if jn S11 + 1 ≤ n0 + 10 then jlet (jnew S11) (fun S14 => if jn S14 + 5 ≤ n0 + 10 then (f_X8_init (jn S11) S14).bind (fun S16 => if jn S16 = jn S14 + 5 then if v0 < jn S16 then jlet (jsR S16 25 v0 (some (jn S11))) (fun S21 => if jK (jn S21) = 14 then if jLen (jn S21) = ((20 : Int32)).toNatClampNeg then if jn S21 + 1 ≤ n0 + 10 then jlet (jnew S21) (fun S25 => if v0 < jn S25 then jlet (jsR S25 28 v0 (some (jn S21))) (fun S27 => if jK (jn S27) = 13 then if jLen (jn S27) = ((20 : Int32)).toNatClampNeg then if jn S27 + 1 ≤ n0 + 10 then jlet (jnew S27) (fun S31 => if v0 < jn S31 then jlet (jsR S31 29 v0 (some (jn S27))) (fun S33 => if jn S33 = n0 + 10 then some S33 else none) else none) else none else none else none) else none) else none else none else none) else none else none) else none) else none else none) else none else none else none) else none) else none else none
set_option maxRecDepth 100000 in
noncomputable def f_X4_init (a0 : Nat) (S : jM) : Option jM := f_X4_init_0 (jn S) a0 S
set_option maxRecDepth 100000 in
set_option maxHeartbeats 4000000 in
theorem B_X4_init_0 {p : Program} {l : Launch} {e : Env} {s : State} {m : MethodId} {args : Array Value} {below : List Frame} {meth : Method} {c : Code} {g : jG} {n0 : Nat} (hao : jAO s) (hin : meth.name = "<init>") {SS : jM} {v0 : Nat} {S : jM} (E : jEnv p s m args meth c cX4_init "PensionHouse$Parser" none 1 g)  {H : Heap} {locs : List Loc} {ls : Array Slot} (hf : f_X4_init_0 n0 v0 S = some SS) (h0 : n0 ≤ jn S) (hM : jAtN g S s H locs) (hl : lv_has ls 1 [(0, .ref (g.2.2 + v0))]) : jWC p l e 3 10 n0 s m args below meth c g SS S H locs (F0 m 0 ls []) := by
  obtain ⟨hx, hb, hml, -, hts, hown, hK, -, hstr⟩ := id E
  unfold f_X4_init_0 at hf
  refine lv_aload_n hx hb dX4_init_0 rfl (lv_at hl 0 rfl) ?_
  refine jcObj E lk_1_130 lk_1_28 lk_1_29 hl.1 (Nat.le_of_ble_eq_true rfl) (Nat.le_of_ble_eq_true rfl) dX4_init_1 ?_
  refine lv_aload_n hx hb dX4_init_4 rfl (lv_at hl 0 rfl) ?_
  obtain ⟨hc1, hf⟩ := jif hf
  obtain ⟨hm2, hf⟩ := jif hf
  refine jcNew E hM h0 hm2 tyX7 hc1 (by decide) rfl tyX7_ok jdef_5 rfl lk_1_131 lk_1_132 lk_1_6 dX4_init_5 (fun H S3 eS3 h0 hM => ?_)
  have hf := jlet_y eS3 hf
  refine lv_dup hx hb dX4_init_8 rfl ?_
  obtain ⟨hm7, hf⟩ := jif hf
  obtain ⟨S5, hc6, hf⟩ := jb hf
  obtain ⟨hc8, hf⟩ := jif hf
  refine jcCall E hao hM h0 ci_X7_init (C_X7_init hc6) hc8 hm7 lk_1_133 hl.1 rfl rfl (Nat.le_of_ble_eq_true rfl) (Nat.le_of_ble_eq_true rfl) dX4_init_9 (fun H locs h0 hM => ?_)
  obtain ⟨hn9, hf⟩ := jif hf
  obtain ⟨hq10, hf⟩ := jif hf
  refine jcPut (S' := jsR S5 24 v0 (some (jn S))) (k := 3) (i := 0) (N := 7) (T := TX4) (fin := true) (ty := .object "PensionHouse$Tape") E hM hn9 hq10 (by decide) rfl (by decide) rfl rfl lk_1_207 (fun _ => ⟨hin, rfl⟩) (by decide +kernel) rfl rfl dX4_init_12 rfl (jV_sR_same g S5 24 v0 (some (jn S))) (fun b r h2 h => jV_sR g S5 24 v0 (some (jn S)) b r h h2) (fun _ _ => rfl) (fun H locs hM => ?_)
  obtain ⟨S11, eS11⟩ : ∃ z, z = jsR S5 24 v0 (some (jn S)) := ⟨_, rfl⟩
  rw [← eS11] at hM ⊢
  have h0 : n0 ≤ jn S11 := by rw [eS11]; exact h0
  have hf := jlet_y eS11 hf
  refine lv_aload_n hx hb dX4_init_15 rfl (lv_at hl 0 rfl) ?_
  obtain ⟨hc12, hf⟩ := jif hf
  obtain ⟨hm13, hf⟩ := jif hf
  refine jcNew E hM h0 hm13 tyX8 hc12 (by decide) rfl tyX8_ok jdef_6 rfl lk_1_168 lk_1_169 lk_1_7 dX4_init_16 (fun H S14 eS14 h0 hM => ?_)
  have hf := jlet_y eS14 hf
  refine lv_dup hx hb dX4_init_19 rfl ?_
  obtain ⟨hm18, hf⟩ := jif hf
  obtain ⟨S16, hc17, hf⟩ := jb hf
  obtain ⟨hc19, hf⟩ := jif hf
  refine jcCall E hao hM h0 ci_X8_init (C_X8_init hc17) hc19 hm18 lk_1_170 hl.1 rfl rfl (Nat.le_of_ble_eq_true rfl) (Nat.le_of_ble_eq_true rfl) dX4_init_20 (fun H locs h0 hM => ?_)
  obtain ⟨hn20, hf⟩ := jif hf
  refine jcPut (S' := jsR S16 25 v0 (some (jn S11))) (k := 3) (i := 1) (N := 7) (T := TX4) (fin := false) (ty := .object "PensionHouse$Text") E hM hn20 hq10 (by decide) rfl (by decide) rfl rfl lk_1_209 (fun h => by cases h) (by decide +kernel) rfl rfl dX4_init_23 rfl (jV_sR_same g S16 25 v0 (some (jn S11))) (fun b r h2 h => jV_sR g S16 25 v0 (some (jn S11)) b r h h2) (fun _ _ => rfl) (fun H locs hM => ?_)
  obtain ⟨S21, eS21⟩ : ∃ z, z = jsR S16 25 v0 (some (jn S11)) := ⟨_, rfl⟩
  rw [← eS21] at hM ⊢
  have h0 : n0 ≤ jn S21 := by rw [eS21]; exact h0
  have hf := jlet_y eS21 hf
  refine lv_aload_n hx hb dX4_init_26 rfl (lv_at hl 0 rfl) ?_
  refine lv_bipush (v := (20 : Int32)) hx hb dX4_init_27 (by decide) ?_
  obtain ⟨hc22, hf⟩ := jif hf
  obtain ⟨hc23, hf⟩ := jif hf
  obtain ⟨hm24, hf⟩ := jif hf
  refine jcNewa (t0 := 3) E hM h0 hm24 (ty := .long) rfl hc22 (by decide) rfl (fun U cA h => h) (jcell_14 g S21 _) lk_1_71 (by decide) hc23 (by decide) dX4_init_29 (fun H S25 eS25 h0 hM => ?_)
  have hf := jlet_y eS25 hf
  obtain ⟨hn26, hf⟩ := jif hf
  refine jcPut (S' := jsR S25 28 v0 (some (jn S21))) (k := 3) (i := 4) (N := 7) (T := TX4) (fin := true) (ty := .array .long) E hM hn26 hq10 (by decide) rfl (by decide) rfl rfl lk_1_215 (fun _ => ⟨hin, rfl⟩) (by decide +kernel) rfl rfl dX4_init_31 rfl (jV_sR_same g S25 28 v0 (some (jn S21))) (fun b r h2 h => jV_sR g S25 28 v0 (some (jn S21)) b r h h2) (fun _ _ => rfl) (fun H locs hM => ?_)
  obtain ⟨S27, eS27⟩ : ∃ z, z = jsR S25 28 v0 (some (jn S21)) := ⟨_, rfl⟩
  rw [← eS27] at hM ⊢
  have h0 : n0 ≤ jn S27 := by rw [eS27]; exact h0
  have hf := jlet_y eS27 hf
  refine lv_aload_n hx hb dX4_init_34 rfl (lv_at hl 0 rfl) ?_
  refine lv_bipush (v := (20 : Int32)) hx hb dX4_init_35 (by decide) ?_
  obtain ⟨hc28, hf⟩ := jif hf
  obtain ⟨hc29, hf⟩ := jif hf
  obtain ⟨hm30, hf⟩ := jif hf
  refine jcNewa (t0 := 2) E hM h0 hm30 (ty := .int) rfl hc28 (by decide) rfl (fun U cA h => h) (jcell_13 g S27 _) lk_1_70 (by decide) hc29 (by decide) dX4_init_37 (fun H S31 eS31 h0 hM => ?_)
  have hf := jlet_y eS31 hf
  obtain ⟨hn32, hf⟩ := jif hf
  refine jcPut (S' := jsR S31 29 v0 (some (jn S27))) (k := 3) (i := 5) (N := 7) (T := TX4) (fin := true) (ty := .array .int) E hM hn32 hq10 (by decide) rfl (by decide) rfl rfl lk_1_216 (fun _ => ⟨hin, rfl⟩) (by decide +kernel) rfl rfl dX4_init_39 rfl (jV_sR_same g S31 29 v0 (some (jn S27))) (fun b r h2 h => jV_sR g S31 29 v0 (some (jn S27)) b r h h2) (fun _ _ => rfl) (fun H locs hM => ?_)
  obtain ⟨S33, eS33⟩ : ∃ z, z = jsR S31 29 v0 (some (jn S27)) := ⟨_, rfl⟩
  rw [← eS33] at hM ⊢
  have h0 : n0 ≤ jn S33 := by rw [eS33]; exact h0
  have hf := jlet_y eS33 hf
  obtain ⟨hc34, hf⟩ := jif hf
  exact jcRet E hM (jrv hf) hc34 dX4_init_42
theorem ci_X4_init : jCI yX4_init cX4_init 1 0 := ⟨lk_1_128, lk_1_5, lk_1_129, ⟨by decide +kernel, by decide +kernel, by decide +kernel⟩, by decide, rfl⟩
set_option maxRecDepth 100000 in
theorem C_X4_init {l : Launch} {g : jG} {a0 : Nat} {S SS : jM} (hf : f_X4_init a0 S = some SS) : jMetN l g yX4_init cX4_init 1 3 10 (jn S) [.ref (g.2.2 + a0)] S (jQvN g SS) := by
  refine jcOf (by decide +kernel) (Nat.le_of_ble_eq_true rfl) rfl ?_
  intro p e s m below meth c E hao hin hM ls hl
  have hl : lv_has ls 1 [(0, .ref (g.2.2 + a0))] := hl
  exact B_X4_init_0 hao hin E hf (Nat.le_refl _) hM hl
-- X10_init
set_option maxRecDepth 100000 in
noncomputable def f_X10_init_66 (n0 : Nat) : Nat → Nat → Int32 → jM → Option jM
  | 0, _, _, _ => none
  | n + 1, v0, v2, S => if v0 < jn S then if jK v0 = 8 then (jR S 61 v0).bind (fun r3 => if r3 < jn S then if jK r3 = 19 then if (Int32.ofNat (jLen r3)) ≤ v2 then if jn S = n0 + 1206 then some S else none else if v0 < jn S then (jR S 61 v0).bind (fun r10 => if jK (jn S) = 7 then if jn S + 1 ≤ n0 + 1206 then jlet (jnew S) (fun S14 => if jn S14 + 1 ≤ n0 + 1206 then (f_X9_init (jn S) S14).bind (fun S16 => if jn S16 = jn S14 + 1 then if r10 < jn S16 then if (jn S) < jn S16 then if jA r10 19 v2 = true then if jK (jn S) = 7 then jlet (jrR S16 r10 (va_up (jAR S16 r10) (v2).toNatClampNeg (some (jn S)))) (fun S24 => jlet (v2 + (1 : Int32)) (fun x25 => (f_X10_init_66 n0 n) v0 x25 S24)) else none else none else none else none else none) else none) else none else none) else none else none else none) else none else none
set_option maxRecDepth 100000 in
noncomputable def f_X10_init_0 (n0 : Nat) (v0 : Nat) (v1 : Nat) (S : jM) : Option jM := if v0 < jn S then if jK v0 = 8 then jlet (jsR S 55 v0 (some v1)) (fun S28 => if jK (jn S28) = 13 then if jLen (jn S28) = ((300 : Int32)).toNatClampNeg then if jn S28 + 1 ≤ n0 + 1206 then jlet (jnew S28) (fun S32 => if v0 < jn S32 then jlet (jsR S32 56 v0 (some (jn S28))) (fun S34 => if jK (jn S34) = 13 then if jLen (jn S34) = ((300 : Int32)).toNatClampNeg then if jn S34 + 1 ≤ n0 + 1206 then jlet (jnew S34) (fun S38 => if v0 < jn S38 then jlet (jsR S38 57 v0 (some (jn S34))) (fun S40 => if jK (jn S40) = 13 then if jLen (jn S40) = ((300 : Int32)).toNatClampNeg then if jn S40 + 1 ≤ n0 + 1206 then jlet (jnew S40) (fun S44 => if v0 < jn S44 then jlet (jsR S44 58 v0 (some (jn S40))) (fun S46 => if jK (jn S46) = 13 then if jLen (jn S46) = ((300 : Int32)).toNatClampNeg then if jn S46 + 1 ≤ n0 + 1206 then jlet (jnew S46) (fun S50 => if v0 < jn S50 then jlet (jsR S50 59 v0 (some (jn S46))) (fun S52 => if jK (jn S52) = 14 then if jLen (jn S52) = ((300 : Int32)).toNatClampNeg then if jn S52 + 1 ≤ n0 + 1206 then jlet (jnew S52) (fun S56 => if v0 < jn S56 then jlet (jsR S56 63 v0 (some (jn S52))) (fun S58 => if jK (jn S58) = 19 then if jLen (jn S58) = ((600 : Int32)).toNatClampNeg then if jn S58 + 1 ≤ n0 + 1206 then jlet (jnew S58) (fun S62 => if v0 < jn S62 then jlet (jsR S62 61 v0 (some (jn S58))) (fun S64 => f_X10_init_66 n0 1100000 v0 (0 : Int32) S64) else none) else none else none else none) else none) else none else none else none) else none) else none else none else none) else none) else none else none else none) else none) else none else none else none) else none) else none else none else none) else none else none
set_option maxRecDepth 100000 in
noncomputable def f_X10_init (a0 : Nat) (a1 : Nat) (S : jM) : Option jM := f_X10_init_0 (jn S) a0 a1 S
set_option maxRecDepth 100000 in
set_option maxHeartbeats 4000000 in
theorem B_X10_init_66 {p : Program} {l : Launch} {e : Env} {s : State} {m : MethodId} {args : Array Value} {below : List Frame} {meth : Method} {c : Code} {g : jG} {n0 : Nat} (hao : jAO s) (hin : meth.name = "<init>") {SS : jM} (E : jEnv p s m args meth c cX10_init "PensionHouse$Worker" none 3 g)  : ∀ (n : Nat) (v0 : Nat) (v2 : Int32) (S : jM) (H : Heap) (locs : List Loc) (ls : Array Slot), f_X10_init_66 n0 n v0 v2 S = some SS → n0 ≤ jn S → jAtN g S s H locs → lv_has ls 3 [(0, .ref (g.2.2 + v0)), (2, .int v2)] → jWC p l e 3 1206 n0 s m args below meth c g SS S H locs (F0 m 66 ls []) := by
  obtain ⟨hx, hb, hml, -, hts, hown, hK, -, hstr⟩ := id E
  intro n
  induction n with
  | zero => intro v0 v2 S H locs ls hf h0 hM hl; rw [f_X10_init_66] at hf; cases hf
  | succ n ih =>
    intro v0 v2 S H locs ls hf h0 hM hl
    rw [f_X10_init_66] at hf
    refine lv_iload_n hx hb dX10_init_66 rfl (lv_at hl 1 rfl) ?_
    refine lv_aload_n hx hb dX10_init_67 rfl (lv_at hl 0 rfl) ?_
    obtain ⟨hn1, hf⟩ := jif hf
    obtain ⟨hq2, hf⟩ := jif hf
    refine jcGetR (k := 8) (i := 6) (N := 14) (T := TX10) E hM hn1 hq2 (by decide) rfl (by decide) rfl rfl lk_2_11 dX10_init_68 ?_
    obtain ⟨r3, hr4, hf⟩ := jb hf
    rw [hr4]
    show jWC p l e 3 1206 n0 s m args below meth c g SS S H locs (F0 m _ ls (.ref (g.2.2 + r3) :: _))
    obtain ⟨hn5, hf⟩ := jif hf
    obtain ⟨hq6, hf⟩ := jif hf
    refine jcAlen (t0 := 8) E hM hn5 hq6 (by decide) rfl dX10_init_71 ?_
    refine lv_icmp_ge (tgt := 94) hx hb dX10_init_72 (by decide) (fun c7 => ?_) (fun c7 => ?_)
    · have hf := jt c7 hf
      obtain ⟨hc8, hf⟩ := jif hf
      exact jcRet E hM (jrv hf) hc8 dX10_init_94
    · have hf := jf c7 hf
      refine lv_aload_n hx hb dX10_init_75 rfl (lv_at hl 0 rfl) ?_
      obtain ⟨hn9, hf⟩ := jif hf
      refine jcGetR (k := 8) (i := 6) (N := 14) (T := TX10) E hM hn9 hq2 (by decide) rfl (by decide) rfl rfl lk_2_11 dX10_init_76 ?_
      obtain ⟨r10, hr11, hf⟩ := jb hf
      rw [hr11]
      show jWC p l e 3 1206 n0 s m args below meth c g SS S H locs (F0 m _ ls (.ref (g.2.2 + r10) :: _))
      refine lv_iload_n hx hb dX10_init_79 rfl (lv_at hl 1 rfl) ?_
      obtain ⟨hc12, hf⟩ := jif hf
      obtain ⟨hm13, hf⟩ := jif hf
      refine jcNew E hM h0 hm13 tyX9 hc12 (by decide) rfl tyX9_ok jdef_7 rfl lk_2_2 lk_1_44 lk_1_4 dX10_init_80 (fun H S14 eS14 h0 hM => ?_)
      have hf := jlet_y eS14 hf
      refine lv_dup hx hb dX10_init_83 rfl ?_
      obtain ⟨hm18, hf⟩ := jif hf
      obtain ⟨S16, hc17, hf⟩ := jb hf
      obtain ⟨hc19, hf⟩ := jif hf
      refine jcCall E hao hM h0 ci_X9_init (C_X9_init hc17) hc19 hm18 lk_2_4 hl.1 rfl rfl (Nat.le_of_ble_eq_true rfl) (Nat.le_of_ble_eq_true rfl) dX10_init_84 (fun H locs h0 hM => ?_)
      obtain ⟨hn20, hf⟩ := jif hf
      obtain ⟨hn21, hf⟩ := jif hf
      obtain ⟨ha22, hf⟩ := jif hf
      obtain ⟨hq23, hf⟩ := jif hf
      refine jcAast (t0 := 8) E hM hn20 hn21 ha22 (by decide) rfl hq23 (by decide) rfl dX10_init_87 (fun H locs S24 eS24 hM => ?_)
      have h0 : n0 ≤ jn S24 := by rw [eS24]; exact h0
      have hf := jlet_y eS24 hf
      obtain ⟨x25, ex25⟩ : ∃ z, z = v2 + (1 : Int32) := ⟨_, rfl⟩
      have hf := jlet_y ex25 hf
      refine lv_iinc (v := x25) (lv' := [(2, .int x25), (0, .ref (g.2.2 + v0))]) hx hb dX10_init_88 hl (k := 1) rfl (by rw [ex25]; rfl) (by decide) rfl (fun ls hl => ?_)
      refine lv_goto (tgt := 66) hx hb dX10_init_91 (by decide) ?_
      exact ih v0 x25 S24 _ _ _ hf h0 hM (lv_sub hl [1, 0] rfl)
set_option maxRecDepth 100000 in
set_option maxHeartbeats 4000000 in
theorem B_X10_init_0 {p : Program} {l : Launch} {e : Env} {s : State} {m : MethodId} {args : Array Value} {below : List Frame} {meth : Method} {c : Code} {g : jG} {n0 : Nat} (hao : jAO s) (hin : meth.name = "<init>") {SS : jM} {v0 : Nat} {v1 : Nat} {S : jM} (E : jEnv p s m args meth c cX10_init "PensionHouse$Worker" none 3 g)  {H : Heap} {locs : List Loc} {ls : Array Slot} (hf : f_X10_init_0 n0 v0 v1 S = some SS) (h0 : n0 ≤ jn S) (hM : jAtN g S s H locs) (hl : lv_has ls 3 [(0, .ref (g.2.2 + v0)), (1, .ref (g.2.2 + v1))]) : jWC p l e 3 1206 n0 s m args below meth c g SS S H locs (F0 m 0 ls []) := by
  obtain ⟨hx, hb, hml, -, hts, hown, hK, -, hstr⟩ := id E
  unfold f_X10_init_0 at hf
  refine lv_aload_n hx hb dX10_init_0 rfl (lv_at hl 0 rfl) ?_
  refine jcObj E lk_2_1 lk_1_28 lk_1_29 hl.1 (Nat.le_of_ble_eq_true rfl) (Nat.le_of_ble_eq_true rfl) dX10_init_1 ?_
  refine lv_aload_n hx hb dX10_init_4 rfl (lv_at hl 0 rfl) ?_
  refine lv_aload_n hx hb dX10_init_5 rfl (lv_at hl 1 rfl) ?_
  obtain ⟨hn26, hf⟩ := jif hf
  obtain ⟨hq27, hf⟩ := jif hf
  refine jcPut (S' := jsR S 55 v0 (some v1)) (k := 8) (i := 0) (N := 14) (T := TX10) (fin := true) (ty := .object "PensionHouse$Register") E hM hn26 hq27 (by decide) rfl (by decide) rfl rfl lk_2_5 (fun _ => ⟨hin, rfl⟩) (by decide +kernel) rfl rfl dX10_init_6 rfl (jV_sR_same g S 55 v0 (some v1)) (fun b r h2 h => jV_sR g S 55 v0 (some v1) b r h h2) (fun _ _ => rfl) (fun H locs hM => ?_)
  obtain ⟨S28, eS28⟩ : ∃ z, z = jsR S 55 v0 (some v1) := ⟨_, rfl⟩
  rw [← eS28] at hM ⊢
  have h0 : n0 ≤ jn S28 := by rw [eS28]; exact h0
  have hf := jlet_y eS28 hf
  refine lv_aload_n hx hb dX10_init_9 rfl (lv_at hl 0 rfl) ?_
  refine lv_sipush (v := (300 : Int32)) hx hb dX10_init_10 (by decide) ?_
  obtain ⟨hc29, hf⟩ := jif hf
  obtain ⟨hc30, hf⟩ := jif hf
  obtain ⟨hm31, hf⟩ := jif hf
  refine jcNewa (t0 := 2) E hM h0 hm31 (ty := .int) rfl hc29 (by decide) rfl (fun U cA h => h) (jcell_13 g S28 _) lk_1_70 (by decide) hc30 (by decide) dX10_init_13 (fun H S32 eS32 h0 hM => ?_)
  have hf := jlet_y eS32 hf
  obtain ⟨hn33, hf⟩ := jif hf
  refine jcPut (S' := jsR S32 56 v0 (some (jn S28))) (k := 8) (i := 1) (N := 14) (T := TX10) (fin := true) (ty := .array .int) E hM hn33 hq27 (by decide) rfl (by decide) rfl rfl lk_2_6 (fun _ => ⟨hin, rfl⟩) (by decide +kernel) rfl rfl dX10_init_15 rfl (jV_sR_same g S32 56 v0 (some (jn S28))) (fun b r h2 h => jV_sR g S32 56 v0 (some (jn S28)) b r h h2) (fun _ _ => rfl) (fun H locs hM => ?_)
  obtain ⟨S34, eS34⟩ : ∃ z, z = jsR S32 56 v0 (some (jn S28)) := ⟨_, rfl⟩
  rw [← eS34] at hM ⊢
  have h0 : n0 ≤ jn S34 := by rw [eS34]; exact h0
  have hf := jlet_y eS34 hf
  refine lv_aload_n hx hb dX10_init_18 rfl (lv_at hl 0 rfl) ?_
  refine lv_sipush (v := (300 : Int32)) hx hb dX10_init_19 (by decide) ?_
  obtain ⟨hc35, hf⟩ := jif hf
  obtain ⟨hc36, hf⟩ := jif hf
  obtain ⟨hm37, hf⟩ := jif hf
  refine jcNewa (t0 := 2) E hM h0 hm37 (ty := .int) rfl hc35 (by decide) rfl (fun U cA h => h) (jcell_13 g S34 _) lk_1_70 (by decide) hc36 (by decide) dX10_init_22 (fun H S38 eS38 h0 hM => ?_)
  have hf := jlet_y eS38 hf
  obtain ⟨hn39, hf⟩ := jif hf
  refine jcPut (S' := jsR S38 57 v0 (some (jn S34))) (k := 8) (i := 2) (N := 14) (T := TX10) (fin := true) (ty := .array .int) E hM hn39 hq27 (by decide) rfl (by decide) rfl rfl lk_2_7 (fun _ => ⟨hin, rfl⟩) (by decide +kernel) rfl rfl dX10_init_24 rfl (jV_sR_same g S38 57 v0 (some (jn S34))) (fun b r h2 h => jV_sR g S38 57 v0 (some (jn S34)) b r h h2) (fun _ _ => rfl) (fun H locs hM => ?_)
  obtain ⟨S40, eS40⟩ : ∃ z, z = jsR S38 57 v0 (some (jn S34)) := ⟨_, rfl⟩
  rw [← eS40] at hM ⊢
  have h0 : n0 ≤ jn S40 := by rw [eS40]; exact h0
  have hf := jlet_y eS40 hf
  refine lv_aload_n hx hb dX10_init_27 rfl (lv_at hl 0 rfl) ?_
  refine lv_sipush (v := (300 : Int32)) hx hb dX10_init_28 (by decide) ?_
  obtain ⟨hc41, hf⟩ := jif hf
  obtain ⟨hc42, hf⟩ := jif hf
  obtain ⟨hm43, hf⟩ := jif hf
  refine jcNewa (t0 := 2) E hM h0 hm43 (ty := .int) rfl hc41 (by decide) rfl (fun U cA h => h) (jcell_13 g S40 _) lk_1_70 (by decide) hc42 (by decide) dX10_init_31 (fun H S44 eS44 h0 hM => ?_)
  have hf := jlet_y eS44 hf
  obtain ⟨hn45, hf⟩ := jif hf
  refine jcPut (S' := jsR S44 58 v0 (some (jn S40))) (k := 8) (i := 3) (N := 14) (T := TX10) (fin := true) (ty := .array .int) E hM hn45 hq27 (by decide) rfl (by decide) rfl rfl lk_2_8 (fun _ => ⟨hin, rfl⟩) (by decide +kernel) rfl rfl dX10_init_33 rfl (jV_sR_same g S44 58 v0 (some (jn S40))) (fun b r h2 h => jV_sR g S44 58 v0 (some (jn S40)) b r h h2) (fun _ _ => rfl) (fun H locs hM => ?_)
  obtain ⟨S46, eS46⟩ : ∃ z, z = jsR S44 58 v0 (some (jn S40)) := ⟨_, rfl⟩
  rw [← eS46] at hM ⊢
  have h0 : n0 ≤ jn S46 := by rw [eS46]; exact h0
  have hf := jlet_y eS46 hf
  refine lv_aload_n hx hb dX10_init_36 rfl (lv_at hl 0 rfl) ?_
  refine lv_sipush (v := (300 : Int32)) hx hb dX10_init_37 (by decide) ?_
  obtain ⟨hc47, hf⟩ := jif hf
  obtain ⟨hc48, hf⟩ := jif hf
  obtain ⟨hm49, hf⟩ := jif hf
  refine jcNewa (t0 := 2) E hM h0 hm49 (ty := .int) rfl hc47 (by decide) rfl (fun U cA h => h) (jcell_13 g S46 _) lk_1_70 (by decide) hc48 (by decide) dX10_init_40 (fun H S50 eS50 h0 hM => ?_)
  have hf := jlet_y eS50 hf
  obtain ⟨hn51, hf⟩ := jif hf
  refine jcPut (S' := jsR S50 59 v0 (some (jn S46))) (k := 8) (i := 4) (N := 14) (T := TX10) (fin := true) (ty := .array .int) E hM hn51 hq27 (by decide) rfl (by decide) rfl rfl lk_2_9 (fun _ => ⟨hin, rfl⟩) (by decide +kernel) rfl rfl dX10_init_42 rfl (jV_sR_same g S50 59 v0 (some (jn S46))) (fun b r h2 h => jV_sR g S50 59 v0 (some (jn S46)) b r h h2) (fun _ _ => rfl) (fun H locs hM => ?_)
  obtain ⟨S52, eS52⟩ : ∃ z, z = jsR S50 59 v0 (some (jn S46)) := ⟨_, rfl⟩
  rw [← eS52] at hM ⊢
  have h0 : n0 ≤ jn S52 := by rw [eS52]; exact h0
  have hf := jlet_y eS52 hf
  refine lv_aload_n hx hb dX10_init_45 rfl (lv_at hl 0 rfl) ?_
  refine lv_sipush (v := (300 : Int32)) hx hb dX10_init_46 (by decide) ?_
  obtain ⟨hc53, hf⟩ := jif hf
  obtain ⟨hc54, hf⟩ := jif hf
  obtain ⟨hm55, hf⟩ := jif hf
  refine jcNewa (t0 := 3) E hM h0 hm55 (ty := .long) rfl hc53 (by decide) rfl (fun U cA h => h) (jcell_14 g S52 _) lk_1_71 (by decide) hc54 (by decide) dX10_init_49 (fun H S56 eS56 h0 hM => ?_)
  have hf := jlet_y eS56 hf
  obtain ⟨hn57, hf⟩ := jif hf
  refine jcPut (S' := jsR S56 63 v0 (some (jn S52))) (k := 8) (i := 8) (N := 14) (T := TX10) (fin := true) (ty := .array .long) E hM hn57 hq27 (by decide) rfl (by decide) rfl rfl lk_2_13 (fun _ => ⟨hin, rfl⟩) (by decide +kernel) rfl rfl dX10_init_51 rfl (jV_sR_same g S56 63 v0 (some (jn S52))) (fun b r h2 h => jV_sR g S56 63 v0 (some (jn S52)) b r h h2) (fun _ _ => rfl) (fun H locs hM => ?_)
  obtain ⟨S58, eS58⟩ : ∃ z, z = jsR S56 63 v0 (some (jn S52)) := ⟨_, rfl⟩
  rw [← eS58] at hM ⊢
  have h0 : n0 ≤ jn S58 := by rw [eS58]; exact h0
  have hf := jlet_y eS58 hf
  refine lv_aload_n hx hb dX10_init_54 rfl (lv_at hl 0 rfl) ?_
  refine lv_sipush (v := (600 : Int32)) hx hb dX10_init_55 (by decide) ?_
  obtain ⟨hc59, hf⟩ := jif hf
  obtain ⟨hc60, hf⟩ := jif hf
  obtain ⟨hm61, hf⟩ := jif hf
  refine jcNewq (t0 := 8) E hM h0 hm61 hc59 (by decide) rfl lk_2_2 hao.2.2.2.1 (by decide) hc60 (by decide) dX10_init_58 (fun H S62 eS62 h0 hM => ?_)
  have hf := jlet_y eS62 hf
  obtain ⟨hn63, hf⟩ := jif hf
  refine jcPut (S' := jsR S62 61 v0 (some (jn S58))) (k := 8) (i := 6) (N := 14) (T := TX10) (fin := true) (ty := .array (.object "PensionHouse$Value")) E hM hn63 hq27 (by decide) rfl (by decide) rfl rfl lk_2_11 (fun _ => ⟨hin, rfl⟩) (by decide +kernel) rfl rfl dX10_init_61 rfl (jV_sR_same g S62 61 v0 (some (jn S58))) (fun b r h2 h => jV_sR g S62 61 v0 (some (jn S58)) b r h h2) (fun _ _ => rfl) (fun H locs hM => ?_)
  obtain ⟨S64, eS64⟩ : ∃ z, z = jsR S62 61 v0 (some (jn S58)) := ⟨_, rfl⟩
  rw [← eS64] at hM ⊢
  have h0 : n0 ≤ jn S64 := by rw [eS64]; exact h0
  have hf := jlet_y eS64 hf
  refine lv_iconst (v := (0 : Int32)) hx hb dX10_init_64 (by decide) ?_
  refine lv_istore_n (lv' := [(2, .int (0 : Int32)), (0, .ref (g.2.2 + v0)), (1, .ref (g.2.2 + v1))]) hx hb dX10_init_65 rfl hl (by decide) rfl (fun ls hl => ?_)
  exact B_X10_init_66 hao hin E  1100000 v0 (0 : Int32) S64 _ _ _ hf h0 hM (lv_sub hl [1, 0] rfl)
theorem ci_X10_init : jCI yX10_init cX10_init 3 1 := ⟨lk_1_239, lk_1_8, lk_2_0, ⟨by decide +kernel, by decide +kernel, by decide +kernel⟩, by decide, rfl⟩
set_option maxRecDepth 100000 in
theorem C_X10_init {l : Launch} {g : jG} {a0 : Nat} {a1 : Nat} {S SS : jM} (hf : f_X10_init a0 a1 S = some SS) : jMetN l g yX10_init cX10_init 3 3 1206 (jn S) [.ref (g.2.2 + a0), .ref (g.2.2 + a1)] S (jQvN g SS) := by
  refine jcOf (by decide +kernel) (Nat.le_of_ble_eq_true rfl) rfl ?_
  intro p e s m below meth c E hao hin hM ls hl
  have hl : lv_has ls 3 [(0, .ref (g.2.2 + a0)), (1, .ref (g.2.2 + a1))] := hl
  exact B_X10_init_0 hao hin E hf (Nat.le_refl _) hM hl
-- X11_init
set_option maxRecDepth 100000 in
noncomputable def f_X11_init_145 (n0 : Nat) : Nat → Nat → Int32 → jM → Option jM
  | 0, _, _, _ => none
  | n + 1, v0, v2, S => if v0 < jn S then if jK v0 = 9 then (jR S 78 v0).bind (fun r3 => if r3 < jn S then if jK r3 = 16 then if (Int32.ofNat (jLen r3)) ≤ v2 then if jMrows S ((200 : Int32)).toNatClampNeg ((14 : Int32)).toNatClampNeg = true then if jn S + (((200 : Int32)).toNatClampNeg + 1) ≤ n0 + 2397 then jlet (jnewM S ((200 : Int32)).toNatClampNeg) (fun S10 => if v0 < jn S10 then jlet (jsR S10 80 v0 (some (jn S))) (fun S12 => if v0 < jn S12 then jlet (jsI S12 83 v0 (50 : Int32)) (fun S14 => if v0 < jn S14 then jlet (jsI S14 84 v0 (-1 : Int32)) (fun S16 => if jK (jn S16) = 13 then if jLen (jn S16) = ((6 : Int32)).toNatClampNeg then if jn S16 + 1 ≤ n0 + 2397 then jlet (jnew S16) (fun S20 => if v0 < jn S20 then jlet (jsR S20 85 v0 (some (jn S16))) (fun S22 => if jn S22 = n0 + 2397 then some S22 else none) else none) else none else none else none) else none) else none) else none) else none else none else if v0 < jn S then (jR S 78 v0).bind (fun r25 => if jK (jn S) = 0 then if jn S + 1 ≤ n0 + 2397 then jlet (jnew S) (fun S29 => if jn S29 + 2 ≤ n0 + 2397 then (f_X0_init (jn S) S29).bind (fun S31 => if jn S31 = jn S29 + 2 then if r25 < jn S31 then if (jn S) < jn S31 then if jA r25 16 v2 = true then if jK (jn S) = 0 then jlet (jrR S31 r25 (va_up (jAR S31 r25) (v2).toNatClampNeg (some (jn S)))) (fun S39 => jlet (v2 + (1 : Int32)) (fun x40 => (f_X11_init_145 n0 n) v0 x40 S39)) else none else none else none else none else none) else none) else none else none) else none else none else none) else none else none
set_option maxRecDepth 100000 in
noncomputable def f_X11_init_61 (n0 : Nat) : Nat → Nat → Nat → Int32 → jM → Option jM
  | 0, _, _, _, _ => none
  | n + 1, v0, v1, v2, S => if v0 < jn S then if jK v0 = 9 then (jR S 73 v0).bind (fun r43 => if r43 < jn S then if jK r43 = 18 then if (Int32.ofNat (jLen r43)) ≤ v2 then if jK (jn S) = 8 then if jn S + 1 ≤ n0 + 2397 then jlet (jnew S) (fun S50 => if jn S50 + 1206 ≤ n0 + 2397 then (f_X10_init (jn S) v1 S50).bind (fun S52 => if jn S52 = jn S50 + 1206 then if v0 < jn S52 then jlet (jsR S52 74 v0 (some (jn S))) (fun S57 => if jK (jn S57) = 1 then if jn S57 + 1 ≤ n0 + 2397 then jlet (jnew S57) (fun S60 => if jn S60 + 52 ≤ n0 + 2397 then (f_X1_init (jn S57) S60).bind (fun S62 => if jn S62 = jn S60 + 52 then if v0 < jn S62 then jlet (jsR S62 75 v0 (some (jn S57))) (fun S67 => if jK (jn S67) = 1 then if jn S67 + 1 ≤ n0 + 2397 then jlet (jnew S67) (fun S70 => if jn S70 + 52 ≤ n0 + 2397 then (f_X1_init (jn S67) S70).bind (fun S72 => if jn S72 = jn S70 + 52 then if v0 < jn S72 then jlet (jsR S72 76 v0 (some (jn S67))) (fun S77 => if jK (jn S77) = 1 then if jn S77 + 1 ≤ n0 + 2397 then jlet (jnew S77) (fun S80 => if jn S80 + 52 ≤ n0 + 2397 then (f_X1_init (jn S77) S80).bind (fun S82 => if jn S82 = jn S80 + 52 then if v0 < jn S82 then jlet (jsR S82 77 v0 (some (jn S77))) (fun S87 => if jK (jn S87) = 16 then if jLen (jn S87) = ((6 : Int32)).toNatClampNeg then if jn S87 + 1 ≤ n0 + 2397 then jlet (jnew S87) (fun S91 => if v0 < jn S91 then jlet (jsR S91 78 v0 (some (jn S87))) (fun S93 => f_X11_init_145 n0 1100000 v0 (0 : Int32) S93) else none) else none else none else none) else none else none) else none) else none else none) else none else none) else none) else none else none) else none else none) else none) else none else none) else none else none) else none) else none else none else if v0 < jn S then (jR S 73 v0).bind (fun r95 => if jK (jn S) = 6 then if jn S + 1 ≤ n0 + 2397 then jlet (jnew S) (fun S99 => if jn S99 + 5 ≤ n0 + 2397 then (f_X8_init (jn S) S99).bind (fun S101 => if jn S101 = jn S99 + 5 then if r95 < jn S101 then if (jn S) < jn S101 then if jA r95 18 v2 = true then if jK (jn S) = 6 then jlet (jrR S101 r95 (va_up (jAR S101 r95) (v2).toNatClampNeg (some (jn S)))) (fun S109 => jlet (v2 + (1 : Int32)) (fun x110 => (f_X11_init_61 n0 n) v0 v1 x110 S109)) else none else none else none else none else none) else none) else none else none) else none else none else none) else none else none
set_option maxRecDepth 100000 in
noncomputable def f_X11_init_0 (n0 : Nat) (v0 : Nat) (S : jM) : Option jM := if jK (jn S) = 4 then if jn S + 1 ≤ n0 + 2397 then jlet (jnew S) (fun S113 => if jn S113 + 603 ≤ n0 + 2397 then (f_X6_init (jn S) S113).bind (fun S115 => if jn S115 = jn S113 + 603 then if v0 < jn S115 then if jK v0 = 9 then jlet (jsR S115 69 v0 (some (jn S))) (fun S121 => if jK (jn S121) = 7 then if jn S121 + 1 ≤ n0 + 2397 then jlet (jnew S121) (fun S124 => if jn S124 + 1 ≤ n0 + 2397 then (f_X9_init (jn S121) S124).bind (fun S126 => if jn S126 = jn S124 + 1 then if v0 < jn S126 then jlet (jsR S126 70 v0 (some (jn S121))) (fun S131 => if jK (jn S131) = 3 then if jn S131 + 1 ≤ n0 + 2397 then jlet (jnew S131) (fun S134 => if jn S134 + 10 ≤ n0 + 2397 then (f_X4_init (jn S131) S134).bind (fun S136 => if jn S136 = jn S134 + 10 then if v0 < jn S136 then jlet (jsR S136 71 v0 (some (jn S131))) (fun S141 => if v0 < jn S141 then (jR S141 71 v0).bind (fun r143 => if r143 < jn S141 then if jK r143 = 3 then (jR S141 24 r143).bind (fun r147 => if v0 < jn S141 then jlet (jsR S141 72 v0 (some r147)) (fun S150 => if jK (jn S150) = 18 then if jLen (jn S150) = ((32 : Int32)).toNatClampNeg then if jn S150 + 1 ≤ n0 + 2397 then jlet (jnew S150) (fun S154 => if v0 < jn S154 then jlet (jsR S154 73 v0 (some (jn S150))) (fun S156 => f_X11_init_61 n0 1100000 v0 (jn S) (0 : Int32) S156) else none) else none else none else none) else none) else none else none) else none) else none else none) else none) else none else none) else none else none) else none) else none else none) else none else none else none) else none) else none else none
set_option maxRecDepth 100000 in
noncomputable def f_X11_init (a0 : Nat) (S : jM) : Option jM := f_X11_init_0 (jn S) a0 S
set_option maxRecDepth 100000 in
set_option maxHeartbeats 4000000 in
theorem B_X11_init_145 {p : Program} {l : Launch} {e : Env} {s : State} {m : MethodId} {args : Array Value} {below : List Frame} {meth : Method} {c : Code} {g : jG} {n0 : Nat} (hao : jAO s) (hin : meth.name = "<init>") {SS : jM} (E : jEnv p s m args meth c cX11_init "PensionHouse" none 3 g)  : ∀ (n : Nat) (v0 : Nat) (v2 : Int32) (S : jM) (H : Heap) (locs : List Loc) (ls : Array Slot), f_X11_init_145 n0 n v0 v2 S = some SS → n0 ≤ jn S → jAtN g S s H locs → lv_has ls 3 [(0, .ref (g.2.2 + v0)), (2, .int v2)] → jWC p l e 5 2397 n0 s m args below meth c g SS S H locs (F0 m 145 ls []) := by
  obtain ⟨hx, hb, hml, -, hts, hown, hK, -, hstr⟩ := id E
  intro n
  induction n with
  | zero => intro v0 v2 S H locs ls hf h0 hM hl; rw [f_X11_init_145] at hf; cases hf
  | succ n ih =>
    intro v0 v2 S H locs ls hf h0 hM hl
    rw [f_X11_init_145] at hf
    refine lv_iload_n hx hb dX11_init_145 rfl (lv_at hl 1 rfl) ?_
    refine lv_aload_n hx hb dX11_init_146 rfl (lv_at hl 0 rfl) ?_
    obtain ⟨hn1, hf⟩ := jif hf
    obtain ⟨hq2, hf⟩ := jif hf
    refine jcGetR (k := 9) (i := 9) (N := 19) (T := TX11) E hM hn1 hq2 (by decide) rfl (by decide) rfl rfl lk_2_146 dX11_init_147 ?_
    obtain ⟨r3, hr4, hf⟩ := jb hf
    rw [hr4]
    show jWC p l e 5 2397 n0 s m args below meth c g SS S H locs (F0 m _ ls (.ref (g.2.2 + r3) :: _))
    obtain ⟨hn5, hf⟩ := jif hf
    obtain ⟨hq6, hf⟩ := jif hf
    refine jcAlen (t0 := 5) E hM hn5 hq6 (by decide) rfl dX11_init_150 ?_
    refine lv_icmp_ge (tgt := 173) hx hb dX11_init_151 (by decide) (fun c7 => ?_) (fun c7 => ?_)
    · have hf := jt c7 hf
      refine lv_aload_n hx hb dX11_init_173 rfl (lv_at hl 0 rfl) ?_
      refine lv_sipush (v := (200 : Int32)) hx hb dX11_init_174 (by decide) ?_
      refine lv_bipush (v := (14 : Int32)) hx hb dX11_init_177 (by decide) ?_
      obtain ⟨hc8, hf⟩ := jif hf
      obtain ⟨hc9, hf⟩ := jif hf
      refine jcMulti E hao hM h0 hc9 hc8 lk_2_135 lk_1_71 (by decide) (by decide) (by decide) (by decide) dX11_init_179 (fun H S10 eS10 h0 hM => ?_)
      have hf := jlet_y eS10 hf
      obtain ⟨hn11, hf⟩ := jif hf
      refine jcPut (S' := jsR S10 80 v0 (some (jn S))) (k := 9) (i := 11) (N := 19) (T := TX11) (fin := true) (ty := .array (.array .long)) E hM hn11 hq2 (by decide) rfl (by decide) rfl rfl lk_2_148 (fun _ => ⟨hin, rfl⟩) (by decide +kernel) rfl rfl dX11_init_183 rfl (jV_sR_same g S10 80 v0 (some (jn S))) (fun b r h2 h => jV_sR g S10 80 v0 (some (jn S)) b r h h2) (fun _ _ => rfl) (fun H locs hM => ?_)
      obtain ⟨S12, eS12⟩ : ∃ z, z = jsR S10 80 v0 (some (jn S)) := ⟨_, rfl⟩
      rw [← eS12] at hM ⊢
      have h0 : n0 ≤ jn S12 := by rw [eS12]; exact h0
      have hf := jlet_y eS12 hf
      refine lv_aload_n hx hb dX11_init_186 rfl (lv_at hl 0 rfl) ?_
      refine lv_bipush (v := (50 : Int32)) hx hb dX11_init_187 (by decide) ?_
      obtain ⟨hn13, hf⟩ := jif hf
      refine jcPut (S' := jsI S12 83 v0 (50 : Int32)) (k := 9) (i := 14) (N := 19) (T := TX11) (fin := false) (ty := .int) E hM hn13 hq2 (by decide) rfl (by decide) rfl rfl lk_2_151 (fun h => by cases h) (by decide +kernel) rfl rfl dX11_init_189 rfl (jV_sI_same g S12 83 v0 (50 : Int32)) (fun b r h2 h => jV_sI g S12 83 v0 (50 : Int32) b r h) (fun _ _ => rfl) (fun H locs hM => ?_)
      obtain ⟨S14, eS14⟩ : ∃ z, z = jsI S12 83 v0 (50 : Int32) := ⟨_, rfl⟩
      rw [← eS14] at hM ⊢
      have h0 : n0 ≤ jn S14 := by rw [eS14]; exact h0
      have hf := jlet_y eS14 hf
      refine lv_aload_n hx hb dX11_init_192 rfl (lv_at hl 0 rfl) ?_
      refine lv_iconst (v := (-1 : Int32)) hx hb dX11_init_193 (by decide) ?_
      obtain ⟨hn15, hf⟩ := jif hf
      refine jcPut (S' := jsI S14 84 v0 (-1 : Int32)) (k := 9) (i := 15) (N := 19) (T := TX11) (fin := false) (ty := .int) E hM hn15 hq2 (by decide) rfl (by decide) rfl rfl lk_2_152 (fun h => by cases h) (by decide +kernel) rfl rfl dX11_init_194 rfl (jV_sI_same g S14 84 v0 (-1 : Int32)) (fun b r h2 h => jV_sI g S14 84 v0 (-1 : Int32) b r h) (fun _ _ => rfl) (fun H locs hM => ?_)
      obtain ⟨S16, eS16⟩ : ∃ z, z = jsI S14 84 v0 (-1 : Int32) := ⟨_, rfl⟩
      rw [← eS16] at hM ⊢
      have h0 : n0 ≤ jn S16 := by rw [eS16]; exact h0
      have hf := jlet_y eS16 hf
      refine lv_aload_n hx hb dX11_init_197 rfl (lv_at hl 0 rfl) ?_
      refine lv_bipush (v := (6 : Int32)) hx hb dX11_init_198 (by decide) ?_
      obtain ⟨hc17, hf⟩ := jif hf
      obtain ⟨hc18, hf⟩ := jif hf
      obtain ⟨hm19, hf⟩ := jif hf
      refine jcNewa (t0 := 2) E hM h0 hm19 (ty := .int) rfl hc17 (by decide) rfl (fun U cA h => h) (jcell_13 g S16 _) lk_1_70 (by decide) hc18 (by decide) dX11_init_200 (fun H S20 eS20 h0 hM => ?_)
      have hf := jlet_y eS20 hf
      obtain ⟨hn21, hf⟩ := jif hf
      refine jcPut (S' := jsR S20 85 v0 (some (jn S16))) (k := 9) (i := 16) (N := 19) (T := TX11) (fin := true) (ty := .array .int) E hM hn21 hq2 (by decide) rfl (by decide) rfl rfl lk_2_153 (fun _ => ⟨hin, rfl⟩) (by decide +kernel) rfl rfl dX11_init_202 rfl (jV_sR_same g S20 85 v0 (some (jn S16))) (fun b r h2 h => jV_sR g S20 85 v0 (some (jn S16)) b r h h2) (fun _ _ => rfl) (fun H locs hM => ?_)
      obtain ⟨S22, eS22⟩ : ∃ z, z = jsR S20 85 v0 (some (jn S16)) := ⟨_, rfl⟩
      rw [← eS22] at hM ⊢
      have h0 : n0 ≤ jn S22 := by rw [eS22]; exact h0
      have hf := jlet_y eS22 hf
      obtain ⟨hc23, hf⟩ := jif hf
      exact jcRet E hM (jrv hf) hc23 dX11_init_205
    · have hf := jf c7 hf
      refine lv_aload_n hx hb dX11_init_154 rfl (lv_at hl 0 rfl) ?_
      obtain ⟨hn24, hf⟩ := jif hf
      refine jcGetR (k := 9) (i := 9) (N := 19) (T := TX11) E hM hn24 hq2 (by decide) rfl (by decide) rfl rfl lk_2_146 dX11_init_155 ?_
      obtain ⟨r25, hr26, hf⟩ := jb hf
      rw [hr26]
      show jWC p l e 5 2397 n0 s m args below meth c g SS S H locs (F0 m _ ls (.ref (g.2.2 + r25) :: _))
      refine lv_iload_n hx hb dX11_init_158 rfl (lv_at hl 1 rfl) ?_
      obtain ⟨hc27, hf⟩ := jif hf
      obtain ⟨hm28, hf⟩ := jif hf
      refine jcNew E hM h0 hm28 tyX0 hc27 (by decide) rfl tyX0_ok jdef_0 rfl lk_2_109 lk_2_111 lk_1_10 dX11_init_159 (fun H S29 eS29 h0 hM => ?_)
      have hf := jlet_y eS29 hf
      refine lv_dup hx hb dX11_init_162 rfl ?_
      obtain ⟨hm33, hf⟩ := jif hf
      obtain ⟨S31, hc32, hf⟩ := jb hf
      obtain ⟨hc34, hf⟩ := jif hf
      refine jcCall E hao hM h0 ci_X0_init (C_X0_init hc32) hc34 hm33 lk_2_112 hl.1 rfl rfl (Nat.le_of_ble_eq_true rfl) (Nat.le_of_ble_eq_true rfl) dX11_init_163 (fun H locs h0 hM => ?_)
      obtain ⟨hn35, hf⟩ := jif hf
      obtain ⟨hn36, hf⟩ := jif hf
      obtain ⟨ha37, hf⟩ := jif hf
      obtain ⟨hq38, hf⟩ := jif hf
      refine jcAast (t0 := 5) E hM hn35 hn36 ha37 (by decide) rfl hq38 (by decide) rfl dX11_init_166 (fun H locs S39 eS39 hM => ?_)
      have h0 : n0 ≤ jn S39 := by rw [eS39]; exact h0
      have hf := jlet_y eS39 hf
      obtain ⟨x40, ex40⟩ : ∃ z, z = v2 + (1 : Int32) := ⟨_, rfl⟩
      have hf := jlet_y ex40 hf
      refine lv_iinc (v := x40) (lv' := [(2, .int x40), (0, .ref (g.2.2 + v0))]) hx hb dX11_init_167 hl (k := 1) rfl (by rw [ex40]; rfl) (by decide) rfl (fun ls hl => ?_)
      refine lv_goto (tgt := 145) hx hb dX11_init_170 (by decide) ?_
      exact ih v0 x40 S39 _ _ _ hf h0 hM (lv_sub hl [1, 0] rfl)
set_option maxRecDepth 100000 in
set_option maxHeartbeats 4000000 in
theorem B_X11_init_61 {p : Program} {l : Launch} {e : Env} {s : State} {m : MethodId} {args : Array Value} {below : List Frame} {meth : Method} {c : Code} {g : jG} {n0 : Nat} (hao : jAO s) (hin : meth.name = "<init>") {SS : jM} (E : jEnv p s m args meth c cX11_init "PensionHouse" none 3 g)  : ∀ (n : Nat) (v0 : Nat) (v1 : Nat) (v2 : Int32) (S : jM) (H : Heap) (locs : List Loc) (ls : Array Slot), f_X11_init_61 n0 n v0 v1 v2 S = some SS → n0 ≤ jn S → jAtN g S s H locs → lv_has ls 3 [(0, .ref (g.2.2 + v0)), (1, .ref (g.2.2 + v1)), (2, .int v2)] → jWC p l e 5 2397 n0 s m args below meth c g SS S H locs (F0 m 61 ls []) := by
  obtain ⟨hx, hb, hml, -, hts, hown, hK, -, hstr⟩ := id E
  intro n
  induction n with
  | zero => intro v0 v1 v2 S H locs ls hf h0 hM hl; rw [f_X11_init_61] at hf; cases hf
  | succ n ih =>
    intro v0 v1 v2 S H locs ls hf h0 hM hl
    rw [f_X11_init_61] at hf
    refine lv_iload_n hx hb dX11_init_61 rfl (lv_at hl 2 rfl) ?_
    refine lv_aload_n hx hb dX11_init_62 rfl (lv_at hl 0 rfl) ?_
    obtain ⟨hn41, hf⟩ := jif hf
    obtain ⟨hq42, hf⟩ := jif hf
    refine jcGetR (k := 9) (i := 4) (N := 19) (T := TX11) E hM hn41 hq42 (by decide) rfl (by decide) rfl rfl lk_2_141 dX11_init_63 ?_
    obtain ⟨r43, hr44, hf⟩ := jb hf
    rw [hr44]
    show jWC p l e 5 2397 n0 s m args below meth c g SS S H locs (F0 m _ ls (.ref (g.2.2 + r43) :: _))
    obtain ⟨hn45, hf⟩ := jif hf
    obtain ⟨hq46, hf⟩ := jif hf
    refine jcAlen (t0 := 7) E hM hn45 hq46 (by decide) rfl dX11_init_66 ?_
    refine lv_icmp_ge (tgt := 89) hx hb dX11_init_67 (by decide) (fun c47 => ?_) (fun c47 => ?_)
    · have hf := jt c47 hf
      refine lv_aload_n hx hb dX11_init_89 rfl (lv_at hl 0 rfl) ?_
      obtain ⟨hc48, hf⟩ := jif hf
      obtain ⟨hm49, hf⟩ := jif hf
      refine jcNew E hM h0 hm49 tyX10 hc48 (by decide) rfl tyX10_ok jdef_8 rfl lk_1_236 lk_1_237 lk_1_8 dX11_init_90 (fun H S50 eS50 h0 hM => ?_)
      have hf := jlet_y eS50 hf
      refine lv_dup hx hb dX11_init_93 rfl ?_
      refine lv_aload_n hx hb dX11_init_94 rfl (lv_at hl 1 rfl) ?_
      obtain ⟨hm54, hf⟩ := jif hf
      obtain ⟨S52, hc53, hf⟩ := jb hf
      obtain ⟨hc55, hf⟩ := jif hf
      refine jcCall E hao hM h0 ci_X10_init (C_X10_init hc53) hc55 hm54 lk_1_238 hl.1 rfl rfl (Nat.le_of_ble_eq_true rfl) (Nat.le_of_ble_eq_true rfl) dX11_init_95 (fun H locs h0 hM => ?_)
      obtain ⟨hn56, hf⟩ := jif hf
      refine jcPut (S' := jsR S52 74 v0 (some (jn S))) (k := 9) (i := 5) (N := 19) (T := TX11) (fin := true) (ty := .object "PensionHouse$Worker") E hM hn56 hq42 (by decide) rfl (by decide) rfl rfl lk_2_142 (fun _ => ⟨hin, rfl⟩) (by decide +kernel) rfl rfl dX11_init_98 rfl (jV_sR_same g S52 74 v0 (some (jn S))) (fun b r h2 h => jV_sR g S52 74 v0 (some (jn S)) b r h h2) (fun _ _ => rfl) (fun H locs hM => ?_)
      obtain ⟨S57, eS57⟩ : ∃ z, z = jsR S52 74 v0 (some (jn S)) := ⟨_, rfl⟩
      rw [← eS57] at hM ⊢
      have h0 : n0 ≤ jn S57 := by rw [eS57]; exact h0
      have hf := jlet_y eS57 hf
      refine lv_aload_n hx hb dX11_init_101 rfl (lv_at hl 0 rfl) ?_
      obtain ⟨hc58, hf⟩ := jif hf
      obtain ⟨hm59, hf⟩ := jif hf
      refine jcNew E hM h0 hm59 tyX1 hc58 (by decide) rfl tyX1_ok jdef_1 rfl lk_2_48 lk_2_49 lk_1_9 dX11_init_102 (fun H S60 eS60 h0 hM => ?_)
      have hf := jlet_y eS60 hf
      refine lv_dup hx hb dX11_init_105 rfl ?_
      obtain ⟨hm64, hf⟩ := jif hf
      obtain ⟨S62, hc63, hf⟩ := jb hf
      obtain ⟨hc65, hf⟩ := jif hf
      refine jcCall E hao hM h0 ci_X1_init (C_X1_init hc63) hc65 hm64 lk_2_50 hl.1 rfl rfl (Nat.le_of_ble_eq_true rfl) (Nat.le_of_ble_eq_true rfl) dX11_init_106 (fun H locs h0 hM => ?_)
      obtain ⟨hn66, hf⟩ := jif hf
      refine jcPut (S' := jsR S62 75 v0 (some (jn S57))) (k := 9) (i := 6) (N := 19) (T := TX11) (fin := true) (ty := .object "PensionHouse$Case") E hM hn66 hq42 (by decide) rfl (by decide) rfl rfl lk_2_143 (fun _ => ⟨hin, rfl⟩) (by decide +kernel) rfl rfl dX11_init_109 rfl (jV_sR_same g S62 75 v0 (some (jn S57))) (fun b r h2 h => jV_sR g S62 75 v0 (some (jn S57)) b r h h2) (fun _ _ => rfl) (fun H locs hM => ?_)
      obtain ⟨S67, eS67⟩ : ∃ z, z = jsR S62 75 v0 (some (jn S57)) := ⟨_, rfl⟩
      rw [← eS67] at hM ⊢
      have h0 : n0 ≤ jn S67 := by rw [eS67]; exact h0
      have hf := jlet_y eS67 hf
      refine lv_aload_n hx hb dX11_init_112 rfl (lv_at hl 0 rfl) ?_
      obtain ⟨hc68, hf⟩ := jif hf
      obtain ⟨hm69, hf⟩ := jif hf
      refine jcNew E hM h0 hm69 tyX1 hc68 (by decide) rfl tyX1_ok jdef_1 rfl lk_2_48 lk_2_49 lk_1_9 dX11_init_113 (fun H S70 eS70 h0 hM => ?_)
      have hf := jlet_y eS70 hf
      refine lv_dup hx hb dX11_init_116 rfl ?_
      obtain ⟨hm74, hf⟩ := jif hf
      obtain ⟨S72, hc73, hf⟩ := jb hf
      obtain ⟨hc75, hf⟩ := jif hf
      refine jcCall E hao hM h0 ci_X1_init (C_X1_init hc73) hc75 hm74 lk_2_50 hl.1 rfl rfl (Nat.le_of_ble_eq_true rfl) (Nat.le_of_ble_eq_true rfl) dX11_init_117 (fun H locs h0 hM => ?_)
      obtain ⟨hn76, hf⟩ := jif hf
      refine jcPut (S' := jsR S72 76 v0 (some (jn S67))) (k := 9) (i := 7) (N := 19) (T := TX11) (fin := true) (ty := .object "PensionHouse$Case") E hM hn76 hq42 (by decide) rfl (by decide) rfl rfl lk_2_144 (fun _ => ⟨hin, rfl⟩) (by decide +kernel) rfl rfl dX11_init_120 rfl (jV_sR_same g S72 76 v0 (some (jn S67))) (fun b r h2 h => jV_sR g S72 76 v0 (some (jn S67)) b r h h2) (fun _ _ => rfl) (fun H locs hM => ?_)
      obtain ⟨S77, eS77⟩ : ∃ z, z = jsR S72 76 v0 (some (jn S67)) := ⟨_, rfl⟩
      rw [← eS77] at hM ⊢
      have h0 : n0 ≤ jn S77 := by rw [eS77]; exact h0
      have hf := jlet_y eS77 hf
      refine lv_aload_n hx hb dX11_init_123 rfl (lv_at hl 0 rfl) ?_
      obtain ⟨hc78, hf⟩ := jif hf
      obtain ⟨hm79, hf⟩ := jif hf
      refine jcNew E hM h0 hm79 tyX1 hc78 (by decide) rfl tyX1_ok jdef_1 rfl lk_2_48 lk_2_49 lk_1_9 dX11_init_124 (fun H S80 eS80 h0 hM => ?_)
      have hf := jlet_y eS80 hf
      refine lv_dup hx hb dX11_init_127 rfl ?_
      obtain ⟨hm84, hf⟩ := jif hf
      obtain ⟨S82, hc83, hf⟩ := jb hf
      obtain ⟨hc85, hf⟩ := jif hf
      refine jcCall E hao hM h0 ci_X1_init (C_X1_init hc83) hc85 hm84 lk_2_50 hl.1 rfl rfl (Nat.le_of_ble_eq_true rfl) (Nat.le_of_ble_eq_true rfl) dX11_init_128 (fun H locs h0 hM => ?_)
      obtain ⟨hn86, hf⟩ := jif hf
      refine jcPut (S' := jsR S82 77 v0 (some (jn S77))) (k := 9) (i := 8) (N := 19) (T := TX11) (fin := true) (ty := .object "PensionHouse$Case") E hM hn86 hq42 (by decide) rfl (by decide) rfl rfl lk_2_145 (fun _ => ⟨hin, rfl⟩) (by decide +kernel) rfl rfl dX11_init_131 rfl (jV_sR_same g S82 77 v0 (some (jn S77))) (fun b r h2 h => jV_sR g S82 77 v0 (some (jn S77)) b r h h2) (fun _ _ => rfl) (fun H locs hM => ?_)
      obtain ⟨S87, eS87⟩ : ∃ z, z = jsR S82 77 v0 (some (jn S77)) := ⟨_, rfl⟩
      rw [← eS87] at hM ⊢
      have h0 : n0 ≤ jn S87 := by rw [eS87]; exact h0
      have hf := jlet_y eS87 hf
      refine lv_aload_n hx hb dX11_init_134 rfl (lv_at hl 0 rfl) ?_
      refine lv_bipush (v := (6 : Int32)) hx hb dX11_init_135 (by decide) ?_
      obtain ⟨hc88, hf⟩ := jif hf
      obtain ⟨hc89, hf⟩ := jif hf
      obtain ⟨hm90, hf⟩ := jif hf
      refine jcNewq (t0 := 5) E hM h0 hm90 hc88 (by decide) rfl lk_2_109 hao.1 (by decide) hc89 (by decide) dX11_init_137 (fun H S91 eS91 h0 hM => ?_)
      have hf := jlet_y eS91 hf
      obtain ⟨hn92, hf⟩ := jif hf
      refine jcPut (S' := jsR S91 78 v0 (some (jn S87))) (k := 9) (i := 9) (N := 19) (T := TX11) (fin := true) (ty := .array (.object "PensionHouse$Award")) E hM hn92 hq42 (by decide) rfl (by decide) rfl rfl lk_2_146 (fun _ => ⟨hin, rfl⟩) (by decide +kernel) rfl rfl dX11_init_140 rfl (jV_sR_same g S91 78 v0 (some (jn S87))) (fun b r h2 h => jV_sR g S91 78 v0 (some (jn S87)) b r h h2) (fun _ _ => rfl) (fun H locs hM => ?_)
      obtain ⟨S93, eS93⟩ : ∃ z, z = jsR S91 78 v0 (some (jn S87)) := ⟨_, rfl⟩
      rw [← eS93] at hM ⊢
      have h0 : n0 ≤ jn S93 := by rw [eS93]; exact h0
      have hf := jlet_y eS93 hf
      refine lv_iconst (v := (0 : Int32)) hx hb dX11_init_143 (by decide) ?_
      refine lv_istore_n (lv' := [(2, .int (0 : Int32)), (0, .ref (g.2.2 + v0)), (1, .ref (g.2.2 + v1))]) hx hb dX11_init_144 rfl hl (by decide) rfl (fun ls hl => ?_)
      exact B_X11_init_145 hao hin E  1100000 v0 (0 : Int32) S93 _ _ _ hf h0 hM (lv_sub hl [1, 0] rfl)
    · have hf := jf c47 hf
      refine lv_aload_n hx hb dX11_init_70 rfl (lv_at hl 0 rfl) ?_
      obtain ⟨hn94, hf⟩ := jif hf
      refine jcGetR (k := 9) (i := 4) (N := 19) (T := TX11) E hM hn94 hq42 (by decide) rfl (by decide) rfl rfl lk_2_141 dX11_init_71 ?_
      obtain ⟨r95, hr96, hf⟩ := jb hf
      rw [hr96]
      show jWC p l e 5 2397 n0 s m args below meth c g SS S H locs (F0 m _ ls (.ref (g.2.2 + r95) :: _))
      refine lv_iload_n hx hb dX11_init_74 rfl (lv_at hl 2 rfl) ?_
      obtain ⟨hc97, hf⟩ := jif hf
      obtain ⟨hm98, hf⟩ := jif hf
      refine jcNew E hM h0 hm98 tyX8 hc97 (by decide) rfl tyX8_ok jdef_6 rfl lk_1_233 lk_1_169 lk_1_7 dX11_init_75 (fun H S99 eS99 h0 hM => ?_)
      have hf := jlet_y eS99 hf
      refine lv_dup hx hb dX11_init_78 rfl ?_
      obtain ⟨hm103, hf⟩ := jif hf
      obtain ⟨S101, hc102, hf⟩ := jb hf
      obtain ⟨hc104, hf⟩ := jif hf
      refine jcCall E hao hM h0 ci_X8_init (C_X8_init hc102) hc104 hm103 lk_1_235 hl.1 rfl rfl (Nat.le_of_ble_eq_true rfl) (Nat.le_of_ble_eq_true rfl) dX11_init_79 (fun H locs h0 hM => ?_)
      obtain ⟨hn105, hf⟩ := jif hf
      obtain ⟨hn106, hf⟩ := jif hf
      obtain ⟨ha107, hf⟩ := jif hf
      obtain ⟨hq108, hf⟩ := jif hf
      refine jcAast (t0 := 7) E hM hn105 hn106 ha107 (by decide) rfl hq108 (by decide) rfl dX11_init_82 (fun H locs S109 eS109 hM => ?_)
      have h0 : n0 ≤ jn S109 := by rw [eS109]; exact h0
      have hf := jlet_y eS109 hf
      obtain ⟨x110, ex110⟩ : ∃ z, z = v2 + (1 : Int32) := ⟨_, rfl⟩
      have hf := jlet_y ex110 hf
      refine lv_iinc (v := x110) (lv' := [(2, .int x110), (0, .ref (g.2.2 + v0)), (1, .ref (g.2.2 + v1))]) hx hb dX11_init_83 hl (k := 2) rfl (by rw [ex110]; rfl) (by decide) rfl (fun ls hl => ?_)
      refine lv_goto (tgt := 61) hx hb dX11_init_86 (by decide) ?_
      exact ih v0 v1 x110 S109 _ _ _ hf h0 hM (lv_sub hl [1, 2, 0] rfl)
set_option maxRecDepth 100000 in
set_option maxHeartbeats 4000000 in
theorem B_X11_init_0 {p : Program} {l : Launch} {e : Env} {s : State} {m : MethodId} {args : Array Value} {below : List Frame} {meth : Method} {c : Code} {g : jG} {n0 : Nat} (hao : jAO s) (hin : meth.name = "<init>") {SS : jM} {v0 : Nat} {S : jM} (E : jEnv p s m args meth c cX11_init "PensionHouse" none 3 g)  {H : Heap} {locs : List Loc} {ls : Array Slot} (hf : f_X11_init_0 n0 v0 S = some SS) (h0 : n0 ≤ jn S) (hM : jAtN g S s H locs) (hl : lv_has ls 3 [(0, .ref (g.2.2 + v0))]) : jWC p l e 5 2397 n0 s m args below meth c g SS S H locs (F0 m 0 ls []) := by
  obtain ⟨hx, hb, hml, -, hts, hown, hK, -, hstr⟩ := id E
  unfold f_X11_init_0 at hf
  refine lv_aload_n hx hb dX11_init_0 rfl (lv_at hl 0 rfl) ?_
  refine jcObj E lk_1_27 lk_1_28 lk_1_29 hl.1 (Nat.le_of_ble_eq_true rfl) (Nat.le_of_ble_eq_true rfl) dX11_init_1 ?_
  obtain ⟨hc111, hf⟩ := jif hf
  obtain ⟨hm112, hf⟩ := jif hf
  refine jcNew E hM h0 hm112 tyX6 hc111 (by decide) rfl tyX6_ok jdef_4 rfl lk_1_30 lk_1_31 lk_1_2 dX11_init_4 (fun H S113 eS113 h0 hM => ?_)
  have hf := jlet_y eS113 hf
  refine lv_dup hx hb dX11_init_7 rfl ?_
  obtain ⟨hm117, hf⟩ := jif hf
  obtain ⟨S115, hc116, hf⟩ := jb hf
  obtain ⟨hc118, hf⟩ := jif hf
  refine jcCall E hao hM h0 ci_X6_init (C_X6_init hc116) hc118 hm117 lk_1_32 hl.1 rfl rfl (Nat.le_of_ble_eq_true rfl) (Nat.le_of_ble_eq_true rfl) dX11_init_8 (fun H locs h0 hM => ?_)
  refine lv_astore_n (lv' := [(1, .ref (g.2.2 + (jn S))), (0, .ref (g.2.2 + v0))]) hx hb dX11_init_11 rfl hl (by decide) rfl (fun ls hl => ?_)
  refine lv_aload_n hx hb dX11_init_12 rfl (lv_at hl 1 rfl) ?_
  refine lv_aload_n hx hb dX11_init_13 rfl (lv_at hl 0 rfl) ?_
  obtain ⟨hn119, hf⟩ := jif hf
  obtain ⟨hq120, hf⟩ := jif hf
  refine jcPut (S' := jsR S115 69 v0 (some (jn S))) (k := 9) (i := 0) (N := 19) (T := TX11) (fin := true) (ty := .object "PensionHouse$Register") E hM hn119 hq120 (by decide) rfl (by decide) rfl rfl lk_2_137 (fun _ => ⟨hin, rfl⟩) (by decide +kernel) rfl rfl dX11_init_14 rfl (jV_sR_same g S115 69 v0 (some (jn S))) (fun b r h2 h => jV_sR g S115 69 v0 (some (jn S)) b r h h2) (fun _ _ => rfl) (fun H locs hM => ?_)
  obtain ⟨S121, eS121⟩ : ∃ z, z = jsR S115 69 v0 (some (jn S)) := ⟨_, rfl⟩
  rw [← eS121] at hM ⊢
  have h0 : n0 ≤ jn S121 := by rw [eS121]; exact h0
  have hf := jlet_y eS121 hf
  refine lv_aload_n hx hb dX11_init_17 rfl (lv_at hl 1 rfl) ?_
  obtain ⟨hc122, hf⟩ := jif hf
  obtain ⟨hm123, hf⟩ := jif hf
  refine jcNew E hM h0 hm123 tyX9 hc122 (by decide) rfl tyX9_ok jdef_7 rfl lk_1_123 lk_1_44 lk_1_4 dX11_init_18 (fun H S124 eS124 h0 hM => ?_)
  have hf := jlet_y eS124 hf
  refine lv_dup hx hb dX11_init_21 rfl ?_
  obtain ⟨hm128, hf⟩ := jif hf
  obtain ⟨S126, hc127, hf⟩ := jb hf
  obtain ⟨hc129, hf⟩ := jif hf
  refine jcCall E hao hM h0 ci_X9_init (C_X9_init hc127) hc129 hm128 lk_1_124 hl.1 rfl rfl (Nat.le_of_ble_eq_true rfl) (Nat.le_of_ble_eq_true rfl) dX11_init_22 (fun H locs h0 hM => ?_)
  obtain ⟨hn130, hf⟩ := jif hf
  refine jcPut (S' := jsR S126 70 v0 (some (jn S121))) (k := 9) (i := 1) (N := 19) (T := TX11) (fin := true) (ty := .object "PensionHouse$Value") E hM hn130 hq120 (by decide) rfl (by decide) rfl rfl lk_2_138 (fun _ => ⟨hin, rfl⟩) (by decide +kernel) rfl rfl dX11_init_25 rfl (jV_sR_same g S126 70 v0 (some (jn S121))) (fun b r h2 h => jV_sR g S126 70 v0 (some (jn S121)) b r h h2) (fun _ _ => rfl) (fun H locs hM => ?_)
  obtain ⟨S131, eS131⟩ : ∃ z, z = jsR S126 70 v0 (some (jn S121)) := ⟨_, rfl⟩
  rw [← eS131] at hM ⊢
  have h0 : n0 ≤ jn S131 := by rw [eS131]; exact h0
  have hf := jlet_y eS131 hf
  refine lv_aload_n hx hb dX11_init_28 rfl (lv_at hl 1 rfl) ?_
  obtain ⟨hc132, hf⟩ := jif hf
  obtain ⟨hm133, hf⟩ := jif hf
  refine jcNew E hM h0 hm133 tyX4 hc132 (by decide) rfl tyX4_ok jdef_3 rfl lk_1_125 lk_1_126 lk_1_5 dX11_init_29 (fun H S134 eS134 h0 hM => ?_)
  have hf := jlet_y eS134 hf
  refine lv_dup hx hb dX11_init_32 rfl ?_
  obtain ⟨hm138, hf⟩ := jif hf
  obtain ⟨S136, hc137, hf⟩ := jb hf
  obtain ⟨hc139, hf⟩ := jif hf
  refine jcCall E hao hM h0 ci_X4_init (C_X4_init hc137) hc139 hm138 lk_1_127 hl.1 rfl rfl (Nat.le_of_ble_eq_true rfl) (Nat.le_of_ble_eq_true rfl) dX11_init_33 (fun H locs h0 hM => ?_)
  obtain ⟨hn140, hf⟩ := jif hf
  refine jcPut (S' := jsR S136 71 v0 (some (jn S131))) (k := 9) (i := 2) (N := 19) (T := TX11) (fin := true) (ty := .object "PensionHouse$Parser") E hM hn140 hq120 (by decide) rfl (by decide) rfl rfl lk_2_139 (fun _ => ⟨hin, rfl⟩) (by decide +kernel) rfl rfl dX11_init_36 rfl (jV_sR_same g S136 71 v0 (some (jn S131))) (fun b r h2 h => jV_sR g S136 71 v0 (some (jn S131)) b r h h2) (fun _ _ => rfl) (fun H locs hM => ?_)
  obtain ⟨S141, eS141⟩ : ∃ z, z = jsR S136 71 v0 (some (jn S131)) := ⟨_, rfl⟩
  rw [← eS141] at hM ⊢
  have h0 : n0 ≤ jn S141 := by rw [eS141]; exact h0
  have hf := jlet_y eS141 hf
  refine lv_aload_n hx hb dX11_init_39 rfl (lv_at hl 1 rfl) ?_
  refine lv_aload_n hx hb dX11_init_40 rfl (lv_at hl 1 rfl) ?_
  obtain ⟨hn142, hf⟩ := jif hf
  refine jcGetR (k := 9) (i := 2) (N := 19) (T := TX11) E hM hn142 hq120 (by decide) rfl (by decide) rfl rfl lk_2_139 dX11_init_41 ?_
  obtain ⟨r143, hr144, hf⟩ := jb hf
  rw [hr144]
  show jWC p l e 5 2397 n0 s m args below meth c g SS S141 H locs (F0 m _ ls (.ref (g.2.2 + r143) :: _))
  obtain ⟨hn145, hf⟩ := jif hf
  obtain ⟨hq146, hf⟩ := jif hf
  refine jcGetR (k := 3) (i := 0) (N := 7) (T := TX4) E hM hn145 hq146 (by decide) rfl (by decide) rfl rfl lk_1_208 dX11_init_44 ?_
  obtain ⟨r147, hr148, hf⟩ := jb hf
  rw [hr148]
  show jWC p l e 5 2397 n0 s m args below meth c g SS S141 H locs (F0 m _ ls (.ref (g.2.2 + r147) :: _))
  obtain ⟨hn149, hf⟩ := jif hf
  refine jcPut (S' := jsR S141 72 v0 (some r147)) (k := 9) (i := 3) (N := 19) (T := TX11) (fin := true) (ty := .object "PensionHouse$Tape") E hM hn149 hq120 (by decide) rfl (by decide) rfl rfl lk_2_140 (fun _ => ⟨hin, rfl⟩) (by decide +kernel) rfl rfl dX11_init_47 rfl (jV_sR_same g S141 72 v0 (some r147)) (fun b r h2 h => jV_sR g S141 72 v0 (some r147) b r h h2) (fun _ _ => rfl) (fun H locs hM => ?_)
  obtain ⟨S150, eS150⟩ : ∃ z, z = jsR S141 72 v0 (some r147) := ⟨_, rfl⟩
  rw [← eS150] at hM ⊢
  have h0 : n0 ≤ jn S150 := by rw [eS150]; exact h0
  have hf := jlet_y eS150 hf
  refine lv_aload_n hx hb dX11_init_50 rfl (lv_at hl 1 rfl) ?_
  refine lv_bipush (v := (32 : Int32)) hx hb dX11_init_51 (by decide) ?_
  obtain ⟨hc151, hf⟩ := jif hf
  obtain ⟨hc152, hf⟩ := jif hf
  obtain ⟨hm153, hf⟩ := jif hf
  refine jcNewq (t0 := 7) E hM h0 hm153 hc151 (by decide) rfl lk_1_233 hao.2.2.1 (by decide) hc152 (by decide) dX11_init_53 (fun H S154 eS154 h0 hM => ?_)
  have hf := jlet_y eS154 hf
  obtain ⟨hn155, hf⟩ := jif hf
  refine jcPut (S' := jsR S154 73 v0 (some (jn S150))) (k := 9) (i := 4) (N := 19) (T := TX11) (fin := true) (ty := .array (.object "PensionHouse$Text")) E hM hn155 hq120 (by decide) rfl (by decide) rfl rfl lk_2_141 (fun _ => ⟨hin, rfl⟩) (by decide +kernel) rfl rfl dX11_init_56 rfl (jV_sR_same g S154 73 v0 (some (jn S150))) (fun b r h2 h => jV_sR g S154 73 v0 (some (jn S150)) b r h h2) (fun _ _ => rfl) (fun H locs hM => ?_)
  obtain ⟨S156, eS156⟩ : ∃ z, z = jsR S154 73 v0 (some (jn S150)) := ⟨_, rfl⟩
  rw [← eS156] at hM ⊢
  have h0 : n0 ≤ jn S156 := by rw [eS156]; exact h0
  have hf := jlet_y eS156 hf
  refine lv_iconst (v := (0 : Int32)) hx hb dX11_init_59 (by decide) ?_
  refine lv_istore_n (lv' := [(2, .int (0 : Int32)), (1, .ref (g.2.2 + (jn S))), (0, .ref (g.2.2 + v0))]) hx hb dX11_init_60 rfl hl (by decide) rfl (fun ls hl => ?_)
  exact B_X11_init_61 hao hin E  1100000 v0 (jn S) (0 : Int32) S156 _ _ _ hf h0 hM (lv_sub hl [2, 1, 0] rfl)
theorem ci_X11_init : jCI yX11_init cX11_init 3 0 := ⟨lk_1_25, lk_1_1, lk_1_26, ⟨by decide +kernel, by decide +kernel, by decide +kernel⟩, by decide, rfl⟩
set_option maxRecDepth 100000 in
theorem C_X11_init {l : Launch} {g : jG} {a0 : Nat} {S SS : jM} (hf : f_X11_init a0 S = some SS) : jMetN l g yX11_init cX11_init 3 5 2397 (jn S) [.ref (g.2.2 + a0)] S (jQvN g SS) := by
  refine jcOf (by decide +kernel) (Nat.le_of_ble_eq_true rfl) rfl ?_
  intro p e s m below meth c E hao hin hM ls hl
  have hl : lv_has ls 3 [(0, .ref (g.2.2 + a0))] := hl
  exact B_X11_init_0 hao hin E hf (Nat.le_refl _) hM hl
-- X12_init
set_option maxRecDepth 100000 in
noncomputable def f_X12_init_0 (n0 : Nat) (v0 : Nat) (S : jM) : Option jM := if jK (jn S) = 13 then if jLen (jn S) = ((1500 : Int32)).toNatClampNeg then if jn S + 1 ≤ n0 + 52 then jlet (jnew S) (fun S4 => if v0 < jn S4 then if jK v0 = 10 then jlet (jsR S4 88 v0 (some (jn S))) (fun S7 => if jK (jn S7) = 13 then if jLen (jn S7) = ((1500 : Int32)).toNatClampNeg then if jn S7 + 1 ≤ n0 + 52 then jlet (jnew S7) (fun S11 => if v0 < jn S11 then jlet (jsR S11 89 v0 (some (jn S7))) (fun S13 => if jK (jn S13) = 14 then if jLen (jn S13) = ((18000 : Int32)).toNatClampNeg then if jn S13 + 1 ≤ n0 + 52 then jlet (jnew S13) (fun S17 => if v0 < jn S17 then jlet (jsR S17 90 v0 (some (jn S13))) (fun S19 => if jK (jn S19) = 12 then if jLen (jn S19) = ((18000 : Int32)).toNatClampNeg then if jn S19 + 1 ≤ n0 + 52 then jlet (jnew S19) (fun S23 => if v0 < jn S23 then jlet (jsR S23 91 v0 (some (jn S19))) (fun S25 => if jK (jn S25) = 13 then if jLen (jn S25) = ((1600 : Int32)).toNatClampNeg then if jn S25 + 1 ≤ n0 + 52 then jlet (jnew S25) (fun S29 => if v0 < jn S29 then jlet (jsR S29 93 v0 (some (jn S25))) (fun S31 => if jK (jn S31) = 13 then if jLen (jn S31) = ((1602 : Int32)).toNatClampNeg then if jn S31 + 1 ≤ n0 + 52 then jlet (jnew S31) (fun S35 => if v0 < jn S35 then jlet (jsR S35 95 v0 (some (jn S31))) (fun S37 => if jK (jn S37) = 13 then if jLen (jn S37) = ((1602 : Int32)).toNatClampNeg then if jn S37 + 1 ≤ n0 + 52 then jlet (jnew S37) (fun S41 => if v0 < jn S41 then jlet (jsR S41 96 v0 (some (jn S37))) (fun S43 => if jK (jn S43) = 14 then if jLen (jn S43) = ((1602 : Int32)).toNatClampNeg then if jn S43 + 1 ≤ n0 + 52 then jlet (jnew S43) (fun S47 => if v0 < jn S47 then jlet (jsR S47 97 v0 (some (jn S43))) (fun S49 => if jK (jn S49) = 13 then if jLen (jn S49) = ((1602 : Int32)).toNatClampNeg then if jn S49 + 1 ≤ n0 + 52 then jlet (jnew S49) (fun S53 => if v0 < jn S53 then jlet (jsR S53 98 v0 (some (jn S49))) (fun S55 => if jK (jn S55) = 13 then if jLen (jn S55) = ((9933 : Int32)).toNatClampNeg then if jn S55 + 1 ≤ n0 + 52 then jlet (jnew S55) (fun S59 => if v0 < jn S59 then jlet (jsR S59 103 v0 (some (jn S55))) (fun S61 => if jK (jn S61) = 13 then if jLen (jn S61) = ((9933 : Int32)).toNatClampNeg then if jn S61 + 1 ≤ n0 + 52 then jlet (jnew S61) (fun S65 => if v0 < jn S65 then jlet (jsR S65 104 v0 (some (jn S61))) (fun S67 => if jK (jn S67) = 13 then if jLen (jn S67) = ((9933 : Int32)).toNatClampNeg then if jn S67 + 1 ≤ n0 + 52 then jlet (jnew S67) (fun S71 => if v0 < jn S71 then jlet (jsR S71 105 v0 (some (jn S67))) (fun S73 => if jK (jn S73) = 13 then if jLen (jn S73) = ((9933 : Int32)).toNatClampNeg then if jn S73 + 1 ≤ n0 + 52 then jlet (jnew S73) (fun S77 => if v0 < jn S77 then jlet (jsR S77 106 v0 (some (jn S73))) (fun S79 => if jK (jn S79) = 14 then if jLen (jn S79) = ((9933 : Int32)).toNatClampNeg then if jn S79 + 1 ≤ n0 + 52 then jlet (jnew S79) (fun S83 => if v0 < jn S83 then jlet (jsR S83 107 v0 (some (jn S79))) (fun S85 => if jK (jn S85) = 13 then if jLen (jn S85) = ((9933 : Int32)).toNatClampNeg then if jn S85 + 1 ≤ n0 + 52 then jlet (jnew S85) (fun S89 => if v0 < jn S89 then jlet (jsR S89 108 v0 (some (jn S85))) (fun S91 => if jK (jn S91) = 13 then if jLen (jn S91) = ((33 : Int32)).toNatClampNeg then if jn S91 + 1 ≤ n0 + 52 then jlet (jnew S91) (fun S95 => if v0 < jn S95 then jlet (jsR S95 109 v0 (some (jn S91))) (fun S97 => if jK (jn S97) = 13 then if jLen (jn S97) = ((33 : Int32)).toNatClampNeg then if jn S97 + 1 ≤ n0 + 52 then jlet (jnew S97) (fun S101 => if v0 < jn S101 then jlet (jsR S101 110 v0 (some (jn S97))) (fun S103 => if jK (jn S103) = 14 then if jLen (jn S103) = ((792 : Int32)).toNatClampNeg then if jn S103 + 1 ≤ n0 + 52 then jlet (jnew S103) (fun S107 => if v0 < jn S107 then jlet (jsR S107 111 v0 (some (jn S103))) (fun S109 => if jK (jn S109) = 13 then if jLen (jn S109) = ((792 : Int32)).toNatClampNeg then if jn S109 + 1 ≤ n0 + 52 then jlet (jnew S109) (fun S113 => if v0 < jn S113 then jlet (jsR S113 112 v0 (some (jn S109))) (fun S115 => if jK (jn S115) = 14 then if jLen (jn S115) = ((24 : Int32)).toNatClampNeg then if jn S115 + 1 ≤ n0 + 52 then jlet (jnew S115) (fun S119 => if v0 < jn S119 then jlet (jsR S119 115 v0 (some (jn S115))) (fun S121 => if jK (jn S121) = 13 then if jLen (jn S121) = ((24 : Int32)).toNatClampNeg then if jn S121 + 1 ≤ n0 + 52 then jlet (jnew S121) (fun S125 => if v0 < jn S125 then jlet (jsR S125 116 v0 (some (jn S121))) (fun S127 => if jK (jn S127) = 13 then if jLen (jn S127) = ((24 : Int32)).toNatClampNeg then if jn S127 + 1 ≤ n0 + 52 then jlet (jnew S127) (fun S131 => if v0 < jn S131 then jlet (jsR S131 128 v0 (some (jn S127))) (fun S133 => if jK (jn S133) = 13 then if jLen (jn S133) = ((24 : Int32)).toNatClampNeg then if jn S133 + 1 ≤ n0 + 52 then jlet (jnew S133) (fun S137 => if v0 < jn S137 then jlet (jsR S137 129 v0 (some (jn S133))) (fun S139 => if jK (jn S139) = 13 then if jLen (jn S139) = ((24 : Int32)).toNatClampNeg then if jn S139 + 1 ≤ n0 + 52 then jlet (jnew S139) (fun S143 => if v0 < jn S143 then jlet (jsR S143 130 v0 (some (jn S139))) (fun S145 => if jK (jn S145) = 13 then if jLen (jn S145) = ((24 : Int32)).toNatClampNeg then if jn S145 + 1 ≤ n0 + 52 then jlet (jnew S145) (fun S149 => if v0 < jn S149 then jlet (jsR S149 131 v0 (some (jn S145))) (fun S151 => if jK (jn S151) = 13 then if jLen (jn S151) = ((24 : Int32)).toNatClampNeg then if jn S151 + 1 ≤ n0 + 52 then jlet (jnew S151) (fun S155 => if v0 < jn S155 then jlet (jsR S155 132 v0 (some (jn S151))) (fun S157 => if jK (jn S157) = 14 then if jLen (jn S157) = ((9933 : Int32)).toNatClampNeg then if jn S157 + 1 ≤ n0 + 52 then jlet (jnew S157) (fun S161 => if v0 < jn S161 then jlet (jsR S161 134 v0 (some (jn S157))) (fun S163 => if jK (jn S163) = 15 then if jLen (jn S163) = ((12 : Int32)).toNatClampNeg then if jn S163 + 1 ≤ n0 + 52 then jlet (jnew S163) (fun S167 => if v0 < jn S167 then jlet (jsR S167 135 v0 (some (jn S163))) (fun S169 => if jK (jn S169) = 15 then if jLen (jn S169) = ((16 : Int32)).toNatClampNeg then if jn S169 + 1 ≤ n0 + 52 then jlet (jnew S169) (fun S173 => if v0 < jn S173 then jlet (jsR S173 136 v0 (some (jn S169))) (fun S175 => if jK (jn S175) = 13 then if jLen (jn S175) = ((16 : Int32)).toNatClampNeg then if jn S175 + 1 ≤ n0 + 52 then jlet (jnew S175) (fun S179 => if v0 < jn S179 then jlet (jsR S179 137 v0 (some (jn S175))) (fun S181 => if jK (jn S181) = 13 then if jLen (jn S181) = ((200 : Int32)).toNatClampNeg then if jn S181 + 1 ≤ n0 + 52 then jlet (jnew S181) (fun S185 => if v0 < jn S185 then jlet (jsR S185 140 v0 (some (jn S181))) (fun S187 => if jK (jn S187) = 14 then if jLen (jn S187) = ((200 : Int32)).toNatClampNeg then if jn S187 + 1 ≤ n0 + 52 then jlet (jnew S187) (fun S191 => if v0 < jn S191 then jlet (jsR S191 141 v0 (some (jn S187))) (fun S193 => if jK (jn S193) = 13 then if jLen (jn S193) = ((200 : Int32)).toNatClampNeg then if jn S193 + 1 ≤ n0 + 52 then jlet (jnew S193) (fun S197 => if v0 < jn S197 then jlet (jsR S197 142 v0 (some (jn S193))) (fun S199 => if jK (jn S199) = 13 then if jLen (jn S199) = ((200 : Int32)).toNatClampNeg then if jn S199 + 1 ≤ n0 + 52 then jlet (jnew S199) (fun S203 => if v0 < jn S203 then jlet (jsR S203 143 v0 (some (jn S199))) (fun S205 => if jK (jn S205) = 13 then if jLen (jn S205) = ((200 : Int32)).toNatClampNeg then if jn S205 + 1 ≤ n0 + 52 then jlet (jnew S205) (fun S209 => if v0 < jn S209 then jlet (jsR S209 144 v0 (some (jn S205))) (fun S211 => if jK (jn S211) = 13 then if jLen (jn S211) = ((200 : Int32)).toNatClampNeg then if jn S211 + 1 ≤ n0 + 52 then jlet (jnew S211) (fun S215 => if v0 < jn S215 then jlet (jsR S215 145 v0 (some (jn S211))) (fun S217 => if jK (jn S217) = 13 then if jLen (jn S217) = ((32 : Int32)).toNatClampNeg then if jn S217 + 1 ≤ n0 + 52 then jlet (jnew S217) (fun S221 => if v0 < jn S221 then jlet (jsR S221 147 v0 (some (jn S217))) (fun S223 => if jK (jn S223) = 13 then if jLen (jn S223) = ((4 : Int32)).toNatClampNeg then if jn S223 + 1 ≤ n0 + 52 then jlet (jnew S223) (fun S227 => if v0 < jn S227 then jlet (jsR S227 148 v0 (some (jn S223))) (fun S229 => if v0 < jn S229 then jlet (jsI S229 150 v0 (-1 : Int32)) (fun S231 => if jK (jn S231) = 13 then if jLen (jn S231) = ((24 : Int32)).toNatClampNeg then if jn S231 + 1 ≤ n0 + 52 then jlet (jnew S231) (fun S235 => if v0 < jn S235 then jlet (jsR S235 155 v0 (some (jn S231))) (fun S237 => if jK (jn S237) = 13 then if jLen (jn S237) = ((6 : Int32)).toNatClampNeg then if jn S237 + 1 ≤ n0 + 52 then jlet (jnew S237) (fun S241 => if v0 < jn S241 then jlet (jsR S241 157 v0 (some (jn S237))) (fun S243 => if jK (jn S243) = 13 then if jLen (jn S243) = ((6 : Int32)).toNatClampNeg then if jn S243 + 1 ≤ n0 + 52 then jlet (jnew S243) (fun S247 => if v0 < jn S247 then jlet (jsR S247 158 v0 (some (jn S243))) (fun S249 => if jK (jn S249) = 13 then if jLen (jn S249) = ((6 : Int32)).toNatClampNeg then if jn S249 + 1 ≤ n0 + 52 then jlet (jnew S249) (fun S253 => if v0 < jn S253 then jlet (jsR S253 159 v0 (some (jn S249))) (fun S255 => if jK (jn S255) = 13 then if jLen (jn S255) = ((36 : Int32)).toNatClampNeg then if jn S255 + 1 ≤ n0 + 52 then jlet (jnew S255) (fun S259 => if v0 < jn S259 then jlet (jsR S259 161 v0 (some (jn S255))) (fun S261 => if jK (jn S261) = 13 then if jLen (jn S261) = ((36 : Int32)).toNatClampNeg then if jn S261 + 1 ≤ n0 + 52 then jlet (jnew S261) (fun S265 => if v0 < jn S265 then jlet (jsR S265 162 v0 (some (jn S261))) (fun S267 => if jK (jn S267) = 13 then if jLen (jn S267) = ((6 : Int32)).toNatClampNeg then if jn S267 + 1 ≤ n0 + 52 then jlet (jnew S267) (fun S271 => if v0 < jn S271 then jlet (jsR S271 163 v0 (some (jn S267))) (fun S273 => if v0 < jn S273 then jlet (jsI S273 164 v0 (50 : Int32)) (fun S275 => if v0 < jn S275 then jlet (jsI S275 165 v0 (-1 : Int32)) (fun S277 => if jK (jn S277) = 13 then if jLen (jn S277) = ((6 : Int32)).toNatClampNeg then if jn S277 + 1 ≤ n0 + 52 then jlet (jnew S277) (fun S281 => if v0 < jn S281 then jlet (jsR S281 166 v0 (some (jn S277))) (fun S283 => if jK (jn S283) = 13 then if jLen (jn S283) = ((200 : Int32)).toNatClampNeg then if jn S283 + 1 ≤ n0 + 52 then jlet (jnew S283) (fun S287 => if v0 < jn S287 then jlet (jsR S287 169 v0 (some (jn S283))) (fun S289 => if jK (jn S289) = 13 then if jLen (jn S289) = ((200 : Int32)).toNatClampNeg then if jn S289 + 1 ≤ n0 + 52 then jlet (jnew S289) (fun S293 => if v0 < jn S293 then jlet (jsR S293 170 v0 (some (jn S289))) (fun S295 => if jK (jn S295) = 14 then if jLen (jn S295) = ((800 : Int32)).toNatClampNeg then if jn S295 + 1 ≤ n0 + 52 then jlet (jnew S295) (fun S299 => if v0 < jn S299 then jlet (jsR S299 171 v0 (some (jn S295))) (fun S301 => if jK (jn S301) = 15 then if jLen (jn S301) = ((200 : Int32)).toNatClampNeg then if jn S301 + 1 ≤ n0 + 52 then jlet (jnew S301) (fun S305 => if v0 < jn S305 then jlet (jsR S305 172 v0 (some (jn S301))) (fun S307 => if jK (jn S307) = 15 then if jLen (jn S307) = ((200 : Int32)).toNatClampNeg then if jn S307 + 1 ≤ n0 + 52 then jlet (jnew S307) (fun S311 => if v0 < jn S311 then jlet (jsR S311 173 v0 (some (jn S307))) (fun S313 => if jK (jn S313) = 13 then if jLen (jn S313) = ((1200 : Int32)).toNatClampNeg then if jn S313 + 1 ≤ n0 + 52 then jlet (jnew S313) (fun S317 => if v0 < jn S317 then jlet (jsR S317 174 v0 (some (jn S313))) (fun S319 => if jn S319 = n0 + 52 then some S319 else none) else none) else none else none else none) else none) else none else none else none) else none) else none else none else none) else none) else none else none else none) else none) else none else none else none) else none) else none else none else none) else none) else none else none else none) else none) else none) else none) else none else none else none) else none) else none else none else none) else none) else none else none else none) else none) else none else none else none) else none) else none else none else none) else none) else none else none else none) else none) else none else none else none) else none) else none) else none else none else none) else none) else none else none else none) else none) else none else none else none) else none) else none else none else none) else none) else none else none else none) else none) else none else none else none) else none) else none else none else none) else none) else none else none else none) else none) else none else none else none) else none) else none else none else none) else none) else none else none else none) else none) else none else none else none) else none) else none else none else none) else none) else none else none else none) else none) else none else none else none) else none) else none else none else none) else none) else none else none else none) else none) else none else none else none) else none) else none else none else none) else none) else none else none else none) else none) else none else none else none) else none) else none else none else none) else none) else none else none else none) else none) else none else none else none) else none) else none else none else none) else none) else none else none else none) else none) else none else none else none) else none) else none else none else none) else none) else none else none else none) else none) else none else none else none) else none) else none else none else none) else none) else none else none else none) else none) else none else none else none) else none) else none else none else none) else none) else none else none else none) else none) else none else none else none) else none) else none else none else none) else none else none) else none else none else none
set_option maxRecDepth 100000 in
noncomputable def f_X12_init (a0 : Nat) (S : jM) : Option jM := f_X12_init_0 (jn S) a0 S
set_option maxRecDepth 100000 in
set_option maxHeartbeats 4000000 in
theorem B_X12_init_0 {p : Program} {l : Launch} {e : Env} {s : State} {m : MethodId} {args : Array Value} {below : List Frame} {meth : Method} {c : Code} {g : jG} {n0 : Nat} (hao : jAO s) (hin : meth.name = "<init>") {SS : jM} {v0 : Nat} {S : jM} (E : jEnv p s m args meth c cX12_init "PensionHouseModel" none 1 g)  {H : Heap} {locs : List Loc} {ls : Array Slot} (hf : f_X12_init_0 n0 v0 S = some SS) (h0 : n0 ≤ jn S) (hM : jAtN g S s H locs) (hl : lv_has ls 1 [(0, .ref (g.2.2 + v0))]) : jWC p l e 2 52 n0 s m args below meth c g SS S H locs (F0 m 0 ls []) := by
  obtain ⟨hx, hb, hml, -, hts, hown, hK, -, hstr⟩ := id E
  unfold f_X12_init_0 at hf
  refine lv_aload_n hx hb dX12_init_0 rfl (lv_at hl 0 rfl) ?_
  refine jcObj E lk_6_1 lk_1_28 lk_1_29 hl.1 (Nat.le_of_ble_eq_true rfl) (Nat.le_of_ble_eq_true rfl) dX12_init_1 ?_
  refine lv_aload_n hx hb dX12_init_4 rfl (lv_at hl 0 rfl) ?_
  refine lv_sipush (v := (1500 : Int32)) hx hb dX12_init_5 (by decide) ?_
  obtain ⟨hc1, hf⟩ := jif hf
  obtain ⟨hc2, hf⟩ := jif hf
  obtain ⟨hm3, hf⟩ := jif hf
  refine jcNewa (t0 := 2) E hM h0 hm3 (ty := .int) rfl hc1 (by decide) rfl (fun U cA h => h) (jcell_13 g S _) lk_1_70 (by decide) hc2 (by decide) dX12_init_8 (fun H S4 eS4 h0 hM => ?_)
  have hf := jlet_y eS4 hf
  obtain ⟨hn5, hf⟩ := jif hf
  obtain ⟨hq6, hf⟩ := jif hf
  refine jcPut (S' := jsR S4 88 v0 (some (jn S))) (k := 10) (i := 0) (N := 89) (T := TX12) (fin := true) (ty := .array .int) E hM hn5 hq6 (by decide) rfl (by decide) rfl rfl lk_6_2 (fun _ => ⟨hin, rfl⟩) (by decide +kernel) rfl rfl dX12_init_10 rfl (jV_sR_same g S4 88 v0 (some (jn S))) (fun b r h2 h => jV_sR g S4 88 v0 (some (jn S)) b r h h2) (fun _ _ => rfl) (fun H locs hM => ?_)
  obtain ⟨S7, eS7⟩ : ∃ z, z = jsR S4 88 v0 (some (jn S)) := ⟨_, rfl⟩
  rw [← eS7] at hM ⊢
  have h0 : n0 ≤ jn S7 := by rw [eS7]; exact h0
  have hf := jlet_y eS7 hf
  refine lv_aload_n hx hb dX12_init_13 rfl (lv_at hl 0 rfl) ?_
  refine lv_sipush (v := (1500 : Int32)) hx hb dX12_init_14 (by decide) ?_
  obtain ⟨hc8, hf⟩ := jif hf
  obtain ⟨hc9, hf⟩ := jif hf
  obtain ⟨hm10, hf⟩ := jif hf
  refine jcNewa (t0 := 2) E hM h0 hm10 (ty := .int) rfl hc8 (by decide) rfl (fun U cA h => h) (jcell_13 g S7 _) lk_1_70 (by decide) hc9 (by decide) dX12_init_17 (fun H S11 eS11 h0 hM => ?_)
  have hf := jlet_y eS11 hf
  obtain ⟨hn12, hf⟩ := jif hf
  refine jcPut (S' := jsR S11 89 v0 (some (jn S7))) (k := 10) (i := 1) (N := 89) (T := TX12) (fin := true) (ty := .array .int) E hM hn12 hq6 (by decide) rfl (by decide) rfl rfl lk_6_3 (fun _ => ⟨hin, rfl⟩) (by decide +kernel) rfl rfl dX12_init_19 rfl (jV_sR_same g S11 89 v0 (some (jn S7))) (fun b r h2 h => jV_sR g S11 89 v0 (some (jn S7)) b r h h2) (fun _ _ => rfl) (fun H locs hM => ?_)
  obtain ⟨S13, eS13⟩ : ∃ z, z = jsR S11 89 v0 (some (jn S7)) := ⟨_, rfl⟩
  rw [← eS13] at hM ⊢
  have h0 : n0 ≤ jn S13 := by rw [eS13]; exact h0
  have hf := jlet_y eS13 hf
  refine lv_aload_n hx hb dX12_init_22 rfl (lv_at hl 0 rfl) ?_
  refine lv_sipush (v := (18000 : Int32)) hx hb dX12_init_23 (by decide) ?_
  obtain ⟨hc14, hf⟩ := jif hf
  obtain ⟨hc15, hf⟩ := jif hf
  obtain ⟨hm16, hf⟩ := jif hf
  refine jcNewa (t0 := 3) E hM h0 hm16 (ty := .long) rfl hc14 (by decide) rfl (fun U cA h => h) (jcell_14 g S13 _) lk_1_71 (by decide) hc15 (by decide) dX12_init_26 (fun H S17 eS17 h0 hM => ?_)
  have hf := jlet_y eS17 hf
  obtain ⟨hn18, hf⟩ := jif hf
  refine jcPut (S' := jsR S17 90 v0 (some (jn S13))) (k := 10) (i := 2) (N := 89) (T := TX12) (fin := true) (ty := .array .long) E hM hn18 hq6 (by decide) rfl (by decide) rfl rfl lk_6_4 (fun _ => ⟨hin, rfl⟩) (by decide +kernel) rfl rfl dX12_init_28 rfl (jV_sR_same g S17 90 v0 (some (jn S13))) (fun b r h2 h => jV_sR g S17 90 v0 (some (jn S13)) b r h h2) (fun _ _ => rfl) (fun H locs hM => ?_)
  obtain ⟨S19, eS19⟩ : ∃ z, z = jsR S17 90 v0 (some (jn S13)) := ⟨_, rfl⟩
  rw [← eS19] at hM ⊢
  have h0 : n0 ≤ jn S19 := by rw [eS19]; exact h0
  have hf := jlet_y eS19 hf
  refine lv_aload_n hx hb dX12_init_31 rfl (lv_at hl 0 rfl) ?_
  refine lv_sipush (v := (18000 : Int32)) hx hb dX12_init_32 (by decide) ?_
  obtain ⟨hc20, hf⟩ := jif hf
  obtain ⟨hc21, hf⟩ := jif hf
  obtain ⟨hm22, hf⟩ := jif hf
  refine jcNewa (t0 := 1) E hM h0 hm22 (ty := .double) rfl hc20 (by decide) rfl (fun U cA h => h) (jcell_12 g S19 _) lk_7_30 (by decide) hc21 (by decide) dX12_init_35 (fun H S23 eS23 h0 hM => ?_)
  have hf := jlet_y eS23 hf
  obtain ⟨hn24, hf⟩ := jif hf
  refine jcPut (S' := jsR S23 91 v0 (some (jn S19))) (k := 10) (i := 3) (N := 89) (T := TX12) (fin := true) (ty := .array .double) E hM hn24 hq6 (by decide) rfl (by decide) rfl rfl lk_6_5 (fun _ => ⟨hin, rfl⟩) (by decide +kernel) rfl rfl dX12_init_37 rfl (jV_sR_same g S23 91 v0 (some (jn S19))) (fun b r h2 h => jV_sR g S23 91 v0 (some (jn S19)) b r h h2) (fun _ _ => rfl) (fun H locs hM => ?_)
  obtain ⟨S25, eS25⟩ : ∃ z, z = jsR S23 91 v0 (some (jn S19)) := ⟨_, rfl⟩
  rw [← eS25] at hM ⊢
  have h0 : n0 ≤ jn S25 := by rw [eS25]; exact h0
  have hf := jlet_y eS25 hf
  refine lv_aload_n hx hb dX12_init_40 rfl (lv_at hl 0 rfl) ?_
  refine lv_sipush (v := (1600 : Int32)) hx hb dX12_init_41 (by decide) ?_
  obtain ⟨hc26, hf⟩ := jif hf
  obtain ⟨hc27, hf⟩ := jif hf
  obtain ⟨hm28, hf⟩ := jif hf
  refine jcNewa (t0 := 2) E hM h0 hm28 (ty := .int) rfl hc26 (by decide) rfl (fun U cA h => h) (jcell_13 g S25 _) lk_1_70 (by decide) hc27 (by decide) dX12_init_44 (fun H S29 eS29 h0 hM => ?_)
  have hf := jlet_y eS29 hf
  obtain ⟨hn30, hf⟩ := jif hf
  refine jcPut (S' := jsR S29 93 v0 (some (jn S25))) (k := 10) (i := 5) (N := 89) (T := TX12) (fin := true) (ty := .array .int) E hM hn30 hq6 (by decide) rfl (by decide) rfl rfl lk_6_7 (fun _ => ⟨hin, rfl⟩) (by decide +kernel) rfl rfl dX12_init_46 rfl (jV_sR_same g S29 93 v0 (some (jn S25))) (fun b r h2 h => jV_sR g S29 93 v0 (some (jn S25)) b r h h2) (fun _ _ => rfl) (fun H locs hM => ?_)
  obtain ⟨S31, eS31⟩ : ∃ z, z = jsR S29 93 v0 (some (jn S25)) := ⟨_, rfl⟩
  rw [← eS31] at hM ⊢
  have h0 : n0 ≤ jn S31 := by rw [eS31]; exact h0
  have hf := jlet_y eS31 hf
  refine lv_aload_n hx hb dX12_init_49 rfl (lv_at hl 0 rfl) ?_
  refine lv_sipush (v := (1602 : Int32)) hx hb dX12_init_50 (by decide) ?_
  obtain ⟨hc32, hf⟩ := jif hf
  obtain ⟨hc33, hf⟩ := jif hf
  obtain ⟨hm34, hf⟩ := jif hf
  refine jcNewa (t0 := 2) E hM h0 hm34 (ty := .int) rfl hc32 (by decide) rfl (fun U cA h => h) (jcell_13 g S31 _) lk_1_70 (by decide) hc33 (by decide) dX12_init_53 (fun H S35 eS35 h0 hM => ?_)
  have hf := jlet_y eS35 hf
  obtain ⟨hn36, hf⟩ := jif hf
  refine jcPut (S' := jsR S35 95 v0 (some (jn S31))) (k := 10) (i := 7) (N := 89) (T := TX12) (fin := true) (ty := .array .int) E hM hn36 hq6 (by decide) rfl (by decide) rfl rfl lk_6_9 (fun _ => ⟨hin, rfl⟩) (by decide +kernel) rfl rfl dX12_init_55 rfl (jV_sR_same g S35 95 v0 (some (jn S31))) (fun b r h2 h => jV_sR g S35 95 v0 (some (jn S31)) b r h h2) (fun _ _ => rfl) (fun H locs hM => ?_)
  obtain ⟨S37, eS37⟩ : ∃ z, z = jsR S35 95 v0 (some (jn S31)) := ⟨_, rfl⟩
  rw [← eS37] at hM ⊢
  have h0 : n0 ≤ jn S37 := by rw [eS37]; exact h0
  have hf := jlet_y eS37 hf
  refine lv_aload_n hx hb dX12_init_58 rfl (lv_at hl 0 rfl) ?_
  refine lv_sipush (v := (1602 : Int32)) hx hb dX12_init_59 (by decide) ?_
  obtain ⟨hc38, hf⟩ := jif hf
  obtain ⟨hc39, hf⟩ := jif hf
  obtain ⟨hm40, hf⟩ := jif hf
  refine jcNewa (t0 := 2) E hM h0 hm40 (ty := .int) rfl hc38 (by decide) rfl (fun U cA h => h) (jcell_13 g S37 _) lk_1_70 (by decide) hc39 (by decide) dX12_init_62 (fun H S41 eS41 h0 hM => ?_)
  have hf := jlet_y eS41 hf
  obtain ⟨hn42, hf⟩ := jif hf
  refine jcPut (S' := jsR S41 96 v0 (some (jn S37))) (k := 10) (i := 8) (N := 89) (T := TX12) (fin := true) (ty := .array .int) E hM hn42 hq6 (by decide) rfl (by decide) rfl rfl lk_6_10 (fun _ => ⟨hin, rfl⟩) (by decide +kernel) rfl rfl dX12_init_64 rfl (jV_sR_same g S41 96 v0 (some (jn S37))) (fun b r h2 h => jV_sR g S41 96 v0 (some (jn S37)) b r h h2) (fun _ _ => rfl) (fun H locs hM => ?_)
  obtain ⟨S43, eS43⟩ : ∃ z, z = jsR S41 96 v0 (some (jn S37)) := ⟨_, rfl⟩
  rw [← eS43] at hM ⊢
  have h0 : n0 ≤ jn S43 := by rw [eS43]; exact h0
  have hf := jlet_y eS43 hf
  refine lv_aload_n hx hb dX12_init_67 rfl (lv_at hl 0 rfl) ?_
  refine lv_sipush (v := (1602 : Int32)) hx hb dX12_init_68 (by decide) ?_
  obtain ⟨hc44, hf⟩ := jif hf
  obtain ⟨hc45, hf⟩ := jif hf
  obtain ⟨hm46, hf⟩ := jif hf
  refine jcNewa (t0 := 3) E hM h0 hm46 (ty := .long) rfl hc44 (by decide) rfl (fun U cA h => h) (jcell_14 g S43 _) lk_1_71 (by decide) hc45 (by decide) dX12_init_71 (fun H S47 eS47 h0 hM => ?_)
  have hf := jlet_y eS47 hf
  obtain ⟨hn48, hf⟩ := jif hf
  refine jcPut (S' := jsR S47 97 v0 (some (jn S43))) (k := 10) (i := 9) (N := 89) (T := TX12) (fin := true) (ty := .array .long) E hM hn48 hq6 (by decide) rfl (by decide) rfl rfl lk_6_11 (fun _ => ⟨hin, rfl⟩) (by decide +kernel) rfl rfl dX12_init_73 rfl (jV_sR_same g S47 97 v0 (some (jn S43))) (fun b r h2 h => jV_sR g S47 97 v0 (some (jn S43)) b r h h2) (fun _ _ => rfl) (fun H locs hM => ?_)
  obtain ⟨S49, eS49⟩ : ∃ z, z = jsR S47 97 v0 (some (jn S43)) := ⟨_, rfl⟩
  rw [← eS49] at hM ⊢
  have h0 : n0 ≤ jn S49 := by rw [eS49]; exact h0
  have hf := jlet_y eS49 hf
  refine lv_aload_n hx hb dX12_init_76 rfl (lv_at hl 0 rfl) ?_
  refine lv_sipush (v := (1602 : Int32)) hx hb dX12_init_77 (by decide) ?_
  obtain ⟨hc50, hf⟩ := jif hf
  obtain ⟨hc51, hf⟩ := jif hf
  obtain ⟨hm52, hf⟩ := jif hf
  refine jcNewa (t0 := 2) E hM h0 hm52 (ty := .int) rfl hc50 (by decide) rfl (fun U cA h => h) (jcell_13 g S49 _) lk_1_70 (by decide) hc51 (by decide) dX12_init_80 (fun H S53 eS53 h0 hM => ?_)
  have hf := jlet_y eS53 hf
  obtain ⟨hn54, hf⟩ := jif hf
  refine jcPut (S' := jsR S53 98 v0 (some (jn S49))) (k := 10) (i := 10) (N := 89) (T := TX12) (fin := true) (ty := .array .int) E hM hn54 hq6 (by decide) rfl (by decide) rfl rfl lk_6_12 (fun _ => ⟨hin, rfl⟩) (by decide +kernel) rfl rfl dX12_init_82 rfl (jV_sR_same g S53 98 v0 (some (jn S49))) (fun b r h2 h => jV_sR g S53 98 v0 (some (jn S49)) b r h h2) (fun _ _ => rfl) (fun H locs hM => ?_)
  obtain ⟨S55, eS55⟩ : ∃ z, z = jsR S53 98 v0 (some (jn S49)) := ⟨_, rfl⟩
  rw [← eS55] at hM ⊢
  have h0 : n0 ≤ jn S55 := by rw [eS55]; exact h0
  have hf := jlet_y eS55 hf
  refine lv_aload_n hx hb dX12_init_85 rfl (lv_at hl 0 rfl) ?_
  refine lv_sipush (v := (9933 : Int32)) hx hb dX12_init_86 (by decide) ?_
  obtain ⟨hc56, hf⟩ := jif hf
  obtain ⟨hc57, hf⟩ := jif hf
  obtain ⟨hm58, hf⟩ := jif hf
  refine jcNewa (t0 := 2) E hM h0 hm58 (ty := .int) rfl hc56 (by decide) rfl (fun U cA h => h) (jcell_13 g S55 _) lk_1_70 (by decide) hc57 (by decide) dX12_init_89 (fun H S59 eS59 h0 hM => ?_)
  have hf := jlet_y eS59 hf
  obtain ⟨hn60, hf⟩ := jif hf
  refine jcPut (S' := jsR S59 103 v0 (some (jn S55))) (k := 10) (i := 15) (N := 89) (T := TX12) (fin := true) (ty := .array .int) E hM hn60 hq6 (by decide) rfl (by decide) rfl rfl lk_6_17 (fun _ => ⟨hin, rfl⟩) (by decide +kernel) rfl rfl dX12_init_91 rfl (jV_sR_same g S59 103 v0 (some (jn S55))) (fun b r h2 h => jV_sR g S59 103 v0 (some (jn S55)) b r h h2) (fun _ _ => rfl) (fun H locs hM => ?_)
  obtain ⟨S61, eS61⟩ : ∃ z, z = jsR S59 103 v0 (some (jn S55)) := ⟨_, rfl⟩
  rw [← eS61] at hM ⊢
  have h0 : n0 ≤ jn S61 := by rw [eS61]; exact h0
  have hf := jlet_y eS61 hf
  refine lv_aload_n hx hb dX12_init_94 rfl (lv_at hl 0 rfl) ?_
  refine lv_sipush (v := (9933 : Int32)) hx hb dX12_init_95 (by decide) ?_
  obtain ⟨hc62, hf⟩ := jif hf
  obtain ⟨hc63, hf⟩ := jif hf
  obtain ⟨hm64, hf⟩ := jif hf
  refine jcNewa (t0 := 2) E hM h0 hm64 (ty := .int) rfl hc62 (by decide) rfl (fun U cA h => h) (jcell_13 g S61 _) lk_1_70 (by decide) hc63 (by decide) dX12_init_98 (fun H S65 eS65 h0 hM => ?_)
  have hf := jlet_y eS65 hf
  obtain ⟨hn66, hf⟩ := jif hf
  refine jcPut (S' := jsR S65 104 v0 (some (jn S61))) (k := 10) (i := 16) (N := 89) (T := TX12) (fin := true) (ty := .array .int) E hM hn66 hq6 (by decide) rfl (by decide) rfl rfl lk_6_18 (fun _ => ⟨hin, rfl⟩) (by decide +kernel) rfl rfl dX12_init_100 rfl (jV_sR_same g S65 104 v0 (some (jn S61))) (fun b r h2 h => jV_sR g S65 104 v0 (some (jn S61)) b r h h2) (fun _ _ => rfl) (fun H locs hM => ?_)
  obtain ⟨S67, eS67⟩ : ∃ z, z = jsR S65 104 v0 (some (jn S61)) := ⟨_, rfl⟩
  rw [← eS67] at hM ⊢
  have h0 : n0 ≤ jn S67 := by rw [eS67]; exact h0
  have hf := jlet_y eS67 hf
  refine lv_aload_n hx hb dX12_init_103 rfl (lv_at hl 0 rfl) ?_
  refine lv_sipush (v := (9933 : Int32)) hx hb dX12_init_104 (by decide) ?_
  obtain ⟨hc68, hf⟩ := jif hf
  obtain ⟨hc69, hf⟩ := jif hf
  obtain ⟨hm70, hf⟩ := jif hf
  refine jcNewa (t0 := 2) E hM h0 hm70 (ty := .int) rfl hc68 (by decide) rfl (fun U cA h => h) (jcell_13 g S67 _) lk_1_70 (by decide) hc69 (by decide) dX12_init_107 (fun H S71 eS71 h0 hM => ?_)
  have hf := jlet_y eS71 hf
  obtain ⟨hn72, hf⟩ := jif hf
  refine jcPut (S' := jsR S71 105 v0 (some (jn S67))) (k := 10) (i := 17) (N := 89) (T := TX12) (fin := true) (ty := .array .int) E hM hn72 hq6 (by decide) rfl (by decide) rfl rfl lk_6_19 (fun _ => ⟨hin, rfl⟩) (by decide +kernel) rfl rfl dX12_init_109 rfl (jV_sR_same g S71 105 v0 (some (jn S67))) (fun b r h2 h => jV_sR g S71 105 v0 (some (jn S67)) b r h h2) (fun _ _ => rfl) (fun H locs hM => ?_)
  obtain ⟨S73, eS73⟩ : ∃ z, z = jsR S71 105 v0 (some (jn S67)) := ⟨_, rfl⟩
  rw [← eS73] at hM ⊢
  have h0 : n0 ≤ jn S73 := by rw [eS73]; exact h0
  have hf := jlet_y eS73 hf
  refine lv_aload_n hx hb dX12_init_112 rfl (lv_at hl 0 rfl) ?_
  refine lv_sipush (v := (9933 : Int32)) hx hb dX12_init_113 (by decide) ?_
  obtain ⟨hc74, hf⟩ := jif hf
  obtain ⟨hc75, hf⟩ := jif hf
  obtain ⟨hm76, hf⟩ := jif hf
  refine jcNewa (t0 := 2) E hM h0 hm76 (ty := .int) rfl hc74 (by decide) rfl (fun U cA h => h) (jcell_13 g S73 _) lk_1_70 (by decide) hc75 (by decide) dX12_init_116 (fun H S77 eS77 h0 hM => ?_)
  have hf := jlet_y eS77 hf
  obtain ⟨hn78, hf⟩ := jif hf
  refine jcPut (S' := jsR S77 106 v0 (some (jn S73))) (k := 10) (i := 18) (N := 89) (T := TX12) (fin := true) (ty := .array .int) E hM hn78 hq6 (by decide) rfl (by decide) rfl rfl lk_6_20 (fun _ => ⟨hin, rfl⟩) (by decide +kernel) rfl rfl dX12_init_118 rfl (jV_sR_same g S77 106 v0 (some (jn S73))) (fun b r h2 h => jV_sR g S77 106 v0 (some (jn S73)) b r h h2) (fun _ _ => rfl) (fun H locs hM => ?_)
  obtain ⟨S79, eS79⟩ : ∃ z, z = jsR S77 106 v0 (some (jn S73)) := ⟨_, rfl⟩
  rw [← eS79] at hM ⊢
  have h0 : n0 ≤ jn S79 := by rw [eS79]; exact h0
  have hf := jlet_y eS79 hf
  refine lv_aload_n hx hb dX12_init_121 rfl (lv_at hl 0 rfl) ?_
  refine lv_sipush (v := (9933 : Int32)) hx hb dX12_init_122 (by decide) ?_
  obtain ⟨hc80, hf⟩ := jif hf
  obtain ⟨hc81, hf⟩ := jif hf
  obtain ⟨hm82, hf⟩ := jif hf
  refine jcNewa (t0 := 3) E hM h0 hm82 (ty := .long) rfl hc80 (by decide) rfl (fun U cA h => h) (jcell_14 g S79 _) lk_1_71 (by decide) hc81 (by decide) dX12_init_125 (fun H S83 eS83 h0 hM => ?_)
  have hf := jlet_y eS83 hf
  obtain ⟨hn84, hf⟩ := jif hf
  refine jcPut (S' := jsR S83 107 v0 (some (jn S79))) (k := 10) (i := 19) (N := 89) (T := TX12) (fin := true) (ty := .array .long) E hM hn84 hq6 (by decide) rfl (by decide) rfl rfl lk_6_21 (fun _ => ⟨hin, rfl⟩) (by decide +kernel) rfl rfl dX12_init_127 rfl (jV_sR_same g S83 107 v0 (some (jn S79))) (fun b r h2 h => jV_sR g S83 107 v0 (some (jn S79)) b r h h2) (fun _ _ => rfl) (fun H locs hM => ?_)
  obtain ⟨S85, eS85⟩ : ∃ z, z = jsR S83 107 v0 (some (jn S79)) := ⟨_, rfl⟩
  rw [← eS85] at hM ⊢
  have h0 : n0 ≤ jn S85 := by rw [eS85]; exact h0
  have hf := jlet_y eS85 hf
  refine lv_aload_n hx hb dX12_init_130 rfl (lv_at hl 0 rfl) ?_
  refine lv_sipush (v := (9933 : Int32)) hx hb dX12_init_131 (by decide) ?_
  obtain ⟨hc86, hf⟩ := jif hf
  obtain ⟨hc87, hf⟩ := jif hf
  obtain ⟨hm88, hf⟩ := jif hf
  refine jcNewa (t0 := 2) E hM h0 hm88 (ty := .int) rfl hc86 (by decide) rfl (fun U cA h => h) (jcell_13 g S85 _) lk_1_70 (by decide) hc87 (by decide) dX12_init_134 (fun H S89 eS89 h0 hM => ?_)
  have hf := jlet_y eS89 hf
  obtain ⟨hn90, hf⟩ := jif hf
  refine jcPut (S' := jsR S89 108 v0 (some (jn S85))) (k := 10) (i := 20) (N := 89) (T := TX12) (fin := true) (ty := .array .int) E hM hn90 hq6 (by decide) rfl (by decide) rfl rfl lk_6_22 (fun _ => ⟨hin, rfl⟩) (by decide +kernel) rfl rfl dX12_init_136 rfl (jV_sR_same g S89 108 v0 (some (jn S85))) (fun b r h2 h => jV_sR g S89 108 v0 (some (jn S85)) b r h h2) (fun _ _ => rfl) (fun H locs hM => ?_)
  obtain ⟨S91, eS91⟩ : ∃ z, z = jsR S89 108 v0 (some (jn S85)) := ⟨_, rfl⟩
  rw [← eS91] at hM ⊢
  have h0 : n0 ≤ jn S91 := by rw [eS91]; exact h0
  have hf := jlet_y eS91 hf
  refine lv_aload_n hx hb dX12_init_139 rfl (lv_at hl 0 rfl) ?_
  refine lv_bipush (v := (33 : Int32)) hx hb dX12_init_140 (by decide) ?_
  obtain ⟨hc92, hf⟩ := jif hf
  obtain ⟨hc93, hf⟩ := jif hf
  obtain ⟨hm94, hf⟩ := jif hf
  refine jcNewa (t0 := 2) E hM h0 hm94 (ty := .int) rfl hc92 (by decide) rfl (fun U cA h => h) (jcell_13 g S91 _) lk_1_70 (by decide) hc93 (by decide) dX12_init_142 (fun H S95 eS95 h0 hM => ?_)
  have hf := jlet_y eS95 hf
  obtain ⟨hn96, hf⟩ := jif hf
  refine jcPut (S' := jsR S95 109 v0 (some (jn S91))) (k := 10) (i := 21) (N := 89) (T := TX12) (fin := true) (ty := .array .int) E hM hn96 hq6 (by decide) rfl (by decide) rfl rfl lk_6_23 (fun _ => ⟨hin, rfl⟩) (by decide +kernel) rfl rfl dX12_init_144 rfl (jV_sR_same g S95 109 v0 (some (jn S91))) (fun b r h2 h => jV_sR g S95 109 v0 (some (jn S91)) b r h h2) (fun _ _ => rfl) (fun H locs hM => ?_)
  obtain ⟨S97, eS97⟩ : ∃ z, z = jsR S95 109 v0 (some (jn S91)) := ⟨_, rfl⟩
  rw [← eS97] at hM ⊢
  have h0 : n0 ≤ jn S97 := by rw [eS97]; exact h0
  have hf := jlet_y eS97 hf
  refine lv_aload_n hx hb dX12_init_147 rfl (lv_at hl 0 rfl) ?_
  refine lv_bipush (v := (33 : Int32)) hx hb dX12_init_148 (by decide) ?_
  obtain ⟨hc98, hf⟩ := jif hf
  obtain ⟨hc99, hf⟩ := jif hf
  obtain ⟨hm100, hf⟩ := jif hf
  refine jcNewa (t0 := 2) E hM h0 hm100 (ty := .int) rfl hc98 (by decide) rfl (fun U cA h => h) (jcell_13 g S97 _) lk_1_70 (by decide) hc99 (by decide) dX12_init_150 (fun H S101 eS101 h0 hM => ?_)
  have hf := jlet_y eS101 hf
  obtain ⟨hn102, hf⟩ := jif hf
  refine jcPut (S' := jsR S101 110 v0 (some (jn S97))) (k := 10) (i := 22) (N := 89) (T := TX12) (fin := true) (ty := .array .int) E hM hn102 hq6 (by decide) rfl (by decide) rfl rfl lk_6_24 (fun _ => ⟨hin, rfl⟩) (by decide +kernel) rfl rfl dX12_init_152 rfl (jV_sR_same g S101 110 v0 (some (jn S97))) (fun b r h2 h => jV_sR g S101 110 v0 (some (jn S97)) b r h h2) (fun _ _ => rfl) (fun H locs hM => ?_)
  obtain ⟨S103, eS103⟩ : ∃ z, z = jsR S101 110 v0 (some (jn S97)) := ⟨_, rfl⟩
  rw [← eS103] at hM ⊢
  have h0 : n0 ≤ jn S103 := by rw [eS103]; exact h0
  have hf := jlet_y eS103 hf
  refine lv_aload_n hx hb dX12_init_155 rfl (lv_at hl 0 rfl) ?_
  refine lv_sipush (v := (792 : Int32)) hx hb dX12_init_156 (by decide) ?_
  obtain ⟨hc104, hf⟩ := jif hf
  obtain ⟨hc105, hf⟩ := jif hf
  obtain ⟨hm106, hf⟩ := jif hf
  refine jcNewa (t0 := 3) E hM h0 hm106 (ty := .long) rfl hc104 (by decide) rfl (fun U cA h => h) (jcell_14 g S103 _) lk_1_71 (by decide) hc105 (by decide) dX12_init_159 (fun H S107 eS107 h0 hM => ?_)
  have hf := jlet_y eS107 hf
  obtain ⟨hn108, hf⟩ := jif hf
  refine jcPut (S' := jsR S107 111 v0 (some (jn S103))) (k := 10) (i := 23) (N := 89) (T := TX12) (fin := true) (ty := .array .long) E hM hn108 hq6 (by decide) rfl (by decide) rfl rfl lk_6_25 (fun _ => ⟨hin, rfl⟩) (by decide +kernel) rfl rfl dX12_init_161 rfl (jV_sR_same g S107 111 v0 (some (jn S103))) (fun b r h2 h => jV_sR g S107 111 v0 (some (jn S103)) b r h h2) (fun _ _ => rfl) (fun H locs hM => ?_)
  obtain ⟨S109, eS109⟩ : ∃ z, z = jsR S107 111 v0 (some (jn S103)) := ⟨_, rfl⟩
  rw [← eS109] at hM ⊢
  have h0 : n0 ≤ jn S109 := by rw [eS109]; exact h0
  have hf := jlet_y eS109 hf
  refine lv_aload_n hx hb dX12_init_164 rfl (lv_at hl 0 rfl) ?_
  refine lv_sipush (v := (792 : Int32)) hx hb dX12_init_165 (by decide) ?_
  obtain ⟨hc110, hf⟩ := jif hf
  obtain ⟨hc111, hf⟩ := jif hf
  obtain ⟨hm112, hf⟩ := jif hf
  refine jcNewa (t0 := 2) E hM h0 hm112 (ty := .int) rfl hc110 (by decide) rfl (fun U cA h => h) (jcell_13 g S109 _) lk_1_70 (by decide) hc111 (by decide) dX12_init_168 (fun H S113 eS113 h0 hM => ?_)
  have hf := jlet_y eS113 hf
  obtain ⟨hn114, hf⟩ := jif hf
  refine jcPut (S' := jsR S113 112 v0 (some (jn S109))) (k := 10) (i := 24) (N := 89) (T := TX12) (fin := true) (ty := .array .int) E hM hn114 hq6 (by decide) rfl (by decide) rfl rfl lk_6_26 (fun _ => ⟨hin, rfl⟩) (by decide +kernel) rfl rfl dX12_init_170 rfl (jV_sR_same g S113 112 v0 (some (jn S109))) (fun b r h2 h => jV_sR g S113 112 v0 (some (jn S109)) b r h h2) (fun _ _ => rfl) (fun H locs hM => ?_)
  obtain ⟨S115, eS115⟩ : ∃ z, z = jsR S113 112 v0 (some (jn S109)) := ⟨_, rfl⟩
  rw [← eS115] at hM ⊢
  have h0 : n0 ≤ jn S115 := by rw [eS115]; exact h0
  have hf := jlet_y eS115 hf
  refine lv_aload_n hx hb dX12_init_173 rfl (lv_at hl 0 rfl) ?_
  refine lv_bipush (v := (24 : Int32)) hx hb dX12_init_174 (by decide) ?_
  obtain ⟨hc116, hf⟩ := jif hf
  obtain ⟨hc117, hf⟩ := jif hf
  obtain ⟨hm118, hf⟩ := jif hf
  refine jcNewa (t0 := 3) E hM h0 hm118 (ty := .long) rfl hc116 (by decide) rfl (fun U cA h => h) (jcell_14 g S115 _) lk_1_71 (by decide) hc117 (by decide) dX12_init_176 (fun H S119 eS119 h0 hM => ?_)
  have hf := jlet_y eS119 hf
  obtain ⟨hn120, hf⟩ := jif hf
  refine jcPut (S' := jsR S119 115 v0 (some (jn S115))) (k := 10) (i := 27) (N := 89) (T := TX12) (fin := true) (ty := .array .long) E hM hn120 hq6 (by decide) rfl (by decide) rfl rfl lk_6_29 (fun _ => ⟨hin, rfl⟩) (by decide +kernel) rfl rfl dX12_init_178 rfl (jV_sR_same g S119 115 v0 (some (jn S115))) (fun b r h2 h => jV_sR g S119 115 v0 (some (jn S115)) b r h h2) (fun _ _ => rfl) (fun H locs hM => ?_)
  obtain ⟨S121, eS121⟩ : ∃ z, z = jsR S119 115 v0 (some (jn S115)) := ⟨_, rfl⟩
  rw [← eS121] at hM ⊢
  have h0 : n0 ≤ jn S121 := by rw [eS121]; exact h0
  have hf := jlet_y eS121 hf
  refine lv_aload_n hx hb dX12_init_181 rfl (lv_at hl 0 rfl) ?_
  refine lv_bipush (v := (24 : Int32)) hx hb dX12_init_182 (by decide) ?_
  obtain ⟨hc122, hf⟩ := jif hf
  obtain ⟨hc123, hf⟩ := jif hf
  obtain ⟨hm124, hf⟩ := jif hf
  refine jcNewa (t0 := 2) E hM h0 hm124 (ty := .int) rfl hc122 (by decide) rfl (fun U cA h => h) (jcell_13 g S121 _) lk_1_70 (by decide) hc123 (by decide) dX12_init_184 (fun H S125 eS125 h0 hM => ?_)
  have hf := jlet_y eS125 hf
  obtain ⟨hn126, hf⟩ := jif hf
  refine jcPut (S' := jsR S125 116 v0 (some (jn S121))) (k := 10) (i := 28) (N := 89) (T := TX12) (fin := true) (ty := .array .int) E hM hn126 hq6 (by decide) rfl (by decide) rfl rfl lk_6_30 (fun _ => ⟨hin, rfl⟩) (by decide +kernel) rfl rfl dX12_init_186 rfl (jV_sR_same g S125 116 v0 (some (jn S121))) (fun b r h2 h => jV_sR g S125 116 v0 (some (jn S121)) b r h h2) (fun _ _ => rfl) (fun H locs hM => ?_)
  obtain ⟨S127, eS127⟩ : ∃ z, z = jsR S125 116 v0 (some (jn S121)) := ⟨_, rfl⟩
  rw [← eS127] at hM ⊢
  have h0 : n0 ≤ jn S127 := by rw [eS127]; exact h0
  have hf := jlet_y eS127 hf
  refine lv_aload_n hx hb dX12_init_189 rfl (lv_at hl 0 rfl) ?_
  refine lv_bipush (v := (24 : Int32)) hx hb dX12_init_190 (by decide) ?_
  obtain ⟨hc128, hf⟩ := jif hf
  obtain ⟨hc129, hf⟩ := jif hf
  obtain ⟨hm130, hf⟩ := jif hf
  refine jcNewa (t0 := 2) E hM h0 hm130 (ty := .int) rfl hc128 (by decide) rfl (fun U cA h => h) (jcell_13 g S127 _) lk_1_70 (by decide) hc129 (by decide) dX12_init_192 (fun H S131 eS131 h0 hM => ?_)
  have hf := jlet_y eS131 hf
  obtain ⟨hn132, hf⟩ := jif hf
  refine jcPut (S' := jsR S131 128 v0 (some (jn S127))) (k := 10) (i := 40) (N := 89) (T := TX12) (fin := true) (ty := .array .int) E hM hn132 hq6 (by decide) rfl (by decide) rfl rfl lk_6_42 (fun _ => ⟨hin, rfl⟩) (by decide +kernel) rfl rfl dX12_init_194 rfl (jV_sR_same g S131 128 v0 (some (jn S127))) (fun b r h2 h => jV_sR g S131 128 v0 (some (jn S127)) b r h h2) (fun _ _ => rfl) (fun H locs hM => ?_)
  obtain ⟨S133, eS133⟩ : ∃ z, z = jsR S131 128 v0 (some (jn S127)) := ⟨_, rfl⟩
  rw [← eS133] at hM ⊢
  have h0 : n0 ≤ jn S133 := by rw [eS133]; exact h0
  have hf := jlet_y eS133 hf
  refine lv_aload_n hx hb dX12_init_197 rfl (lv_at hl 0 rfl) ?_
  refine lv_bipush (v := (24 : Int32)) hx hb dX12_init_198 (by decide) ?_
  obtain ⟨hc134, hf⟩ := jif hf
  obtain ⟨hc135, hf⟩ := jif hf
  obtain ⟨hm136, hf⟩ := jif hf
  refine jcNewa (t0 := 2) E hM h0 hm136 (ty := .int) rfl hc134 (by decide) rfl (fun U cA h => h) (jcell_13 g S133 _) lk_1_70 (by decide) hc135 (by decide) dX12_init_200 (fun H S137 eS137 h0 hM => ?_)
  have hf := jlet_y eS137 hf
  obtain ⟨hn138, hf⟩ := jif hf
  refine jcPut (S' := jsR S137 129 v0 (some (jn S133))) (k := 10) (i := 41) (N := 89) (T := TX12) (fin := true) (ty := .array .int) E hM hn138 hq6 (by decide) rfl (by decide) rfl rfl lk_6_43 (fun _ => ⟨hin, rfl⟩) (by decide +kernel) rfl rfl dX12_init_202 rfl (jV_sR_same g S137 129 v0 (some (jn S133))) (fun b r h2 h => jV_sR g S137 129 v0 (some (jn S133)) b r h h2) (fun _ _ => rfl) (fun H locs hM => ?_)
  obtain ⟨S139, eS139⟩ : ∃ z, z = jsR S137 129 v0 (some (jn S133)) := ⟨_, rfl⟩
  rw [← eS139] at hM ⊢
  have h0 : n0 ≤ jn S139 := by rw [eS139]; exact h0
  have hf := jlet_y eS139 hf
  refine lv_aload_n hx hb dX12_init_205 rfl (lv_at hl 0 rfl) ?_
  refine lv_bipush (v := (24 : Int32)) hx hb dX12_init_206 (by decide) ?_
  obtain ⟨hc140, hf⟩ := jif hf
  obtain ⟨hc141, hf⟩ := jif hf
  obtain ⟨hm142, hf⟩ := jif hf
  refine jcNewa (t0 := 2) E hM h0 hm142 (ty := .int) rfl hc140 (by decide) rfl (fun U cA h => h) (jcell_13 g S139 _) lk_1_70 (by decide) hc141 (by decide) dX12_init_208 (fun H S143 eS143 h0 hM => ?_)
  have hf := jlet_y eS143 hf
  obtain ⟨hn144, hf⟩ := jif hf
  refine jcPut (S' := jsR S143 130 v0 (some (jn S139))) (k := 10) (i := 42) (N := 89) (T := TX12) (fin := true) (ty := .array .int) E hM hn144 hq6 (by decide) rfl (by decide) rfl rfl lk_6_44 (fun _ => ⟨hin, rfl⟩) (by decide +kernel) rfl rfl dX12_init_210 rfl (jV_sR_same g S143 130 v0 (some (jn S139))) (fun b r h2 h => jV_sR g S143 130 v0 (some (jn S139)) b r h h2) (fun _ _ => rfl) (fun H locs hM => ?_)
  obtain ⟨S145, eS145⟩ : ∃ z, z = jsR S143 130 v0 (some (jn S139)) := ⟨_, rfl⟩
  rw [← eS145] at hM ⊢
  have h0 : n0 ≤ jn S145 := by rw [eS145]; exact h0
  have hf := jlet_y eS145 hf
  refine lv_aload_n hx hb dX12_init_213 rfl (lv_at hl 0 rfl) ?_
  refine lv_bipush (v := (24 : Int32)) hx hb dX12_init_214 (by decide) ?_
  obtain ⟨hc146, hf⟩ := jif hf
  obtain ⟨hc147, hf⟩ := jif hf
  obtain ⟨hm148, hf⟩ := jif hf
  refine jcNewa (t0 := 2) E hM h0 hm148 (ty := .int) rfl hc146 (by decide) rfl (fun U cA h => h) (jcell_13 g S145 _) lk_1_70 (by decide) hc147 (by decide) dX12_init_216 (fun H S149 eS149 h0 hM => ?_)
  have hf := jlet_y eS149 hf
  obtain ⟨hn150, hf⟩ := jif hf
  refine jcPut (S' := jsR S149 131 v0 (some (jn S145))) (k := 10) (i := 43) (N := 89) (T := TX12) (fin := true) (ty := .array .int) E hM hn150 hq6 (by decide) rfl (by decide) rfl rfl lk_6_45 (fun _ => ⟨hin, rfl⟩) (by decide +kernel) rfl rfl dX12_init_218 rfl (jV_sR_same g S149 131 v0 (some (jn S145))) (fun b r h2 h => jV_sR g S149 131 v0 (some (jn S145)) b r h h2) (fun _ _ => rfl) (fun H locs hM => ?_)
  obtain ⟨S151, eS151⟩ : ∃ z, z = jsR S149 131 v0 (some (jn S145)) := ⟨_, rfl⟩
  rw [← eS151] at hM ⊢
  have h0 : n0 ≤ jn S151 := by rw [eS151]; exact h0
  have hf := jlet_y eS151 hf
  refine lv_aload_n hx hb dX12_init_221 rfl (lv_at hl 0 rfl) ?_
  refine lv_bipush (v := (24 : Int32)) hx hb dX12_init_222 (by decide) ?_
  obtain ⟨hc152, hf⟩ := jif hf
  obtain ⟨hc153, hf⟩ := jif hf
  obtain ⟨hm154, hf⟩ := jif hf
  refine jcNewa (t0 := 2) E hM h0 hm154 (ty := .int) rfl hc152 (by decide) rfl (fun U cA h => h) (jcell_13 g S151 _) lk_1_70 (by decide) hc153 (by decide) dX12_init_224 (fun H S155 eS155 h0 hM => ?_)
  have hf := jlet_y eS155 hf
  obtain ⟨hn156, hf⟩ := jif hf
  refine jcPut (S' := jsR S155 132 v0 (some (jn S151))) (k := 10) (i := 44) (N := 89) (T := TX12) (fin := true) (ty := .array .int) E hM hn156 hq6 (by decide) rfl (by decide) rfl rfl lk_6_46 (fun _ => ⟨hin, rfl⟩) (by decide +kernel) rfl rfl dX12_init_226 rfl (jV_sR_same g S155 132 v0 (some (jn S151))) (fun b r h2 h => jV_sR g S155 132 v0 (some (jn S151)) b r h h2) (fun _ _ => rfl) (fun H locs hM => ?_)
  obtain ⟨S157, eS157⟩ : ∃ z, z = jsR S155 132 v0 (some (jn S151)) := ⟨_, rfl⟩
  rw [← eS157] at hM ⊢
  have h0 : n0 ≤ jn S157 := by rw [eS157]; exact h0
  have hf := jlet_y eS157 hf
  refine lv_aload_n hx hb dX12_init_229 rfl (lv_at hl 0 rfl) ?_
  refine lv_sipush (v := (9933 : Int32)) hx hb dX12_init_230 (by decide) ?_
  obtain ⟨hc158, hf⟩ := jif hf
  obtain ⟨hc159, hf⟩ := jif hf
  obtain ⟨hm160, hf⟩ := jif hf
  refine jcNewa (t0 := 3) E hM h0 hm160 (ty := .long) rfl hc158 (by decide) rfl (fun U cA h => h) (jcell_14 g S157 _) lk_1_71 (by decide) hc159 (by decide) dX12_init_233 (fun H S161 eS161 h0 hM => ?_)
  have hf := jlet_y eS161 hf
  obtain ⟨hn162, hf⟩ := jif hf
  refine jcPut (S' := jsR S161 134 v0 (some (jn S157))) (k := 10) (i := 46) (N := 89) (T := TX12) (fin := true) (ty := .array .long) E hM hn162 hq6 (by decide) rfl (by decide) rfl rfl lk_6_48 (fun _ => ⟨hin, rfl⟩) (by decide +kernel) rfl rfl dX12_init_235 rfl (jV_sR_same g S161 134 v0 (some (jn S157))) (fun b r h2 h => jV_sR g S161 134 v0 (some (jn S157)) b r h h2) (fun _ _ => rfl) (fun H locs hM => ?_)
  obtain ⟨S163, eS163⟩ : ∃ z, z = jsR S161 134 v0 (some (jn S157)) := ⟨_, rfl⟩
  rw [← eS163] at hM ⊢
  have h0 : n0 ≤ jn S163 := by rw [eS163]; exact h0
  have hf := jlet_y eS163 hf
  refine lv_aload_n hx hb dX12_init_238 rfl (lv_at hl 0 rfl) ?_
  refine lv_bipush (v := (12 : Int32)) hx hb dX12_init_239 (by decide) ?_
  obtain ⟨hc164, hf⟩ := jif hf
  obtain ⟨hc165, hf⟩ := jif hf
  obtain ⟨hm166, hf⟩ := jif hf
  refine jcNewa (t0 := 4) E hM h0 hm166 (ty := .boolean) rfl hc164 (by decide) rfl (fun U cA h => h) (jcell_15 g S163 _) lk_1_69 (by decide) hc165 (by decide) dX12_init_241 (fun H S167 eS167 h0 hM => ?_)
  have hf := jlet_y eS167 hf
  obtain ⟨hn168, hf⟩ := jif hf
  refine jcPut (S' := jsR S167 135 v0 (some (jn S163))) (k := 10) (i := 47) (N := 89) (T := TX12) (fin := true) (ty := .array .boolean) E hM hn168 hq6 (by decide) rfl (by decide) rfl rfl lk_6_49 (fun _ => ⟨hin, rfl⟩) (by decide +kernel) rfl rfl dX12_init_243 rfl (jV_sR_same g S167 135 v0 (some (jn S163))) (fun b r h2 h => jV_sR g S167 135 v0 (some (jn S163)) b r h h2) (fun _ _ => rfl) (fun H locs hM => ?_)
  obtain ⟨S169, eS169⟩ : ∃ z, z = jsR S167 135 v0 (some (jn S163)) := ⟨_, rfl⟩
  rw [← eS169] at hM ⊢
  have h0 : n0 ≤ jn S169 := by rw [eS169]; exact h0
  have hf := jlet_y eS169 hf
  refine lv_aload_n hx hb dX12_init_246 rfl (lv_at hl 0 rfl) ?_
  refine lv_bipush (v := (16 : Int32)) hx hb dX12_init_247 (by decide) ?_
  obtain ⟨hc170, hf⟩ := jif hf
  obtain ⟨hc171, hf⟩ := jif hf
  obtain ⟨hm172, hf⟩ := jif hf
  refine jcNewa (t0 := 4) E hM h0 hm172 (ty := .boolean) rfl hc170 (by decide) rfl (fun U cA h => h) (jcell_15 g S169 _) lk_1_69 (by decide) hc171 (by decide) dX12_init_249 (fun H S173 eS173 h0 hM => ?_)
  have hf := jlet_y eS173 hf
  obtain ⟨hn174, hf⟩ := jif hf
  refine jcPut (S' := jsR S173 136 v0 (some (jn S169))) (k := 10) (i := 48) (N := 89) (T := TX12) (fin := true) (ty := .array .boolean) E hM hn174 hq6 (by decide) rfl (by decide) rfl rfl lk_6_50 (fun _ => ⟨hin, rfl⟩) (by decide +kernel) rfl rfl dX12_init_251 rfl (jV_sR_same g S173 136 v0 (some (jn S169))) (fun b r h2 h => jV_sR g S173 136 v0 (some (jn S169)) b r h h2) (fun _ _ => rfl) (fun H locs hM => ?_)
  obtain ⟨S175, eS175⟩ : ∃ z, z = jsR S173 136 v0 (some (jn S169)) := ⟨_, rfl⟩
  rw [← eS175] at hM ⊢
  have h0 : n0 ≤ jn S175 := by rw [eS175]; exact h0
  have hf := jlet_y eS175 hf
  refine lv_aload_n hx hb dX12_init_254 rfl (lv_at hl 0 rfl) ?_
  refine lv_bipush (v := (16 : Int32)) hx hb dX12_init_255 (by decide) ?_
  obtain ⟨hc176, hf⟩ := jif hf
  obtain ⟨hc177, hf⟩ := jif hf
  obtain ⟨hm178, hf⟩ := jif hf
  refine jcNewa (t0 := 2) E hM h0 hm178 (ty := .int) rfl hc176 (by decide) rfl (fun U cA h => h) (jcell_13 g S175 _) lk_1_70 (by decide) hc177 (by decide) dX12_init_257 (fun H S179 eS179 h0 hM => ?_)
  have hf := jlet_y eS179 hf
  obtain ⟨hn180, hf⟩ := jif hf
  refine jcPut (S' := jsR S179 137 v0 (some (jn S175))) (k := 10) (i := 49) (N := 89) (T := TX12) (fin := true) (ty := .array .int) E hM hn180 hq6 (by decide) rfl (by decide) rfl rfl lk_6_51 (fun _ => ⟨hin, rfl⟩) (by decide +kernel) rfl rfl dX12_init_259 rfl (jV_sR_same g S179 137 v0 (some (jn S175))) (fun b r h2 h => jV_sR g S179 137 v0 (some (jn S175)) b r h h2) (fun _ _ => rfl) (fun H locs hM => ?_)
  obtain ⟨S181, eS181⟩ : ∃ z, z = jsR S179 137 v0 (some (jn S175)) := ⟨_, rfl⟩
  rw [← eS181] at hM ⊢
  have h0 : n0 ≤ jn S181 := by rw [eS181]; exact h0
  have hf := jlet_y eS181 hf
  refine lv_aload_n hx hb dX12_init_262 rfl (lv_at hl 0 rfl) ?_
  refine lv_sipush (v := (200 : Int32)) hx hb dX12_init_263 (by decide) ?_
  obtain ⟨hc182, hf⟩ := jif hf
  obtain ⟨hc183, hf⟩ := jif hf
  obtain ⟨hm184, hf⟩ := jif hf
  refine jcNewa (t0 := 2) E hM h0 hm184 (ty := .int) rfl hc182 (by decide) rfl (fun U cA h => h) (jcell_13 g S181 _) lk_1_70 (by decide) hc183 (by decide) dX12_init_266 (fun H S185 eS185 h0 hM => ?_)
  have hf := jlet_y eS185 hf
  obtain ⟨hn186, hf⟩ := jif hf
  refine jcPut (S' := jsR S185 140 v0 (some (jn S181))) (k := 10) (i := 52) (N := 89) (T := TX12) (fin := true) (ty := .array .int) E hM hn186 hq6 (by decide) rfl (by decide) rfl rfl lk_6_54 (fun _ => ⟨hin, rfl⟩) (by decide +kernel) rfl rfl dX12_init_268 rfl (jV_sR_same g S185 140 v0 (some (jn S181))) (fun b r h2 h => jV_sR g S185 140 v0 (some (jn S181)) b r h h2) (fun _ _ => rfl) (fun H locs hM => ?_)
  obtain ⟨S187, eS187⟩ : ∃ z, z = jsR S185 140 v0 (some (jn S181)) := ⟨_, rfl⟩
  rw [← eS187] at hM ⊢
  have h0 : n0 ≤ jn S187 := by rw [eS187]; exact h0
  have hf := jlet_y eS187 hf
  refine lv_aload_n hx hb dX12_init_271 rfl (lv_at hl 0 rfl) ?_
  refine lv_sipush (v := (200 : Int32)) hx hb dX12_init_272 (by decide) ?_
  obtain ⟨hc188, hf⟩ := jif hf
  obtain ⟨hc189, hf⟩ := jif hf
  obtain ⟨hm190, hf⟩ := jif hf
  refine jcNewa (t0 := 3) E hM h0 hm190 (ty := .long) rfl hc188 (by decide) rfl (fun U cA h => h) (jcell_14 g S187 _) lk_1_71 (by decide) hc189 (by decide) dX12_init_275 (fun H S191 eS191 h0 hM => ?_)
  have hf := jlet_y eS191 hf
  obtain ⟨hn192, hf⟩ := jif hf
  refine jcPut (S' := jsR S191 141 v0 (some (jn S187))) (k := 10) (i := 53) (N := 89) (T := TX12) (fin := true) (ty := .array .long) E hM hn192 hq6 (by decide) rfl (by decide) rfl rfl lk_6_55 (fun _ => ⟨hin, rfl⟩) (by decide +kernel) rfl rfl dX12_init_277 rfl (jV_sR_same g S191 141 v0 (some (jn S187))) (fun b r h2 h => jV_sR g S191 141 v0 (some (jn S187)) b r h h2) (fun _ _ => rfl) (fun H locs hM => ?_)
  obtain ⟨S193, eS193⟩ : ∃ z, z = jsR S191 141 v0 (some (jn S187)) := ⟨_, rfl⟩
  rw [← eS193] at hM ⊢
  have h0 : n0 ≤ jn S193 := by rw [eS193]; exact h0
  have hf := jlet_y eS193 hf
  refine lv_aload_n hx hb dX12_init_280 rfl (lv_at hl 0 rfl) ?_
  refine lv_sipush (v := (200 : Int32)) hx hb dX12_init_281 (by decide) ?_
  obtain ⟨hc194, hf⟩ := jif hf
  obtain ⟨hc195, hf⟩ := jif hf
  obtain ⟨hm196, hf⟩ := jif hf
  refine jcNewa (t0 := 2) E hM h0 hm196 (ty := .int) rfl hc194 (by decide) rfl (fun U cA h => h) (jcell_13 g S193 _) lk_1_70 (by decide) hc195 (by decide) dX12_init_284 (fun H S197 eS197 h0 hM => ?_)
  have hf := jlet_y eS197 hf
  obtain ⟨hn198, hf⟩ := jif hf
  refine jcPut (S' := jsR S197 142 v0 (some (jn S193))) (k := 10) (i := 54) (N := 89) (T := TX12) (fin := true) (ty := .array .int) E hM hn198 hq6 (by decide) rfl (by decide) rfl rfl lk_6_56 (fun _ => ⟨hin, rfl⟩) (by decide +kernel) rfl rfl dX12_init_286 rfl (jV_sR_same g S197 142 v0 (some (jn S193))) (fun b r h2 h => jV_sR g S197 142 v0 (some (jn S193)) b r h h2) (fun _ _ => rfl) (fun H locs hM => ?_)
  obtain ⟨S199, eS199⟩ : ∃ z, z = jsR S197 142 v0 (some (jn S193)) := ⟨_, rfl⟩
  rw [← eS199] at hM ⊢
  have h0 : n0 ≤ jn S199 := by rw [eS199]; exact h0
  have hf := jlet_y eS199 hf
  refine lv_aload_n hx hb dX12_init_289 rfl (lv_at hl 0 rfl) ?_
  refine lv_sipush (v := (200 : Int32)) hx hb dX12_init_290 (by decide) ?_
  obtain ⟨hc200, hf⟩ := jif hf
  obtain ⟨hc201, hf⟩ := jif hf
  obtain ⟨hm202, hf⟩ := jif hf
  refine jcNewa (t0 := 2) E hM h0 hm202 (ty := .int) rfl hc200 (by decide) rfl (fun U cA h => h) (jcell_13 g S199 _) lk_1_70 (by decide) hc201 (by decide) dX12_init_293 (fun H S203 eS203 h0 hM => ?_)
  have hf := jlet_y eS203 hf
  obtain ⟨hn204, hf⟩ := jif hf
  refine jcPut (S' := jsR S203 143 v0 (some (jn S199))) (k := 10) (i := 55) (N := 89) (T := TX12) (fin := true) (ty := .array .int) E hM hn204 hq6 (by decide) rfl (by decide) rfl rfl lk_6_57 (fun _ => ⟨hin, rfl⟩) (by decide +kernel) rfl rfl dX12_init_295 rfl (jV_sR_same g S203 143 v0 (some (jn S199))) (fun b r h2 h => jV_sR g S203 143 v0 (some (jn S199)) b r h h2) (fun _ _ => rfl) (fun H locs hM => ?_)
  obtain ⟨S205, eS205⟩ : ∃ z, z = jsR S203 143 v0 (some (jn S199)) := ⟨_, rfl⟩
  rw [← eS205] at hM ⊢
  have h0 : n0 ≤ jn S205 := by rw [eS205]; exact h0
  have hf := jlet_y eS205 hf
  refine lv_aload_n hx hb dX12_init_298 rfl (lv_at hl 0 rfl) ?_
  refine lv_sipush (v := (200 : Int32)) hx hb dX12_init_299 (by decide) ?_
  obtain ⟨hc206, hf⟩ := jif hf
  obtain ⟨hc207, hf⟩ := jif hf
  obtain ⟨hm208, hf⟩ := jif hf
  refine jcNewa (t0 := 2) E hM h0 hm208 (ty := .int) rfl hc206 (by decide) rfl (fun U cA h => h) (jcell_13 g S205 _) lk_1_70 (by decide) hc207 (by decide) dX12_init_302 (fun H S209 eS209 h0 hM => ?_)
  have hf := jlet_y eS209 hf
  obtain ⟨hn210, hf⟩ := jif hf
  refine jcPut (S' := jsR S209 144 v0 (some (jn S205))) (k := 10) (i := 56) (N := 89) (T := TX12) (fin := true) (ty := .array .int) E hM hn210 hq6 (by decide) rfl (by decide) rfl rfl lk_6_58 (fun _ => ⟨hin, rfl⟩) (by decide +kernel) rfl rfl dX12_init_304 rfl (jV_sR_same g S209 144 v0 (some (jn S205))) (fun b r h2 h => jV_sR g S209 144 v0 (some (jn S205)) b r h h2) (fun _ _ => rfl) (fun H locs hM => ?_)
  obtain ⟨S211, eS211⟩ : ∃ z, z = jsR S209 144 v0 (some (jn S205)) := ⟨_, rfl⟩
  rw [← eS211] at hM ⊢
  have h0 : n0 ≤ jn S211 := by rw [eS211]; exact h0
  have hf := jlet_y eS211 hf
  refine lv_aload_n hx hb dX12_init_307 rfl (lv_at hl 0 rfl) ?_
  refine lv_sipush (v := (200 : Int32)) hx hb dX12_init_308 (by decide) ?_
  obtain ⟨hc212, hf⟩ := jif hf
  obtain ⟨hc213, hf⟩ := jif hf
  obtain ⟨hm214, hf⟩ := jif hf
  refine jcNewa (t0 := 2) E hM h0 hm214 (ty := .int) rfl hc212 (by decide) rfl (fun U cA h => h) (jcell_13 g S211 _) lk_1_70 (by decide) hc213 (by decide) dX12_init_311 (fun H S215 eS215 h0 hM => ?_)
  have hf := jlet_y eS215 hf
  obtain ⟨hn216, hf⟩ := jif hf
  refine jcPut (S' := jsR S215 145 v0 (some (jn S211))) (k := 10) (i := 57) (N := 89) (T := TX12) (fin := true) (ty := .array .int) E hM hn216 hq6 (by decide) rfl (by decide) rfl rfl lk_6_59 (fun _ => ⟨hin, rfl⟩) (by decide +kernel) rfl rfl dX12_init_313 rfl (jV_sR_same g S215 145 v0 (some (jn S211))) (fun b r h2 h => jV_sR g S215 145 v0 (some (jn S211)) b r h h2) (fun _ _ => rfl) (fun H locs hM => ?_)
  obtain ⟨S217, eS217⟩ : ∃ z, z = jsR S215 145 v0 (some (jn S211)) := ⟨_, rfl⟩
  rw [← eS217] at hM ⊢
  have h0 : n0 ≤ jn S217 := by rw [eS217]; exact h0
  have hf := jlet_y eS217 hf
  refine lv_aload_n hx hb dX12_init_316 rfl (lv_at hl 0 rfl) ?_
  refine lv_bipush (v := (32 : Int32)) hx hb dX12_init_317 (by decide) ?_
  obtain ⟨hc218, hf⟩ := jif hf
  obtain ⟨hc219, hf⟩ := jif hf
  obtain ⟨hm220, hf⟩ := jif hf
  refine jcNewa (t0 := 2) E hM h0 hm220 (ty := .int) rfl hc218 (by decide) rfl (fun U cA h => h) (jcell_13 g S217 _) lk_1_70 (by decide) hc219 (by decide) dX12_init_319 (fun H S221 eS221 h0 hM => ?_)
  have hf := jlet_y eS221 hf
  obtain ⟨hn222, hf⟩ := jif hf
  refine jcPut (S' := jsR S221 147 v0 (some (jn S217))) (k := 10) (i := 59) (N := 89) (T := TX12) (fin := true) (ty := .array .int) E hM hn222 hq6 (by decide) rfl (by decide) rfl rfl lk_6_61 (fun _ => ⟨hin, rfl⟩) (by decide +kernel) rfl rfl dX12_init_321 rfl (jV_sR_same g S221 147 v0 (some (jn S217))) (fun b r h2 h => jV_sR g S221 147 v0 (some (jn S217)) b r h h2) (fun _ _ => rfl) (fun H locs hM => ?_)
  obtain ⟨S223, eS223⟩ : ∃ z, z = jsR S221 147 v0 (some (jn S217)) := ⟨_, rfl⟩
  rw [← eS223] at hM ⊢
  have h0 : n0 ≤ jn S223 := by rw [eS223]; exact h0
  have hf := jlet_y eS223 hf
  refine lv_aload_n hx hb dX12_init_324 rfl (lv_at hl 0 rfl) ?_
  refine lv_iconst (v := (4 : Int32)) hx hb dX12_init_325 (by decide) ?_
  obtain ⟨hc224, hf⟩ := jif hf
  obtain ⟨hc225, hf⟩ := jif hf
  obtain ⟨hm226, hf⟩ := jif hf
  refine jcNewa (t0 := 2) E hM h0 hm226 (ty := .int) rfl hc224 (by decide) rfl (fun U cA h => h) (jcell_13 g S223 _) lk_1_70 (by decide) hc225 (by decide) dX12_init_326 (fun H S227 eS227 h0 hM => ?_)
  have hf := jlet_y eS227 hf
  obtain ⟨hn228, hf⟩ := jif hf
  refine jcPut (S' := jsR S227 148 v0 (some (jn S223))) (k := 10) (i := 60) (N := 89) (T := TX12) (fin := true) (ty := .array .int) E hM hn228 hq6 (by decide) rfl (by decide) rfl rfl lk_6_62 (fun _ => ⟨hin, rfl⟩) (by decide +kernel) rfl rfl dX12_init_328 rfl (jV_sR_same g S227 148 v0 (some (jn S223))) (fun b r h2 h => jV_sR g S227 148 v0 (some (jn S223)) b r h h2) (fun _ _ => rfl) (fun H locs hM => ?_)
  obtain ⟨S229, eS229⟩ : ∃ z, z = jsR S227 148 v0 (some (jn S223)) := ⟨_, rfl⟩
  rw [← eS229] at hM ⊢
  have h0 : n0 ≤ jn S229 := by rw [eS229]; exact h0
  have hf := jlet_y eS229 hf
  refine lv_aload_n hx hb dX12_init_331 rfl (lv_at hl 0 rfl) ?_
  refine lv_iconst (v := (-1 : Int32)) hx hb dX12_init_332 (by decide) ?_
  obtain ⟨hn230, hf⟩ := jif hf
  refine jcPut (S' := jsI S229 150 v0 (-1 : Int32)) (k := 10) (i := 62) (N := 89) (T := TX12) (fin := false) (ty := .int) E hM hn230 hq6 (by decide) rfl (by decide) rfl rfl lk_6_64 (fun h => by cases h) (by decide +kernel) rfl rfl dX12_init_333 rfl (jV_sI_same g S229 150 v0 (-1 : Int32)) (fun b r h2 h => jV_sI g S229 150 v0 (-1 : Int32) b r h) (fun _ _ => rfl) (fun H locs hM => ?_)
  obtain ⟨S231, eS231⟩ : ∃ z, z = jsI S229 150 v0 (-1 : Int32) := ⟨_, rfl⟩
  rw [← eS231] at hM ⊢
  have h0 : n0 ≤ jn S231 := by rw [eS231]; exact h0
  have hf := jlet_y eS231 hf
  refine lv_aload_n hx hb dX12_init_336 rfl (lv_at hl 0 rfl) ?_
  refine lv_bipush (v := (24 : Int32)) hx hb dX12_init_337 (by decide) ?_
  obtain ⟨hc232, hf⟩ := jif hf
  obtain ⟨hc233, hf⟩ := jif hf
  obtain ⟨hm234, hf⟩ := jif hf
  refine jcNewa (t0 := 2) E hM h0 hm234 (ty := .int) rfl hc232 (by decide) rfl (fun U cA h => h) (jcell_13 g S231 _) lk_1_70 (by decide) hc233 (by decide) dX12_init_339 (fun H S235 eS235 h0 hM => ?_)
  have hf := jlet_y eS235 hf
  obtain ⟨hn236, hf⟩ := jif hf
  refine jcPut (S' := jsR S235 155 v0 (some (jn S231))) (k := 10) (i := 67) (N := 89) (T := TX12) (fin := true) (ty := .array .int) E hM hn236 hq6 (by decide) rfl (by decide) rfl rfl lk_6_69 (fun _ => ⟨hin, rfl⟩) (by decide +kernel) rfl rfl dX12_init_341 rfl (jV_sR_same g S235 155 v0 (some (jn S231))) (fun b r h2 h => jV_sR g S235 155 v0 (some (jn S231)) b r h h2) (fun _ _ => rfl) (fun H locs hM => ?_)
  obtain ⟨S237, eS237⟩ : ∃ z, z = jsR S235 155 v0 (some (jn S231)) := ⟨_, rfl⟩
  rw [← eS237] at hM ⊢
  have h0 : n0 ≤ jn S237 := by rw [eS237]; exact h0
  have hf := jlet_y eS237 hf
  refine lv_aload_n hx hb dX12_init_344 rfl (lv_at hl 0 rfl) ?_
  refine lv_bipush (v := (6 : Int32)) hx hb dX12_init_345 (by decide) ?_
  obtain ⟨hc238, hf⟩ := jif hf
  obtain ⟨hc239, hf⟩ := jif hf
  obtain ⟨hm240, hf⟩ := jif hf
  refine jcNewa (t0 := 2) E hM h0 hm240 (ty := .int) rfl hc238 (by decide) rfl (fun U cA h => h) (jcell_13 g S237 _) lk_1_70 (by decide) hc239 (by decide) dX12_init_347 (fun H S241 eS241 h0 hM => ?_)
  have hf := jlet_y eS241 hf
  obtain ⟨hn242, hf⟩ := jif hf
  refine jcPut (S' := jsR S241 157 v0 (some (jn S237))) (k := 10) (i := 69) (N := 89) (T := TX12) (fin := true) (ty := .array .int) E hM hn242 hq6 (by decide) rfl (by decide) rfl rfl lk_6_71 (fun _ => ⟨hin, rfl⟩) (by decide +kernel) rfl rfl dX12_init_349 rfl (jV_sR_same g S241 157 v0 (some (jn S237))) (fun b r h2 h => jV_sR g S241 157 v0 (some (jn S237)) b r h h2) (fun _ _ => rfl) (fun H locs hM => ?_)
  obtain ⟨S243, eS243⟩ : ∃ z, z = jsR S241 157 v0 (some (jn S237)) := ⟨_, rfl⟩
  rw [← eS243] at hM ⊢
  have h0 : n0 ≤ jn S243 := by rw [eS243]; exact h0
  have hf := jlet_y eS243 hf
  refine lv_aload_n hx hb dX12_init_352 rfl (lv_at hl 0 rfl) ?_
  refine lv_bipush (v := (6 : Int32)) hx hb dX12_init_353 (by decide) ?_
  obtain ⟨hc244, hf⟩ := jif hf
  obtain ⟨hc245, hf⟩ := jif hf
  obtain ⟨hm246, hf⟩ := jif hf
  refine jcNewa (t0 := 2) E hM h0 hm246 (ty := .int) rfl hc244 (by decide) rfl (fun U cA h => h) (jcell_13 g S243 _) lk_1_70 (by decide) hc245 (by decide) dX12_init_355 (fun H S247 eS247 h0 hM => ?_)
  have hf := jlet_y eS247 hf
  obtain ⟨hn248, hf⟩ := jif hf
  refine jcPut (S' := jsR S247 158 v0 (some (jn S243))) (k := 10) (i := 70) (N := 89) (T := TX12) (fin := true) (ty := .array .int) E hM hn248 hq6 (by decide) rfl (by decide) rfl rfl lk_6_72 (fun _ => ⟨hin, rfl⟩) (by decide +kernel) rfl rfl dX12_init_357 rfl (jV_sR_same g S247 158 v0 (some (jn S243))) (fun b r h2 h => jV_sR g S247 158 v0 (some (jn S243)) b r h h2) (fun _ _ => rfl) (fun H locs hM => ?_)
  obtain ⟨S249, eS249⟩ : ∃ z, z = jsR S247 158 v0 (some (jn S243)) := ⟨_, rfl⟩
  rw [← eS249] at hM ⊢
  have h0 : n0 ≤ jn S249 := by rw [eS249]; exact h0
  have hf := jlet_y eS249 hf
  refine lv_aload_n hx hb dX12_init_360 rfl (lv_at hl 0 rfl) ?_
  refine lv_bipush (v := (6 : Int32)) hx hb dX12_init_361 (by decide) ?_
  obtain ⟨hc250, hf⟩ := jif hf
  obtain ⟨hc251, hf⟩ := jif hf
  obtain ⟨hm252, hf⟩ := jif hf
  refine jcNewa (t0 := 2) E hM h0 hm252 (ty := .int) rfl hc250 (by decide) rfl (fun U cA h => h) (jcell_13 g S249 _) lk_1_70 (by decide) hc251 (by decide) dX12_init_363 (fun H S253 eS253 h0 hM => ?_)
  have hf := jlet_y eS253 hf
  obtain ⟨hn254, hf⟩ := jif hf
  refine jcPut (S' := jsR S253 159 v0 (some (jn S249))) (k := 10) (i := 71) (N := 89) (T := TX12) (fin := true) (ty := .array .int) E hM hn254 hq6 (by decide) rfl (by decide) rfl rfl lk_6_73 (fun _ => ⟨hin, rfl⟩) (by decide +kernel) rfl rfl dX12_init_365 rfl (jV_sR_same g S253 159 v0 (some (jn S249))) (fun b r h2 h => jV_sR g S253 159 v0 (some (jn S249)) b r h h2) (fun _ _ => rfl) (fun H locs hM => ?_)
  obtain ⟨S255, eS255⟩ : ∃ z, z = jsR S253 159 v0 (some (jn S249)) := ⟨_, rfl⟩
  rw [← eS255] at hM ⊢
  have h0 : n0 ≤ jn S255 := by rw [eS255]; exact h0
  have hf := jlet_y eS255 hf
  refine lv_aload_n hx hb dX12_init_368 rfl (lv_at hl 0 rfl) ?_
  refine lv_bipush (v := (36 : Int32)) hx hb dX12_init_369 (by decide) ?_
  obtain ⟨hc256, hf⟩ := jif hf
  obtain ⟨hc257, hf⟩ := jif hf
  obtain ⟨hm258, hf⟩ := jif hf
  refine jcNewa (t0 := 2) E hM h0 hm258 (ty := .int) rfl hc256 (by decide) rfl (fun U cA h => h) (jcell_13 g S255 _) lk_1_70 (by decide) hc257 (by decide) dX12_init_371 (fun H S259 eS259 h0 hM => ?_)
  have hf := jlet_y eS259 hf
  obtain ⟨hn260, hf⟩ := jif hf
  refine jcPut (S' := jsR S259 161 v0 (some (jn S255))) (k := 10) (i := 73) (N := 89) (T := TX12) (fin := true) (ty := .array .int) E hM hn260 hq6 (by decide) rfl (by decide) rfl rfl lk_6_75 (fun _ => ⟨hin, rfl⟩) (by decide +kernel) rfl rfl dX12_init_373 rfl (jV_sR_same g S259 161 v0 (some (jn S255))) (fun b r h2 h => jV_sR g S259 161 v0 (some (jn S255)) b r h h2) (fun _ _ => rfl) (fun H locs hM => ?_)
  obtain ⟨S261, eS261⟩ : ∃ z, z = jsR S259 161 v0 (some (jn S255)) := ⟨_, rfl⟩
  rw [← eS261] at hM ⊢
  have h0 : n0 ≤ jn S261 := by rw [eS261]; exact h0
  have hf := jlet_y eS261 hf
  refine lv_aload_n hx hb dX12_init_376 rfl (lv_at hl 0 rfl) ?_
  refine lv_bipush (v := (36 : Int32)) hx hb dX12_init_377 (by decide) ?_
  obtain ⟨hc262, hf⟩ := jif hf
  obtain ⟨hc263, hf⟩ := jif hf
  obtain ⟨hm264, hf⟩ := jif hf
  refine jcNewa (t0 := 2) E hM h0 hm264 (ty := .int) rfl hc262 (by decide) rfl (fun U cA h => h) (jcell_13 g S261 _) lk_1_70 (by decide) hc263 (by decide) dX12_init_379 (fun H S265 eS265 h0 hM => ?_)
  have hf := jlet_y eS265 hf
  obtain ⟨hn266, hf⟩ := jif hf
  refine jcPut (S' := jsR S265 162 v0 (some (jn S261))) (k := 10) (i := 74) (N := 89) (T := TX12) (fin := true) (ty := .array .int) E hM hn266 hq6 (by decide) rfl (by decide) rfl rfl lk_6_76 (fun _ => ⟨hin, rfl⟩) (by decide +kernel) rfl rfl dX12_init_381 rfl (jV_sR_same g S265 162 v0 (some (jn S261))) (fun b r h2 h => jV_sR g S265 162 v0 (some (jn S261)) b r h h2) (fun _ _ => rfl) (fun H locs hM => ?_)
  obtain ⟨S267, eS267⟩ : ∃ z, z = jsR S265 162 v0 (some (jn S261)) := ⟨_, rfl⟩
  rw [← eS267] at hM ⊢
  have h0 : n0 ≤ jn S267 := by rw [eS267]; exact h0
  have hf := jlet_y eS267 hf
  refine lv_aload_n hx hb dX12_init_384 rfl (lv_at hl 0 rfl) ?_
  refine lv_bipush (v := (6 : Int32)) hx hb dX12_init_385 (by decide) ?_
  obtain ⟨hc268, hf⟩ := jif hf
  obtain ⟨hc269, hf⟩ := jif hf
  obtain ⟨hm270, hf⟩ := jif hf
  refine jcNewa (t0 := 2) E hM h0 hm270 (ty := .int) rfl hc268 (by decide) rfl (fun U cA h => h) (jcell_13 g S267 _) lk_1_70 (by decide) hc269 (by decide) dX12_init_387 (fun H S271 eS271 h0 hM => ?_)
  have hf := jlet_y eS271 hf
  obtain ⟨hn272, hf⟩ := jif hf
  refine jcPut (S' := jsR S271 163 v0 (some (jn S267))) (k := 10) (i := 75) (N := 89) (T := TX12) (fin := true) (ty := .array .int) E hM hn272 hq6 (by decide) rfl (by decide) rfl rfl lk_6_77 (fun _ => ⟨hin, rfl⟩) (by decide +kernel) rfl rfl dX12_init_389 rfl (jV_sR_same g S271 163 v0 (some (jn S267))) (fun b r h2 h => jV_sR g S271 163 v0 (some (jn S267)) b r h h2) (fun _ _ => rfl) (fun H locs hM => ?_)
  obtain ⟨S273, eS273⟩ : ∃ z, z = jsR S271 163 v0 (some (jn S267)) := ⟨_, rfl⟩
  rw [← eS273] at hM ⊢
  have h0 : n0 ≤ jn S273 := by rw [eS273]; exact h0
  have hf := jlet_y eS273 hf
  refine lv_aload_n hx hb dX12_init_392 rfl (lv_at hl 0 rfl) ?_
  refine lv_bipush (v := (50 : Int32)) hx hb dX12_init_393 (by decide) ?_
  obtain ⟨hn274, hf⟩ := jif hf
  refine jcPut (S' := jsI S273 164 v0 (50 : Int32)) (k := 10) (i := 76) (N := 89) (T := TX12) (fin := false) (ty := .int) E hM hn274 hq6 (by decide) rfl (by decide) rfl rfl lk_6_78 (fun h => by cases h) (by decide +kernel) rfl rfl dX12_init_395 rfl (jV_sI_same g S273 164 v0 (50 : Int32)) (fun b r h2 h => jV_sI g S273 164 v0 (50 : Int32) b r h) (fun _ _ => rfl) (fun H locs hM => ?_)
  obtain ⟨S275, eS275⟩ : ∃ z, z = jsI S273 164 v0 (50 : Int32) := ⟨_, rfl⟩
  rw [← eS275] at hM ⊢
  have h0 : n0 ≤ jn S275 := by rw [eS275]; exact h0
  have hf := jlet_y eS275 hf
  refine lv_aload_n hx hb dX12_init_398 rfl (lv_at hl 0 rfl) ?_
  refine lv_iconst (v := (-1 : Int32)) hx hb dX12_init_399 (by decide) ?_
  obtain ⟨hn276, hf⟩ := jif hf
  refine jcPut (S' := jsI S275 165 v0 (-1 : Int32)) (k := 10) (i := 77) (N := 89) (T := TX12) (fin := false) (ty := .int) E hM hn276 hq6 (by decide) rfl (by decide) rfl rfl lk_6_79 (fun h => by cases h) (by decide +kernel) rfl rfl dX12_init_400 rfl (jV_sI_same g S275 165 v0 (-1 : Int32)) (fun b r h2 h => jV_sI g S275 165 v0 (-1 : Int32) b r h) (fun _ _ => rfl) (fun H locs hM => ?_)
  obtain ⟨S277, eS277⟩ : ∃ z, z = jsI S275 165 v0 (-1 : Int32) := ⟨_, rfl⟩
  rw [← eS277] at hM ⊢
  have h0 : n0 ≤ jn S277 := by rw [eS277]; exact h0
  have hf := jlet_y eS277 hf
  refine lv_aload_n hx hb dX12_init_403 rfl (lv_at hl 0 rfl) ?_
  refine lv_bipush (v := (6 : Int32)) hx hb dX12_init_404 (by decide) ?_
  obtain ⟨hc278, hf⟩ := jif hf
  obtain ⟨hc279, hf⟩ := jif hf
  obtain ⟨hm280, hf⟩ := jif hf
  refine jcNewa (t0 := 2) E hM h0 hm280 (ty := .int) rfl hc278 (by decide) rfl (fun U cA h => h) (jcell_13 g S277 _) lk_1_70 (by decide) hc279 (by decide) dX12_init_406 (fun H S281 eS281 h0 hM => ?_)
  have hf := jlet_y eS281 hf
  obtain ⟨hn282, hf⟩ := jif hf
  refine jcPut (S' := jsR S281 166 v0 (some (jn S277))) (k := 10) (i := 78) (N := 89) (T := TX12) (fin := true) (ty := .array .int) E hM hn282 hq6 (by decide) rfl (by decide) rfl rfl lk_6_80 (fun _ => ⟨hin, rfl⟩) (by decide +kernel) rfl rfl dX12_init_408 rfl (jV_sR_same g S281 166 v0 (some (jn S277))) (fun b r h2 h => jV_sR g S281 166 v0 (some (jn S277)) b r h h2) (fun _ _ => rfl) (fun H locs hM => ?_)
  obtain ⟨S283, eS283⟩ : ∃ z, z = jsR S281 166 v0 (some (jn S277)) := ⟨_, rfl⟩
  rw [← eS283] at hM ⊢
  have h0 : n0 ≤ jn S283 := by rw [eS283]; exact h0
  have hf := jlet_y eS283 hf
  refine lv_aload_n hx hb dX12_init_411 rfl (lv_at hl 0 rfl) ?_
  refine lv_sipush (v := (200 : Int32)) hx hb dX12_init_412 (by decide) ?_
  obtain ⟨hc284, hf⟩ := jif hf
  obtain ⟨hc285, hf⟩ := jif hf
  obtain ⟨hm286, hf⟩ := jif hf
  refine jcNewa (t0 := 2) E hM h0 hm286 (ty := .int) rfl hc284 (by decide) rfl (fun U cA h => h) (jcell_13 g S283 _) lk_1_70 (by decide) hc285 (by decide) dX12_init_415 (fun H S287 eS287 h0 hM => ?_)
  have hf := jlet_y eS287 hf
  obtain ⟨hn288, hf⟩ := jif hf
  refine jcPut (S' := jsR S287 169 v0 (some (jn S283))) (k := 10) (i := 81) (N := 89) (T := TX12) (fin := true) (ty := .array .int) E hM hn288 hq6 (by decide) rfl (by decide) rfl rfl lk_6_83 (fun _ => ⟨hin, rfl⟩) (by decide +kernel) rfl rfl dX12_init_417 rfl (jV_sR_same g S287 169 v0 (some (jn S283))) (fun b r h2 h => jV_sR g S287 169 v0 (some (jn S283)) b r h h2) (fun _ _ => rfl) (fun H locs hM => ?_)
  obtain ⟨S289, eS289⟩ : ∃ z, z = jsR S287 169 v0 (some (jn S283)) := ⟨_, rfl⟩
  rw [← eS289] at hM ⊢
  have h0 : n0 ≤ jn S289 := by rw [eS289]; exact h0
  have hf := jlet_y eS289 hf
  refine lv_aload_n hx hb dX12_init_420 rfl (lv_at hl 0 rfl) ?_
  refine lv_sipush (v := (200 : Int32)) hx hb dX12_init_421 (by decide) ?_
  obtain ⟨hc290, hf⟩ := jif hf
  obtain ⟨hc291, hf⟩ := jif hf
  obtain ⟨hm292, hf⟩ := jif hf
  refine jcNewa (t0 := 2) E hM h0 hm292 (ty := .int) rfl hc290 (by decide) rfl (fun U cA h => h) (jcell_13 g S289 _) lk_1_70 (by decide) hc291 (by decide) dX12_init_424 (fun H S293 eS293 h0 hM => ?_)
  have hf := jlet_y eS293 hf
  obtain ⟨hn294, hf⟩ := jif hf
  refine jcPut (S' := jsR S293 170 v0 (some (jn S289))) (k := 10) (i := 82) (N := 89) (T := TX12) (fin := true) (ty := .array .int) E hM hn294 hq6 (by decide) rfl (by decide) rfl rfl lk_6_84 (fun _ => ⟨hin, rfl⟩) (by decide +kernel) rfl rfl dX12_init_426 rfl (jV_sR_same g S293 170 v0 (some (jn S289))) (fun b r h2 h => jV_sR g S293 170 v0 (some (jn S289)) b r h h2) (fun _ _ => rfl) (fun H locs hM => ?_)
  obtain ⟨S295, eS295⟩ : ∃ z, z = jsR S293 170 v0 (some (jn S289)) := ⟨_, rfl⟩
  rw [← eS295] at hM ⊢
  have h0 : n0 ≤ jn S295 := by rw [eS295]; exact h0
  have hf := jlet_y eS295 hf
  refine lv_aload_n hx hb dX12_init_429 rfl (lv_at hl 0 rfl) ?_
  refine lv_sipush (v := (800 : Int32)) hx hb dX12_init_430 (by decide) ?_
  obtain ⟨hc296, hf⟩ := jif hf
  obtain ⟨hc297, hf⟩ := jif hf
  obtain ⟨hm298, hf⟩ := jif hf
  refine jcNewa (t0 := 3) E hM h0 hm298 (ty := .long) rfl hc296 (by decide) rfl (fun U cA h => h) (jcell_14 g S295 _) lk_1_71 (by decide) hc297 (by decide) dX12_init_433 (fun H S299 eS299 h0 hM => ?_)
  have hf := jlet_y eS299 hf
  obtain ⟨hn300, hf⟩ := jif hf
  refine jcPut (S' := jsR S299 171 v0 (some (jn S295))) (k := 10) (i := 83) (N := 89) (T := TX12) (fin := true) (ty := .array .long) E hM hn300 hq6 (by decide) rfl (by decide) rfl rfl lk_6_85 (fun _ => ⟨hin, rfl⟩) (by decide +kernel) rfl rfl dX12_init_435 rfl (jV_sR_same g S299 171 v0 (some (jn S295))) (fun b r h2 h => jV_sR g S299 171 v0 (some (jn S295)) b r h h2) (fun _ _ => rfl) (fun H locs hM => ?_)
  obtain ⟨S301, eS301⟩ : ∃ z, z = jsR S299 171 v0 (some (jn S295)) := ⟨_, rfl⟩
  rw [← eS301] at hM ⊢
  have h0 : n0 ≤ jn S301 := by rw [eS301]; exact h0
  have hf := jlet_y eS301 hf
  refine lv_aload_n hx hb dX12_init_438 rfl (lv_at hl 0 rfl) ?_
  refine lv_sipush (v := (200 : Int32)) hx hb dX12_init_439 (by decide) ?_
  obtain ⟨hc302, hf⟩ := jif hf
  obtain ⟨hc303, hf⟩ := jif hf
  obtain ⟨hm304, hf⟩ := jif hf
  refine jcNewa (t0 := 4) E hM h0 hm304 (ty := .boolean) rfl hc302 (by decide) rfl (fun U cA h => h) (jcell_15 g S301 _) lk_1_69 (by decide) hc303 (by decide) dX12_init_442 (fun H S305 eS305 h0 hM => ?_)
  have hf := jlet_y eS305 hf
  obtain ⟨hn306, hf⟩ := jif hf
  refine jcPut (S' := jsR S305 172 v0 (some (jn S301))) (k := 10) (i := 84) (N := 89) (T := TX12) (fin := true) (ty := .array .boolean) E hM hn306 hq6 (by decide) rfl (by decide) rfl rfl lk_6_86 (fun _ => ⟨hin, rfl⟩) (by decide +kernel) rfl rfl dX12_init_444 rfl (jV_sR_same g S305 172 v0 (some (jn S301))) (fun b r h2 h => jV_sR g S305 172 v0 (some (jn S301)) b r h h2) (fun _ _ => rfl) (fun H locs hM => ?_)
  obtain ⟨S307, eS307⟩ : ∃ z, z = jsR S305 172 v0 (some (jn S301)) := ⟨_, rfl⟩
  rw [← eS307] at hM ⊢
  have h0 : n0 ≤ jn S307 := by rw [eS307]; exact h0
  have hf := jlet_y eS307 hf
  refine lv_aload_n hx hb dX12_init_447 rfl (lv_at hl 0 rfl) ?_
  refine lv_sipush (v := (200 : Int32)) hx hb dX12_init_448 (by decide) ?_
  obtain ⟨hc308, hf⟩ := jif hf
  obtain ⟨hc309, hf⟩ := jif hf
  obtain ⟨hm310, hf⟩ := jif hf
  refine jcNewa (t0 := 4) E hM h0 hm310 (ty := .boolean) rfl hc308 (by decide) rfl (fun U cA h => h) (jcell_15 g S307 _) lk_1_69 (by decide) hc309 (by decide) dX12_init_451 (fun H S311 eS311 h0 hM => ?_)
  have hf := jlet_y eS311 hf
  obtain ⟨hn312, hf⟩ := jif hf
  refine jcPut (S' := jsR S311 173 v0 (some (jn S307))) (k := 10) (i := 85) (N := 89) (T := TX12) (fin := true) (ty := .array .boolean) E hM hn312 hq6 (by decide) rfl (by decide) rfl rfl lk_6_87 (fun _ => ⟨hin, rfl⟩) (by decide +kernel) rfl rfl dX12_init_453 rfl (jV_sR_same g S311 173 v0 (some (jn S307))) (fun b r h2 h => jV_sR g S311 173 v0 (some (jn S307)) b r h h2) (fun _ _ => rfl) (fun H locs hM => ?_)
  obtain ⟨S313, eS313⟩ : ∃ z, z = jsR S311 173 v0 (some (jn S307)) := ⟨_, rfl⟩
  rw [← eS313] at hM ⊢
  have h0 : n0 ≤ jn S313 := by rw [eS313]; exact h0
  have hf := jlet_y eS313 hf
  refine lv_aload_n hx hb dX12_init_456 rfl (lv_at hl 0 rfl) ?_
  refine lv_sipush (v := (1200 : Int32)) hx hb dX12_init_457 (by decide) ?_
  obtain ⟨hc314, hf⟩ := jif hf
  obtain ⟨hc315, hf⟩ := jif hf
  obtain ⟨hm316, hf⟩ := jif hf
  refine jcNewa (t0 := 2) E hM h0 hm316 (ty := .int) rfl hc314 (by decide) rfl (fun U cA h => h) (jcell_13 g S313 _) lk_1_70 (by decide) hc315 (by decide) dX12_init_460 (fun H S317 eS317 h0 hM => ?_)
  have hf := jlet_y eS317 hf
  obtain ⟨hn318, hf⟩ := jif hf
  refine jcPut (S' := jsR S317 174 v0 (some (jn S313))) (k := 10) (i := 86) (N := 89) (T := TX12) (fin := true) (ty := .array .int) E hM hn318 hq6 (by decide) rfl (by decide) rfl rfl lk_6_88 (fun _ => ⟨hin, rfl⟩) (by decide +kernel) rfl rfl dX12_init_462 rfl (jV_sR_same g S317 174 v0 (some (jn S313))) (fun b r h2 h => jV_sR g S317 174 v0 (some (jn S313)) b r h h2) (fun _ _ => rfl) (fun H locs hM => ?_)
  obtain ⟨S319, eS319⟩ : ∃ z, z = jsR S317 174 v0 (some (jn S313)) := ⟨_, rfl⟩
  rw [← eS319] at hM ⊢
  have h0 : n0 ≤ jn S319 := by rw [eS319]; exact h0
  have hf := jlet_y eS319 hf
  obtain ⟨hc320, hf⟩ := jif hf
  exact jcRet E hM (jrv hf) hc320 dX12_init_465
theorem ci_X12_init : jCI yX12_init cX12_init 1 0 := ⟨lk_5_239, lk_1_11, lk_6_0, ⟨by decide +kernel, by decide +kernel, by decide +kernel⟩, by decide, rfl⟩
set_option maxRecDepth 100000 in
theorem C_X12_init {l : Launch} {g : jG} {a0 : Nat} {S SS : jM} (hf : f_X12_init a0 S = some SS) : jMetN l g yX12_init cX12_init 1 2 52 (jn S) [.ref (g.2.2 + a0)] S (jQvN g SS) := by
  refine jcOf (by decide +kernel) (Nat.le_of_ble_eq_true rfl) rfl ?_
  intro p e s m below meth c E hao hin hM ls hl
  have hl : lv_has ls 1 [(0, .ref (g.2.2 + a0))] := hl
  exact B_X12_init_0 hao hin E hf (Nat.le_refl _) hM hl
