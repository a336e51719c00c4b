-- PensionHouse.textInForce(II)LPensionHouse$Text;  mode R
noncomputable def f_X11_textInForce_65 (k8 : Nat → Int32 → Int32 → Option Nat → Int32 → jM → Option (Option Nat)) (v0 : Nat) (v1 : Int32) (v2 : Int32) (v3 : Option Nat) (v4 : Int32) (S : jM) : Option (Option Nat) := jlet (v4 + (1 : Int32)) (fun x1 => k8 v0 v1 v2 v3 x1 S)
noncomputable def f_X11_textInForce_62 (k8 : Nat → Int32 → Int32 → Option Nat → Int32 → jM → Option (Option Nat)) (v0 : Nat) (v1 : Int32) (v2 : Int32) (v4 : Int32) (v5 : Nat) (S : jM) : Option (Option Nat) := f_X11_textInForce_65 k8 v0 v1 v2 (some v5) v4 S
noncomputable def f_X11_textInForce_8 : Nat → Nat → Int32 → Int32 → Option Nat → Int32 → jM → Option (Option Nat)
  | 0, _, _, _, _, _, _ => none
  | n + 1, v0, v1, v2, v3, v4, S => if ((v1 + (1 : Int32)) * (8 : Int32)) ≤ v4 then some v3 else if jK v0 = 9 then (jR S 73 v0).bind (fun r4 => if jA r4 18 v4 = true then (jAR S r4 (v4).toNatClampNeg).bind (fun r7 => if jK r7 = 6 then if (jI S 44 r7) = (-1 : Int32) then f_X11_textInForce_65 (f_X11_textInForce_8 n) v0 v1 v2 v3 v4 S else if v2 < (jI S 44 r7) then f_X11_textInForce_65 (f_X11_textInForce_8 n) v0 v1 v2 v3 v4 S else if v3.isNone = true then f_X11_textInForce_62 (f_X11_textInForce_8 n) v0 v1 v2 v4 r7 S else (v3).bind (fun r13 => if jK r13 = 6 then if (jI S 44 r7) ≤ (jI S 44 r13) then f_X11_textInForce_65 (f_X11_textInForce_8 n) v0 v1 v2 v3 v4 S else f_X11_textInForce_62 (f_X11_textInForce_8 n) v0 v1 v2 v4 r7 S else none) else none) else none) else none
noncomputable def f_X11_textInForce (v0 : Nat) (v1 : Int32) (v2 : Int32) (S : jM) : Option (Option Nat) := jlet (v1 * (8 : Int32)) (fun x17 => f_X11_textInForce_8 1100000 v0 v1 v2 none x17 S)
set_option maxRecDepth 100000 in
set_option maxHeartbeats 4000000 in
theorem B_X11_textInForce_65 {p : Program} {l : Launch} {e : Env} {s : State} {m : MethodId} {args : Array Value} {below : List Frame} {meth : Method} {c : Code} {g : jG} {rr : Option Nat} {S : jM} {v0 : Nat} {v1 : Int32} {v2 : Int32} {v3 : Option Nat} {v4 : Int32} {k8 : Nat → Int32 → Int32 → Option Nat → Int32 → jM → Option (Option Nat)} (E : jEnv p s m args meth c cX11_textInForce "PensionHouse" (some (.object "PensionHouse$Text")) 6 g) (hk8 : ∀ (v0 : Nat) (v1 : Int32) (v2 : Int32) (v3 : Option Nat) (v4 : Int32) (H : Heap) (locs : List Loc) (ls : Array Slot), k8 v0 v1 v2 v3 v4 S = some rr → jAt g S s H locs → lv_has ls 6 [(0, .ref (g.2.2 + v0)), (1, .int v1), (2, .int v2), (3, jo g v3), (4, .int v4)] → W p l e (jRm 1 0 0) s m args below meth c H locs 0 0 (MQ below (jQq g rr S) args s 0 0 (jA0 g)) (F0 m 8 ls [])) {H : Heap} {locs : List Loc} {ls : Array Slot} (hf : f_X11_textInForce_65 k8 v0 v1 v2 v3 v4 S = some rr) (hM : jAt g S s H locs) (hl : lv_has ls 6 [(0, .ref (g.2.2 + v0)), (1, .int v1), (2, .int v2), (3, jo g v3), (4, .int v4)]) : W p l e (jRm 1 0 0) s m args below meth c H locs 0 0 (MQ below (jQq g rr S) args s 0 0 (jA0 g)) (F0 m 65 ls []) := by
  obtain ⟨hx, hb, hml, -, hts, hown, hK, -, hstr⟩ := id E
  unfold f_X11_textInForce_65 at hf
  obtain ⟨x1, ex1⟩ : ∃ z, z = v4 + (1 : Int32) := ⟨_, rfl⟩
  have hf := jlet_y ex1 hf
  refine lv_iinc (v := x1) (lv' := [(4, .int x1), (0, .ref (g.2.2 + v0)), (1, .int v1), (2, .int v2), (3, jo g v3)]) hx hb dX11_textInForce_65 hl (k := 4) rfl (by rw [ex1]; rfl) (by decide) (by simp [jo_cat, jc_i, jc_l, jc_r]) (fun ls hl => ?_)
  refine lv_goto (tgt := 8) hx hb dX11_textInForce_68 (by decide) ?_
  exact hk8 v0 v1 v2 v3 x1 _ _ _ hf hM (lv_sub hl [1, 2, 3, 4, 0] rfl)
set_option maxRecDepth 100000 in
set_option maxHeartbeats 4000000 in
theorem B_X11_textInForce_62 {p : Program} {l : Launch} {e : Env} {s : State} {m : MethodId} {args : Array Value} {below : List Frame} {meth : Method} {c : Code} {g : jG} {rr : Option Nat} {S : jM} {v0 : Nat} {v1 : Int32} {v2 : Int32} {v4 : Int32} {v5 : Nat} {k8 : Nat → Int32 → Int32 → Option Nat → Int32 → jM → Option (Option Nat)} (E : jEnv p s m args meth c cX11_textInForce "PensionHouse" (some (.object "PensionHouse$Text")) 6 g) (hk8 : ∀ (v0 : Nat) (v1 : Int32) (v2 : Int32) (v3 : Option Nat) (v4 : Int32) (H : Heap) (locs : List Loc) (ls : Array Slot), k8 v0 v1 v2 v3 v4 S = some rr → jAt g S s H locs → lv_has ls 6 [(0, .ref (g.2.2 + v0)), (1, .int v1), (2, .int v2), (3, jo g v3), (4, .int v4)] → W p l e (jRm 1 0 0) s m args below meth c H locs 0 0 (MQ below (jQq g rr S) args s 0 0 (jA0 g)) (F0 m 8 ls [])) {H : Heap} {locs : List Loc} {ls : Array Slot} (hf : f_X11_textInForce_62 k8 v0 v1 v2 v4 v5 S = some rr) (hM : jAt g S s H locs) (hl : lv_has ls 6 [(0, .ref (g.2.2 + v0)), (1, .int v1), (2, .int v2), (4, .int v4), (5, .ref (g.2.2 + v5))]) : W p l e (jRm 1 0 0) s m args below meth c H locs 0 0 (MQ below (jQq g rr S) args s 0 0 (jA0 g)) (F0 m 62 ls []) := by
  obtain ⟨hx, hb, hml, -, hts, hown, hK, -, hstr⟩ := id E
  unfold f_X11_textInForce_62 at hf
  refine lv_aload hx hb dX11_textInForce_62 (lv_at hl 4 rfl) ?_
  refine lv_astore_n (lv' := [(3, .ref (g.2.2 + v5)), (0, .ref (g.2.2 + v0)), (1, .int v1), (2, .int v2), (4, .int v4), (5, .ref (g.2.2 + v5))]) hx hb dX11_textInForce_64 rfl hl (by decide) rfl (fun ls hl => ?_)
  exact B_X11_textInForce_65 E hk8 hf hM (lv_sub hl [1, 2, 3, 0, 4] rfl)
set_option maxRecDepth 100000 in
set_option maxHeartbeats 4000000 in
theorem B_X11_textInForce_8 {p : Program} {l : Launch} {e : Env} {s : State} {m : MethodId} {args : Array Value} {below : List Frame} {meth : Method} {c : Code} {g : jG} {rr : Option Nat} {S : jM} (E : jEnv p s m args meth c cX11_textInForce "PensionHouse" (some (.object "PensionHouse$Text")) 6 g)  : ∀ (n : Nat) (v0 : Nat) (v1 : Int32) (v2 : Int32) (v3 : Option Nat) (v4 : Int32) (H : Heap) (locs : List Loc) (ls : Array Slot), f_X11_textInForce_8 n v0 v1 v2 v3 v4 S = some rr → jAt g S s H locs → lv_has ls 6 [(0, .ref (g.2.2 + v0)), (1, .int v1), (2, .int v2), (3, jo g v3), (4, .int v4)] → W p l e (jRm 1 0 0) s m args below meth c H locs 0 0 (MQ below (jQq g rr S) args s 0 0 (jA0 g)) (F0 m 8 ls []) := by
  obtain ⟨hx, hb, hml, -, hts, hown, hK, -, hstr⟩ := id E
  intro n
  induction n with
  | zero => intro v0 v1 v2 v3 v4 H locs ls hf hM hl; rw [f_X11_textInForce_8] at hf; cases hf
  | succ n ih =>
    intro v0 v1 v2 v3 v4 H locs ls hf hM hl
    rw [f_X11_textInForce_8] at hf
    refine lv_iload hx hb dX11_textInForce_8 (lv_at hl 4 rfl) ?_
    refine lv_iload_n hx hb dX11_textInForce_10 rfl (lv_at hl 1 rfl) ?_
    refine lv_iconst (v := (1 : Int32)) hx hb dX11_textInForce_11 (by decide) ?_
    refine lv_iadd hx hb dX11_textInForce_12 ?_
    refine lv_bipush (v := (8 : Int32)) hx hb dX11_textInForce_13 (by decide) ?_
    refine lv_imul hx hb dX11_textInForce_15 ?_
    refine lv_icmp_ge (tgt := 71) hx hb dX11_textInForce_16 (by decide) (fun c2 => ?_) (fun c2 => ?_)
    · have hf := jt c2 hf
      refine jaload hx hb dX11_textInForce_71 rfl (lv_at hl 3 rfl) ?_
      exact jaret (jr1 hf) E hM dX11_textInForce_72
    · have hf := jf c2 hf
      refine lv_aload_n hx hb dX11_textInForce_19 rfl (lv_at hl 0 rfl) ?_
      obtain ⟨hq3, hf⟩ := jif hf
      refine gt_73 E hM hq3 lk_2_141 dX11_textInForce_20 ?_
      obtain ⟨r4, hr5, hf⟩ := jb hf
      rw [hr5]
      show W p l e _ s m args below meth c H locs 0 0 _ (F0 m _ ls (.ref (g.2.2 + r4) :: _))
      refine lv_iload hx hb dX11_textInForce_23 (lv_at hl 4 rfl) ?_
      obtain ⟨ha6, hf⟩ := jif hf
      refine jaald (k := 18) (t0 := 7) E hM ha6 (by decide) (by decide) rfl dX11_textInForce_25 ?_
      obtain ⟨r7, hr8, hf⟩ := jb hf
      rw [hr8]
      show W p l e _ s m args below meth c H locs 0 0 _ (F0 m _ ls (.ref (g.2.2 + r7) :: _))
      refine lv_astore (i := 5) (lv' := [(5, .ref (g.2.2 + r7)), (0, .ref (g.2.2 + v0)), (1, .int v1), (2, .int v2), (3, jo g v3), (4, .int v4)]) hx hb dX11_textInForce_26 hl (by decide) (by simp [jo_cat, jc_i, jc_l, jc_r]) (fun ls hl => ?_)
      refine lv_aload hx hb dX11_textInForce_28 (lv_at hl 0 rfl) ?_
      obtain ⟨hq9, hf⟩ := jif hf
      refine gt_44 E hM hq9 lk_1_175 dX11_textInForce_30 ?_
      refine lv_iconst (v := (-1 : Int32)) hx hb dX11_textInForce_33 (by decide) ?_
      refine lv_icmp_eq (tgt := 65) hx hb dX11_textInForce_34 (by decide) (fun c10 => ?_) (fun c10 => ?_)
      · have hf := jt c10 hf
        exact B_X11_textInForce_65 E ih hf hM (lv_sub hl [1, 2, 3, 4, 5] rfl)
      · have hf := jf c10 hf
        refine lv_aload hx hb dX11_textInForce_37 (lv_at hl 0 rfl) ?_
        refine gt_44 E hM hq9 lk_1_175 dX11_textInForce_39 ?_
        refine lv_iload_n hx hb dX11_textInForce_42 rfl (lv_at hl 3 rfl) ?_
        refine lv_icmp_gt (tgt := 65) hx hb dX11_textInForce_43 (by decide) (fun c11 => ?_) (fun c11 => ?_)
        · have hf := jt c11 hf
          exact B_X11_textInForce_65 E ih hf hM (lv_sub hl [1, 2, 3, 4, 5] rfl)
        · have hf := jf c11 hf
          refine jaload hx hb dX11_textInForce_46 rfl (lv_at hl 4 rfl) ?_
          refine jifnull (tgt := 62) hx hb dX11_textInForce_47 (by decide) (fun c12 => ?_) (fun c12 => ?_)
          · have hf := jt c12 hf
            exact B_X11_textInForce_62 E ih hf hM (lv_sub hl [1, 2, 3, 5, 0] rfl)
          · have hf := jf c12 hf
            refine lv_aload hx hb dX11_textInForce_50 (lv_at hl 0 rfl) ?_
            refine gt_44 E hM hq9 lk_1_175 dX11_textInForce_52 ?_
            refine jaload hx hb dX11_textInForce_55 rfl (lv_at hl 4 rfl) ?_
            obtain ⟨r13, hr14, hf⟩ := jb hf
            rw [hr14]
            show W p l e _ s m args below meth c H locs 0 0 _ (F0 m _ ls (.ref (g.2.2 + r13) :: _))
            obtain ⟨hq15, hf⟩ := jif hf
            refine gt_44 E hM hq15 lk_1_175 dX11_textInForce_56 ?_
            refine lv_icmp_le (tgt := 65) hx hb dX11_textInForce_59 (by decide) (fun c16 => ?_) (fun c16 => ?_)
            · have hf := jt c16 hf
              exact B_X11_textInForce_65 E ih hf hM (lv_sub hl [1, 2, 3, 4, 5] rfl)
            · have hf := jf c16 hf
              exact B_X11_textInForce_62 E ih hf hM (lv_sub hl [1, 2, 3, 5, 0] rfl)
set_option maxRecDepth 100000 in
set_option maxHeartbeats 4000000 in
theorem B_X11_textInForce_0 {p : Program} {l : Launch} {e : Env} {s : State} {m : MethodId} {args : Array Value} {below : List Frame} {meth : Method} {c : Code} {g : jG} {rr : Option Nat} {S : jM} {v0 : Nat} {v1 : Int32} {v2 : Int32} (E : jEnv p s m args meth c cX11_textInForce "PensionHouse" (some (.object "PensionHouse$Text")) 6 g)  {H : Heap} {locs : List Loc} {ls : Array Slot} (hf : f_X11_textInForce v0 v1 v2 S = some rr) (hM : jAt g S s H locs) (hl : lv_has ls 6 [(0, .ref (g.2.2 + v0)), (1, .int v1), (2, .int v2)]) : W p l e (jRm 1 0 0) s m args below meth c H locs 0 0 (MQ below (jQq g rr S) args s 0 0 (jA0 g)) (F0 m 0 ls []) := by
  obtain ⟨hx, hb, hml, -, hts, hown, hK, -, hstr⟩ := id E
  unfold f_X11_textInForce at hf
  refine lv_null hx hb dX11_textInForce_0 ?_
  refine jastore (g := g) (r := none) (i := 3) (lv' := [(3, jo g none), (0, .ref (g.2.2 + v0)), (1, .int v1), (2, .int v2)]) hx hb dX11_textInForce_1 rfl hl (by decide) (by simp [jo_cat, jc_i, jc_l, jc_r]) (fun ls hl => ?_)
  refine lv_iload_n hx hb dX11_textInForce_2 rfl (lv_at hl 2 rfl) ?_
  refine lv_bipush (v := (8 : Int32)) hx hb dX11_textInForce_3 (by decide) ?_
  refine lv_imul hx hb dX11_textInForce_5 ?_
  refine lv_topi (fun x17 ex17 => ?_)
  have hf := jlet_y ex17 hf
  refine lv_istore (i := 4) (lv' := [(4, .int x17), (3, jo g none), (0, .ref (g.2.2 + v0)), (1, .int v1), (2, .int v2)]) hx hb dX11_textInForce_6 hl (by decide) (by simp [jo_cat, jc_i, jc_l, jc_r]) (fun ls hl => ?_)
  exact B_X11_textInForce_8 E  1100000 v0 v1 v2 none x17 _ _ _ hf hM (lv_sub hl [2, 3, 4, 1, 0] rfl)
set_option maxRecDepth 100000 in
theorem C_X11_textInForce {l : Launch} {g : jG} {a0 : Nat} {a1 : Int32} {a2 : Int32} {S : jM} {rr : Option Nat} (hf : f_X11_textInForce a0 a1 a2 S = some rr) : jMet l g yX11_textInForce cX11_textInForce 6 (some (.object "PensionHouse$Text")) 1 0 0 [.ref (g.2.2 + a0), .int a1, .int a2] S (jQq g rr S) := by
  refine jof (by decide +kernel) (Nat.le_of_ble_eq_true rfl) ?_
  intro p e s m below meth c E hM ls hl
  have hl : lv_has ls 6 [(0, .ref (g.2.2 + a0)),(1, .int a1),(2, .int a2)] := hl
  exact B_X11_textInForce_0 E hf hM hl
-- PensionHouse.dues(LPensionHouse$Award;III)J  mode M
noncomputable def f_X11_dues_6 : Nat → Nat → Nat → Int32 → Int32 → Int64 → Int32 → jM → Option (Int64 × jM)
  | 0, _, _, _, _, _, _, _ => none
  | n + 1, v0, v1, v3, v4, v5, v7, S => if v3 < v7 then some (v5, S) else jlet (v7 * (30 : Int32)) (fun x2 => if jK v0 = 9 then (jR S 74 v0).bind (fun r4 => (jR S 76 v0).bind (fun r6 => if jK v1 = 0 then (f_X11_textInForce v0 (jI S 1 v1) x2 S).bind (fun x9 => if jK r4 = 8 then (f_X10_work r4 r6 x9 (6583653 : Int64) (jI S 0 v1) x2 v4 S).bind (fun S11 => (jR S11 76 v0).bind (fun r14 => if jK r14 = 1 then (f_X1_cents r14 S11).bind (fun x16 => jlet (v5 + ((if (0 : Int32) < x16 then x16 else (0 : Int32)).toInt64)) (fun x19 => jlet (v7 + (1 : Int32)) (fun x20 => (f_X11_dues_6 n) v0 v1 v3 v4 x19 x20 S11))) else none)) else none) else none)) else none)
noncomputable def f_X11_dues (v0 : Nat) (v1 : Nat) (v2 : Int32) (v3 : Int32) (v4 : Int32) (S : jM) : Option (Int64 × jM) := f_X11_dues_6 1100000 v0 v1 v3 v4 (0 : Int64) v2 S
set_option maxRecDepth 100000 in
set_option maxHeartbeats 4000000 in
theorem B_X11_dues_6 {p : Program} {l : Launch} {e : Env} {s : State} {m : MethodId} {args : Array Value} {below : List Frame} {meth : Method} {c : Code} {g : jG} {rr : Int64} {SS : jM} (E : jEnv p s m args meth c cX11_dues "PensionHouse" (some .long) 9 g)  : ∀ (n : Nat) (v0 : Nat) (v1 : Nat) (v3 : Int32) (v4 : Int32) (v5 : Int64) (v7 : Int32) (S : jM) (H : Heap) (locs : List Loc) (ls : Array Slot), f_X11_dues_6 n v0 v1 v3 v4 v5 v7 S = some (rr, SS) → jAt g S s H locs → lv_has ls 9 [(0, .ref (g.2.2 + v0)), (1, .ref (g.2.2 + v1)), (3, .int v3), (4, .int v4), (5, .long v5), (7, .int v7)] → W p l e (jRm 7 0 0) s m args below meth c H locs 0 0 (MQ below (jQl g rr SS) args s 0 0 (jA0 g)) (F0 m 6 ls []) := by
  obtain ⟨hx, hb, hml, -, hts, hown, hK, -, hstr⟩ := id E
  intro n
  induction n with
  | zero => intro v0 v1 v3 v4 v5 v7 S H locs ls hf hM hl; rw [f_X11_dues_6] at hf; cases hf
  | succ n ih =>
    intro v0 v1 v3 v4 v5 v7 S H locs ls hf hM hl
    rw [f_X11_dues_6] at hf
    refine lv_iload hx hb dX11_dues_6 (lv_at hl 5 rfl) ?_
    refine lv_iload_n hx hb dX11_dues_8 rfl (lv_at hl 2 rfl) ?_
    refine lv_icmp_gt (tgt := 74) hx hb dX11_dues_9 (by decide) (fun c1 => ?_) (fun c1 => ?_)
    · have hf := jt c1 hf
      refine lv_lload hx hb dX11_dues_74 (lv_at hl 4 rfl) ?_
      exact jlret (jr2 hf) E hM dX11_dues_76
    · have hf := jf c1 hf
      refine lv_iload hx hb dX11_dues_12 (lv_at hl 5 rfl) ?_
      refine lv_bipush (v := (30 : Int32)) hx hb dX11_dues_14 (by decide) ?_
      refine lv_imul hx hb dX11_dues_16 ?_
      refine lv_topi (fun x2 ex2 => ?_)
      have hf := jlet_y ex2 hf
      refine lv_istore (lv' := [(8, .int x2), (0, .ref (g.2.2 + v0)), (1, .ref (g.2.2 + v1)), (3, .int v3), (4, .int v4), (5, .long v5), (7, .int v7)]) hx hb dX11_dues_17 hl (by decide) rfl (fun ls hl => ?_)
      refine lv_aload_n hx hb dX11_dues_19 rfl (lv_at hl 1 rfl) ?_
      obtain ⟨hq3, hf⟩ := jif hf
      refine gt_74 E hM hq3 lk_2_142 dX11_dues_20 ?_
      obtain ⟨r4, hr5, hf⟩ := jb hf
      rw [hr5]
      show W p l e _ s m args below meth c H locs 0 0 _ (F0 m _ ls (.ref (g.2.2 + r4) :: _))
      refine lv_aload_n hx hb dX11_dues_23 rfl (lv_at hl 1 rfl) ?_
      refine gt_76 E hM hq3 lk_2_144 dX11_dues_24 ?_
      obtain ⟨r6, hr7, hf⟩ := jb hf
      rw [hr7]
      show W p l e _ s m args below meth c H locs 0 0 _ (F0 m _ ls (.ref (g.2.2 + r6) :: _))
      refine lv_aload_n hx hb dX11_dues_27 rfl (lv_at hl 1 rfl) ?_
      refine lv_aload_n hx hb dX11_dues_28 rfl (lv_at hl 2 rfl) ?_
      obtain ⟨hq8, hf⟩ := jif hf
      refine gt_1 E hM hq8 lk_2_117 dX11_dues_29 ?_
      refine lv_iload hx hb dX11_dues_32 (lv_at hl 0 rfl) ?_
      obtain ⟨x9, hc10, hf⟩ := jb hf
      refine jbackQ hM (jrunV E hM ci_X11_textInForce (C_X11_textInForce hc10) lk_4_137 hq3 (by decide) rfl hl.1 rfl rfl (Nat.le_of_ble_eq_true rfl) ⟨Nat.le_of_ble_eq_true rfl, Nat.le_of_ble_eq_true rfl⟩ ⟨Nat.le_refl _, Nat.le_refl _⟩ dX11_dues_34) (fun H locs hM => ?_)
      refine lv_ldc2 (v := (6583653 : Int64)) hx hb hown (hts _ lk_5_139) dX11_dues_37 ?_
      refine lv_aload_n hx hb dX11_dues_40 rfl (lv_at hl 2 rfl) ?_
      refine gt_0 E hM hq8 lk_2_116 dX11_dues_41 ?_
      refine lv_iload hx hb dX11_dues_44 (lv_at hl 0 rfl) ?_
      refine lv_iload hx hb dX11_dues_46 (lv_at hl 4 rfl) ?_
      obtain ⟨hq13, hf⟩ := jif hf
      obtain ⟨S11, hc12, hf⟩ := jb hf
      refine jbackV hM (jrunV E hM ci_X10_work (C_X10_work hc12) lk_4_146 hq13 (by decide) rfl hl.1 rfl rfl (Nat.le_of_ble_eq_true rfl) ⟨Nat.le_of_ble_eq_true rfl, Nat.le_of_ble_eq_true rfl⟩ ⟨Nat.le_refl _, Nat.le_refl _⟩ dX11_dues_48) (fun H locs hM => ?_)
      refine lv_lload hx hb dX11_dues_51 (lv_at hl 5 rfl) ?_
      refine lv_iconst (v := (0 : Int32)) hx hb dX11_dues_53 (by decide) ?_
      refine lv_aload_n hx hb dX11_dues_54 rfl (lv_at hl 1 rfl) ?_
      refine gt_76 E hM hq3 lk_2_144 dX11_dues_55 ?_
      obtain ⟨r14, hr15, hf⟩ := jb hf
      rw [hr15]
      show W p l e _ s m args below meth c H locs 0 0 _ (F0 m _ ls (.ref (g.2.2 + r14) :: _))
      obtain ⟨hq18, hf⟩ := jif hf
      obtain ⟨x16, hc17, hf⟩ := jb hf
      refine jbackI hM (jrunV E hM ci_X1_cents (C_X1_cents hc17) lk_5_168 hq18 (by decide) rfl hl.1 rfl rfl (Nat.le_of_ble_eq_true rfl) ⟨Nat.le_of_ble_eq_true rfl, Nat.le_of_ble_eq_true rfl⟩ ⟨Nat.le_refl _, Nat.le_refl _⟩ dX11_dues_58) (fun H locs hM => ?_)
      refine va_mmax hx hb (by rw [hml, hl.1]) hown (hts _ lk_5_175) (hts _ lk_3_167) (hts _ lk_1_18) (hts _ lk_3_168) (Nat.le_of_ble_eq_true rfl) (Nat.le_of_ble_eq_true rfl) (Nat.le_refl _) (Nat.le_refl _) dX11_dues_61 ?_
      refine lv_i2l hx hb dX11_dues_64 rfl ?_
      refine lv_ladd hx hb dX11_dues_65 ?_
      refine lv_topl (fun x19 ex19 => ?_)
      have hf := jlet_y ex19 hf
      refine lv_lstore (lv' := [(5, .long x19), (8, .int x2), (0, .ref (g.2.2 + v0)), (1, .ref (g.2.2 + v1)), (3, .int v3), (4, .int v4), (7, .int v7)]) hx hb dX11_dues_66 hl (by decide) rfl (fun ls hl => ?_)
      obtain ⟨x20, ex20⟩ : ∃ z, z = v7 + (1 : Int32) := ⟨_, rfl⟩
      have hf := jlet_y ex20 hf
      refine lv_iinc (v := x20) (lv' := [(7, .int x20), (5, .long x19), (8, .int x2), (0, .ref (g.2.2 + v0)), (1, .ref (g.2.2 + v1)), (3, .int v3), (4, .int v4)]) hx hb dX11_dues_68 hl (k := 6) rfl (by rw [ex20]; rfl) (by decide) rfl (fun ls hl => ?_)
      refine lv_goto (tgt := 6) hx hb dX11_dues_71 (by decide) ?_
      exact ih v0 v1 v3 v4 x19 x20 S11 _ _ _ hf hM (lv_sub hl [3, 4, 5, 6, 1, 0] rfl)
set_option maxRecDepth 100000 in
set_option maxHeartbeats 4000000 in
theorem B_X11_dues_0 {p : Program} {l : Launch} {e : Env} {s : State} {m : MethodId} {args : Array Value} {below : List Frame} {meth : Method} {c : Code} {g : jG} {rr : Int64} {SS : jM} {v0 : Nat} {v1 : Nat} {v2 : Int32} {v3 : Int32} {v4 : Int32} {S : jM} (E : jEnv p s m args meth c cX11_dues "PensionHouse" (some .long) 9 g)  {H : Heap} {locs : List Loc} {ls : Array Slot} (hf : f_X11_dues v0 v1 v2 v3 v4 S = some (rr, SS)) (hM : jAt g S s H locs) (hl : lv_has ls 9 [(0, .ref (g.2.2 + v0)), (1, .ref (g.2.2 + v1)), (2, .int v2), (3, .int v3), (4, .int v4)]) : W p l e (jRm 7 0 0) s m args below meth c H locs 0 0 (MQ below (jQl g rr SS) args s 0 0 (jA0 g)) (F0 m 0 ls []) := by
  obtain ⟨hx, hb, hml, -, hts, hown, hK, -, hstr⟩ := id E
  unfold f_X11_dues at hf
  refine lv_lconst (v := (0 : Int64)) hx hb dX11_dues_0 (by decide) ?_
  refine lv_lstore (lv' := [(5, .long (0 : Int64)), (0, .ref (g.2.2 + v0)), (1, .ref (g.2.2 + v1)), (2, .int v2), (3, .int v3), (4, .int v4)]) hx hb dX11_dues_1 hl (by decide) rfl (fun ls hl => ?_)
  refine lv_iload_n hx hb dX11_dues_3 rfl (lv_at hl 3 rfl) ?_
  refine lv_istore (lv' := [(7, .int v2), (5, .long (0 : Int64)), (0, .ref (g.2.2 + v0)), (1, .ref (g.2.2 + v1)), (2, .int v2), (3, .int v3), (4, .int v4)]) hx hb dX11_dues_4 hl (by decide) rfl (fun ls hl => ?_)
  exact B_X11_dues_6 E  1100000 v0 v1 v3 v4 (0 : Int64) v2 S _ _ _ hf hM (lv_sub hl [2, 3, 5, 6, 1, 0] rfl)
set_option maxRecDepth 100000 in
theorem C_X11_dues {l : Launch} {g : jG} {a0 : Nat} {a1 : Nat} {a2 : Int32} {a3 : Int32} {a4 : Int32} {S : jM} {rr : Int64} {SS : jM} (hf : f_X11_dues a0 a1 a2 a3 a4 S = some (rr, SS)) : jMet l g yX11_dues cX11_dues 9 (some .long) 7 0 0 [.ref (g.2.2 + a0), .ref (g.2.2 + a1), .int a2, .int a3, .int a4] S (jQl g rr SS) := by
  refine jof (by decide +kernel) (Nat.le_of_ble_eq_true rfl) ?_
  intro p e s m below meth c E hM ls hl
  have hl : lv_has ls 9 [(0, .ref (g.2.2 + a0)),(1, .ref (g.2.2 + a1)),(2, .int a2),(3, .int a3),(4, .int a4)] := hl
  exact B_X11_dues_0 E hf hM hl
-- PensionHouse.paidTo(I)J  mode R
noncomputable def f_X11_paidTo_56 (k5 : Nat → Int32 → Int64 → Int32 → jM → Option Int64) (v0 : Nat) (v1 : Int32) (v2 : Int64) (v4 : Int32) (S : jM) : Option Int64 := jlet (v4 + (1 : Int32)) (fun x1 => k5 v0 v1 v2 x1 S)
noncomputable def f_X11_paidTo_5 : Nat → Nat → Int32 → Int64 → Int32 → jM → Option Int64
  | 0, _, _, _, _, _ => none
  | n + 1, v0, v1, v2, v4, S => if jK v0 = 9 then if (jI S 81 v0) ≤ v4 then some v2 else (jR S 80 v0).bind (fun r4 => if jA r4 20 v4 = true then (jAR S r4 (v4).toNatClampNeg).bind (fun r7 => if jA r7 14 (0 : Int32) = true then if (jAL S r7 ((0 : Int32)).toNatClampNeg) = (v1.toInt64) then (jR S 80 v0).bind (fun r11 => if jA r11 20 v4 = true then (jAR S r11 (v4).toNatClampNeg).bind (fun r14 => if jA r14 14 (6 : Int32) = true then if (jAL S r14 ((6 : Int32)).toNatClampNeg) = (0 : Int64) then (jR S 80 v0).bind (fun r18 => if jA r18 20 v4 = true then (jAR S r18 (v4).toNatClampNeg).bind (fun r21 => if jA r21 14 (4 : Int32) = true then jlet (v2 + (jAL S r21 ((4 : Int32)).toNatClampNeg)) (fun x24 => f_X11_paidTo_56 (f_X11_paidTo_5 n) v0 v1 x24 v4 S) else none) else none) else f_X11_paidTo_56 (f_X11_paidTo_5 n) v0 v1 v2 v4 S else none) else none) else f_X11_paidTo_56 (f_X11_paidTo_5 n) v0 v1 v2 v4 S else none) else none) else none
noncomputable def f_X11_paidTo (v0 : Nat) (v1 : Int32) (S : jM) : Option Int64 := f_X11_paidTo_5 1100000 v0 v1 (0 : Int64) (0 : Int32) S
set_option maxRecDepth 100000 in
set_option maxHeartbeats 4000000 in
theorem B_X11_paidTo_56 {p : Program} {l : Launch} {e : Env} {s : State} {m : MethodId} {args : Array Value} {below : List Frame} {meth : Method} {c : Code} {g : jG} {rr : Int64} {S : jM} {v0 : Nat} {v1 : Int32} {v2 : Int64} {v4 : Int32} {k5 : Nat → Int32 → Int64 → Int32 → jM → Option Int64} (E : jEnv p s m args meth c cX11_paidTo "PensionHouse" (some .long) 5 g) (hk5 : ∀ (v0 : Nat) (v1 : Int32) (v2 : Int64) (v4 : Int32) (H : Heap) (locs : List Loc) (ls : Array Slot), k5 v0 v1 v2 v4 S = some rr → jAt g S s H locs → lv_has ls 5 [(0, .ref (g.2.2 + v0)), (1, .int v1), (2, .long v2), (4, .int v4)] → W p l e (jRm 1 0 0) s m args below meth c H locs 0 0 (MQ below (jQl g rr S) args s 0 0 (jA0 g)) (F0 m 5 ls [])) {H : Heap} {locs : List Loc} {ls : Array Slot} (hf : f_X11_paidTo_56 k5 v0 v1 v2 v4 S = some rr) (hM : jAt g S s H locs) (hl : lv_has ls 5 [(0, .ref (g.2.2 + v0)), (1, .int v1), (2, .long v2), (4, .int v4)]) : W p l e (jRm 1 0 0) s m args below meth c H locs 0 0 (MQ below (jQl g rr S) args s 0 0 (jA0 g)) (F0 m 56 ls []) := by
  obtain ⟨hx, hb, hml, -, hts, hown, hK, -, hstr⟩ := id E
  unfold f_X11_paidTo_56 at hf
  obtain ⟨x1, ex1⟩ : ∃ z, z = v4 + (1 : Int32) := ⟨_, rfl⟩
  have hf := jlet_y ex1 hf
  refine lv_iinc (v := x1) (lv' := [(4, .int x1), (0, .ref (g.2.2 + v0)), (1, .int v1), (2, .long v2)]) hx hb dX11_paidTo_56 hl (k := 3) rfl (by rw [ex1]; rfl) (by decide) rfl (fun ls hl => ?_)
  refine lv_goto (tgt := 5) hx hb dX11_paidTo_59 (by decide) ?_
  exact hk5 v0 v1 v2 x1 _ _ _ hf hM (lv_sub hl [1, 2, 3, 0] rfl)
set_option maxRecDepth 100000 in
set_option maxHeartbeats 4000000 in
theorem B_X11_paidTo_5 {p : Program} {l : Launch} {e : Env} {s : State} {m : MethodId} {args : Array Value} {below : List Frame} {meth : Method} {c : Code} {g : jG} {rr : Int64} {S : jM} (E : jEnv p s m args meth c cX11_paidTo "PensionHouse" (some .long) 5 g)  : ∀ (n : Nat) (v0 : Nat) (v1 : Int32) (v2 : Int64) (v4 : Int32) (H : Heap) (locs : List Loc) (ls : Array Slot), f_X11_paidTo_5 n v0 v1 v2 v4 S = some rr → jAt g S s H locs → lv_has ls 5 [(0, .ref (g.2.2 + v0)), (1, .int v1), (2, .long v2), (4, .int v4)] → W p l e (jRm 1 0 0) s m args below meth c H locs 0 0 (MQ below (jQl g rr S) args s 0 0 (jA0 g)) (F0 m 5 ls []) := by
  obtain ⟨hx, hb, hml, -, hts, hown, hK, -, hstr⟩ := id E
  intro n
  induction n with
  | zero => intro v0 v1 v2 v4 H locs ls hf hM hl; rw [f_X11_paidTo_5] at hf; cases hf
  | succ n ih =>
    intro v0 v1 v2 v4 H locs ls hf hM hl
    rw [f_X11_paidTo_5] at hf
    refine lv_iload hx hb dX11_paidTo_5 (lv_at hl 3 rfl) ?_
    refine lv_aload_n hx hb dX11_paidTo_7 rfl (lv_at hl 0 rfl) ?_
    obtain ⟨hq2, hf⟩ := jif hf
    refine gt_81 E hM hq2 lk_2_149 dX11_paidTo_8 ?_
    refine lv_icmp_ge (tgt := 62) hx hb dX11_paidTo_11 (by decide) (fun c3 => ?_) (fun c3 => ?_)
    · have hf := jt c3 hf
      refine lv_lload_n hx hb dX11_paidTo_62 rfl (lv_at hl 2 rfl) ?_
      exact jlret (jr1 hf) E hM dX11_paidTo_63
    · have hf := jf c3 hf
      refine lv_aload_n hx hb dX11_paidTo_14 rfl (lv_at hl 0 rfl) ?_
      refine gt_80 E hM hq2 lk_2_148 dX11_paidTo_15 ?_
      obtain ⟨r4, hr5, hf⟩ := jb hf
      rw [hr5]
      show W p l e _ s m args below meth c H locs 0 0 _ (F0 m _ ls (.ref (g.2.2 + r4) :: _))
      refine lv_iload hx hb dX11_paidTo_18 (lv_at hl 3 rfl) ?_
      obtain ⟨ha6, hf⟩ := jif hf
      refine jaaldJ E hM ha6 dX11_paidTo_20 ?_
      obtain ⟨r7, hr8, hf⟩ := jb hf
      rw [hr8]
      show W p l e _ s m args below meth c H locs 0 0 _ (F0 m _ ls (.ref (g.2.2 + r7) :: _))
      refine lv_iconst (v := (0 : Int32)) hx hb dX11_paidTo_21 (by decide) ?_
      obtain ⟨ha9, hf⟩ := jif hf
      refine jlald E hM ha9 dX11_paidTo_22 ?_
      refine lv_iload_n hx hb dX11_paidTo_23 rfl (lv_at hl 1 rfl) ?_
      refine lv_i2l hx hb dX11_paidTo_24 rfl ?_
      refine jl_ne (tgt := 56) hx hb dX11_paidTo_25 dX11_paidTo_26 (by decide) (fun c10 => ?_) (fun c10 => ?_)
      · have hf := jf c10 hf
        exact B_X11_paidTo_56 E ih hf hM (lv_sub hl [0, 1, 2, 3] rfl)
      · have hf := jt c10 hf
        refine lv_aload_n hx hb dX11_paidTo_29 rfl (lv_at hl 0 rfl) ?_
        refine gt_80 E hM hq2 lk_2_148 dX11_paidTo_30 ?_
        obtain ⟨r11, hr12, hf⟩ := jb hf
        rw [hr12]
        show W p l e _ s m args below meth c H locs 0 0 _ (F0 m _ ls (.ref (g.2.2 + r11) :: _))
        refine lv_iload hx hb dX11_paidTo_33 (lv_at hl 3 rfl) ?_
        obtain ⟨ha13, hf⟩ := jif hf
        refine jaaldJ E hM ha13 dX11_paidTo_35 ?_
        obtain ⟨r14, hr15, hf⟩ := jb hf
        rw [hr15]
        show W p l e _ s m args below meth c H locs 0 0 _ (F0 m _ ls (.ref (g.2.2 + r14) :: _))
        refine lv_bipush (v := (6 : Int32)) hx hb dX11_paidTo_36 (by decide) ?_
        obtain ⟨ha16, hf⟩ := jif hf
        refine jlald E hM ha16 dX11_paidTo_38 ?_
        refine lv_lconst (v := (0 : Int64)) hx hb dX11_paidTo_39 (by decide) ?_
        refine jl_ne (tgt := 56) hx hb dX11_paidTo_40 dX11_paidTo_41 (by decide) (fun c17 => ?_) (fun c17 => ?_)
        · have hf := jf c17 hf
          exact B_X11_paidTo_56 E ih hf hM (lv_sub hl [0, 1, 2, 3] rfl)
        · have hf := jt c17 hf
          refine lv_lload_n hx hb dX11_paidTo_44 rfl (lv_at hl 2 rfl) ?_
          refine lv_aload_n hx hb dX11_paidTo_45 rfl (lv_at hl 0 rfl) ?_
          refine gt_80 E hM hq2 lk_2_148 dX11_paidTo_46 ?_
          obtain ⟨r18, hr19, hf⟩ := jb hf
          rw [hr19]
          show W p l e _ s m args below meth c H locs 0 0 _ (F0 m _ ls (.ref (g.2.2 + r18) :: _))
          refine lv_iload hx hb dX11_paidTo_49 (lv_at hl 3 rfl) ?_
          obtain ⟨ha20, hf⟩ := jif hf
          refine jaaldJ E hM ha20 dX11_paidTo_51 ?_
          obtain ⟨r21, hr22, hf⟩ := jb hf
          rw [hr22]
          show W p l e _ s m args below meth c H locs 0 0 _ (F0 m _ ls (.ref (g.2.2 + r21) :: _))
          refine lv_iconst (v := (4 : Int32)) hx hb dX11_paidTo_52 (by decide) ?_
          obtain ⟨ha23, hf⟩ := jif hf
          refine jlald E hM ha23 dX11_paidTo_53 ?_
          refine lv_ladd hx hb dX11_paidTo_54 ?_
          refine lv_topl (fun x24 ex24 => ?_)
          have hf := jlet_y ex24 hf
          refine lv_lstore_n (lv' := [(2, .long x24), (0, .ref (g.2.2 + v0)), (1, .int v1), (4, .int v4)]) hx hb dX11_paidTo_55 rfl hl (by decide) rfl (fun ls hl => ?_)
          exact B_X11_paidTo_56 E ih hf hM (lv_sub hl [1, 2, 0, 3] rfl)
set_option maxRecDepth 100000 in
set_option maxHeartbeats 4000000 in
theorem B_X11_paidTo_0 {p : Program} {l : Launch} {e : Env} {s : State} {m : MethodId} {args : Array Value} {below : List Frame} {meth : Method} {c : Code} {g : jG} {rr : Int64} {S : jM} {v0 : Nat} {v1 : Int32} (E : jEnv p s m args meth c cX11_paidTo "PensionHouse" (some .long) 5 g)  {H : Heap} {locs : List Loc} {ls : Array Slot} (hf : f_X11_paidTo v0 v1 S = some rr) (hM : jAt g S s H locs) (hl : lv_has ls 5 [(0, .ref (g.2.2 + v0)), (1, .int v1)]) : W p l e (jRm 1 0 0) s m args below meth c H locs 0 0 (MQ below (jQl g rr S) args s 0 0 (jA0 g)) (F0 m 0 ls []) := by
  obtain ⟨hx, hb, hml, -, hts, hown, hK, -, hstr⟩ := id E
  unfold f_X11_paidTo at hf
  refine lv_lconst (v := (0 : Int64)) hx hb dX11_paidTo_0 (by decide) ?_
  refine lv_lstore_n (lv' := [(2, .long (0 : Int64)), (0, .ref (g.2.2 + v0)), (1, .int v1)]) hx hb dX11_paidTo_1 rfl hl (by decide) rfl (fun ls hl => ?_)
  refine lv_iconst (v := (0 : Int32)) hx hb dX11_paidTo_2 (by decide) ?_
  refine lv_istore (lv' := [(4, .int (0 : Int32)), (2, .long (0 : Int64)), (0, .ref (g.2.2 + v0)), (1, .int v1)]) hx hb dX11_paidTo_3 hl (by decide) rfl (fun ls hl => ?_)
  exact B_X11_paidTo_5 E  1100000 v0 v1 (0 : Int64) (0 : Int32) _ _ _ hf hM (lv_sub hl [2, 3, 1, 0] rfl)
set_option maxRecDepth 100000 in
theorem C_X11_paidTo {l : Launch} {g : jG} {a0 : Nat} {a1 : Int32} {S : jM} {rr : Int64} (hf : f_X11_paidTo a0 a1 S = some rr) : jMet l g yX11_paidTo cX11_paidTo 5 (some .long) 1 0 0 [.ref (g.2.2 + a0), .int a1] S (jQl g rr S) := by
  refine jof (by decide +kernel) (Nat.le_of_ble_eq_true rfl) ?_
  intro p e s m below meth c E hM ls hl
  have hl : lv_has ls 5 [(0, .ref (g.2.2 + a0)),(1, .int a1)] := hl
  exact B_X11_paidTo_0 E hf hM hl
-- PensionHouse.pay(IJJ)V  mode M
noncomputable def f_X11_pay_129 (t0 : Nat) (t1 : Int32) (t2 : Int64) (S : jM) : Option jM := if jA t0 14 t1 = true then jlet (jrL S t0 (vp_updL (jAL S t0) (t1).toNatClampNeg t2)) (fun S2 => some S2) else none
noncomputable def f_X11_pay_34 (v0 : Nat) (v1 : Int32) (v2 : Int64) (v4 : Int64) (v6 : Int64) (S : jM) : Option jM := if jK v0 = 9 then (jR S 80 v0).bind (fun r4 => jlet (jI S 81 v0) (fun x6 => jlet (jsI S 81 v0 (x6 + (1 : Int32))) (fun S7 => if jA r4 20 x6 = true then (jAR S7 r4 (x6).toNatClampNeg).bind (fun r9 => if jA r9 14 (0 : Int32) = true then jlet (jrL S7 r9 (vp_updL (jAL S7 r9) ((0 : Int32)).toNatClampNeg (v1.toInt64))) (fun S12 => if jA r9 14 (1 : Int32) = true then jlet (jrL S12 r9 (vp_updL (jAL S12 r9) ((1 : Int32)).toNatClampNeg ((jI S12 84 v0).toInt64))) (fun S14 => if jA r9 14 (2 : Int32) = true then jlet (jrL S14 r9 (vp_updL (jAL S14 r9) ((2 : Int32)).toNatClampNeg v2)) (fun S16 => if jA r9 14 (3 : Int32) = true then jlet (jrL S16 r9 (vp_updL (jAL S16 r9) ((3 : Int32)).toNatClampNeg v4)) (fun S18 => if jA r9 14 (4 : Int32) = true then jlet (jrL S18 r9 (vp_updL (jAL S18 r9) ((4 : Int32)).toNatClampNeg v6)) (fun S20 => (jR S20 78 v0).bind (fun r21 => if jA r21 16 v1 = true then (jAR S20 r21 (v1).toNatClampNeg).bind (fun r24 => if jK r24 = 0 then jbd (f_X0_takeFrom r24 v6 r9 (8 : Int32) S20) (fun x26 S27 => if jA r9 14 (5 : Int32) = true then jlet (jrL S27 r9 (vp_updL (jAL S27 r9) ((5 : Int32)).toNatClampNeg x26)) (fun S31 => if jA r9 14 (6 : Int32) = true then jlet (jrL S31 r9 (vp_updL (jAL S31 r9) ((6 : Int32)).toNatClampNeg (0 : Int64))) (fun S33 => (jR S33 76 v0).bind (fun r34 => if jK r34 = 1 then (f_X1_cents r34 S33).bind (fun x36 => if x36 = (-1 : Int32) then f_X11_pay_129 r9 (7 : Int32) (1 : Int64) S33 else f_X11_pay_129 r9 (7 : Int32) (0 : Int64) S33) else none)) else none) else none) else none) else none)) else none) else none) else none) else none) else none) else none))) else none
noncomputable def f_X11_pay (v0 : Nat) (v1 : Int32) (v2 : Int64) (v4 : Int64) (S : jM) : Option jM := jlet (v2 + v4) (fun x40 => if (0 : Int64) ≤ v4 then f_X11_pay_34 v0 v1 v2 v4 x40 S else if jK v0 = 9 then jlet (v2 - (if ((v2 * ((jI S 83 v0).toInt64)) / (100 : Int64)) < (-v4) then ((v2 * ((jI S 83 v0).toInt64)) / (100 : Int64)) else (-v4))) (fun x43 => f_X11_pay_34 v0 v1 v2 v4 x43 S) else none)
set_option maxRecDepth 100000 in
set_option maxHeartbeats 4000000 in
theorem B_X11_pay_129 {p : Program} {l : Launch} {e : Env} {s : State} {m : MethodId} {args : Array Value} {below : List Frame} {meth : Method} {c : Code} {g : jG} {SS : jM} {t0 : Nat} {t1 : Int32} {t2 : Int64} {S : jM} (E : jEnv p s m args meth c cX11_pay "PensionHouse" none 9 g)  {H : Heap} {locs : List Loc} {ls : Array Slot} (hf : f_X11_pay_129 t0 t1 t2 S = some SS) (hM : jAt g S s H locs) (hl : lv_has ls 9 []) : W p l e (jRm 3 0 0) s m args below meth c H locs 0 0 (MQ below (jQv g SS) args s 0 0 (jA0 g)) (F0 m 129 ls [.long t2, .int t1, .ref (g.2.2 + t0)]) := by
  obtain ⟨hx, hb, hml, -, hts, hown, hK, -, hstr⟩ := id E
  unfold f_X11_pay_129 at hf
  obtain ⟨ha1, hf⟩ := jif hf
  refine jlast E hM ha1 dX11_pay_129 (fun H locs S2 eS2 hM => ?_)
  have hf := jlet_y eS2 hf
  exact jvret (jrv hf) E hM dX11_pay_130
set_option maxRecDepth 100000 in
set_option maxHeartbeats 4000000 in
theorem B_X11_pay_34 {p : Program} {l : Launch} {e : Env} {s : State} {m : MethodId} {args : Array Value} {below : List Frame} {meth : Method} {c : Code} {g : jG} {SS : jM} {v0 : Nat} {v1 : Int32} {v2 : Int64} {v4 : Int64} {v6 : Int64} {S : jM} (E : jEnv p s m args meth c cX11_pay "PensionHouse" none 9 g)  {H : Heap} {locs : List Loc} {ls : Array Slot} (hf : f_X11_pay_34 v0 v1 v2 v4 v6 S = some SS) (hM : jAt g S s H locs) (hl : lv_has ls 9 [(0, .ref (g.2.2 + v0)), (1, .int v1), (2, .long v2), (4, .long v4), (6, .long v6)]) : W p l e (jRm 3 0 0) s m args below meth c H locs 0 0 (MQ below (jQv g SS) args s 0 0 (jA0 g)) (F0 m 34 ls []) := by
  obtain ⟨hx, hb, hml, -, hts, hown, hK, -, hstr⟩ := id E
  unfold f_X11_pay_34 at hf
  refine lv_aload_n hx hb dX11_pay_34 rfl (lv_at hl 0 rfl) ?_
  obtain ⟨hq3, hf⟩ := jif hf
  refine gt_80 E hM hq3 lk_2_148 dX11_pay_35 ?_
  obtain ⟨r4, hr5, hf⟩ := jb hf
  rw [hr5]
  show W p l e _ s m args below meth c H locs 0 0 _ (F0 m _ ls (.ref (g.2.2 + r4) :: _))
  refine lv_aload_n hx hb dX11_pay_38 rfl (lv_at hl 0 rfl) ?_
  refine lv_dup hx hb dX11_pay_39 rfl ?_
  refine gt_81 E hM hq3 lk_2_149 dX11_pay_40 ?_
  refine lv_topi (fun x6 ex6 => ?_)
  have hf := jlet_y ex6 hf
  refine lv_dup_x1 hx hb dX11_pay_43 rfl rfl ?_
  refine lv_iconst (v := (1 : Int32)) hx hb dX11_pay_44 (by decide) ?_
  refine lv_iadd hx hb dX11_pay_45 ?_
  refine pt_81 E hM hq3 lk_2_149 dX11_pay_46 (fun H locs S7 eS7 hM => ?_)
  have hf := jlet_y eS7 hf
  obtain ⟨ha8, hf⟩ := jif hf
  refine jaaldJ E hM ha8 dX11_pay_49 ?_
  obtain ⟨r9, hr10, hf⟩ := jb hf
  rw [hr10]
  show W p l e _ s m args below meth c H locs 0 0 _ (F0 m _ ls (.ref (g.2.2 + r9) :: _))
  refine lv_astore (lv' := [(8, .ref (g.2.2 + r9)), (0, .ref (g.2.2 + v0)), (1, .int v1), (2, .long v2), (4, .long v4), (6, .long v6)]) hx hb dX11_pay_50 hl (by decide) rfl (fun ls hl => ?_)
  refine lv_aload hx hb dX11_pay_52 (lv_at hl 0 rfl) ?_
  refine lv_iconst (v := (0 : Int32)) hx hb dX11_pay_54 (by decide) ?_
  refine lv_iload_n hx hb dX11_pay_55 rfl (lv_at hl 2 rfl) ?_
  refine lv_i2l hx hb dX11_pay_56 rfl ?_
  obtain ⟨ha11, hf⟩ := jif hf
  refine jlast E hM ha11 dX11_pay_57 (fun H locs S12 eS12 hM => ?_)
  have hf := jlet_y eS12 hf
  refine lv_aload hx hb dX11_pay_58 (lv_at hl 0 rfl) ?_
  refine lv_iconst (v := (1 : Int32)) hx hb dX11_pay_60 (by decide) ?_
  refine lv_aload_n hx hb dX11_pay_61 rfl (lv_at hl 1 rfl) ?_
  refine gt_84 E hM hq3 lk_2_152 dX11_pay_62 ?_
  refine lv_i2l hx hb dX11_pay_65 rfl ?_
  obtain ⟨ha13, hf⟩ := jif hf
  refine jlast E hM ha13 dX11_pay_66 (fun H locs S14 eS14 hM => ?_)
  have hf := jlet_y eS14 hf
  refine lv_aload hx hb dX11_pay_67 (lv_at hl 0 rfl) ?_
  refine lv_iconst (v := (2 : Int32)) hx hb dX11_pay_69 (by decide) ?_
  refine lv_lload_n hx hb dX11_pay_70 rfl (lv_at hl 3 rfl) ?_
  obtain ⟨ha15, hf⟩ := jif hf
  refine jlast E hM ha15 dX11_pay_71 (fun H locs S16 eS16 hM => ?_)
  have hf := jlet_y eS16 hf
  refine lv_aload hx hb dX11_pay_72 (lv_at hl 0 rfl) ?_
  refine lv_iconst (v := (3 : Int32)) hx hb dX11_pay_74 (by decide) ?_
  refine lv_lload hx hb dX11_pay_75 (lv_at hl 4 rfl) ?_
  obtain ⟨ha17, hf⟩ := jif hf
  refine jlast E hM ha17 dX11_pay_77 (fun H locs S18 eS18 hM => ?_)
  have hf := jlet_y eS18 hf
  refine lv_aload hx hb dX11_pay_78 (lv_at hl 0 rfl) ?_
  refine lv_iconst (v := (4 : Int32)) hx hb dX11_pay_80 (by decide) ?_
  refine lv_lload hx hb dX11_pay_81 (lv_at hl 5 rfl) ?_
  obtain ⟨ha19, hf⟩ := jif hf
  refine jlast E hM ha19 dX11_pay_83 (fun H locs S20 eS20 hM => ?_)
  have hf := jlet_y eS20 hf
  refine lv_aload hx hb dX11_pay_84 (lv_at hl 0 rfl) ?_
  refine lv_iconst (v := (5 : Int32)) hx hb dX11_pay_86 (by decide) ?_
  refine lv_aload_n hx hb dX11_pay_87 rfl (lv_at hl 1 rfl) ?_
  refine gt_78 E hM hq3 lk_2_146 dX11_pay_88 ?_
  obtain ⟨r21, hr22, hf⟩ := jb hf
  rw [hr22]
  show W p l e _ s m args below meth c H locs 0 0 _ (F0 m _ ls (.ref (g.2.2 + r21) :: _))
  refine lv_iload_n hx hb dX11_pay_91 rfl (lv_at hl 2 rfl) ?_
  obtain ⟨ha23, hf⟩ := jif hf
  refine jaald (k := 16) (t0 := 5) E hM ha23 (by decide) (by decide) rfl dX11_pay_92 ?_
  obtain ⟨r24, hr25, hf⟩ := jb hf
  rw [hr25]
  show W p l e _ s m args below meth c H locs 0 0 _ (F0 m _ ls (.ref (g.2.2 + r24) :: _))
  refine lv_lload hx hb dX11_pay_93 (lv_at hl 5 rfl) ?_
  refine lv_aload hx hb dX11_pay_95 (lv_at hl 0 rfl) ?_
  refine lv_bipush (v := (8 : Int32)) hx hb dX11_pay_97 (by decide) ?_
  obtain ⟨hq29, hf⟩ := jif hf
  obtain ⟨x26, S27, hc28, hf⟩ := jbd_e hf
  refine jbackL hM (jrunV E hM ci_X0_takeFrom (C_X0_takeFrom hc28) lk_5_211 hq29 (by decide) rfl hl.1 rfl rfl (Nat.le_of_ble_eq_true rfl) ⟨Nat.le_of_ble_eq_true rfl, Nat.le_of_ble_eq_true rfl⟩ ⟨Nat.le_refl _, Nat.le_refl _⟩ dX11_pay_99) (fun H locs hM => ?_)
  obtain ⟨ha30, hf⟩ := jif hf
  refine jlast E hM ha30 dX11_pay_102 (fun H locs S31 eS31 hM => ?_)
  have hf := jlet_y eS31 hf
  refine lv_aload hx hb dX11_pay_103 (lv_at hl 0 rfl) ?_
  refine lv_bipush (v := (6 : Int32)) hx hb dX11_pay_105 (by decide) ?_
  refine lv_lconst (v := (0 : Int64)) hx hb dX11_pay_107 (by decide) ?_
  obtain ⟨ha32, hf⟩ := jif hf
  refine jlast E hM ha32 dX11_pay_108 (fun H locs S33 eS33 hM => ?_)
  have hf := jlet_y eS33 hf
  refine lv_aload hx hb dX11_pay_109 (lv_at hl 0 rfl) ?_
  refine lv_bipush (v := (7 : Int32)) hx hb dX11_pay_111 (by decide) ?_
  refine lv_aload_n hx hb dX11_pay_113 rfl (lv_at hl 1 rfl) ?_
  refine gt_76 E hM hq3 lk_2_144 dX11_pay_114 ?_
  obtain ⟨r34, hr35, hf⟩ := jb hf
  rw [hr35]
  show W p l e _ s m args below meth c H locs 0 0 _ (F0 m _ ls (.ref (g.2.2 + r34) :: _))
  obtain ⟨hq38, hf⟩ := jif hf
  obtain ⟨x36, hc37, hf⟩ := jb hf
  refine jbackI hM (jrunV E hM ci_X1_cents (C_X1_cents hc37) lk_5_168 hq38 (by decide) rfl hl.1 rfl rfl (Nat.le_of_ble_eq_true rfl) ⟨Nat.le_of_ble_eq_true rfl, Nat.le_of_ble_eq_true rfl⟩ ⟨Nat.le_refl _, Nat.le_refl _⟩ dX11_pay_117) (fun H locs hM => ?_)
  refine lv_iconst (v := (-1 : Int32)) hx hb dX11_pay_120 (by decide) ?_
  refine lv_icmp_ne (tgt := 128) hx hb dX11_pay_121 (by decide) (fun c39 => ?_) (fun c39 => ?_)
  · have hf := jf c39 hf
    refine lv_lconst (v := (0 : Int64)) hx hb dX11_pay_128 (by decide) ?_
    exact B_X11_pay_129 E  hf hM (lv_sub hl [] rfl)
  · have hf := jt c39 hf
    refine lv_lconst (v := (1 : Int64)) hx hb dX11_pay_124 (by decide) ?_
    refine lv_goto (tgt := 129) hx hb dX11_pay_125 (by decide) ?_
    exact B_X11_pay_129 E  hf hM (lv_sub hl [] rfl)
set_option maxRecDepth 100000 in
set_option maxHeartbeats 4000000 in
theorem B_X11_pay_0 {p : Program} {l : Launch} {e : Env} {s : State} {m : MethodId} {args : Array Value} {below : List Frame} {meth : Method} {c : Code} {g : jG} {SS : jM} {v0 : Nat} {v1 : Int32} {v2 : Int64} {v4 : Int64} {S : jM} (E : jEnv p s m args meth c cX11_pay "PensionHouse" none 9 g)  {H : Heap} {locs : List Loc} {ls : Array Slot} (hf : f_X11_pay v0 v1 v2 v4 S = some SS) (hM : jAt g S s H locs) (hl : lv_has ls 9 [(0, .ref (g.2.2 + v0)), (1, .int v1), (2, .long v2), (4, .long v4)]) : W p l e (jRm 3 0 0) s m args below meth c H locs 0 0 (MQ below (jQv g SS) args s 0 0 (jA0 g)) (F0 m 0 ls []) := by
  obtain ⟨hx, hb, hml, -, hts, hown, hK, -, hstr⟩ := id E
  unfold f_X11_pay at hf
  refine lv_lload_n hx hb dX11_pay_0 rfl (lv_at hl 2 rfl) ?_
  refine lv_lload hx hb dX11_pay_1 (lv_at hl 3 rfl) ?_
  refine lv_ladd hx hb dX11_pay_3 ?_
  refine lv_topl (fun x40 ex40 => ?_)
  have hf := jlet_y ex40 hf
  refine lv_lstore (lv' := [(6, .long x40), (0, .ref (g.2.2 + v0)), (1, .int v1), (2, .long v2), (4, .long v4)]) hx hb dX11_pay_4 hl (by decide) rfl (fun ls hl => ?_)
  refine lv_lload hx hb dX11_pay_6 (lv_at hl 4 rfl) ?_
  refine lv_lconst (v := (0 : Int64)) hx hb dX11_pay_8 (by decide) ?_
  refine jl_ge (tgt := 34) hx hb dX11_pay_9 dX11_pay_10 (by decide) (fun c41 => ?_) (fun c41 => ?_)
  · have hf := jt c41 hf
    exact B_X11_pay_34 E  hf hM (lv_sub hl [1, 2, 3, 4, 0] rfl)
  · have hf := jf c41 hf
    refine lv_lload_n hx hb dX11_pay_13 rfl (lv_at hl 3 rfl) ?_
    refine lv_lload hx hb dX11_pay_14 (lv_at hl 4 rfl) ?_
    refine lv_lneg hx hb dX11_pay_16 ?_
    refine lv_lload_n hx hb dX11_pay_17 rfl (lv_at hl 3 rfl) ?_
    refine lv_aload_n hx hb dX11_pay_18 rfl (lv_at hl 1 rfl) ?_
    obtain ⟨hq42, hf⟩ := jif hf
    refine gt_83 E hM hq42 lk_2_151 dX11_pay_19 ?_
    refine lv_i2l hx hb dX11_pay_22 rfl ?_
    refine lv_lmul hx hb dX11_pay_23 ?_
    refine lv_ldc2 (v := (100 : Int64)) hx hb hown (hts _ lk_5_209) dX11_pay_24 ?_
    refine lv_ldiv hx hb dX11_pay_27 (by decide) ?_
    refine va_mmin_long hx hb (by rw [hml, hl.1]) hown (hts _ lk_5_210) (hts _ lk_5_107) (hts _ lk_1_18) (hts _ lk_5_108) (Nat.le_of_ble_eq_true rfl) (Nat.le_of_ble_eq_true rfl) (Nat.le_refl _) (Nat.le_refl _) dX11_pay_28 ?_
    refine lv_lsub hx hb dX11_pay_31 ?_
    refine lv_topl (fun x43 ex43 => ?_)
    have hf := jlet_y ex43 hf
    refine lv_lstore (lv' := [(6, .long x43), (0, .ref (g.2.2 + v0)), (1, .int v1), (2, .long v2), (4, .long v4)]) hx hb dX11_pay_32 hl (by decide) rfl (fun ls hl => ?_)
    exact B_X11_pay_34 E  hf hM (lv_sub hl [1, 2, 3, 4, 0] rfl)
set_option maxRecDepth 100000 in
theorem C_X11_pay {l : Launch} {g : jG} {a0 : Nat} {a1 : Int32} {a2 : Int64} {a4 : Int64} {S : jM} {SS : jM} (hf : f_X11_pay a0 a1 a2 a4 S = some SS) : jMet l g yX11_pay cX11_pay 9 none 3 0 0 [.ref (g.2.2 + a0), .int a1, .long a2, .long a4] S (jQv g SS) := by
  refine jof (by decide +kernel) (Nat.le_of_ble_eq_true rfl) ?_
  intro p e s m below meth c E hM ls hl
  have hl : lv_has ls 9 [(0, .ref (g.2.2 + a0)),(1, .int a1),(2, .long a2),(4, .long a4)] := hl
  exact B_X11_pay_0 E hf hM hl
-- PensionHouse.advance(I)I  mode M
noncomputable def f_X11_advance_30 : Nat → Nat → Int32 → Int32 → jM → Option (Int32 × jM)
  | 0, _, _, _, _ => none
  | n + 1, v0, v1, v2, S => if v1 ≤ v2 then some (v2, S) else if jK v0 = 9 then if (jI S 86 v0) ≤ (jI S 87 v0) then some (v2, S) else (jR S 85 v0).bind (fun r4 => if jK r4 = 13 then if (Int32.ofNat (jLen r4)) ≤ (jI S 87 v0) then some (v2, S) else if (200 : Int32) ≤ (jI S 81 v0) then some (v2, S) else (jR S 85 v0).bind (fun r9 => if jA r9 13 (jI S 87 v0) = true then jlet (jAI S r9 (jI S 87 v0).toNatClampNeg) (fun x12 => (jR S 78 v0).bind (fun r13 => if jA r13 16 x12 = true then (jAR S r13 (x12).toNatClampNeg).bind (fun r16 => (jR S 78 v0).bind (fun r18 => if jA r18 16 x12 = true then (jAR S r18 (x12).toNatClampNeg).bind (fun r21 => if jK r21 = 0 then jbd (f_X11_dues v0 r16 (jI S 2 r21) ((jI S 84 v0) - (1 : Int32)) (jI S 82 v0) S) (fun x24 S25 => (f_X11_paidTo v0 x12 S25).bind (fun x27 => jlet (x24 - x27) (fun x29 => (jR S25 78 v0).bind (fun r30 => if jA r30 16 x12 = true then (jAR S25 r30 (x12).toNatClampNeg).bind (fun r33 => jbd (f_X11_dues v0 r33 (jI S25 84 v0) (jI S25 84 v0) (jI S25 82 v0) S25) (fun x35 S36 => (f_X11_pay v0 x12 x35 x29 S36).bind (fun S38 => jlet (jsI S38 87 v0 ((jI S38 87 v0) + (1 : Int32))) (fun S40 => jlet (v2 + (1 : Int32)) (fun x41 => (f_X11_advance_30 n) v0 v1 x41 S40))))) else none)))) else none) else none)) else none)) else none) else none) else none
noncomputable def f_X11_advance (v0 : Nat) (v1 : Int32) (S : jM) : Option (Int32 × jM) := if v1 < (1 : Int32) then some ((-3 : Int32), S) else if v1 ≤ (6 : Int32) then if jK v0 = 9 then if (jI S 87 v0) < (jI S 86 v0) then f_X11_advance_30 1100000 v0 v1 (0 : Int32) S else some ((-4 : Int32), S) else none else some ((-3 : Int32), S)
set_option maxRecDepth 100000 in
set_option maxHeartbeats 4000000 in
theorem B_X11_advance_30 {p : Program} {l : Launch} {e : Env} {s : State} {m : MethodId} {args : Array Value} {below : List Frame} {meth : Method} {c : Code} {g : jG} {rr : Int32} {SS : jM} (E : jEnv p s m args meth c cX11_advance "PensionHouse" (some .int) 8 g)  : ∀ (n : Nat) (v0 : Nat) (v1 : Int32) (v2 : Int32) (S : jM) (H : Heap) (locs : List Loc) (ls : Array Slot), f_X11_advance_30 n v0 v1 v2 S = some (rr, SS) → jAt g S s H locs → lv_has ls 8 [(0, .ref (g.2.2 + v0)), (1, .int v1), (2, .int v2)] → W p l e (jRm 8 0 0) s m args below meth c H locs 0 0 (MQ below (jQi g rr SS) args s 0 0 (jA0 g)) (F0 m 30 ls []) := by
  obtain ⟨hx, hb, hml, -, hts, hown, hK, -, hstr⟩ := id E
  intro n
  induction n with
  | zero => intro v0 v1 v2 S H locs ls hf hM hl; rw [f_X11_advance_30] at hf; cases hf
  | succ n ih =>
    intro v0 v1 v2 S H locs ls hf hM hl
    rw [f_X11_advance_30] at hf
    refine lv_iload_n hx hb dX11_advance_30 rfl (lv_at hl 2 rfl) ?_
    refine lv_iload_n hx hb dX11_advance_31 rfl (lv_at hl 1 rfl) ?_
    refine lv_icmp_ge (tgt := 164) hx hb dX11_advance_32 (by decide) (fun c1 => ?_) (fun c1 => ?_)
    · have hf := jt c1 hf
      refine lv_iload_n hx hb dX11_advance_164 rfl (lv_at hl 2 rfl) ?_
      exact jireti (jr2 hf) E hM dX11_advance_165
    · have hf := jf c1 hf
      refine lv_aload_n hx hb dX11_advance_35 rfl (lv_at hl 0 rfl) ?_
      obtain ⟨hq2, hf⟩ := jif hf
      refine gt_87 E hM hq2 lk_2_155 dX11_advance_36 ?_
      refine lv_aload_n hx hb dX11_advance_39 rfl (lv_at hl 0 rfl) ?_
      refine gt_86 E hM hq2 lk_2_154 dX11_advance_40 ?_
      refine lv_icmp_ge (tgt := 164) hx hb dX11_advance_43 (by decide) (fun c3 => ?_) (fun c3 => ?_)
      · have hf := jt c3 hf
        refine lv_iload_n hx hb dX11_advance_164 rfl (lv_at hl 2 rfl) ?_
        exact jireti (jr2 hf) E hM dX11_advance_165
      · have hf := jf c3 hf
        refine lv_aload_n hx hb dX11_advance_46 rfl (lv_at hl 0 rfl) ?_
        refine gt_87 E hM hq2 lk_2_155 dX11_advance_47 ?_
        refine lv_aload_n hx hb dX11_advance_50 rfl (lv_at hl 0 rfl) ?_
        refine gt_85 E hM hq2 lk_2_153 dX11_advance_51 ?_
        obtain ⟨r4, hr5, hf⟩ := jb hf
        rw [hr5]
        show W p l e _ s m args below meth c H locs 0 0 _ (F0 m _ ls (.ref (g.2.2 + r4) :: _))
        obtain ⟨hq6, hf⟩ := jif hf
        refine jalen (t0 := 2) E hM hq6 (by decide) (by decide) rfl dX11_advance_54 ?_
        refine lv_icmp_ge (tgt := 164) hx hb dX11_advance_55 (by decide) (fun c7 => ?_) (fun c7 => ?_)
        · have hf := jt c7 hf
          refine lv_iload_n hx hb dX11_advance_164 rfl (lv_at hl 2 rfl) ?_
          exact jireti (jr2 hf) E hM dX11_advance_165
        · have hf := jf c7 hf
          refine lv_aload_n hx hb dX11_advance_58 rfl (lv_at hl 0 rfl) ?_
          refine gt_81 E hM hq2 lk_2_149 dX11_advance_59 ?_
          refine lv_sipush (v := (200 : Int32)) hx hb dX11_advance_62 (by decide) ?_
          refine lv_icmp_ge (tgt := 164) hx hb dX11_advance_65 (by decide) (fun c8 => ?_) (fun c8 => ?_)
          · have hf := jt c8 hf
            refine lv_iload_n hx hb dX11_advance_164 rfl (lv_at hl 2 rfl) ?_
            exact jireti (jr2 hf) E hM dX11_advance_165
          · have hf := jf c8 hf
            refine lv_aload_n hx hb dX11_advance_68 rfl (lv_at hl 0 rfl) ?_
            refine gt_85 E hM hq2 lk_2_153 dX11_advance_69 ?_
            obtain ⟨r9, hr10, hf⟩ := jb hf
            rw [hr10]
            show W p l e _ s m args below meth c H locs 0 0 _ (F0 m _ ls (.ref (g.2.2 + r9) :: _))
            refine lv_aload_n hx hb dX11_advance_72 rfl (lv_at hl 0 rfl) ?_
            refine gt_87 E hM hq2 lk_2_155 dX11_advance_73 ?_
            obtain ⟨ha11, hf⟩ := jif hf
            refine jiald E hM ha11 dX11_advance_76 ?_
            refine lv_topi (fun x12 ex12 => ?_)
            have hf := jlet_y ex12 hf
            refine lv_istore_n (lv' := [(3, .int x12), (0, .ref (g.2.2 + v0)), (1, .int v1), (2, .int v2)]) hx hb dX11_advance_77 rfl hl (by decide) rfl (fun ls hl => ?_)
            refine lv_aload_n hx hb dX11_advance_78 rfl (lv_at hl 1 rfl) ?_
            refine lv_aload_n hx hb dX11_advance_79 rfl (lv_at hl 1 rfl) ?_
            refine gt_78 E hM hq2 lk_2_146 dX11_advance_80 ?_
            obtain ⟨r13, hr14, hf⟩ := jb hf
            rw [hr14]
            show W p l e _ s m args below meth c H locs 0 0 _ (F0 m _ ls (.ref (g.2.2 + r13) :: _))
            refine lv_iload_n hx hb dX11_advance_83 rfl (lv_at hl 0 rfl) ?_
            obtain ⟨ha15, hf⟩ := jif hf
            refine jaald (k := 16) (t0 := 5) E hM ha15 (by decide) (by decide) rfl dX11_advance_84 ?_
            obtain ⟨r16, hr17, hf⟩ := jb hf
            rw [hr17]
            show W p l e _ s m args below meth c H locs 0 0 _ (F0 m _ ls (.ref (g.2.2 + r16) :: _))
            refine lv_aload_n hx hb dX11_advance_85 rfl (lv_at hl 1 rfl) ?_
            refine gt_78 E hM hq2 lk_2_146 dX11_advance_86 ?_
            obtain ⟨r18, hr19, hf⟩ := jb hf
            rw [hr19]
            show W p l e _ s m args below meth c H locs 0 0 _ (F0 m _ ls (.ref (g.2.2 + r18) :: _))
            refine lv_iload_n hx hb dX11_advance_89 rfl (lv_at hl 0 rfl) ?_
            obtain ⟨ha20, hf⟩ := jif hf
            refine jaald (k := 16) (t0 := 5) E hM ha20 (by decide) (by decide) rfl dX11_advance_90 ?_
            obtain ⟨r21, hr22, hf⟩ := jb hf
            rw [hr22]
            show W p l e _ s m args below meth c H locs 0 0 _ (F0 m _ ls (.ref (g.2.2 + r21) :: _))
            obtain ⟨hq23, hf⟩ := jif hf
            refine gt_2 E hM hq23 lk_2_118 dX11_advance_91 ?_
            refine lv_aload_n hx hb dX11_advance_94 rfl (lv_at hl 1 rfl) ?_
            refine gt_84 E hM hq2 lk_2_152 dX11_advance_95 ?_
            refine lv_iconst (v := (1 : Int32)) hx hb dX11_advance_98 (by decide) ?_
            refine lv_isub hx hb dX11_advance_99 ?_
            refine lv_aload_n hx hb dX11_advance_100 rfl (lv_at hl 1 rfl) ?_
            refine gt_82 E hM hq2 lk_2_150 dX11_advance_101 ?_
            obtain ⟨x24, S25, hc26, hf⟩ := jbd_e hf
            refine jbackL hM (jrunV E hM ci_X11_dues (C_X11_dues hc26) lk_5_164 hq2 (by decide) rfl hl.1 rfl rfl (Nat.le_of_ble_eq_true rfl) ⟨Nat.le_of_ble_eq_true rfl, Nat.le_of_ble_eq_true rfl⟩ ⟨Nat.le_refl _, Nat.le_refl _⟩ dX11_advance_104) (fun H locs hM => ?_)
            refine lv_aload_n hx hb dX11_advance_107 rfl (lv_at hl 1 rfl) ?_
            refine lv_iload_n hx hb dX11_advance_108 rfl (lv_at hl 0 rfl) ?_
            obtain ⟨x27, hc28, hf⟩ := jb hf
            refine jbackL hM (jrunV E hM ci_X11_paidTo (C_X11_paidTo hc28) lk_5_201 hq2 (by decide) rfl hl.1 rfl rfl (Nat.le_of_ble_eq_true rfl) ⟨Nat.le_of_ble_eq_true rfl, Nat.le_of_ble_eq_true rfl⟩ ⟨Nat.le_refl _, Nat.le_refl _⟩ dX11_advance_109) (fun H locs hM => ?_)
            refine lv_lsub hx hb dX11_advance_112 ?_
            refine lv_topl (fun x29 ex29 => ?_)
            have hf := jlet_y ex29 hf
            refine lv_lstore (lv' := [(4, .long x29), (3, .int x12), (0, .ref (g.2.2 + v0)), (1, .int v1), (2, .int v2)]) hx hb dX11_advance_113 hl (by decide) rfl (fun ls hl => ?_)
            refine lv_aload_n hx hb dX11_advance_115 rfl (lv_at hl 2 rfl) ?_
            refine lv_aload_n hx hb dX11_advance_116 rfl (lv_at hl 2 rfl) ?_
            refine gt_78 E hM hq2 lk_2_146 dX11_advance_117 ?_
            obtain ⟨r30, hr31, hf⟩ := jb hf
            rw [hr31]
            show W p l e _ s m args below meth c H locs 0 0 _ (F0 m _ ls (.ref (g.2.2 + r30) :: _))
            refine lv_iload_n hx hb dX11_advance_120 rfl (lv_at hl 1 rfl) ?_
            obtain ⟨ha32, hf⟩ := jif hf
            refine jaald (k := 16) (t0 := 5) E hM ha32 (by decide) (by decide) rfl dX11_advance_121 ?_
            obtain ⟨r33, hr34, hf⟩ := jb hf
            rw [hr34]
            show W p l e _ s m args below meth c H locs 0 0 _ (F0 m _ ls (.ref (g.2.2 + r33) :: _))
            refine lv_aload_n hx hb dX11_advance_122 rfl (lv_at hl 2 rfl) ?_
            refine gt_84 E hM hq2 lk_2_152 dX11_advance_123 ?_
            refine lv_aload_n hx hb dX11_advance_126 rfl (lv_at hl 2 rfl) ?_
            refine gt_84 E hM hq2 lk_2_152 dX11_advance_127 ?_
            refine lv_aload_n hx hb dX11_advance_130 rfl (lv_at hl 2 rfl) ?_
            refine gt_82 E hM hq2 lk_2_150 dX11_advance_131 ?_
            obtain ⟨x35, S36, hc37, hf⟩ := jbd_e hf
            refine jbackL hM (jrunV E hM ci_X11_dues (C_X11_dues hc37) lk_5_164 hq2 (by decide) rfl hl.1 rfl rfl (Nat.le_of_ble_eq_true rfl) ⟨Nat.le_of_ble_eq_true rfl, Nat.le_of_ble_eq_true rfl⟩ ⟨Nat.le_refl _, Nat.le_refl _⟩ dX11_advance_134) (fun H locs hM => ?_)
            refine lv_lstore (lv' := [(6, .long x35), (4, .long x29), (3, .int x12), (0, .ref (g.2.2 + v0)), (1, .int v1), (2, .int v2)]) hx hb dX11_advance_137 hl (by decide) rfl (fun ls hl => ?_)
            refine lv_aload_n hx hb dX11_advance_139 rfl (lv_at hl 3 rfl) ?_
            refine lv_iload_n hx hb dX11_advance_140 rfl (lv_at hl 2 rfl) ?_
            refine lv_lload hx hb dX11_advance_141 (lv_at hl 0 rfl) ?_
            refine lv_lload hx hb dX11_advance_143 (lv_at hl 1 rfl) ?_
            obtain ⟨S38, hc39, hf⟩ := jb hf
            refine jbackV hM (jrunV E hM ci_X11_pay (C_X11_pay hc39) lk_5_205 hq2 (by decide) rfl hl.1 rfl rfl (Nat.le_of_ble_eq_true rfl) ⟨Nat.le_of_ble_eq_true rfl, Nat.le_of_ble_eq_true rfl⟩ ⟨Nat.le_refl _, Nat.le_refl _⟩ dX11_advance_145) (fun H locs hM => ?_)
            refine lv_aload_n hx hb dX11_advance_148 rfl (lv_at hl 3 rfl) ?_
            refine lv_dup hx hb dX11_advance_149 rfl ?_
            refine gt_87 E hM hq2 lk_2_155 dX11_advance_150 ?_
            refine lv_iconst (v := (1 : Int32)) hx hb dX11_advance_153 (by decide) ?_
            refine lv_iadd hx hb dX11_advance_154 ?_
            refine pt_87 E hM hq2 lk_2_155 dX11_advance_155 (fun H locs S40 eS40 hM => ?_)
            have hf := jlet_y eS40 hf
            obtain ⟨x41, ex41⟩ : ∃ z, z = v2 + (1 : Int32) := ⟨_, rfl⟩
            have hf := jlet_y ex41 hf
            refine lv_iinc (v := x41) (lv' := [(2, .int x41), (6, .long x35), (4, .long x29), (3, .int x12), (0, .ref (g.2.2 + v0)), (1, .int v1)]) hx hb dX11_advance_158 hl (k := 5) rfl (by rw [ex41]; rfl) (by decide) rfl (fun ls hl => ?_)
            refine lv_goto (tgt := 30) hx hb dX11_advance_161 (by decide) ?_
            exact ih v0 v1 x41 S40 _ _ _ hf hM (lv_sub hl [4, 5, 0] rfl)
set_option maxRecDepth 100000 in
set_option maxHeartbeats 4000000 in
theorem B_X11_advance_0 {p : Program} {l : Launch} {e : Env} {s : State} {m : MethodId} {args : Array Value} {below : List Frame} {meth : Method} {c : Code} {g : jG} {rr : Int32} {SS : jM} {v0 : Nat} {v1 : Int32} {S : jM} (E : jEnv p s m args meth c cX11_advance "PensionHouse" (some .int) 8 g)  {H : Heap} {locs : List Loc} {ls : Array Slot} (hf : f_X11_advance v0 v1 S = some (rr, SS)) (hM : jAt g S s H locs) (hl : lv_has ls 8 [(0, .ref (g.2.2 + v0)), (1, .int v1)]) : W p l e (jRm 8 0 0) s m args below meth c H locs 0 0 (MQ below (jQi g rr SS) args s 0 0 (jA0 g)) (F0 m 0 ls []) := by
  obtain ⟨hx, hb, hml, -, hts, hown, hK, -, hstr⟩ := id E
  unfold f_X11_advance at hf
  refine lv_iload_n hx hb dX11_advance_0 rfl (lv_at hl 1 rfl) ?_
  refine lv_iconst (v := (1 : Int32)) hx hb dX11_advance_1 (by decide) ?_
  refine lv_icmp_lt (tgt := 11) hx hb dX11_advance_2 (by decide) (fun c42 => ?_) (fun c42 => ?_)
  · have hf := jt c42 hf
    refine lv_bipush (v := (-3 : Int32)) hx hb dX11_advance_11 (by decide) ?_
    exact jireti (jr2 hf) E hM dX11_advance_13
  · have hf := jf c42 hf
    refine lv_iload_n hx hb dX11_advance_5 rfl (lv_at hl 1 rfl) ?_
    refine lv_bipush (v := (6 : Int32)) hx hb dX11_advance_6 (by decide) ?_
    refine lv_icmp_le (tgt := 14) hx hb dX11_advance_8 (by decide) (fun c43 => ?_) (fun c43 => ?_)
    · have hf := jt c43 hf
      refine lv_aload_n hx hb dX11_advance_14 rfl (lv_at hl 0 rfl) ?_
      obtain ⟨hq44, hf⟩ := jif hf
      refine gt_87 E hM hq44 lk_2_155 dX11_advance_15 ?_
      refine lv_aload_n hx hb dX11_advance_18 rfl (lv_at hl 0 rfl) ?_
      refine gt_86 E hM hq44 lk_2_154 dX11_advance_19 ?_
      refine lv_icmp_lt (tgt := 28) hx hb dX11_advance_22 (by decide) (fun c45 => ?_) (fun c45 => ?_)
      · have hf := jt c45 hf
        refine lv_iconst (v := (0 : Int32)) hx hb dX11_advance_28 (by decide) ?_
        refine lv_istore_n (lv' := [(2, .int (0 : Int32)), (0, .ref (g.2.2 + v0)), (1, .int v1)]) hx hb dX11_advance_29 rfl hl (by decide) rfl (fun ls hl => ?_)
        exact B_X11_advance_30 E  1100000 v0 v1 (0 : Int32) S _ _ _ hf hM (lv_sub hl [1, 2, 0] rfl)
      · have hf := jf c45 hf
        refine lv_bipush (v := (-4 : Int32)) hx hb dX11_advance_25 (by decide) ?_
        exact jireti (jr2 hf) E hM dX11_advance_27
    · have hf := jf c43 hf
      refine lv_bipush (v := (-3 : Int32)) hx hb dX11_advance_11 (by decide) ?_
      exact jireti (jr2 hf) E hM dX11_advance_13
set_option maxRecDepth 100000 in
theorem C_X11_advance {l : Launch} {g : jG} {a0 : Nat} {a1 : Int32} {S : jM} {rr : Int32} {SS : jM} (hf : f_X11_advance a0 a1 S = some (rr, SS)) : jMet l g yX11_advance cX11_advance 8 (some .int) 8 0 0 [.ref (g.2.2 + a0), .int a1] S (jQi g rr SS) := by
  refine jof (by decide +kernel) (Nat.le_of_ble_eq_true rfl) ?_
  intro p e s m below meth c E hM ls hl
  have hl : lv_has ls 8 [(0, .ref (g.2.2 + a0)),(1, .int a1)] := hl
  exact B_X11_advance_0 E hf hM hl
-- PensionHouse.annul(I)I  mode M
noncomputable def f_X11_annul (v0 : Nat) (v1 : Int32) (S : jM) : Option (Int32 × jM) := if v1 < 0 then some ((-2 : Int32), S) else if jK v0 = 9 then (jR S 69 v0).bind (fun r3 => if jK r3 = 4 then if v1 < (jI S 34 r3) then (jR S 69 v0).bind (fun r7 => if jK r7 = 4 then (jR S 35 r7).bind (fun r10 => if jA r10 17 v1 = true then (jAR S r10 (v1).toNatClampNeg).bind (fun r13 => if jK r13 = 2 then if (jI S 22 r13) = (-1 : Int32) then (jR S 69 v0).bind (fun r17 => if jK r17 = 4 then (jR S 35 r17).bind (fun r20 => if jA r20 17 v1 = true then (jAR S r20 (v1).toNatClampNeg).bind (fun r23 => if jK r23 = 2 then jlet (jsI S 22 r23 (jI S 82 v0)) (fun S26 => some ((1 : Int32), S26)) else none) else none) else none) else some ((-4 : Int32), S) else none) else none) else none) else some ((-2 : Int32), S) else none) else none
set_option maxRecDepth 100000 in
set_option maxHeartbeats 4000000 in
theorem B_X11_annul_0 {p : Program} {l : Launch} {e : Env} {s : State} {m : MethodId} {args : Array Value} {below : List Frame} {meth : Method} {c : Code} {g : jG} {rr : Int32} {SS : jM} {v0 : Nat} {v1 : Int32} {S : jM} (E : jEnv p s m args meth c cX11_annul "PensionHouse" (some .int) 2 g)  {H : Heap} {locs : List Loc} {ls : Array Slot} (hf : f_X11_annul v0 v1 S = some (rr, SS)) (hM : jAt g S s H locs) (hl : lv_has ls 2 [(0, .ref (g.2.2 + v0)), (1, .int v1)]) : W p l e (jRm 1 0 0) s m args below meth c H locs 0 0 (MQ below (jQi g rr SS) args s 0 0 (jA0 g)) (F0 m 0 ls []) := by
  obtain ⟨hx, hb, hml, -, hts, hown, hK, -, hstr⟩ := id E
  unfold f_X11_annul at hf
  refine lv_iload_n hx hb dX11_annul_0 rfl (lv_at hl 1 rfl) ?_
  refine lv_if_lt (tgt := 15) hx hb dX11_annul_1 (by decide) (fun c1 => ?_) (fun c1 => ?_)
  · have hf := jt c1 hf
    refine lv_bipush (v := (-2 : Int32)) hx hb dX11_annul_15 (by decide) ?_
    exact jireti (jr2 hf) E hM dX11_annul_17
  · have hf := jf c1 hf
    refine lv_iload_n hx hb dX11_annul_4 rfl (lv_at hl 1 rfl) ?_
    refine lv_aload_n hx hb dX11_annul_5 rfl (lv_at hl 0 rfl) ?_
    obtain ⟨hq2, hf⟩ := jif hf
    refine gt_69 E hM hq2 lk_2_137 dX11_annul_6 ?_
    obtain ⟨r3, hr4, hf⟩ := jb hf
    rw [hr4]
    show W p l e _ s m args below meth c H locs 0 0 _ (F0 m _ ls (.ref (g.2.2 + r3) :: _))
    obtain ⟨hq5, hf⟩ := jif hf
    refine gt_34 E hM hq5 lk_1_108 dX11_annul_9 ?_
    refine lv_icmp_lt (tgt := 18) hx hb dX11_annul_12 (by decide) (fun c6 => ?_) (fun c6 => ?_)
    · have hf := jt c6 hf
      refine lv_aload_n hx hb dX11_annul_18 rfl (lv_at hl 0 rfl) ?_
      refine gt_69 E hM hq2 lk_2_137 dX11_annul_19 ?_
      obtain ⟨r7, hr8, hf⟩ := jb hf
      rw [hr8]
      show W p l e _ s m args below meth c H locs 0 0 _ (F0 m _ ls (.ref (g.2.2 + r7) :: _))
      obtain ⟨hq9, hf⟩ := jif hf
      refine gt_35 E hM hq9 lk_1_110 dX11_annul_22 ?_
      obtain ⟨r10, hr11, hf⟩ := jb hf
      rw [hr11]
      show W p l e _ s m args below meth c H locs 0 0 _ (F0 m _ ls (.ref (g.2.2 + r10) :: _))
      refine lv_iload_n hx hb dX11_annul_25 rfl (lv_at hl 1 rfl) ?_
      obtain ⟨ha12, hf⟩ := jif hf
      refine jaald (k := 17) (t0 := 6) E hM ha12 (by decide) (by decide) rfl dX11_annul_26 ?_
      obtain ⟨r13, hr14, hf⟩ := jb hf
      rw [hr14]
      show W p l e _ s m args below meth c H locs 0 0 _ (F0 m _ ls (.ref (g.2.2 + r13) :: _))
      obtain ⟨hq15, hf⟩ := jif hf
      refine gt_22 E hM hq15 lk_1_83 dX11_annul_27 ?_
      refine lv_iconst (v := (-1 : Int32)) hx hb dX11_annul_30 (by decide) ?_
      refine lv_icmp_eq (tgt := 37) hx hb dX11_annul_31 (by decide) (fun c16 => ?_) (fun c16 => ?_)
      · have hf := jt c16 hf
        refine lv_aload_n hx hb dX11_annul_37 rfl (lv_at hl 0 rfl) ?_
        refine gt_69 E hM hq2 lk_2_137 dX11_annul_38 ?_
        obtain ⟨r17, hr18, hf⟩ := jb hf
        rw [hr18]
        show W p l e _ s m args below meth c H locs 0 0 _ (F0 m _ ls (.ref (g.2.2 + r17) :: _))
        obtain ⟨hq19, hf⟩ := jif hf
        refine gt_35 E hM hq19 lk_1_110 dX11_annul_41 ?_
        obtain ⟨r20, hr21, hf⟩ := jb hf
        rw [hr21]
        show W p l e _ s m args below meth c H locs 0 0 _ (F0 m _ ls (.ref (g.2.2 + r20) :: _))
        refine lv_iload_n hx hb dX11_annul_44 rfl (lv_at hl 1 rfl) ?_
        obtain ⟨ha22, hf⟩ := jif hf
        refine jaald (k := 17) (t0 := 6) E hM ha22 (by decide) (by decide) rfl dX11_annul_45 ?_
        obtain ⟨r23, hr24, hf⟩ := jb hf
        rw [hr24]
        show W p l e _ s m args below meth c H locs 0 0 _ (F0 m _ ls (.ref (g.2.2 + r23) :: _))
        refine lv_aload_n hx hb dX11_annul_46 rfl (lv_at hl 0 rfl) ?_
        refine gt_82 E hM hq2 lk_2_150 dX11_annul_47 ?_
        obtain ⟨hq25, hf⟩ := jif hf
        refine pt_22 E hM hq25 lk_1_83 dX11_annul_50 (fun H locs S26 eS26 hM => ?_)
        have hf := jlet_y eS26 hf
        refine lv_iconst (v := (1 : Int32)) hx hb dX11_annul_53 (by decide) ?_
        exact jireti (jr2 hf) E hM dX11_annul_54
      · have hf := jf c16 hf
        refine lv_bipush (v := (-4 : Int32)) hx hb dX11_annul_34 (by decide) ?_
        exact jireti (jr2 hf) E hM dX11_annul_36
    · have hf := jf c6 hf
      refine lv_bipush (v := (-2 : Int32)) hx hb dX11_annul_15 (by decide) ?_
      exact jireti (jr2 hf) E hM dX11_annul_17
set_option maxRecDepth 100000 in
theorem C_X11_annul {l : Launch} {g : jG} {a0 : Nat} {a1 : Int32} {S : jM} {rr : Int32} {SS : jM} (hf : f_X11_annul a0 a1 S = some (rr, SS)) : jMet l g yX11_annul cX11_annul 2 (some .int) 1 0 0 [.ref (g.2.2 + a0), .int a1] S (jQi g rr SS) := by
  refine jof (by decide +kernel) (Nat.le_of_ble_eq_true rfl) ?_
  intro p e s m below meth c E hM ls hl
  have hl : lv_has ls 2 [(0, .ref (g.2.2 + a0)),(1, .int a1)] := hl
  exact B_X11_annul_0 E hf hM hl
-- PensionHouse.isMember(I)Z  mode T
noncomputable def f_X11_isMember (v0 : Int32) : Int32 := if v0 < 0 then (0 : Int32) else if (10 : Int32) ≤ v0 then (0 : Int32) else (1 : Int32)
set_option maxRecDepth 100000 in
set_option maxHeartbeats 4000000 in
theorem B_X11_isMember_0 {p : Program} {l : Launch} {e : Env} {s : State} {m : MethodId} {args : Array Value} {below : List Frame} {meth : Method} {c : Code} {g : jG} {rr : Int32} {S : jM} {v0 : Int32} (E : jEnv p s m args meth c cX11_isMember "PensionHouse" (some .boolean) 1 g)  {H : Heap} {locs : List Loc} {ls : Array Slot} (hf : f_X11_isMember v0 = rr) (hM : jAt g S s H locs) (hl : lv_has ls 1 [(0, .int v0)]) : W p l e (jRm 1 0 0) s m args below meth c H locs 0 0 (MQ below (jQi g rr S) args s 0 0 (jA0 g)) (F0 m 0 ls []) := by
  obtain ⟨hx, hb, hml, -, hts, hown, hK, -, hstr⟩ := id E
  unfold f_X11_isMember at hf
  refine lv_iload_n hx hb dX11_isMember_0 rfl (lv_at hl 0 rfl) ?_
  refine lv_if_lt (tgt := 14) hx hb dX11_isMember_1 (by decide) (fun c1 => ?_) (fun c1 => ?_)
  · have hf := jt c1 hf
    refine lv_iconst (v := (0 : Int32)) hx hb dX11_isMember_14 (by decide) ?_
    exact jiretz (jr0 hf) E hM (by decide) dX11_isMember_15
  · have hf := jf c1 hf
    refine lv_iload_n hx hb dX11_isMember_4 rfl (lv_at hl 0 rfl) ?_
    refine lv_bipush (v := (10 : Int32)) hx hb dX11_isMember_5 (by decide) ?_
    refine lv_icmp_ge (tgt := 14) hx hb dX11_isMember_7 (by decide) (fun c2 => ?_) (fun c2 => ?_)
    · have hf := jt c2 hf
      refine lv_iconst (v := (0 : Int32)) hx hb dX11_isMember_14 (by decide) ?_
      exact jiretz (jr0 hf) E hM (by decide) dX11_isMember_15
    · have hf := jf c2 hf
      refine lv_iconst (v := (1 : Int32)) hx hb dX11_isMember_10 (by decide) ?_
      refine lv_goto (tgt := 15) hx hb dX11_isMember_11 (by decide) ?_
      exact jiretz (jr0 hf) E hM (by decide) dX11_isMember_15
set_option maxRecDepth 100000 in
theorem C_X11_isMember {l : Launch} {g : jG} {a0 : Int32} {S : jM} {rr : Int32} (hf : f_X11_isMember a0 = rr) : jMet l g yX11_isMember cX11_isMember 1 (some .boolean) 1 0 0 [.int a0] S (jQi g rr S) := by
  refine jof (by decide +kernel) (Nat.le_of_ble_eq_true rfl) ?_
  intro p e s m below meth c E hM ls hl
  have hl : lv_has ls 1 [(0, .int a0)] := hl
  exact B_X11_isMember_0 E hf hM hl
-- PensionHouse.isScheme(I)Z  mode T
noncomputable def f_X11_isScheme (v0 : Int32) : Int32 := if v0 < 0 then (0 : Int32) else if (4 : Int32) ≤ v0 then (0 : Int32) else (1 : Int32)
set_option maxRecDepth 100000 in
set_option maxHeartbeats 4000000 in
theorem B_X11_isScheme_0 {p : Program} {l : Launch} {e : Env} {s : State} {m : MethodId} {args : Array Value} {below : List Frame} {meth : Method} {c : Code} {g : jG} {rr : Int32} {S : jM} {v0 : Int32} (E : jEnv p s m args meth c cX11_isScheme "PensionHouse" (some .boolean) 1 g)  {H : Heap} {locs : List Loc} {ls : Array Slot} (hf : f_X11_isScheme v0 = rr) (hM : jAt g S s H locs) (hl : lv_has ls 1 [(0, .int v0)]) : W p l e (jRm 1 0 0) s m args below meth c H locs 0 0 (MQ below (jQi g rr S) args s 0 0 (jA0 g)) (F0 m 0 ls []) := by
  obtain ⟨hx, hb, hml, -, hts, hown, hK, -, hstr⟩ := id E
  unfold f_X11_isScheme at hf
  refine lv_iload_n hx hb dX11_isScheme_0 rfl (lv_at hl 0 rfl) ?_
  refine lv_if_lt (tgt := 13) hx hb dX11_isScheme_1 (by decide) (fun c1 => ?_) (fun c1 => ?_)
  · have hf := jt c1 hf
    refine lv_iconst (v := (0 : Int32)) hx hb dX11_isScheme_13 (by decide) ?_
    exact jiretz (jr0 hf) E hM (by decide) dX11_isScheme_14
  · have hf := jf c1 hf
    refine lv_iload_n hx hb dX11_isScheme_4 rfl (lv_at hl 0 rfl) ?_
    refine lv_iconst (v := (4 : Int32)) hx hb dX11_isScheme_5 (by decide) ?_
    refine lv_icmp_ge (tgt := 13) hx hb dX11_isScheme_6 (by decide) (fun c2 => ?_) (fun c2 => ?_)
    · have hf := jt c2 hf
      refine lv_iconst (v := (0 : Int32)) hx hb dX11_isScheme_13 (by decide) ?_
      exact jiretz (jr0 hf) E hM (by decide) dX11_isScheme_14
    · have hf := jf c2 hf
      refine lv_iconst (v := (1 : Int32)) hx hb dX11_isScheme_9 (by decide) ?_
      refine lv_goto (tgt := 14) hx hb dX11_isScheme_10 (by decide) ?_
      exact jiretz (jr0 hf) E hM (by decide) dX11_isScheme_14
set_option maxRecDepth 100000 in
theorem C_X11_isScheme {l : Launch} {g : jG} {a0 : Int32} {S : jM} {rr : Int32} (hf : f_X11_isScheme a0 = rr) : jMet l g yX11_isScheme cX11_isScheme 1 (some .boolean) 1 0 0 [.int a0] S (jQi g rr S) := by
  refine jof (by decide +kernel) (Nat.le_of_ble_eq_true rfl) ?_
  intro p e s m below meth c E hM ls hl
  have hl : lv_has ls 1 [(0, .int a0)] := hl
  exact B_X11_isScheme_0 E hf hM hl
-- PensionHouse.isMonth(I)Z  mode T
noncomputable def f_X11_isMonth (v0 : Int32) : Int32 := if v0 < 0 then (0 : Int32) else if (12 : Int32) < v0 then (0 : Int32) else (1 : Int32)
set_option maxRecDepth 100000 in
set_option maxHeartbeats 4000000 in
theorem B_X11_isMonth_0 {p : Program} {l : Launch} {e : Env} {s : State} {m : MethodId} {args : Array Value} {below : List Frame} {meth : Method} {c : Code} {g : jG} {rr : Int32} {S : jM} {v0 : Int32} (E : jEnv p s m args meth c cX11_isMonth "PensionHouse" (some .boolean) 1 g)  {H : Heap} {locs : List Loc} {ls : Array Slot} (hf : f_X11_isMonth v0 = rr) (hM : jAt g S s H locs) (hl : lv_has ls 1 [(0, .int v0)]) : W p l e (jRm 1 0 0) s m args below meth c H locs 0 0 (MQ below (jQi g rr S) args s 0 0 (jA0 g)) (F0 m 0 ls []) := by
  obtain ⟨hx, hb, hml, -, hts, hown, hK, -, hstr⟩ := id E
  unfold f_X11_isMonth at hf
  refine lv_iload_n hx hb dX11_isMonth_0 rfl (lv_at hl 0 rfl) ?_
  refine lv_if_lt (tgt := 14) hx hb dX11_isMonth_1 (by decide) (fun c1 => ?_) (fun c1 => ?_)
  · have hf := jt c1 hf
    refine lv_iconst (v := (0 : Int32)) hx hb dX11_isMonth_14 (by decide) ?_
    exact jiretz (jr0 hf) E hM (by decide) dX11_isMonth_15
  · have hf := jf c1 hf
    refine lv_iload_n hx hb dX11_isMonth_4 rfl (lv_at hl 0 rfl) ?_
    refine lv_bipush (v := (12 : Int32)) hx hb dX11_isMonth_5 (by decide) ?_
    refine lv_icmp_gt (tgt := 14) hx hb dX11_isMonth_7 (by decide) (fun c2 => ?_) (fun c2 => ?_)
    · have hf := jt c2 hf
      refine lv_iconst (v := (0 : Int32)) hx hb dX11_isMonth_14 (by decide) ?_
      exact jiretz (jr0 hf) E hM (by decide) dX11_isMonth_15
    · have hf := jf c2 hf
      refine lv_iconst (v := (1 : Int32)) hx hb dX11_isMonth_10 (by decide) ?_
      refine lv_goto (tgt := 15) hx hb dX11_isMonth_11 (by decide) ?_
      exact jiretz (jr0 hf) E hM (by decide) dX11_isMonth_15
set_option maxRecDepth 100000 in
theorem C_X11_isMonth {l : Launch} {g : jG} {a0 : Int32} {S : jM} {rr : Int32} (hf : f_X11_isMonth a0 = rr) : jMet l g yX11_isMonth cX11_isMonth 1 (some .boolean) 1 0 0 [.int a0] S (jQi g rr S) := by
  refine jof (by decide +kernel) (Nat.le_of_ble_eq_true rfl) ?_
  intro p e s m below meth c E hM ls hl
  have hl : lv_has ls 1 [(0, .int a0)] := hl
  exact B_X11_isMonth_0 E hf hM hl
-- PensionHouse.award(III)I  mode M
noncomputable def f_X11_award_70 (k30 : Nat → Int32 → Int32 → Int32 → Int32 → jM → Option (Int32 × jM)) (v0 : Nat) (v1 : Int32) (v2 : Int32) (v3 : Int32) (v4 : Int32) (S : jM) : Option (Int32 × jM) := jlet (v4 + (1 : Int32)) (fun x1 => k30 v0 v1 v2 v3 x1 S)
noncomputable def f_X11_award_30 : Nat → Nat → Int32 → Int32 → Int32 → Int32 → jM → Option (Int32 × jM)
  | 0, _, _, _, _, _, _ => none
  | n + 1, v0, v1, v2, v3, v4, S => if jK v0 = 9 then if (jI S 79 v0) ≤ v4 then if (jI S 79 v0) = (6 : Int32) then some ((-5 : Int32), S) else (jR S 78 v0).bind (fun r5 => if jA r5 16 (jI S 79 v0) = true then (jAR S r5 (jI S 79 v0).toNatClampNeg).bind (fun r8 => if jK r8 = 0 then jlet (jsI S 0 r8 v1) (fun S11 => (jR S11 78 v0).bind (fun r12 => if jA r12 16 (jI S11 79 v0) = true then (jAR S11 r12 (jI S11 79 v0).toNatClampNeg).bind (fun r15 => if jK r15 = 0 then jlet (jsI S11 1 r15 v2) (fun S18 => (jR S18 78 v0).bind (fun r19 => if jA r19 16 (jI S18 79 v0) = true then (jAR S18 r19 (jI S18 79 v0).toNatClampNeg).bind (fun r22 => if jK r22 = 0 then jlet (jsI S18 2 r22 v3) (fun S25 => jlet (jI S25 79 v0) (fun x26 => jlet (jsI S25 79 v0 (x26 + (1 : Int32))) (fun S27 => some (x26, S27)))) else none) else none)) else none) else none)) else none) else none) else (jR S 78 v0).bind (fun r28 => if jA r28 16 v4 = true then (jAR S r28 (v4).toNatClampNeg).bind (fun r31 => if jK r31 = 0 then if (jI S 0 r31) = v1 then (jR S 78 v0).bind (fun r35 => if jA r35 16 v4 = true then (jAR S r35 (v4).toNatClampNeg).bind (fun r38 => if jK r38 = 0 then if (jI S 1 r38) = v2 then some ((-4 : Int32), S) else f_X11_award_70 (f_X11_award_30 n) v0 v1 v2 v3 v4 S else none) else none) else f_X11_award_70 (f_X11_award_30 n) v0 v1 v2 v3 v4 S else none) else none) else none
noncomputable def f_X11_award (v0 : Nat) (v1 : Int32) (v2 : Int32) (v3 : Int32) (S : jM) : Option (Int32 × jM) := if (f_X11_isMember v1) = 0 then some ((-2 : Int32), S) else if (f_X11_isScheme v2) = 0 then some ((-2 : Int32), S) else if (f_X11_isMonth v3) = 0 then some ((-3 : Int32), S) else f_X11_award_30 1100000 v0 v1 v2 v3 (0 : Int32) S
set_option maxRecDepth 100000 in
set_option maxHeartbeats 4000000 in
theorem B_X11_award_70 {p : Program} {l : Launch} {e : Env} {s : State} {m : MethodId} {args : Array Value} {below : List Frame} {meth : Method} {c : Code} {g : jG} {rr : Int32} {SS : jM} {v0 : Nat} {v1 : Int32} {v2 : Int32} {v3 : Int32} {v4 : Int32} {S : jM} {k30 : Nat → Int32 → Int32 → Int32 → Int32 → jM → Option (Int32 × jM)} (E : jEnv p s m args meth c cX11_award "PensionHouse" (some .int) 5 g) (hk30 : ∀ (v0 : Nat) (v1 : Int32) (v2 : Int32) (v3 : Int32) (v4 : Int32) (S : jM) (H : Heap) (locs : List Loc) (ls : Array Slot), k30 v0 v1 v2 v3 v4 S = some (rr, SS) → jAt g S s H locs → lv_has ls 5 [(0, .ref (g.2.2 + v0)), (1, .int v1), (2, .int v2), (3, .int v3), (4, .int v4)] → W p l e (jRm 2 0 0) s m args below meth c H locs 0 0 (MQ below (jQi g rr SS) args s 0 0 (jA0 g)) (F0 m 30 ls [])) {H : Heap} {locs : List Loc} {ls : Array Slot} (hf : f_X11_award_70 k30 v0 v1 v2 v3 v4 S = some (rr, SS)) (hM : jAt g S s H locs) (hl : lv_has ls 5 [(0, .ref (g.2.2 + v0)), (1, .int v1), (2, .int v2), (3, .int v3), (4, .int v4)]) : W p l e (jRm 2 0 0) s m args below meth c H locs 0 0 (MQ below (jQi g rr SS) args s 0 0 (jA0 g)) (F0 m 70 ls []) := by
  obtain ⟨hx, hb, hml, -, hts, hown, hK, -, hstr⟩ := id E
  unfold f_X11_award_70 at hf
  obtain ⟨x1, ex1⟩ : ∃ z, z = v4 + (1 : Int32) := ⟨_, rfl⟩
  have hf := jlet_y ex1 hf
  refine lv_iinc (v := x1) (lv' := [(4, .int x1), (0, .ref (g.2.2 + v0)), (1, .int v1), (2, .int v2), (3, .int v3)]) hx hb dX11_award_70 hl (k := 4) rfl (by rw [ex1]; rfl) (by decide) rfl (fun ls hl => ?_)
  refine lv_goto (tgt := 30) hx hb dX11_award_73 (by decide) ?_
  exact hk30 v0 v1 v2 v3 x1 S _ _ _ hf hM (lv_sub hl [1, 2, 3, 4, 0] rfl)
set_option maxRecDepth 100000 in
set_option maxHeartbeats 4000000 in
theorem B_X11_award_30 {p : Program} {l : Launch} {e : Env} {s : State} {m : MethodId} {args : Array Value} {below : List Frame} {meth : Method} {c : Code} {g : jG} {rr : Int32} {SS : jM} (E : jEnv p s m args meth c cX11_award "PensionHouse" (some .int) 5 g)  : ∀ (n : Nat) (v0 : Nat) (v1 : Int32) (v2 : Int32) (v3 : Int32) (v4 : Int32) (S : jM) (H : Heap) (locs : List Loc) (ls : Array Slot), f_X11_award_30 n v0 v1 v2 v3 v4 S = some (rr, SS) → jAt g S s H locs → lv_has ls 5 [(0, .ref (g.2.2 + v0)), (1, .int v1), (2, .int v2), (3, .int v3), (4, .int v4)] → W p l e (jRm 2 0 0) s m args below meth c H locs 0 0 (MQ below (jQi g rr SS) args s 0 0 (jA0 g)) (F0 m 30 ls []) := by
  obtain ⟨hx, hb, hml, -, hts, hown, hK, -, hstr⟩ := id E
  intro n
  induction n with
  | zero => intro v0 v1 v2 v3 v4 S H locs ls hf hM hl; rw [f_X11_award_30] at hf; cases hf
  | succ n ih =>
    intro v0 v1 v2 v3 v4 S H locs ls hf hM hl
    rw [f_X11_award_30] at hf
    refine lv_iload hx hb dX11_award_30 (lv_at hl 4 rfl) ?_
    refine lv_aload_n hx hb dX11_award_32 rfl (lv_at hl 0 rfl) ?_
    obtain ⟨hq2, hf⟩ := jif hf
    refine gt_79 E hM hq2 lk_2_147 dX11_award_33 ?_
    refine lv_icmp_ge (tgt := 76) hx hb dX11_award_36 (by decide) (fun c3 => ?_) (fun c3 => ?_)
    · have hf := jt c3 hf
      refine lv_aload_n hx hb dX11_award_76 rfl (lv_at hl 0 rfl) ?_
      refine gt_79 E hM hq2 lk_2_147 dX11_award_77 ?_
      refine lv_bipush (v := (6 : Int32)) hx hb dX11_award_80 (by decide) ?_
      refine lv_icmp_ne (tgt := 88) hx hb dX11_award_82 (by decide) (fun c4 => ?_) (fun c4 => ?_)
      · have hf := jf c4 hf
        refine lv_aload_n hx hb dX11_award_88 rfl (lv_at hl 0 rfl) ?_
        refine gt_78 E hM hq2 lk_2_146 dX11_award_89 ?_
        obtain ⟨r5, hr6, hf⟩ := jb hf
        rw [hr6]
        show W p l e _ s m args below meth c H locs 0 0 _ (F0 m _ ls (.ref (g.2.2 + r5) :: _))
        refine lv_aload_n hx hb dX11_award_92 rfl (lv_at hl 0 rfl) ?_
        refine gt_79 E hM hq2 lk_2_147 dX11_award_93 ?_
        obtain ⟨ha7, hf⟩ := jif hf
        refine jaald (k := 16) (t0 := 5) E hM ha7 (by decide) (by decide) rfl dX11_award_96 ?_
        obtain ⟨r8, hr9, hf⟩ := jb hf
        rw [hr9]
        show W p l e _ s m args below meth c H locs 0 0 _ (F0 m _ ls (.ref (g.2.2 + r8) :: _))
        refine lv_iload_n hx hb dX11_award_97 rfl (lv_at hl 1 rfl) ?_
        obtain ⟨hq10, hf⟩ := jif hf
        refine pt_0 E hM hq10 lk_2_116 dX11_award_98 (fun H locs S11 eS11 hM => ?_)
        have hf := jlet_y eS11 hf
        refine lv_aload_n hx hb dX11_award_101 rfl (lv_at hl 0 rfl) ?_
        refine gt_78 E hM hq2 lk_2_146 dX11_award_102 ?_
        obtain ⟨r12, hr13, hf⟩ := jb hf
        rw [hr13]
        show W p l e _ s m args below meth c H locs 0 0 _ (F0 m _ ls (.ref (g.2.2 + r12) :: _))
        refine lv_aload_n hx hb dX11_award_105 rfl (lv_at hl 0 rfl) ?_
        refine gt_79 E hM hq2 lk_2_147 dX11_award_106 ?_
        obtain ⟨ha14, hf⟩ := jif hf
        refine jaald (k := 16) (t0 := 5) E hM ha14 (by decide) (by decide) rfl dX11_award_109 ?_
        obtain ⟨r15, hr16, hf⟩ := jb hf
        rw [hr16]
        show W p l e _ s m args below meth c H locs 0 0 _ (F0 m _ ls (.ref (g.2.2 + r15) :: _))
        refine lv_iload_n hx hb dX11_award_110 rfl (lv_at hl 2 rfl) ?_
        obtain ⟨hq17, hf⟩ := jif hf
        refine pt_1 E hM hq17 lk_2_117 dX11_award_111 (fun H locs S18 eS18 hM => ?_)
        have hf := jlet_y eS18 hf
        refine lv_aload_n hx hb dX11_award_114 rfl (lv_at hl 0 rfl) ?_
        refine gt_78 E hM hq2 lk_2_146 dX11_award_115 ?_
        obtain ⟨r19, hr20, hf⟩ := jb hf
        rw [hr20]
        show W p l e _ s m args below meth c H locs 0 0 _ (F0 m _ ls (.ref (g.2.2 + r19) :: _))
        refine lv_aload_n hx hb dX11_award_118 rfl (lv_at hl 0 rfl) ?_
        refine gt_79 E hM hq2 lk_2_147 dX11_award_119 ?_
        obtain ⟨ha21, hf⟩ := jif hf
        refine jaald (k := 16) (t0 := 5) E hM ha21 (by decide) (by decide) rfl dX11_award_122 ?_
        obtain ⟨r22, hr23, hf⟩ := jb hf
        rw [hr23]
        show W p l e _ s m args below meth c H locs 0 0 _ (F0 m _ ls (.ref (g.2.2 + r22) :: _))
        refine lv_iload_n hx hb dX11_award_123 rfl (lv_at hl 3 rfl) ?_
        obtain ⟨hq24, hf⟩ := jif hf
        refine pt_2 E hM hq24 lk_2_118 dX11_award_124 (fun H locs S25 eS25 hM => ?_)
        have hf := jlet_y eS25 hf
        refine lv_aload_n hx hb dX11_award_127 rfl (lv_at hl 0 rfl) ?_
        refine lv_dup hx hb dX11_award_128 rfl ?_
        refine gt_79 E hM hq2 lk_2_147 dX11_award_129 ?_
        refine lv_topi (fun x26 ex26 => ?_)
        have hf := jlet_y ex26 hf
        refine lv_dup_x1 hx hb dX11_award_132 rfl rfl ?_
        refine lv_iconst (v := (1 : Int32)) hx hb dX11_award_133 (by decide) ?_
        refine lv_iadd hx hb dX11_award_134 ?_
        refine pt_79 E hM hq2 lk_2_147 dX11_award_135 (fun H locs S27 eS27 hM => ?_)
        have hf := jlet_y eS27 hf
        exact jireti (jr2 hf) E hM dX11_award_138
      · have hf := jt c4 hf
        refine lv_bipush (v := (-5 : Int32)) hx hb dX11_award_85 (by decide) ?_
        exact jireti (jr2 hf) E hM dX11_award_87
    · have hf := jf c3 hf
      refine lv_aload_n hx hb dX11_award_39 rfl (lv_at hl 0 rfl) ?_
      refine gt_78 E hM hq2 lk_2_146 dX11_award_40 ?_
      obtain ⟨r28, hr29, hf⟩ := jb hf
      rw [hr29]
      show W p l e _ s m args below meth c H locs 0 0 _ (F0 m _ ls (.ref (g.2.2 + r28) :: _))
      refine lv_iload hx hb dX11_award_43 (lv_at hl 4 rfl) ?_
      obtain ⟨ha30, hf⟩ := jif hf
      refine jaald (k := 16) (t0 := 5) E hM ha30 (by decide) (by decide) rfl dX11_award_45 ?_
      obtain ⟨r31, hr32, hf⟩ := jb hf
      rw [hr32]
      show W p l e _ s m args below meth c H locs 0 0 _ (F0 m _ ls (.ref (g.2.2 + r31) :: _))
      obtain ⟨hq33, hf⟩ := jif hf
      refine gt_0 E hM hq33 lk_2_116 dX11_award_46 ?_
      refine lv_iload_n hx hb dX11_award_49 rfl (lv_at hl 1 rfl) ?_
      refine lv_icmp_ne (tgt := 70) hx hb dX11_award_50 (by decide) (fun c34 => ?_) (fun c34 => ?_)
      · have hf := jf c34 hf
        exact B_X11_award_70 E ih hf hM (lv_sub hl [0, 1, 2, 3, 4] rfl)
      · have hf := jt c34 hf
        refine lv_aload_n hx hb dX11_award_53 rfl (lv_at hl 0 rfl) ?_
        refine gt_78 E hM hq2 lk_2_146 dX11_award_54 ?_
        obtain ⟨r35, hr36, hf⟩ := jb hf
        rw [hr36]
        show W p l e _ s m args below meth c H locs 0 0 _ (F0 m _ ls (.ref (g.2.2 + r35) :: _))
        refine lv_iload hx hb dX11_award_57 (lv_at hl 4 rfl) ?_
        obtain ⟨ha37, hf⟩ := jif hf
        refine jaald (k := 16) (t0 := 5) E hM ha37 (by decide) (by decide) rfl dX11_award_59 ?_
        obtain ⟨r38, hr39, hf⟩ := jb hf
        rw [hr39]
        show W p l e _ s m args below meth c H locs 0 0 _ (F0 m _ ls (.ref (g.2.2 + r38) :: _))
        obtain ⟨hq40, hf⟩ := jif hf
        refine gt_1 E hM hq40 lk_2_117 dX11_award_60 ?_
        refine lv_iload_n hx hb dX11_award_63 rfl (lv_at hl 2 rfl) ?_
        refine lv_icmp_ne (tgt := 70) hx hb dX11_award_64 (by decide) (fun c41 => ?_) (fun c41 => ?_)
        · have hf := jf c41 hf
          exact B_X11_award_70 E ih hf hM (lv_sub hl [0, 1, 2, 3, 4] rfl)
        · have hf := jt c41 hf
          refine lv_bipush (v := (-4 : Int32)) hx hb dX11_award_67 (by decide) ?_
          exact jireti (jr2 hf) E hM dX11_award_69
set_option maxRecDepth 100000 in
set_option maxHeartbeats 4000000 in
theorem B_X11_award_0 {p : Program} {l : Launch} {e : Env} {s : State} {m : MethodId} {args : Array Value} {below : List Frame} {meth : Method} {c : Code} {g : jG} {rr : Int32} {SS : jM} {v0 : Nat} {v1 : Int32} {v2 : Int32} {v3 : Int32} {S : jM} (E : jEnv p s m args meth c cX11_award "PensionHouse" (some .int) 5 g)  {H : Heap} {locs : List Loc} {ls : Array Slot} (hf : f_X11_award v0 v1 v2 v3 S = some (rr, SS)) (hM : jAt g S s H locs) (hl : lv_has ls 5 [(0, .ref (g.2.2 + v0)), (1, .int v1), (2, .int v2), (3, .int v3)]) : W p l e (jRm 2 0 0) s m args below meth c H locs 0 0 (MQ below (jQi g rr SS) args s 0 0 (jA0 g)) (F0 m 0 ls []) := by
  obtain ⟨hx, hb, hml, -, hts, hown, hK, -, hstr⟩ := id E
  unfold f_X11_award at hf
  refine lv_iload_n hx hb dX11_award_0 rfl (lv_at hl 1 rfl) ?_
  refine jbackI hM (jrunS E hM ci_X11_isMember (C_X11_isMember rfl) lk_3_210 hl.1 rfl rfl (Nat.le_of_ble_eq_true rfl) ⟨Nat.le_of_ble_eq_true rfl, Nat.le_of_ble_eq_true rfl⟩ ⟨Nat.le_refl _, Nat.le_refl _⟩ dX11_award_1) (fun H locs hM => ?_)
  refine lv_if_eq (tgt := 14) hx hb dX11_award_4 (by decide) (fun c42 => ?_) (fun c42 => ?_)
  · have hf := jt c42 hf
    refine lv_bipush (v := (-2 : Int32)) hx hb dX11_award_14 (by decide) ?_
    exact jireti (jr2 hf) E hM dX11_award_16
  · have hf := jf c42 hf
    refine lv_iload_n hx hb dX11_award_7 rfl (lv_at hl 2 rfl) ?_
    refine jbackI hM (jrunS E hM ci_X11_isScheme (C_X11_isScheme rfl) lk_4_5 hl.1 rfl rfl (Nat.le_of_ble_eq_true rfl) ⟨Nat.le_of_ble_eq_true rfl, Nat.le_of_ble_eq_true rfl⟩ ⟨Nat.le_refl _, Nat.le_refl _⟩ dX11_award_8) (fun H locs hM => ?_)
    refine lv_if_ne (tgt := 17) hx hb dX11_award_11 (by decide) (fun c43 => ?_) (fun c43 => ?_)
    · have hf := jf c43 hf
      refine lv_iload_n hx hb dX11_award_17 rfl (lv_at hl 3 rfl) ?_
      refine jbackI hM (jrunS E hM ci_X11_isMonth (C_X11_isMonth rfl) lk_5_153 hl.1 rfl rfl (Nat.le_of_ble_eq_true rfl) ⟨Nat.le_of_ble_eq_true rfl, Nat.le_of_ble_eq_true rfl⟩ ⟨Nat.le_refl _, Nat.le_refl _⟩ dX11_award_18) (fun H locs hM => ?_)
      refine lv_if_ne (tgt := 27) hx hb dX11_award_21 (by decide) (fun c44 => ?_) (fun c44 => ?_)
      · have hf := jf c44 hf
        refine lv_iconst (v := (0 : Int32)) hx hb dX11_award_27 (by decide) ?_
        refine lv_istore (lv' := [(4, .int (0 : Int32)), (0, .ref (g.2.2 + v0)), (1, .int v1), (2, .int v2), (3, .int v3)]) hx hb dX11_award_28 hl (by decide) rfl (fun ls hl => ?_)
        exact B_X11_award_30 E  1100000 v0 v1 v2 v3 (0 : Int32) S _ _ _ hf hM (lv_sub hl [1, 2, 3, 4, 0] rfl)
      · have hf := jt c44 hf
        refine lv_bipush (v := (-3 : Int32)) hx hb dX11_award_24 (by decide) ?_
        exact jireti (jr2 hf) E hM dX11_award_26
    · have hf := jt c43 hf
      refine lv_bipush (v := (-2 : Int32)) hx hb dX11_award_14 (by decide) ?_
      exact jireti (jr2 hf) E hM dX11_award_16
set_option maxRecDepth 100000 in
theorem C_X11_award {l : Launch} {g : jG} {a0 : Nat} {a1 : Int32} {a2 : Int32} {a3 : Int32} {S : jM} {rr : Int32} {SS : jM} (hf : f_X11_award a0 a1 a2 a3 S = some (rr, SS)) : jMet l g yX11_award cX11_award 5 (some .int) 2 0 0 [.ref (g.2.2 + a0), .int a1, .int a2, .int a3] S (jQi g rr SS) := by
  refine jof (by decide +kernel) (Nat.le_of_ble_eq_true rfl) ?_
  intro p e s m below meth c E hM ls hl
  have hl : lv_has ls 5 [(0, .ref (g.2.2 + a0)),(1, .int a1),(2, .int a2),(3, .int a3)] := hl
  exact B_X11_award_0 E hf hM hl
-- PensionHouse.isAward(I)Z  mode R
noncomputable def f_X11_isAward (v0 : Nat) (v1 : Int32) (S : jM) : Option Int32 := if v1 < 0 then some (0 : Int32) else if jK v0 = 9 then if (jI S 79 v0) ≤ v1 then some (0 : Int32) else some (1 : Int32) else none
set_option maxRecDepth 100000 in
set_option maxHeartbeats 4000000 in
theorem B_X11_isAward_0 {p : Program} {l : Launch} {e : Env} {s : State} {m : MethodId} {args : Array Value} {below : List Frame} {meth : Method} {c : Code} {g : jG} {rr : Int32} {S : jM} {v0 : Nat} {v1 : Int32} (E : jEnv p s m args meth c cX11_isAward "PensionHouse" (some .boolean) 2 g)  {H : Heap} {locs : List Loc} {ls : Array Slot} (hf : f_X11_isAward v0 v1 S = some rr) (hM : jAt g S s H locs) (hl : lv_has ls 2 [(0, .ref (g.2.2 + v0)), (1, .int v1)]) : W p l e (jRm 1 0 0) s m args below meth c H locs 0 0 (MQ below (jQi g rr S) args s 0 0 (jA0 g)) (F0 m 0 ls []) := by
  obtain ⟨hx, hb, hml, -, hts, hown, hK, -, hstr⟩ := id E
  unfold f_X11_isAward at hf
  refine lv_iload_n hx hb dX11_isAward_0 rfl (lv_at hl 1 rfl) ?_
  refine lv_if_lt (tgt := 16) hx hb dX11_isAward_1 (by decide) (fun c1 => ?_) (fun c1 => ?_)
  · have hf := jt c1 hf
    refine lv_iconst (v := (0 : Int32)) hx hb dX11_isAward_16 (by decide) ?_
    exact jiretz (jr1 hf) E hM (by decide) dX11_isAward_17
  · have hf := jf c1 hf
    refine lv_iload_n hx hb dX11_isAward_4 rfl (lv_at hl 1 rfl) ?_
    refine lv_aload_n hx hb dX11_isAward_5 rfl (lv_at hl 0 rfl) ?_
    obtain ⟨hq2, hf⟩ := jif hf
    refine gt_79 E hM hq2 lk_2_147 dX11_isAward_6 ?_
    refine lv_icmp_ge (tgt := 16) hx hb dX11_isAward_9 (by decide) (fun c3 => ?_) (fun c3 => ?_)
    · have hf := jt c3 hf
      refine lv_iconst (v := (0 : Int32)) hx hb dX11_isAward_16 (by decide) ?_
      exact jiretz (jr1 hf) E hM (by decide) dX11_isAward_17
    · have hf := jf c3 hf
      refine lv_iconst (v := (1 : Int32)) hx hb dX11_isAward_12 (by decide) ?_
      refine lv_goto (tgt := 17) hx hb dX11_isAward_13 (by decide) ?_
      exact jiretz (jr1 hf) E hM (by decide) dX11_isAward_17
set_option maxRecDepth 100000 in
theorem C_X11_isAward {l : Launch} {g : jG} {a0 : Nat} {a1 : Int32} {S : jM} {rr : Int32} (hf : f_X11_isAward a0 a1 S = some rr) : jMet l g yX11_isAward cX11_isAward 2 (some .boolean) 1 0 0 [.ref (g.2.2 + a0), .int a1] S (jQi g rr S) := by
  refine jof (by decide +kernel) (Nat.le_of_ble_eq_true rfl) ?_
  intro p e s m below meth c E hM ls hl
  have hl : lv_has ls 2 [(0, .ref (g.2.2 + a0)),(1, .int a1)] := hl
  exact B_X11_isAward_0 E hf hM hl
-- PensionHouse.balance(II)J  mode M
noncomputable def f_X11_balance (v0 : Nat) (v1 : Int32) (v2 : Int32) (S : jM) : Option (Int64 × jM) := if jK v0 = 9 then (f_X11_isAward v0 v1 S).bind (fun x1 => if x1 = 0 then some ((0 : Int64), S) else if (f_X11_isMonth v2) = 0 then some ((0 : Int64), S) else (jR S 78 v0).bind (fun r6 => if jA r6 16 v1 = true then (jAR S r6 (v1).toNatClampNeg).bind (fun r9 => (jR S 78 v0).bind (fun r11 => if jA r11 16 v1 = true then (jAR S r11 (v1).toNatClampNeg).bind (fun r14 => if jK r14 = 0 then jbd (f_X11_dues v0 r9 (jI S 2 r14) v2 (jI S 82 v0) S) (fun x17 S18 => (f_X11_paidTo v0 v1 S18).bind (fun x20 => some (x17 - x20, S18))) else none) else none)) else none)) else none
set_option maxRecDepth 100000 in
set_option maxHeartbeats 4000000 in
theorem B_X11_balance_0 {p : Program} {l : Launch} {e : Env} {s : State} {m : MethodId} {args : Array Value} {below : List Frame} {meth : Method} {c : Code} {g : jG} {rr : Int64} {SS : jM} {v0 : Nat} {v1 : Int32} {v2 : Int32} {S : jM} (E : jEnv p s m args meth c cX11_balance "PensionHouse" (some .long) 3 g)  {H : Heap} {locs : List Loc} {ls : Array Slot} (hf : f_X11_balance v0 v1 v2 S = some (rr, SS)) (hM : jAt g S s H locs) (hl : lv_has ls 3 [(0, .ref (g.2.2 + v0)), (1, .int v1), (2, .int v2)]) : W p l e (jRm 8 0 0) s m args below meth c H locs 0 0 (MQ below (jQl g rr SS) args s 0 0 (jA0 g)) (F0 m 0 ls []) := by
  obtain ⟨hx, hb, hml, -, hts, hown, hK, -, hstr⟩ := id E
  unfold f_X11_balance at hf
  refine lv_aload_n hx hb dX11_balance_0 rfl (lv_at hl 0 rfl) ?_
  refine lv_iload_n hx hb dX11_balance_1 rfl (lv_at hl 1 rfl) ?_
  obtain ⟨hq3, hf⟩ := jif hf
  obtain ⟨x1, hc2, hf⟩ := jb hf
  refine jbackI hM (jrunV E hM ci_X11_isAward (C_X11_isAward hc2) lk_5_160 hq3 (by decide) rfl hl.1 rfl rfl (Nat.le_of_ble_eq_true rfl) ⟨Nat.le_of_ble_eq_true rfl, Nat.le_of_ble_eq_true rfl⟩ ⟨Nat.le_refl _, Nat.le_refl _⟩ dX11_balance_2) (fun H locs hM => ?_)
  refine lv_if_eq (tgt := 15) hx hb dX11_balance_5 (by decide) (fun c4 => ?_) (fun c4 => ?_)
  · have hf := jt c4 hf
    refine lv_lconst (v := (0 : Int64)) hx hb dX11_balance_15 (by decide) ?_
    exact jlret (jr2 hf) E hM dX11_balance_16
  · have hf := jf c4 hf
    refine lv_iload_n hx hb dX11_balance_8 rfl (lv_at hl 2 rfl) ?_
    refine jbackI hM (jrunS E hM ci_X11_isMonth (C_X11_isMonth rfl) lk_5_153 hl.1 rfl rfl (Nat.le_of_ble_eq_true rfl) ⟨Nat.le_of_ble_eq_true rfl, Nat.le_of_ble_eq_true rfl⟩ ⟨Nat.le_refl _, Nat.le_refl _⟩ dX11_balance_9) (fun H locs hM => ?_)
    refine lv_if_ne (tgt := 17) hx hb dX11_balance_12 (by decide) (fun c5 => ?_) (fun c5 => ?_)
    · have hf := jf c5 hf
      refine lv_aload_n hx hb dX11_balance_17 rfl (lv_at hl 0 rfl) ?_
      refine lv_aload_n hx hb dX11_balance_18 rfl (lv_at hl 0 rfl) ?_
      refine gt_78 E hM hq3 lk_2_146 dX11_balance_19 ?_
      obtain ⟨r6, hr7, hf⟩ := jb hf
      rw [hr7]
      show W p l e _ s m args below meth c H locs 0 0 _ (F0 m _ ls (.ref (g.2.2 + r6) :: _))
      refine lv_iload_n hx hb dX11_balance_22 rfl (lv_at hl 1 rfl) ?_
      obtain ⟨ha8, hf⟩ := jif hf
      refine jaald (k := 16) (t0 := 5) E hM ha8 (by decide) (by decide) rfl dX11_balance_23 ?_
      obtain ⟨r9, hr10, hf⟩ := jb hf
      rw [hr10]
      show W p l e _ s m args below meth c H locs 0 0 _ (F0 m _ ls (.ref (g.2.2 + r9) :: _))
      refine lv_aload_n hx hb dX11_balance_24 rfl (lv_at hl 0 rfl) ?_
      refine gt_78 E hM hq3 lk_2_146 dX11_balance_25 ?_
      obtain ⟨r11, hr12, hf⟩ := jb hf
      rw [hr12]
      show W p l e _ s m args below meth c H locs 0 0 _ (F0 m _ ls (.ref (g.2.2 + r11) :: _))
      refine lv_iload_n hx hb dX11_balance_28 rfl (lv_at hl 1 rfl) ?_
      obtain ⟨ha13, hf⟩ := jif hf
      refine jaald (k := 16) (t0 := 5) E hM ha13 (by decide) (by decide) rfl dX11_balance_29 ?_
      obtain ⟨r14, hr15, hf⟩ := jb hf
      rw [hr15]
      show W p l e _ s m args below meth c H locs 0 0 _ (F0 m _ ls (.ref (g.2.2 + r14) :: _))
      obtain ⟨hq16, hf⟩ := jif hf
      refine gt_2 E hM hq16 lk_2_118 dX11_balance_30 ?_
      refine lv_iload_n hx hb dX11_balance_33 rfl (lv_at hl 2 rfl) ?_
      refine lv_aload_n hx hb dX11_balance_34 rfl (lv_at hl 0 rfl) ?_
      refine gt_82 E hM hq3 lk_2_150 dX11_balance_35 ?_
      obtain ⟨x17, S18, hc19, hf⟩ := jbd_e hf
      refine jbackL hM (jrunV E hM ci_X11_dues (C_X11_dues hc19) lk_5_164 hq3 (by decide) rfl hl.1 rfl rfl (Nat.le_of_ble_eq_true rfl) ⟨Nat.le_of_ble_eq_true rfl, Nat.le_of_ble_eq_true rfl⟩ ⟨Nat.le_refl _, Nat.le_refl _⟩ dX11_balance_38) (fun H locs hM => ?_)
      refine lv_aload_n hx hb dX11_balance_41 rfl (lv_at hl 0 rfl) ?_
      refine lv_iload_n hx hb dX11_balance_42 rfl (lv_at hl 1 rfl) ?_
      obtain ⟨x20, hc21, hf⟩ := jb hf
      refine jbackL hM (jrunV E hM ci_X11_paidTo (C_X11_paidTo hc21) lk_5_201 hq3 (by decide) rfl hl.1 rfl rfl (Nat.le_of_ble_eq_true rfl) ⟨Nat.le_of_ble_eq_true rfl, Nat.le_of_ble_eq_true rfl⟩ ⟨Nat.le_refl _, Nat.le_refl _⟩ dX11_balance_43) (fun H locs hM => ?_)
      refine lv_lsub hx hb dX11_balance_46 ?_
      exact jlret (jr2 hf) E hM dX11_balance_47
    · have hf := jt c5 hf
      refine lv_lconst (v := (0 : Int64)) hx hb dX11_balance_15 (by decide) ?_
      exact jlret (jr2 hf) E hM dX11_balance_16
set_option maxRecDepth 100000 in
theorem C_X11_balance {l : Launch} {g : jG} {a0 : Nat} {a1 : Int32} {a2 : Int32} {S : jM} {rr : Int64} {SS : jM} (hf : f_X11_balance a0 a1 a2 S = some (rr, SS)) : jMet l g yX11_balance cX11_balance 3 (some .long) 8 0 0 [.ref (g.2.2 + a0), .int a1, .int a2] S (jQl g rr SS) := by
  refine jof (by decide +kernel) (Nat.le_of_ble_eq_true rfl) ?_
  intro p e s m below meth c E hM ls hl
  have hl : lv_has ls 3 [(0, .ref (g.2.2 + a0)),(1, .int a1),(2, .int a2)] := hl
  exact B_X11_balance_0 E hf hM hl
-- PensionHouse.beginRun(I)V  mode M
noncomputable def f_X11_beginRun_55 (k17 : Nat → Int32 → Int32 → jM → Option jM) (v0 : Nat) (v1 : Int32) (v2 : Int32) (S : jM) : Option jM := jlet (v2 + (1 : Int32)) (fun x1 => k17 v0 v1 x1 S)
noncomputable def f_X11_beginRun_17 : Nat → Nat → Int32 → Int32 → jM → Option jM
  | 0, _, _, _, _ => none
  | n + 1, v0, v1, v2, S => if jK v0 = 9 then if (jI S 79 v0) ≤ v2 then some S else (jR S 78 v0).bind (fun r4 => if jA r4 16 v2 = true then (jAR S r4 (v2).toNatClampNeg).bind (fun r7 => if jK r7 = 0 then if v1 < (jI S 2 r7) then f_X11_beginRun_55 (f_X11_beginRun_17 n) v0 v1 v2 S else (jR S 85 v0).bind (fun r11 => jlet (jI S 86 v0) (fun x13 => jlet (jsI S 86 v0 (x13 + (1 : Int32))) (fun S14 => if jA r11 13 x13 = true then jlet (jrI S14 r11 (upd (jAI S14 r11) (x13).toNatClampNeg v2)) (fun S16 => f_X11_beginRun_55 (f_X11_beginRun_17 n) v0 v1 v2 S16) else none))) else none) else none) else none
noncomputable def f_X11_beginRun (v0 : Nat) (v1 : Int32) (S : jM) : Option jM := if jK v0 = 9 then jlet (jsI S 84 v0 v1) (fun S18 => jlet (jsI S18 86 v0 (0 : Int32)) (fun S19 => jlet (jsI S19 87 v0 (0 : Int32)) (fun S20 => f_X11_beginRun_17 1100000 v0 v1 (0 : Int32) S20))) else none
set_option maxRecDepth 100000 in
set_option maxHeartbeats 4000000 in
theorem B_X11_beginRun_55 {p : Program} {l : Launch} {e : Env} {s : State} {m : MethodId} {args : Array Value} {below : List Frame} {meth : Method} {c : Code} {g : jG} {SS : jM} {v0 : Nat} {v1 : Int32} {v2 : Int32} {S : jM} {k17 : Nat → Int32 → Int32 → jM → Option jM} (E : jEnv p s m args meth c cX11_beginRun "PensionHouse" none 3 g) (hk17 : ∀ (v0 : Nat) (v1 : Int32) (v2 : Int32) (S : jM) (H : Heap) (locs : List Loc) (ls : Array Slot), k17 v0 v1 v2 S = some SS → jAt g S s H locs → lv_has ls 3 [(0, .ref (g.2.2 + v0)), (1, .int v1), (2, .int v2)] → W p l e (jRm 1 0 0) s m args below meth c H locs 0 0 (MQ below (jQv g SS) args s 0 0 (jA0 g)) (F0 m 17 ls [])) {H : Heap} {locs : List Loc} {ls : Array Slot} (hf : f_X11_beginRun_55 k17 v0 v1 v2 S = some SS) (hM : jAt g S s H locs) (hl : lv_has ls 3 [(0, .ref (g.2.2 + v0)), (1, .int v1), (2, .int v2)]) : W p l e (jRm 1 0 0) s m args below meth c H locs 0 0 (MQ below (jQv g SS) args s 0 0 (jA0 g)) (F0 m 55 ls []) := by
  obtain ⟨hx, hb, hml, -, hts, hown, hK, -, hstr⟩ := id E
  unfold f_X11_beginRun_55 at hf
  obtain ⟨x1, ex1⟩ : ∃ z, z = v2 + (1 : Int32) := ⟨_, rfl⟩
  have hf := jlet_y ex1 hf
  refine lv_iinc (v := x1) (lv' := [(2, .int x1), (0, .ref (g.2.2 + v0)), (1, .int v1)]) hx hb dX11_beginRun_55 hl (k := 2) rfl (by rw [ex1]; rfl) (by decide) rfl (fun ls hl => ?_)
  refine lv_goto (tgt := 17) hx hb dX11_beginRun_58 (by decide) ?_
  exact hk17 v0 v1 x1 S _ _ _ hf hM (lv_sub hl [1, 2, 0] rfl)
set_option maxRecDepth 100000 in
set_option maxHeartbeats 4000000 in
theorem B_X11_beginRun_17 {p : Program} {l : Launch} {e : Env} {s : State} {m : MethodId} {args : Array Value} {below : List Frame} {meth : Method} {c : Code} {g : jG} {SS : jM} (E : jEnv p s m args meth c cX11_beginRun "PensionHouse" none 3 g)  : ∀ (n : Nat) (v0 : Nat) (v1 : Int32) (v2 : Int32) (S : jM) (H : Heap) (locs : List Loc) (ls : Array Slot), f_X11_beginRun_17 n v0 v1 v2 S = some SS → jAt g S s H locs → lv_has ls 3 [(0, .ref (g.2.2 + v0)), (1, .int v1), (2, .int v2)] → W p l e (jRm 1 0 0) s m args below meth c H locs 0 0 (MQ below (jQv g SS) args s 0 0 (jA0 g)) (F0 m 17 ls []) := by
  obtain ⟨hx, hb, hml, -, hts, hown, hK, -, hstr⟩ := id E
  intro n
  induction n with
  | zero => intro v0 v1 v2 S H locs ls hf hM hl; rw [f_X11_beginRun_17] at hf; cases hf
  | succ n ih =>
    intro v0 v1 v2 S H locs ls hf hM hl
    rw [f_X11_beginRun_17] at hf
    refine lv_iload_n hx hb dX11_beginRun_17 rfl (lv_at hl 2 rfl) ?_
    refine lv_aload_n hx hb dX11_beginRun_18 rfl (lv_at hl 0 rfl) ?_
    obtain ⟨hq2, hf⟩ := jif hf
    refine gt_79 E hM hq2 lk_2_147 dX11_beginRun_19 ?_
    refine lv_icmp_ge (tgt := 61) hx hb dX11_beginRun_22 (by decide) (fun c3 => ?_) (fun c3 => ?_)
    · have hf := jt c3 hf
      exact jvret (jrv hf) E hM dX11_beginRun_61
    · have hf := jf c3 hf
      refine lv_aload_n hx hb dX11_beginRun_25 rfl (lv_at hl 0 rfl) ?_
      refine gt_78 E hM hq2 lk_2_146 dX11_beginRun_26 ?_
      obtain ⟨r4, hr5, hf⟩ := jb hf
      rw [hr5]
      show W p l e _ s m args below meth c H locs 0 0 _ (F0 m _ ls (.ref (g.2.2 + r4) :: _))
      refine lv_iload_n hx hb dX11_beginRun_29 rfl (lv_at hl 2 rfl) ?_
      obtain ⟨ha6, hf⟩ := jif hf
      refine jaald (k := 16) (t0 := 5) E hM ha6 (by decide) (by decide) rfl dX11_beginRun_30 ?_
      obtain ⟨r7, hr8, hf⟩ := jb hf
      rw [hr8]
      show W p l e _ s m args below meth c H locs 0 0 _ (F0 m _ ls (.ref (g.2.2 + r7) :: _))
      obtain ⟨hq9, hf⟩ := jif hf
      refine gt_2 E hM hq9 lk_2_118 dX11_beginRun_31 ?_
      refine lv_iload_n hx hb dX11_beginRun_34 rfl (lv_at hl 1 rfl) ?_
      refine lv_icmp_gt (tgt := 55) hx hb dX11_beginRun_35 (by decide) (fun c10 => ?_) (fun c10 => ?_)
      · have hf := jt c10 hf
        exact B_X11_beginRun_55 E ih hf hM (lv_sub hl [0, 1, 2] rfl)
      · have hf := jf c10 hf
        refine lv_aload_n hx hb dX11_beginRun_38 rfl (lv_at hl 0 rfl) ?_
        refine gt_85 E hM hq2 lk_2_153 dX11_beginRun_39 ?_
        obtain ⟨r11, hr12, hf⟩ := jb hf
        rw [hr12]
        show W p l e _ s m args below meth c H locs 0 0 _ (F0 m _ ls (.ref (g.2.2 + r11) :: _))
        refine lv_aload_n hx hb dX11_beginRun_42 rfl (lv_at hl 0 rfl) ?_
        refine lv_dup hx hb dX11_beginRun_43 rfl ?_
        refine gt_86 E hM hq2 lk_2_154 dX11_beginRun_44 ?_
        refine lv_topi (fun x13 ex13 => ?_)
        have hf := jlet_y ex13 hf
        refine lv_dup_x1 hx hb dX11_beginRun_47 rfl rfl ?_
        refine lv_iconst (v := (1 : Int32)) hx hb dX11_beginRun_48 (by decide) ?_
        refine lv_iadd hx hb dX11_beginRun_49 ?_
        refine pt_86 E hM hq2 lk_2_154 dX11_beginRun_50 (fun H locs S14 eS14 hM => ?_)
        have hf := jlet_y eS14 hf
        refine lv_iload_n hx hb dX11_beginRun_53 rfl (lv_at hl 2 rfl) ?_
        obtain ⟨ha15, hf⟩ := jif hf
        refine jiast E hM ha15 dX11_beginRun_54 (fun H locs S16 eS16 hM => ?_)
        have hf := jlet_y eS16 hf
        exact B_X11_beginRun_55 E ih hf hM (lv_sub hl [0, 1, 2] rfl)
set_option maxRecDepth 100000 in
set_option maxHeartbeats 4000000 in
theorem B_X11_beginRun_0 {p : Program} {l : Launch} {e : Env} {s : State} {m : MethodId} {args : Array Value} {below : List Frame} {meth : Method} {c : Code} {g : jG} {SS : jM} {v0 : Nat} {v1 : Int32} {S : jM} (E : jEnv p s m args meth c cX11_beginRun "PensionHouse" none 3 g)  {H : Heap} {locs : List Loc} {ls : Array Slot} (hf : f_X11_beginRun v0 v1 S = some SS) (hM : jAt g S s H locs) (hl : lv_has ls 3 [(0, .ref (g.2.2 + v0)), (1, .int v1)]) : W p l e (jRm 1 0 0) s m args below meth c H locs 0 0 (MQ below (jQv g SS) args s 0 0 (jA0 g)) (F0 m 0 ls []) := by
  obtain ⟨hx, hb, hml, -, hts, hown, hK, -, hstr⟩ := id E
  unfold f_X11_beginRun at hf
  refine lv_aload_n hx hb dX11_beginRun_0 rfl (lv_at hl 0 rfl) ?_
  refine lv_iload_n hx hb dX11_beginRun_1 rfl (lv_at hl 1 rfl) ?_
  obtain ⟨hq17, hf⟩ := jif hf
  refine pt_84 E hM hq17 lk_2_152 dX11_beginRun_2 (fun H locs S18 eS18 hM => ?_)
  have hf := jlet_y eS18 hf
  refine lv_aload_n hx hb dX11_beginRun_5 rfl (lv_at hl 0 rfl) ?_
  refine lv_iconst (v := (0 : Int32)) hx hb dX11_beginRun_6 (by decide) ?_
  refine pt_86 E hM hq17 lk_2_154 dX11_beginRun_7 (fun H locs S19 eS19 hM => ?_)
  have hf := jlet_y eS19 hf
  refine lv_aload_n hx hb dX11_beginRun_10 rfl (lv_at hl 0 rfl) ?_
  refine lv_iconst (v := (0 : Int32)) hx hb dX11_beginRun_11 (by decide) ?_
  refine pt_87 E hM hq17 lk_2_155 dX11_beginRun_12 (fun H locs S20 eS20 hM => ?_)
  have hf := jlet_y eS20 hf
  refine lv_iconst (v := (0 : Int32)) hx hb dX11_beginRun_15 (by decide) ?_
  refine lv_istore_n (lv' := [(2, .int (0 : Int32)), (0, .ref (g.2.2 + v0)), (1, .int v1)]) hx hb dX11_beginRun_16 rfl hl (by decide) rfl (fun ls hl => ?_)
  exact B_X11_beginRun_17 E  1100000 v0 v1 (0 : Int32) S20 _ _ _ hf hM (lv_sub hl [1, 2, 0] rfl)
set_option maxRecDepth 100000 in
theorem C_X11_beginRun {l : Launch} {g : jG} {a0 : Nat} {a1 : Int32} {S : jM} {SS : jM} (hf : f_X11_beginRun a0 a1 S = some SS) : jMet l g yX11_beginRun cX11_beginRun 3 none 1 0 0 [.ref (g.2.2 + a0), .int a1] S (jQv g SS) := by
  refine jof (by decide +kernel) (Nat.le_of_ble_eq_true rfl) ?_
  intro p e s m below meth c E hM ls hl
  have hl : lv_has ls 3 [(0, .ref (g.2.2 + a0)),(1, .int a1)] := hl
  exact B_X11_beginRun_0 E hf hM hl
-- PensionHouse.isDay(I)Z  mode T
noncomputable def f_X11_isDay (v0 : Int32) : Int32 := if v0 < 0 then (0 : Int32) else if (389 : Int32) < v0 then (0 : Int32) else (1 : Int32)
set_option maxRecDepth 100000 in
set_option maxHeartbeats 4000000 in
theorem B_X11_isDay_0 {p : Program} {l : Launch} {e : Env} {s : State} {m : MethodId} {args : Array Value} {below : List Frame} {meth : Method} {c : Code} {g : jG} {rr : Int32} {S : jM} {v0 : Int32} (E : jEnv p s m args meth c cX11_isDay "PensionHouse" (some .boolean) 1 g)  {H : Heap} {locs : List Loc} {ls : Array Slot} (hf : f_X11_isDay v0 = rr) (hM : jAt g S s H locs) (hl : lv_has ls 1 [(0, .int v0)]) : W p l e (jRm 1 0 0) s m args below meth c H locs 0 0 (MQ below (jQi g rr S) args s 0 0 (jA0 g)) (F0 m 0 ls []) := by
  obtain ⟨hx, hb, hml, -, hts, hown, hK, -, hstr⟩ := id E
  unfold f_X11_isDay at hf
  refine lv_iload_n hx hb dX11_isDay_0 rfl (lv_at hl 0 rfl) ?_
  refine lv_if_lt (tgt := 15) hx hb dX11_isDay_1 (by decide) (fun c1 => ?_) (fun c1 => ?_)
  · have hf := jt c1 hf
    refine lv_iconst (v := (0 : Int32)) hx hb dX11_isDay_15 (by decide) ?_
    exact jiretz (jr0 hf) E hM (by decide) dX11_isDay_16
  · have hf := jf c1 hf
    refine lv_iload_n hx hb dX11_isDay_4 rfl (lv_at hl 0 rfl) ?_
    refine lv_sipush (v := (389 : Int32)) hx hb dX11_isDay_5 (by decide) ?_
    refine lv_icmp_gt (tgt := 15) hx hb dX11_isDay_8 (by decide) (fun c2 => ?_) (fun c2 => ?_)
    · have hf := jt c2 hf
      refine lv_iconst (v := (0 : Int32)) hx hb dX11_isDay_15 (by decide) ?_
      exact jiretz (jr0 hf) E hM (by decide) dX11_isDay_16
    · have hf := jf c2 hf
      refine lv_iconst (v := (1 : Int32)) hx hb dX11_isDay_11 (by decide) ?_
      refine lv_goto (tgt := 16) hx hb dX11_isDay_12 (by decide) ?_
      exact jiretz (jr0 hf) E hM (by decide) dX11_isDay_16
set_option maxRecDepth 100000 in
theorem C_X11_isDay {l : Launch} {g : jG} {a0 : Int32} {S : jM} {rr : Int32} (hf : f_X11_isDay a0 = rr) : jMet l g yX11_isDay cX11_isDay 1 (some .boolean) 1 0 0 [.int a0] S (jQi g rr S) := by
  refine jof (by decide +kernel) (Nat.le_of_ble_eq_true rfl) ?_
  intro p e s m below meth c E hM ls hl
  have hl : lv_has ls 1 [(0, .int a0)] := hl
  exact B_X11_isDay_0 E hf hM hl
-- PensionHouse.clock(I)I  mode M
noncomputable def f_X11_clock (v0 : Nat) (v1 : Int32) (S : jM) : Option (Int32 × jM) := if (f_X11_isDay v1) = 0 then some ((-3 : Int32), S) else if jK v0 = 9 then if (jI S 82 v0) ≤ v1 then jlet (jsI S 82 v0 v1) (fun S4 => some ((1 : Int32), S4)) else some ((-3 : Int32), S) else none
set_option maxRecDepth 100000 in
set_option maxHeartbeats 4000000 in
theorem B_X11_clock_0 {p : Program} {l : Launch} {e : Env} {s : State} {m : MethodId} {args : Array Value} {below : List Frame} {meth : Method} {c : Code} {g : jG} {rr : Int32} {SS : jM} {v0 : Nat} {v1 : Int32} {S : jM} (E : jEnv p s m args meth c cX11_clock "PensionHouse" (some .int) 2 g)  {H : Heap} {locs : List Loc} {ls : Array Slot} (hf : f_X11_clock v0 v1 S = some (rr, SS)) (hM : jAt g S s H locs) (hl : lv_has ls 2 [(0, .ref (g.2.2 + v0)), (1, .int v1)]) : W p l e (jRm 2 0 0) s m args below meth c H locs 0 0 (MQ below (jQi g rr SS) args s 0 0 (jA0 g)) (F0 m 0 ls []) := by
  obtain ⟨hx, hb, hml, -, hts, hown, hK, -, hstr⟩ := id E
  unfold f_X11_clock at hf
  refine lv_iload_n hx hb dX11_clock_0 rfl (lv_at hl 1 rfl) ?_
  refine jbackI hM (jrunS E hM ci_X11_isDay (C_X11_isDay rfl) lk_2_211 hl.1 rfl rfl (Nat.le_of_ble_eq_true rfl) ⟨Nat.le_of_ble_eq_true rfl, Nat.le_of_ble_eq_true rfl⟩ ⟨Nat.le_refl _, Nat.le_refl _⟩ dX11_clock_1) (fun H locs hM => ?_)
  refine lv_if_eq (tgt := 15) hx hb dX11_clock_4 (by decide) (fun c1 => ?_) (fun c1 => ?_)
  · have hf := jt c1 hf
    refine lv_bipush (v := (-3 : Int32)) hx hb dX11_clock_15 (by decide) ?_
    exact jireti (jr2 hf) E hM dX11_clock_17
  · have hf := jf c1 hf
    refine lv_iload_n hx hb dX11_clock_7 rfl (lv_at hl 1 rfl) ?_
    refine lv_aload_n hx hb dX11_clock_8 rfl (lv_at hl 0 rfl) ?_
    obtain ⟨hq2, hf⟩ := jif hf
    refine gt_82 E hM hq2 lk_2_150 dX11_clock_9 ?_
    refine lv_icmp_ge (tgt := 18) hx hb dX11_clock_12 (by decide) (fun c3 => ?_) (fun c3 => ?_)
    · have hf := jt c3 hf
      refine lv_aload_n hx hb dX11_clock_18 rfl (lv_at hl 0 rfl) ?_
      refine lv_iload_n hx hb dX11_clock_19 rfl (lv_at hl 1 rfl) ?_
      refine pt_82 E hM hq2 lk_2_150 dX11_clock_20 (fun H locs S4 eS4 hM => ?_)
      have hf := jlet_y eS4 hf
      refine lv_iconst (v := (1 : Int32)) hx hb dX11_clock_23 (by decide) ?_
      exact jireti (jr2 hf) E hM dX11_clock_24
    · have hf := jf c3 hf
      refine lv_bipush (v := (-3 : Int32)) hx hb dX11_clock_15 (by decide) ?_
      exact jireti (jr2 hf) E hM dX11_clock_17
set_option maxRecDepth 100000 in
theorem C_X11_clock {l : Launch} {g : jG} {a0 : Nat} {a1 : Int32} {S : jM} {rr : Int32} {SS : jM} (hf : f_X11_clock a0 a1 S = some (rr, SS)) : jMet l g yX11_clock cX11_clock 2 (some .int) 2 0 0 [.ref (g.2.2 + a0), .int a1] S (jQi g rr SS) := by
  refine jof (by decide +kernel) (Nat.le_of_ble_eq_true rfl) ?_
  intro p e s m below meth c E hM ls hl
  have hl : lv_has ls 2 [(0, .ref (g.2.2 + a0)),(1, .int a1)] := hl
  exact B_X11_clock_0 E hf hM hl
-- PensionHouse.count(I)I  mode R
noncomputable def f_X11_count (v0 : Nat) (v1 : Int32) (S : jM) : Option Int32 := if v1 = (0 : Int32) then if jK v0 = 9 then (jR S 69 v0).bind (fun r2 => if jK r2 = 4 then some (jI S 31 r2) else none) else none else if v1 = (1 : Int32) then if jK v0 = 9 then (jR S 69 v0).bind (fun r7 => if jK r7 = 4 then some (jI S 34 r7) else none) else none else if v1 = (2 : Int32) then if jK v0 = 9 then some (jI S 79 v0) else none else if v1 = (3 : Int32) then if jK v0 = 9 then some (jI S 81 v0) else none else if v1 = (4 : Int32) then if jK v0 = 9 then some ((jI S 86 v0) - (jI S 87 v0)) else none else if v1 = (5 : Int32) then if jK v0 = 9 then (jR S 72 v0).bind (fun r18 => if jK r18 = 5 then some (jI S 37 r18) else none) else none else if v1 = (6 : Int32) then if jK v0 = 9 then some (jI S 82 v0) else none else some (-3 : Int32)
set_option maxRecDepth 100000 in
set_option maxHeartbeats 4000000 in
theorem B_X11_count_0 {p : Program} {l : Launch} {e : Env} {s : State} {m : MethodId} {args : Array Value} {below : List Frame} {meth : Method} {c : Code} {g : jG} {rr : Int32} {S : jM} {v0 : Nat} {v1 : Int32} (E : jEnv p s m args meth c cX11_count "PensionHouse" (some .int) 2 g)  {H : Heap} {locs : List Loc} {ls : Array Slot} (hf : f_X11_count v0 v1 S = some rr) (hM : jAt g S s H locs) (hl : lv_has ls 2 [(0, .ref (g.2.2 + v0)), (1, .int v1)]) : W p l e (jRm 1 0 0) s m args below meth c H locs 0 0 (MQ below (jQi g rr S) args s 0 0 (jA0 g)) (F0 m 0 ls []) := by
  obtain ⟨hx, hb, hml, -, hts, hown, hK, -, hstr⟩ := id E
  unfold f_X11_count at hf
  refine lv_iload_n hx hb dX11_count_0 rfl (lv_at hl 1 rfl) ?_
  by_cases c5 : v1 = (0 : Int32)
  · have hf := jt c5 hf
    refine lv_tableIn (off := 43) (tgt := 44) hx hb dX11_count_1 (by rw [c5]; decide) (by rw [c5]; decide) (by rw [c5]; rfl) (by decide) ?_
    refine lv_aload_n hx hb dX11_count_44 rfl (lv_at hl 0 rfl) ?_
    obtain ⟨hq1, hf⟩ := jif hf
    refine gt_69 E hM hq1 lk_2_137 dX11_count_45 ?_
    obtain ⟨r2, hr3, hf⟩ := jb hf
    rw [hr3]
    show W p l e _ s m args below meth c H locs 0 0 _ (F0 m _ ls (.ref (g.2.2 + r2) :: _))
    obtain ⟨hq4, hf⟩ := jif hf
    refine gt_31 E hM hq4 lk_1_103 dX11_count_48 ?_
    exact jireti (jr1 hf) E hM dX11_count_51
  have hf := jf c5 hf
  by_cases c10 : v1 = (1 : Int32)
  · have hf := jt c10 hf
    refine lv_tableIn (off := 51) (tgt := 52) hx hb dX11_count_1 (by rw [c10]; decide) (by rw [c10]; decide) (by rw [c10]; rfl) (by decide) ?_
    refine lv_aload_n hx hb dX11_count_52 rfl (lv_at hl 0 rfl) ?_
    obtain ⟨hq6, hf⟩ := jif hf
    refine gt_69 E hM hq6 lk_2_137 dX11_count_53 ?_
    obtain ⟨r7, hr8, hf⟩ := jb hf
    rw [hr8]
    show W p l e _ s m args below meth c H locs 0 0 _ (F0 m _ ls (.ref (g.2.2 + r7) :: _))
    obtain ⟨hq9, hf⟩ := jif hf
    refine gt_34 E hM hq9 lk_1_108 dX11_count_56 ?_
    exact jireti (jr1 hf) E hM dX11_count_59
  have hf := jf c10 hf
  by_cases c12 : v1 = (2 : Int32)
  · have hf := jt c12 hf
    refine lv_tableIn (off := 59) (tgt := 60) hx hb dX11_count_1 (by rw [c12]; decide) (by rw [c12]; decide) (by rw [c12]; rfl) (by decide) ?_
    refine lv_aload_n hx hb dX11_count_60 rfl (lv_at hl 0 rfl) ?_
    obtain ⟨hq11, hf⟩ := jif hf
    refine gt_79 E hM hq11 lk_2_147 dX11_count_61 ?_
    exact jireti (jr1 hf) E hM dX11_count_64
  have hf := jf c12 hf
  by_cases c14 : v1 = (3 : Int32)
  · have hf := jt c14 hf
    refine lv_tableIn (off := 64) (tgt := 65) hx hb dX11_count_1 (by rw [c14]; decide) (by rw [c14]; decide) (by rw [c14]; rfl) (by decide) ?_
    refine lv_aload_n hx hb dX11_count_65 rfl (lv_at hl 0 rfl) ?_
    obtain ⟨hq13, hf⟩ := jif hf
    refine gt_81 E hM hq13 lk_2_149 dX11_count_66 ?_
    exact jireti (jr1 hf) E hM dX11_count_69
  have hf := jf c14 hf
  by_cases c16 : v1 = (4 : Int32)
  · have hf := jt c16 hf
    refine lv_tableIn (off := 69) (tgt := 70) hx hb dX11_count_1 (by rw [c16]; decide) (by rw [c16]; decide) (by rw [c16]; rfl) (by decide) ?_
    refine lv_aload_n hx hb dX11_count_70 rfl (lv_at hl 0 rfl) ?_
    obtain ⟨hq15, hf⟩ := jif hf
    refine gt_86 E hM hq15 lk_2_154 dX11_count_71 ?_
    refine lv_aload_n hx hb dX11_count_74 rfl (lv_at hl 0 rfl) ?_
    refine gt_87 E hM hq15 lk_2_155 dX11_count_75 ?_
    refine lv_isub hx hb dX11_count_78 ?_
    exact jireti (jr1 hf) E hM dX11_count_79
  have hf := jf c16 hf
  by_cases c21 : v1 = (5 : Int32)
  · have hf := jt c21 hf
    refine lv_tableIn (off := 79) (tgt := 80) hx hb dX11_count_1 (by rw [c21]; decide) (by rw [c21]; decide) (by rw [c21]; rfl) (by decide) ?_
    refine lv_aload_n hx hb dX11_count_80 rfl (lv_at hl 0 rfl) ?_
    obtain ⟨hq17, hf⟩ := jif hf
    refine gt_72 E hM hq17 lk_2_140 dX11_count_81 ?_
    obtain ⟨r18, hr19, hf⟩ := jb hf
    rw [hr19]
    show W p l e _ s m args below meth c H locs 0 0 _ (F0 m _ ls (.ref (g.2.2 + r18) :: _))
    obtain ⟨hq20, hf⟩ := jif hf
    refine gt_37 E hM hq20 lk_1_139 dX11_count_84 ?_
    exact jireti (jr1 hf) E hM dX11_count_87
  have hf := jf c21 hf
  by_cases c23 : v1 = (6 : Int32)
  · have hf := jt c23 hf
    refine lv_tableIn (off := 87) (tgt := 88) hx hb dX11_count_1 (by rw [c23]; decide) (by rw [c23]; decide) (by rw [c23]; rfl) (by decide) ?_
    refine lv_aload_n hx hb dX11_count_88 rfl (lv_at hl 0 rfl) ?_
    obtain ⟨hq22, hf⟩ := jif hf
    refine gt_82 E hM hq22 lk_2_150 dX11_count_89 ?_
    exact jireti (jr1 hf) E hM dX11_count_92
  have hf := jf c23 hf
  refine jtabD (tgt := 93) (nd := [0, 1, 2, 3, 4, 5, 6]) hx hb dX11_count_1 (by decide) (by decide) (by decide) (List.forall_mem_cons.mpr ⟨jne (k := 0) c5 rfl, List.forall_mem_cons.mpr ⟨jne (k := 1) c10 rfl, List.forall_mem_cons.mpr ⟨jne (k := 2) c12 rfl, List.forall_mem_cons.mpr ⟨jne (k := 3) c14 rfl, List.forall_mem_cons.mpr ⟨jne (k := 4) c16 rfl, List.forall_mem_cons.mpr ⟨jne (k := 5) c21 rfl, List.forall_mem_cons.mpr ⟨jne (k := 6) c23 rfl, fun _ h => absurd h List.not_mem_nil⟩⟩⟩⟩⟩⟩⟩) ?_
  refine lv_bipush (v := (-3 : Int32)) hx hb dX11_count_93 (by decide) ?_
  exact jireti (jr1 hf) E hM dX11_count_95
set_option maxRecDepth 100000 in
theorem C_X11_count {l : Launch} {g : jG} {a0 : Nat} {a1 : Int32} {S : jM} {rr : Int32} (hf : f_X11_count a0 a1 S = some rr) : jMet l g yX11_count cX11_count 2 (some .int) 1 0 0 [.ref (g.2.2 + a0), .int a1] S (jQi g rr S) := by
  refine jof (by decide +kernel) (Nat.le_of_ble_eq_true rfl) ?_
  intro p e s m below meth c E hM ls hl
  have hl : lv_has ls 2 [(0, .ref (g.2.2 + a0)),(1, .int a1)] := hl
  exact B_X11_count_0 E hf hM hl
-- PensionHouse.cut(I)I  mode M
noncomputable def f_X11_cut (v0 : Nat) (v1 : Int32) (S : jM) : Option (Int32 × jM) := if v1 < 0 then some ((-3 : Int32), S) else if jK v0 = 9 then (jR S 72 v0).bind (fun r3 => if jK r3 = 5 then if v1 ≤ (jI S 37 r3) then (jR S 72 v0).bind (fun r7 => if jK r7 = 5 then jlet ((jI S 37 r7) - v1) (fun x10 => (jR S 72 v0).bind (fun r11 => if jK r11 = 5 then jlet (jsI S 37 r11 v1) (fun S14 => some (x10, S14)) else none)) else none) else some ((-3 : Int32), S) else none) else none
set_option maxRecDepth 100000 in
set_option maxHeartbeats 4000000 in
theorem B_X11_cut_0 {p : Program} {l : Launch} {e : Env} {s : State} {m : MethodId} {args : Array Value} {below : List Frame} {meth : Method} {c : Code} {g : jG} {rr : Int32} {SS : jM} {v0 : Nat} {v1 : Int32} {S : jM} (E : jEnv p s m args meth c cX11_cut "PensionHouse" (some .int) 3 g)  {H : Heap} {locs : List Loc} {ls : Array Slot} (hf : f_X11_cut v0 v1 S = some (rr, SS)) (hM : jAt g S s H locs) (hl : lv_has ls 3 [(0, .ref (g.2.2 + v0)), (1, .int v1)]) : W p l e (jRm 1 0 0) s m args below meth c H locs 0 0 (MQ below (jQi g rr SS) args s 0 0 (jA0 g)) (F0 m 0 ls []) := by
  obtain ⟨hx, hb, hml, -, hts, hown, hK, -, hstr⟩ := id E
  unfold f_X11_cut at hf
  refine lv_iload_n hx hb dX11_cut_0 rfl (lv_at hl 1 rfl) ?_
  refine lv_if_lt (tgt := 15) hx hb dX11_cut_1 (by decide) (fun c1 => ?_) (fun c1 => ?_)
  · have hf := jt c1 hf
    refine lv_bipush (v := (-3 : Int32)) hx hb dX11_cut_15 (by decide) ?_
    exact jireti (jr2 hf) E hM dX11_cut_17
  · have hf := jf c1 hf
    refine lv_iload_n hx hb dX11_cut_4 rfl (lv_at hl 1 rfl) ?_
    refine lv_aload_n hx hb dX11_cut_5 rfl (lv_at hl 0 rfl) ?_
    obtain ⟨hq2, hf⟩ := jif hf
    refine gt_72 E hM hq2 lk_2_140 dX11_cut_6 ?_
    obtain ⟨r3, hr4, hf⟩ := jb hf
    rw [hr4]
    show W p l e _ s m args below meth c H locs 0 0 _ (F0 m _ ls (.ref (g.2.2 + r3) :: _))
    obtain ⟨hq5, hf⟩ := jif hf
    refine gt_37 E hM hq5 lk_1_139 dX11_cut_9 ?_
    refine lv_icmp_le (tgt := 18) hx hb dX11_cut_12 (by decide) (fun c6 => ?_) (fun c6 => ?_)
    · have hf := jt c6 hf
      refine lv_aload_n hx hb dX11_cut_18 rfl (lv_at hl 0 rfl) ?_
      refine gt_72 E hM hq2 lk_2_140 dX11_cut_19 ?_
      obtain ⟨r7, hr8, hf⟩ := jb hf
      rw [hr8]
      show W p l e _ s m args below meth c H locs 0 0 _ (F0 m _ ls (.ref (g.2.2 + r7) :: _))
      obtain ⟨hq9, hf⟩ := jif hf
      refine gt_37 E hM hq9 lk_1_139 dX11_cut_22 ?_
      refine lv_iload_n hx hb dX11_cut_25 rfl (lv_at hl 1 rfl) ?_
      refine lv_isub hx hb dX11_cut_26 ?_
      refine lv_topi (fun x10 ex10 => ?_)
      have hf := jlet_y ex10 hf
      refine lv_istore_n (lv' := [(2, .int x10), (0, .ref (g.2.2 + v0)), (1, .int v1)]) hx hb dX11_cut_27 rfl hl (by decide) rfl (fun ls hl => ?_)
      refine lv_aload_n hx hb dX11_cut_28 rfl (lv_at hl 1 rfl) ?_
      refine gt_72 E hM hq2 lk_2_140 dX11_cut_29 ?_
      obtain ⟨r11, hr12, hf⟩ := jb hf
      rw [hr12]
      show W p l e _ s m args below meth c H locs 0 0 _ (F0 m _ ls (.ref (g.2.2 + r11) :: _))
      refine lv_iload_n hx hb dX11_cut_32 rfl (lv_at hl 2 rfl) ?_
      obtain ⟨hq13, hf⟩ := jif hf
      refine pt_37 E hM hq13 lk_1_139 dX11_cut_33 (fun H locs S14 eS14 hM => ?_)
      have hf := jlet_y eS14 hf
      refine lv_iload_n hx hb dX11_cut_36 rfl (lv_at hl 0 rfl) ?_
      exact jireti (jr2 hf) E hM dX11_cut_37
    · have hf := jf c6 hf
      refine lv_bipush (v := (-3 : Int32)) hx hb dX11_cut_15 (by decide) ?_
      exact jireti (jr2 hf) E hM dX11_cut_17
set_option maxRecDepth 100000 in
theorem C_X11_cut {l : Launch} {g : jG} {a0 : Nat} {a1 : Int32} {S : jM} {rr : Int32} {SS : jM} (hf : f_X11_cut a0 a1 S = some (rr, SS)) : jMet l g yX11_cut cX11_cut 3 (some .int) 1 0 0 [.ref (g.2.2 + a0), .int a1] S (jQi g rr SS) := by
  refine jof (by decide +kernel) (Nat.le_of_ble_eq_true rfl) ?_
  intro p e s m below meth c E hM ls hl
  have hl : lv_has ls 3 [(0, .ref (g.2.2 + a0)),(1, .int a1)] := hl
  exact B_X11_cut_0 E hf hM hl
-- PensionHouse.deduct(III)I  mode M
noncomputable def f_X11_deduct (v0 : Nat) (v1 : Int32) (v2 : Int32) (v3 : Int32) (S : jM) : Option (Int32 × jM) := if jK v0 = 9 then (f_X11_isAward v0 v1 S).bind (fun x1 => if x1 = 0 then some ((-2 : Int32), S) else if v2 < (1 : Int32) then some ((-3 : Int32), S) else if (1000000 : Int32) < v2 then some ((-3 : Int32), S) else if v3 < 0 then some ((-3 : Int32), S) else if v3 ≤ (9 : Int32) then (jR S 78 v0).bind (fun r9 => if jA r9 16 v1 = true then (jAR S r9 (v1).toNatClampNeg).bind (fun r12 => if jK r12 = 0 then jbd (f_X0_addDeduction r12 v2 v3 S) (fun x14 S15 => some (x14, S15)) else none) else none) else some ((-3 : Int32), S)) else none
set_option maxRecDepth 100000 in
set_option maxHeartbeats 4000000 in
theorem B_X11_deduct_0 {p : Program} {l : Launch} {e : Env} {s : State} {m : MethodId} {args : Array Value} {below : List Frame} {meth : Method} {c : Code} {g : jG} {rr : Int32} {SS : jM} {v0 : Nat} {v1 : Int32} {v2 : Int32} {v3 : Int32} {S : jM} (E : jEnv p s m args meth c cX11_deduct "PensionHouse" (some .int) 4 g)  {H : Heap} {locs : List Loc} {ls : Array Slot} (hf : f_X11_deduct v0 v1 v2 v3 S = some (rr, SS)) (hM : jAt g S s H locs) (hl : lv_has ls 4 [(0, .ref (g.2.2 + v0)), (1, .int v1), (2, .int v2), (3, .int v3)]) : W p l e (jRm 2 0 0) s m args below meth c H locs 0 0 (MQ below (jQi g rr SS) args s 0 0 (jA0 g)) (F0 m 0 ls []) := by
  obtain ⟨hx, hb, hml, -, hts, hown, hK, -, hstr⟩ := id E
  unfold f_X11_deduct at hf
  refine lv_aload_n hx hb dX11_deduct_0 rfl (lv_at hl 0 rfl) ?_
  refine lv_iload_n hx hb dX11_deduct_1 rfl (lv_at hl 1 rfl) ?_
  obtain ⟨hq3, hf⟩ := jif hf
  obtain ⟨x1, hc2, hf⟩ := jb hf
  refine jbackI hM (jrunV E hM ci_X11_isAward (C_X11_isAward hc2) lk_5_160 hq3 (by decide) rfl hl.1 rfl rfl (Nat.le_of_ble_eq_true rfl) ⟨Nat.le_of_ble_eq_true rfl, Nat.le_of_ble_eq_true rfl⟩ ⟨Nat.le_refl _, Nat.le_refl _⟩ dX11_deduct_2) (fun H locs hM => ?_)
  refine lv_if_ne (tgt := 11) hx hb dX11_deduct_5 (by decide) (fun c4 => ?_) (fun c4 => ?_)
  · have hf := jf c4 hf
    refine lv_iload_n hx hb dX11_deduct_11 rfl (lv_at hl 2 rfl) ?_
    refine lv_iconst (v := (1 : Int32)) hx hb dX11_deduct_12 (by decide) ?_
    refine lv_icmp_lt (tgt := 33) hx hb dX11_deduct_13 (by decide) (fun c5 => ?_) (fun c5 => ?_)
    · have hf := jt c5 hf
      refine lv_bipush (v := (-3 : Int32)) hx hb dX11_deduct_33 (by decide) ?_
      exact jireti (jr2 hf) E hM dX11_deduct_35
    · have hf := jf c5 hf
      refine lv_iload_n hx hb dX11_deduct_16 rfl (lv_at hl 2 rfl) ?_
      refine lv_ldcw (v := (1000000 : Int32)) hx hb hown (hts _ lk_5_180) dX11_deduct_17 ?_
      refine lv_icmp_gt (tgt := 33) hx hb dX11_deduct_20 (by decide) (fun c6 => ?_) (fun c6 => ?_)
      · have hf := jt c6 hf
        refine lv_bipush (v := (-3 : Int32)) hx hb dX11_deduct_33 (by decide) ?_
        exact jireti (jr2 hf) E hM dX11_deduct_35
      · have hf := jf c6 hf
        refine lv_iload_n hx hb dX11_deduct_23 rfl (lv_at hl 3 rfl) ?_
        refine lv_if_lt (tgt := 33) hx hb dX11_deduct_24 (by decide) (fun c7 => ?_) (fun c7 => ?_)
        · have hf := jt c7 hf
          refine lv_bipush (v := (-3 : Int32)) hx hb dX11_deduct_33 (by decide) ?_
          exact jireti (jr2 hf) E hM dX11_deduct_35
        · have hf := jf c7 hf
          refine lv_iload_n hx hb dX11_deduct_27 rfl (lv_at hl 3 rfl) ?_
          refine lv_bipush (v := (9 : Int32)) hx hb dX11_deduct_28 (by decide) ?_
          refine lv_icmp_le (tgt := 36) hx hb dX11_deduct_30 (by decide) (fun c8 => ?_) (fun c8 => ?_)
          · have hf := jt c8 hf
            refine lv_aload_n hx hb dX11_deduct_36 rfl (lv_at hl 0 rfl) ?_
            refine gt_78 E hM hq3 lk_2_146 dX11_deduct_37 ?_
            obtain ⟨r9, hr10, hf⟩ := jb hf
            rw [hr10]
            show W p l e _ s m args below meth c H locs 0 0 _ (F0 m _ ls (.ref (g.2.2 + r9) :: _))
            refine lv_iload_n hx hb dX11_deduct_40 rfl (lv_at hl 1 rfl) ?_
            obtain ⟨ha11, hf⟩ := jif hf
            refine jaald (k := 16) (t0 := 5) E hM ha11 (by decide) (by decide) rfl dX11_deduct_41 ?_
            obtain ⟨r12, hr13, hf⟩ := jb hf
            rw [hr13]
            show W p l e _ s m args below meth c H locs 0 0 _ (F0 m _ ls (.ref (g.2.2 + r12) :: _))
            refine lv_iload_n hx hb dX11_deduct_42 rfl (lv_at hl 2 rfl) ?_
            refine lv_iload_n hx hb dX11_deduct_43 rfl (lv_at hl 3 rfl) ?_
            obtain ⟨hq17, hf⟩ := jif hf
            obtain ⟨x14, S15, hc16, hf⟩ := jbd_e hf
            refine jbackI hM (jrunV E hM ci_X0_addDeduction (C_X0_addDeduction hc16) lk_5_181 hq17 (by decide) rfl hl.1 rfl rfl (Nat.le_of_ble_eq_true rfl) ⟨Nat.le_of_ble_eq_true rfl, Nat.le_of_ble_eq_true rfl⟩ ⟨Nat.le_refl _, Nat.le_refl _⟩ dX11_deduct_44) (fun H locs hM => ?_)
            exact jireti (jr2 hf) E hM dX11_deduct_47
          · have hf := jf c8 hf
            refine lv_bipush (v := (-3 : Int32)) hx hb dX11_deduct_33 (by decide) ?_
            exact jireti (jr2 hf) E hM dX11_deduct_35
  · have hf := jt c4 hf
    refine lv_bipush (v := (-2 : Int32)) hx hb dX11_deduct_8 (by decide) ?_
    exact jireti (jr2 hf) E hM dX11_deduct_10
set_option maxRecDepth 100000 in
theorem C_X11_deduct {l : Launch} {g : jG} {a0 : Nat} {a1 : Int32} {a2 : Int32} {a3 : Int32} {S : jM} {rr : Int32} {SS : jM} (hf : f_X11_deduct a0 a1 a2 a3 S = some (rr, SS)) : jMet l g yX11_deduct cX11_deduct 4 (some .int) 2 0 0 [.ref (g.2.2 + a0), .int a1, .int a2, .int a3] S (jQi g rr SS) := by
  refine jof (by decide +kernel) (Nat.le_of_ble_eq_true rfl) ?_
  intro p e s m below meth c E hM ls hl
  have hl : lv_has ls 4 [(0, .ref (g.2.2 + a0)),(1, .int a1),(2, .int a2),(3, .int a3)] := hl
  exact B_X11_deduct_0 E hf hM hl
-- PensionHouse.desk(II)I  mode M
noncomputable def f_X11_desk_24 (v0 : Nat) (v1 : Int32) (v2 : Int32) (t0 : Int32) (S : jM) : Option (Int32 × jM) := if v2 < 0 then some ((-3 : Int32), S) else if v2 ≤ t0 then if v1 < (2 : Int32) then if jK v0 = 9 then (jR S 70 v0).bind (fun r5 => if jK r5 = 7 then (f_X9_setNumber r5 v1 (0 : Int64) S).bind (fun S7 => some (v2, S7)) else none) else none else if jK v0 = 9 then (jR S 70 v0).bind (fun r11 => if jK r11 = 7 then (f_X9_setRow r11 v1 v2 S).bind (fun S13 => some (v2, S13)) else none) else none else some ((-3 : Int32), S)
noncomputable def f_X11_desk (v0 : Nat) (v1 : Int32) (v2 : Int32) (S : jM) : Option (Int32 × jM) := if v1 < 0 then some ((-3 : Int32), S) else if v1 ≤ (7 : Int32) then if v1 < (2 : Int32) then f_X11_desk_24 v0 v1 v2 (0 : Int32) S else f_X11_desk_24 v0 v1 v2 (12 : Int32) S else some ((-3 : Int32), S)
set_option maxRecDepth 100000 in
set_option maxHeartbeats 4000000 in
theorem B_X11_desk_24 {p : Program} {l : Launch} {e : Env} {s : State} {m : MethodId} {args : Array Value} {below : List Frame} {meth : Method} {c : Code} {g : jG} {rr : Int32} {SS : jM} {v0 : Nat} {v1 : Int32} {v2 : Int32} {t0 : Int32} {S : jM} (E : jEnv p s m args meth c cX11_desk "PensionHouse" (some .int) 4 g)  {H : Heap} {locs : List Loc} {ls : Array Slot} (hf : f_X11_desk_24 v0 v1 v2 t0 S = some (rr, SS)) (hM : jAt g S s H locs) (hl : lv_has ls 4 [(0, .ref (g.2.2 + v0)), (1, .int v1), (2, .int v2)]) : W p l e (jRm 3 0 0) s m args below meth c H locs 0 0 (MQ below (jQi g rr SS) args s 0 0 (jA0 g)) (F0 m 24 ls [.int t0]) := by
  obtain ⟨hx, hb, hml, -, hts, hown, hK, -, hstr⟩ := id E
  unfold f_X11_desk_24 at hf
  refine lv_istore_n (lv' := [(3, .int t0), (0, .ref (g.2.2 + v0)), (1, .int v1), (2, .int v2)]) hx hb dX11_desk_24 rfl hl (by decide) rfl (fun ls hl => ?_)
  refine lv_iload_n hx hb dX11_desk_25 rfl (lv_at hl 3 rfl) ?_
  refine lv_if_lt (tgt := 34) hx hb dX11_desk_26 (by decide) (fun c1 => ?_) (fun c1 => ?_)
  · have hf := jt c1 hf
    refine lv_bipush (v := (-3 : Int32)) hx hb dX11_desk_34 (by decide) ?_
    exact jireti (jr2 hf) E hM dX11_desk_36
  · have hf := jf c1 hf
    refine lv_iload_n hx hb dX11_desk_29 rfl (lv_at hl 3 rfl) ?_
    refine lv_iload_n hx hb dX11_desk_30 rfl (lv_at hl 0 rfl) ?_
    refine lv_icmp_le (tgt := 37) hx hb dX11_desk_31 (by decide) (fun c2 => ?_) (fun c2 => ?_)
    · have hf := jt c2 hf
      refine lv_iload_n hx hb dX11_desk_37 rfl (lv_at hl 2 rfl) ?_
      refine lv_iconst (v := (2 : Int32)) hx hb dX11_desk_38 (by decide) ?_
      refine lv_icmp_lt (tgt := 54) hx hb dX11_desk_39 (by decide) (fun c3 => ?_) (fun c3 => ?_)
      · have hf := jt c3 hf
        refine lv_aload_n hx hb dX11_desk_54 rfl (lv_at hl 1 rfl) ?_
        obtain ⟨hq4, hf⟩ := jif hf
        refine gt_70 E hM hq4 lk_2_138 dX11_desk_55 ?_
        obtain ⟨r5, hr6, hf⟩ := jb hf
        rw [hr6]
        show W p l e _ s m args below meth c H locs 0 0 _ (F0 m _ ls (.ref (g.2.2 + r5) :: _))
        refine lv_iload_n hx hb dX11_desk_58 rfl (lv_at hl 2 rfl) ?_
        refine lv_lconst (v := (0 : Int64)) hx hb dX11_desk_59 (by decide) ?_
        obtain ⟨hq9, hf⟩ := jif hf
        obtain ⟨S7, hc8, hf⟩ := jb hf
        refine jbackV hM (jrunV E hM ci_X9_setNumber (C_X9_setNumber hc8) lk_2_235 hq9 (by decide) rfl hl.1 rfl rfl (Nat.le_of_ble_eq_true rfl) ⟨Nat.le_of_ble_eq_true rfl, Nat.le_of_ble_eq_true rfl⟩ ⟨Nat.le_refl _, Nat.le_refl _⟩ dX11_desk_60) (fun H locs hM => ?_)
        refine lv_iload_n hx hb dX11_desk_63 rfl (lv_at hl 3 rfl) ?_
        exact jireti (jr2 hf) E hM dX11_desk_64
      · have hf := jf c3 hf
        refine lv_aload_n hx hb dX11_desk_42 rfl (lv_at hl 1 rfl) ?_
        obtain ⟨hq10, hf⟩ := jif hf
        refine gt_70 E hM hq10 lk_2_138 dX11_desk_43 ?_
        obtain ⟨r11, hr12, hf⟩ := jb hf
        rw [hr12]
        show W p l e _ s m args below meth c H locs 0 0 _ (F0 m _ ls (.ref (g.2.2 + r11) :: _))
        refine lv_iload_n hx hb dX11_desk_46 rfl (lv_at hl 2 rfl) ?_
        refine lv_iload_n hx hb dX11_desk_47 rfl (lv_at hl 3 rfl) ?_
        obtain ⟨hq15, hf⟩ := jif hf
        obtain ⟨S13, hc14, hf⟩ := jb hf
        refine jbackV hM (jrunV E hM ci_X9_setRow (C_X9_setRow hc14) lk_2_227 hq15 (by decide) rfl hl.1 rfl rfl (Nat.le_of_ble_eq_true rfl) ⟨Nat.le_of_ble_eq_true rfl, Nat.le_of_ble_eq_true rfl⟩ ⟨Nat.le_refl _, Nat.le_refl _⟩ dX11_desk_48) (fun H locs hM => ?_)
        refine lv_goto (tgt := 63) hx hb dX11_desk_51 (by decide) ?_
        refine lv_iload_n hx hb dX11_desk_63 rfl (lv_at hl 3 rfl) ?_
        exact jireti (jr2 hf) E hM dX11_desk_64
    · have hf := jf c2 hf
      refine lv_bipush (v := (-3 : Int32)) hx hb dX11_desk_34 (by decide) ?_
      exact jireti (jr2 hf) E hM dX11_desk_36
set_option maxRecDepth 100000 in
set_option maxHeartbeats 4000000 in
theorem B_X11_desk_0 {p : Program} {l : Launch} {e : Env} {s : State} {m : MethodId} {args : Array Value} {below : List Frame} {meth : Method} {c : Code} {g : jG} {rr : Int32} {SS : jM} {v0 : Nat} {v1 : Int32} {v2 : Int32} {S : jM} (E : jEnv p s m args meth c cX11_desk "PensionHouse" (some .int) 4 g)  {H : Heap} {locs : List Loc} {ls : Array Slot} (hf : f_X11_desk v0 v1 v2 S = some (rr, SS)) (hM : jAt g S s H locs) (hl : lv_has ls 4 [(0, .ref (g.2.2 + v0)), (1, .int v1), (2, .int v2)]) : W p l e (jRm 3 0 0) s m args below meth c H locs 0 0 (MQ below (jQi g rr SS) args s 0 0 (jA0 g)) (F0 m 0 ls []) := by
  obtain ⟨hx, hb, hml, -, hts, hown, hK, -, hstr⟩ := id E
  unfold f_X11_desk at hf
  refine lv_iload_n hx hb dX11_desk_0 rfl (lv_at hl 1 rfl) ?_
  refine lv_if_lt (tgt := 10) hx hb dX11_desk_1 (by decide) (fun c16 => ?_) (fun c16 => ?_)
  · have hf := jt c16 hf
    refine lv_bipush (v := (-3 : Int32)) hx hb dX11_desk_10 (by decide) ?_
    exact jireti (jr2 hf) E hM dX11_desk_12
  · have hf := jf c16 hf
    refine lv_iload_n hx hb dX11_desk_4 rfl (lv_at hl 1 rfl) ?_
    refine lv_bipush (v := (7 : Int32)) hx hb dX11_desk_5 (by decide) ?_
    refine lv_icmp_le (tgt := 13) hx hb dX11_desk_7 (by decide) (fun c17 => ?_) (fun c17 => ?_)
    · have hf := jt c17 hf
      refine lv_iload_n hx hb dX11_desk_13 rfl (lv_at hl 1 rfl) ?_
      refine lv_iconst (v := (2 : Int32)) hx hb dX11_desk_14 (by decide) ?_
      refine lv_icmp_lt (tgt := 23) hx hb dX11_desk_15 (by decide) (fun c18 => ?_) (fun c18 => ?_)
      · have hf := jt c18 hf
        refine lv_iconst (v := (0 : Int32)) hx hb dX11_desk_23 (by decide) ?_
        exact B_X11_desk_24 E  hf hM (lv_sub hl [0, 1, 2] rfl)
      · have hf := jf c18 hf
        refine lv_bipush (v := (12 : Int32)) hx hb dX11_desk_18 (by decide) ?_
        refine lv_goto (tgt := 24) hx hb dX11_desk_20 (by decide) ?_
        exact B_X11_desk_24 E  hf hM (lv_sub hl [0, 1, 2] rfl)
    · have hf := jf c17 hf
      refine lv_bipush (v := (-3 : Int32)) hx hb dX11_desk_10 (by decide) ?_
      exact jireti (jr2 hf) E hM dX11_desk_12
set_option maxRecDepth 100000 in
theorem C_X11_desk {l : Launch} {g : jG} {a0 : Nat} {a1 : Int32} {a2 : Int32} {S : jM} {rr : Int32} {SS : jM} (hf : f_X11_desk a0 a1 a2 S = some (rr, SS)) : jMet l g yX11_desk cX11_desk 4 (some .int) 3 0 0 [.ref (g.2.2 + a0), .int a1, .int a2] S (jQi g rr SS) := by
  refine jof (by decide +kernel) (Nat.le_of_ble_eq_true rfl) ?_
  intro p e s m below meth c E hM ls hl
  have hl : lv_has ls 4 [(0, .ref (g.2.2 + a0)),(1, .int a1),(2, .int a2)] := hl
  exact B_X11_desk_0 E hf hM hl
-- PensionHouse.isPast(I)Z  mode R
noncomputable def f_X11_isPast (v0 : Nat) (v1 : Int32) (S : jM) : Option Int32 := if v1 < 0 then some (0 : Int32) else if jK v0 = 9 then if (jI S 82 v0) < v1 then some (0 : Int32) else some (1 : Int32) else none
set_option maxRecDepth 100000 in
set_option maxHeartbeats 4000000 in
theorem B_X11_isPast_0 {p : Program} {l : Launch} {e : Env} {s : State} {m : MethodId} {args : Array Value} {below : List Frame} {meth : Method} {c : Code} {g : jG} {rr : Int32} {S : jM} {v0 : Nat} {v1 : Int32} (E : jEnv p s m args meth c cX11_isPast "PensionHouse" (some .boolean) 2 g)  {H : Heap} {locs : List Loc} {ls : Array Slot} (hf : f_X11_isPast v0 v1 S = some rr) (hM : jAt g S s H locs) (hl : lv_has ls 2 [(0, .ref (g.2.2 + v0)), (1, .int v1)]) : W p l e (jRm 1 0 0) s m args below meth c H locs 0 0 (MQ below (jQi g rr S) args s 0 0 (jA0 g)) (F0 m 0 ls []) := by
  obtain ⟨hx, hb, hml, -, hts, hown, hK, -, hstr⟩ := id E
  unfold f_X11_isPast at hf
  refine lv_iload_n hx hb dX11_isPast_0 rfl (lv_at hl 1 rfl) ?_
  refine lv_if_lt (tgt := 16) hx hb dX11_isPast_1 (by decide) (fun c1 => ?_) (fun c1 => ?_)
  · have hf := jt c1 hf
    refine lv_iconst (v := (0 : Int32)) hx hb dX11_isPast_16 (by decide) ?_
    exact jiretz (jr1 hf) E hM (by decide) dX11_isPast_17
  · have hf := jf c1 hf
    refine lv_iload_n hx hb dX11_isPast_4 rfl (lv_at hl 1 rfl) ?_
    refine lv_aload_n hx hb dX11_isPast_5 rfl (lv_at hl 0 rfl) ?_
    obtain ⟨hq2, hf⟩ := jif hf
    refine gt_82 E hM hq2 lk_2_150 dX11_isPast_6 ?_
    refine lv_icmp_gt (tgt := 16) hx hb dX11_isPast_9 (by decide) (fun c3 => ?_) (fun c3 => ?_)
    · have hf := jt c3 hf
      refine lv_iconst (v := (0 : Int32)) hx hb dX11_isPast_16 (by decide) ?_
      exact jiretz (jr1 hf) E hM (by decide) dX11_isPast_17
    · have hf := jf c3 hf
      refine lv_iconst (v := (1 : Int32)) hx hb dX11_isPast_12 (by decide) ?_
      refine lv_goto (tgt := 17) hx hb dX11_isPast_13 (by decide) ?_
      exact jiretz (jr1 hf) E hM (by decide) dX11_isPast_17
set_option maxRecDepth 100000 in
theorem C_X11_isPast {l : Launch} {g : jG} {a0 : Nat} {a1 : Int32} {S : jM} {rr : Int32} (hf : f_X11_isPast a0 a1 S = some rr) : jMet l g yX11_isPast cX11_isPast 2 (some .boolean) 1 0 0 [.ref (g.2.2 + a0), .int a1] S (jQi g rr S) := by
  refine jof (by decide +kernel) (Nat.le_of_ble_eq_true rfl) ?_
  intro p e s m below meth c E hM ls hl
  have hl : lv_has ls 2 [(0, .ref (g.2.2 + a0)),(1, .int a1)] := hl
  exact B_X11_isPast_0 E hf hM hl
-- PensionHouse.due(III)I  mode M
noncomputable def f_X11_due (v0 : Nat) (v1 : Int32) (v2 : Int32) (v3 : Int32) (S : jM) : Option (Int32 × jM) := if jK v0 = 9 then (f_X11_isAward v0 v1 S).bind (fun x1 => if x1 = 0 then some ((-2 : Int32), S) else if (f_X11_isMonth v2) = 0 then some ((-3 : Int32), S) else (f_X11_isPast v0 v3 S).bind (fun x6 => if x6 = 0 then some ((-3 : Int32), S) else (jR S 78 v0).bind (fun r9 => if jA r9 16 v1 = true then (jAR S r9 (v1).toNatClampNeg).bind (fun r12 => jbd (f_X11_dues v0 r12 v2 v2 v3 S) (fun x14 S15 => (jR S15 76 v0).bind (fun r17 => if jK r17 = 1 then (f_X1_cents r17 S15).bind (fun x19 => some (x19, S15)) else none))) else none))) else none
set_option maxRecDepth 100000 in
set_option maxHeartbeats 4000000 in
theorem B_X11_due_0 {p : Program} {l : Launch} {e : Env} {s : State} {m : MethodId} {args : Array Value} {below : List Frame} {meth : Method} {c : Code} {g : jG} {rr : Int32} {SS : jM} {v0 : Nat} {v1 : Int32} {v2 : Int32} {v3 : Int32} {S : jM} (E : jEnv p s m args meth c cX11_due "PensionHouse" (some .int) 4 g)  {H : Heap} {locs : List Loc} {ls : Array Slot} (hf : f_X11_due v0 v1 v2 v3 S = some (rr, SS)) (hM : jAt g S s H locs) (hl : lv_has ls 4 [(0, .ref (g.2.2 + v0)), (1, .int v1), (2, .int v2), (3, .int v3)]) : W p l e (jRm 8 0 0) s m args below meth c H locs 0 0 (MQ below (jQi g rr SS) args s 0 0 (jA0 g)) (F0 m 0 ls []) := by
  obtain ⟨hx, hb, hml, -, hts, hown, hK, -, hstr⟩ := id E
  unfold f_X11_due at hf
  refine lv_aload_n hx hb dX11_due_0 rfl (lv_at hl 0 rfl) ?_
  refine lv_iload_n hx hb dX11_due_1 rfl (lv_at hl 1 rfl) ?_
  obtain ⟨hq3, hf⟩ := jif hf
  obtain ⟨x1, hc2, hf⟩ := jb hf
  refine jbackI hM (jrunV E hM ci_X11_isAward (C_X11_isAward hc2) lk_5_160 hq3 (by decide) rfl hl.1 rfl rfl (Nat.le_of_ble_eq_true rfl) ⟨Nat.le_of_ble_eq_true rfl, Nat.le_of_ble_eq_true rfl⟩ ⟨Nat.le_refl _, Nat.le_refl _⟩ dX11_due_2) (fun H locs hM => ?_)
  refine lv_if_ne (tgt := 11) hx hb dX11_due_5 (by decide) (fun c4 => ?_) (fun c4 => ?_)
  · have hf := jf c4 hf
    refine lv_iload_n hx hb dX11_due_11 rfl (lv_at hl 2 rfl) ?_
    refine jbackI hM (jrunS E hM ci_X11_isMonth (C_X11_isMonth rfl) lk_5_153 hl.1 rfl rfl (Nat.le_of_ble_eq_true rfl) ⟨Nat.le_of_ble_eq_true rfl, Nat.le_of_ble_eq_true rfl⟩ ⟨Nat.le_refl _, Nat.le_refl _⟩ dX11_due_12) (fun H locs hM => ?_)
    refine lv_if_eq (tgt := 26) hx hb dX11_due_15 (by decide) (fun c5 => ?_) (fun c5 => ?_)
    · have hf := jt c5 hf
      refine lv_bipush (v := (-3 : Int32)) hx hb dX11_due_26 (by decide) ?_
      exact jireti (jr2 hf) E hM dX11_due_28
    · have hf := jf c5 hf
      refine lv_aload_n hx hb dX11_due_18 rfl (lv_at hl 0 rfl) ?_
      refine lv_iload_n hx hb dX11_due_19 rfl (lv_at hl 3 rfl) ?_
      obtain ⟨x6, hc7, hf⟩ := jb hf
      refine jbackI hM (jrunV E hM ci_X11_isPast (C_X11_isPast hc7) lk_3_228 hq3 (by decide) rfl hl.1 rfl rfl (Nat.le_of_ble_eq_true rfl) ⟨Nat.le_of_ble_eq_true rfl, Nat.le_of_ble_eq_true rfl⟩ ⟨Nat.le_refl _, Nat.le_refl _⟩ dX11_due_20) (fun H locs hM => ?_)
      refine lv_if_ne (tgt := 29) hx hb dX11_due_23 (by decide) (fun c8 => ?_) (fun c8 => ?_)
      · have hf := jf c8 hf
        refine lv_aload_n hx hb dX11_due_29 rfl (lv_at hl 0 rfl) ?_
        refine lv_aload_n hx hb dX11_due_30 rfl (lv_at hl 0 rfl) ?_
        refine gt_78 E hM hq3 lk_2_146 dX11_due_31 ?_
        obtain ⟨r9, hr10, hf⟩ := jb hf
        rw [hr10]
        show W p l e _ s m args below meth c H locs 0 0 _ (F0 m _ ls (.ref (g.2.2 + r9) :: _))
        refine lv_iload_n hx hb dX11_due_34 rfl (lv_at hl 1 rfl) ?_
        obtain ⟨ha11, hf⟩ := jif hf
        refine jaald (k := 16) (t0 := 5) E hM ha11 (by decide) (by decide) rfl dX11_due_35 ?_
        obtain ⟨r12, hr13, hf⟩ := jb hf
        rw [hr13]
        show W p l e _ s m args below meth c H locs 0 0 _ (F0 m _ ls (.ref (g.2.2 + r12) :: _))
        refine lv_iload_n hx hb dX11_due_36 rfl (lv_at hl 2 rfl) ?_
        refine lv_iload_n hx hb dX11_due_37 rfl (lv_at hl 2 rfl) ?_
        refine lv_iload_n hx hb dX11_due_38 rfl (lv_at hl 3 rfl) ?_
        obtain ⟨x14, S15, hc16, hf⟩ := jbd_e hf
        refine jbackL hM (jrunV E hM ci_X11_dues (C_X11_dues hc16) lk_5_164 hq3 (by decide) rfl hl.1 rfl rfl (Nat.le_of_ble_eq_true rfl) ⟨Nat.le_of_ble_eq_true rfl, Nat.le_of_ble_eq_true rfl⟩ ⟨Nat.le_refl _, Nat.le_refl _⟩ dX11_due_39) (fun H locs hM => ?_)
        refine lv_pop2_2 hx hb dX11_due_42 rfl ?_
        refine lv_aload_n hx hb dX11_due_43 rfl (lv_at hl 0 rfl) ?_
        refine gt_76 E hM hq3 lk_2_144 dX11_due_44 ?_
        obtain ⟨r17, hr18, hf⟩ := jb hf
        rw [hr18]
        show W p l e _ s m args below meth c H locs 0 0 _ (F0 m _ ls (.ref (g.2.2 + r17) :: _))
        obtain ⟨hq21, hf⟩ := jif hf
        obtain ⟨x19, hc20, hf⟩ := jb hf
        refine jbackI hM (jrunV E hM ci_X1_cents (C_X1_cents hc20) lk_5_168 hq21 (by decide) rfl hl.1 rfl rfl (Nat.le_of_ble_eq_true rfl) ⟨Nat.le_of_ble_eq_true rfl, Nat.le_of_ble_eq_true rfl⟩ ⟨Nat.le_refl _, Nat.le_refl _⟩ dX11_due_47) (fun H locs hM => ?_)
        exact jireti (jr2 hf) E hM dX11_due_50
      · have hf := jt c8 hf
        refine lv_bipush (v := (-3 : Int32)) hx hb dX11_due_26 (by decide) ?_
        exact jireti (jr2 hf) E hM dX11_due_28
  · have hf := jt c4 hf
    refine lv_bipush (v := (-2 : Int32)) hx hb dX11_due_8 (by decide) ?_
    exact jireti (jr2 hf) E hM dX11_due_10
set_option maxRecDepth 100000 in
theorem C_X11_due {l : Launch} {g : jG} {a0 : Nat} {a1 : Int32} {a2 : Int32} {a3 : Int32} {S : jM} {rr : Int32} {SS : jM} (hf : f_X11_due a0 a1 a2 a3 S = some (rr, SS)) : jMet l g yX11_due cX11_due 4 (some .int) 8 0 0 [.ref (g.2.2 + a0), .int a1, .int a2, .int a3] S (jQi g rr SS) := by
  refine jof (by decide +kernel) (Nat.le_of_ble_eq_true rfl) ?_
  intro p e s m below meth c E hM ls hl
  have hl : lv_has ls 4 [(0, .ref (g.2.2 + a0)),(1, .int a1),(2, .int a2),(3, .int a3)] := hl
  exact B_X11_due_0 E hf hM hl
-- PensionHouse.placeForEdition(II)I  mode R
noncomputable def f_X11_placeForEdition_58 (k8 : Nat → Int32 → Int32 → Int32 → Int32 → jM → Option Int32) (v0 : Nat) (v1 : Int32) (v2 : Int32) (v3 : Int32) (v4 : Int32) (S : jM) : Option Int32 := jlet (v4 + (1 : Int32)) (fun x1 => k8 v0 v1 v2 v3 x1 S)
noncomputable def f_X11_placeForEdition_8 : Nat → Nat → Int32 → Int32 → Int32 → Int32 → jM → Option Int32
  | 0, _, _, _, _, _, _ => none
  | n + 1, v0, v1, v2, v3, v4, S => if ((v1 + (1 : Int32)) * (8 : Int32)) ≤ v4 then some v3 else if jK v0 = 9 then (jR S 73 v0).bind (fun r4 => if jA r4 18 v4 = true then (jAR S r4 (v4).toNatClampNeg).bind (fun r7 => if jK r7 = 6 then if (jI S 44 r7) = v2 then some v4 else (jR S 73 v0).bind (fun r11 => if jA r11 18 v4 = true then (jAR S r11 (v4).toNatClampNeg).bind (fun r14 => if jK r14 = 6 then if (jI S 44 r14) = (-1 : Int32) then if v3 = (-1 : Int32) then f_X11_placeForEdition_58 (f_X11_placeForEdition_8 n) v0 v1 v2 v4 v4 S else f_X11_placeForEdition_58 (f_X11_placeForEdition_8 n) v0 v1 v2 v3 v4 S else f_X11_placeForEdition_58 (f_X11_placeForEdition_8 n) v0 v1 v2 v3 v4 S else none) else none) else none) else none) else none
noncomputable def f_X11_placeForEdition (v0 : Nat) (v1 : Int32) (v2 : Int32) (S : jM) : Option Int32 := jlet (v1 * (8 : Int32)) (fun x19 => f_X11_placeForEdition_8 1100000 v0 v1 v2 (-1 : Int32) x19 S)
set_option maxRecDepth 100000 in
set_option maxHeartbeats 4000000 in
theorem B_X11_placeForEdition_58 {p : Program} {l : Launch} {e : Env} {s : State} {m : MethodId} {args : Array Value} {below : List Frame} {meth : Method} {c : Code} {g : jG} {rr : Int32} {S : jM} {v0 : Nat} {v1 : Int32} {v2 : Int32} {v3 : Int32} {v4 : Int32} {k8 : Nat → Int32 → Int32 → Int32 → Int32 → jM → Option Int32} (E : jEnv p s m args meth c cX11_placeForEdition "PensionHouse" (some .int) 5 g) (hk8 : ∀ (v0 : Nat) (v1 : Int32) (v2 : Int32) (v3 : Int32) (v4 : Int32) (H : Heap) (locs : List Loc) (ls : Array Slot), k8 v0 v1 v2 v3 v4 S = some rr → jAt g S s H locs → lv_has ls 5 [(0, .ref (g.2.2 + v0)), (1, .int v1), (2, .int v2), (3, .int v3), (4, .int v4)] → W p l e (jRm 1 0 0) s m args below meth c H locs 0 0 (MQ below (jQi g rr S) args s 0 0 (jA0 g)) (F0 m 8 ls [])) {H : Heap} {locs : List Loc} {ls : Array Slot} (hf : f_X11_placeForEdition_58 k8 v0 v1 v2 v3 v4 S = some rr) (hM : jAt g S s H locs) (hl : lv_has ls 5 [(0, .ref (g.2.2 + v0)), (1, .int v1), (2, .int v2), (3, .int v3), (4, .int v4)]) : W p l e (jRm 1 0 0) s m args below meth c H locs 0 0 (MQ below (jQi g rr S) args s 0 0 (jA0 g)) (F0 m 58 ls []) := by
  obtain ⟨hx, hb, hml, -, hts, hown, hK, -, hstr⟩ := id E
  unfold f_X11_placeForEdition_58 at hf
  obtain ⟨x1, ex1⟩ : ∃ z, z = v4 + (1 : Int32) := ⟨_, rfl⟩
  have hf := jlet_y ex1 hf
  refine lv_iinc (v := x1) (lv' := [(4, .int x1), (0, .ref (g.2.2 + v0)), (1, .int v1), (2, .int v2), (3, .int v3)]) hx hb dX11_placeForEdition_58 hl (k := 4) rfl (by rw [ex1]; rfl) (by decide) rfl (fun ls hl => ?_)
  refine lv_goto (tgt := 8) hx hb dX11_placeForEdition_61 (by decide) ?_
  exact hk8 v0 v1 v2 v3 x1 _ _ _ hf hM (lv_sub hl [1, 2, 3, 4, 0] rfl)
set_option maxRecDepth 100000 in
set_option maxHeartbeats 4000000 in
theorem B_X11_placeForEdition_8 {p : Program} {l : Launch} {e : Env} {s : State} {m : MethodId} {args : Array Value} {below : List Frame} {meth : Method} {c : Code} {g : jG} {rr : Int32} {S : jM} (E : jEnv p s m args meth c cX11_placeForEdition "PensionHouse" (some .int) 5 g)  : ∀ (n : Nat) (v0 : Nat) (v1 : Int32) (v2 : Int32) (v3 : Int32) (v4 : Int32) (H : Heap) (locs : List Loc) (ls : Array Slot), f_X11_placeForEdition_8 n v0 v1 v2 v3 v4 S = some rr → jAt g S s H locs → lv_has ls 5 [(0, .ref (g.2.2 + v0)), (1, .int v1), (2, .int v2), (3, .int v3), (4, .int v4)] → W p l e (jRm 1 0 0) s m args below meth c H locs 0 0 (MQ below (jQi g rr S) args s 0 0 (jA0 g)) (F0 m 8 ls []) := by
  obtain ⟨hx, hb, hml, -, hts, hown, hK, -, hstr⟩ := id E
  intro n
  induction n with
  | zero => intro v0 v1 v2 v3 v4 H locs ls hf hM hl; rw [f_X11_placeForEdition_8] at hf; cases hf
  | succ n ih =>
    intro v0 v1 v2 v3 v4 H locs ls hf hM hl
    rw [f_X11_placeForEdition_8] at hf
    refine lv_iload hx hb dX11_placeForEdition_8 (lv_at hl 4 rfl) ?_
    refine lv_iload_n hx hb dX11_placeForEdition_10 rfl (lv_at hl 1 rfl) ?_
    refine lv_iconst (v := (1 : Int32)) hx hb dX11_placeForEdition_11 (by decide) ?_
    refine lv_iadd hx hb dX11_placeForEdition_12 ?_
    refine lv_bipush (v := (8 : Int32)) hx hb dX11_placeForEdition_13 (by decide) ?_
    refine lv_imul hx hb dX11_placeForEdition_15 ?_
    refine lv_icmp_ge (tgt := 64) hx hb dX11_placeForEdition_16 (by decide) (fun c2 => ?_) (fun c2 => ?_)
    · have hf := jt c2 hf
      refine lv_iload_n hx hb dX11_placeForEdition_64 rfl (lv_at hl 3 rfl) ?_
      exact jireti (jr1 hf) E hM dX11_placeForEdition_65
    · have hf := jf c2 hf
      refine lv_aload_n hx hb dX11_placeForEdition_19 rfl (lv_at hl 0 rfl) ?_
      obtain ⟨hq3, hf⟩ := jif hf
      refine gt_73 E hM hq3 lk_2_141 dX11_placeForEdition_20 ?_
      obtain ⟨r4, hr5, hf⟩ := jb hf
      rw [hr5]
      show W p l e _ s m args below meth c H locs 0 0 _ (F0 m _ ls (.ref (g.2.2 + r4) :: _))
      refine lv_iload hx hb dX11_placeForEdition_23 (lv_at hl 4 rfl) ?_
      obtain ⟨ha6, hf⟩ := jif hf
      refine jaald (k := 18) (t0 := 7) E hM ha6 (by decide) (by decide) rfl dX11_placeForEdition_25 ?_
      obtain ⟨r7, hr8, hf⟩ := jb hf
      rw [hr8]
      show W p l e _ s m args below meth c H locs 0 0 _ (F0 m _ ls (.ref (g.2.2 + r7) :: _))
      obtain ⟨hq9, hf⟩ := jif hf
      refine gt_44 E hM hq9 lk_1_175 dX11_placeForEdition_26 ?_
      refine lv_iload_n hx hb dX11_placeForEdition_29 rfl (lv_at hl 2 rfl) ?_
      refine lv_icmp_ne (tgt := 36) hx hb dX11_placeForEdition_30 (by decide) (fun c10 => ?_) (fun c10 => ?_)
      · have hf := jf c10 hf
        refine lv_aload_n hx hb dX11_placeForEdition_36 rfl (lv_at hl 0 rfl) ?_
        refine gt_73 E hM hq3 lk_2_141 dX11_placeForEdition_37 ?_
        obtain ⟨r11, hr12, hf⟩ := jb hf
        rw [hr12]
        show W p l e _ s m args below meth c H locs 0 0 _ (F0 m _ ls (.ref (g.2.2 + r11) :: _))
        refine lv_iload hx hb dX11_placeForEdition_40 (lv_at hl 4 rfl) ?_
        obtain ⟨ha13, hf⟩ := jif hf
        refine jaald (k := 18) (t0 := 7) E hM ha13 (by decide) (by decide) rfl dX11_placeForEdition_42 ?_
        obtain ⟨r14, hr15, hf⟩ := jb hf
        rw [hr15]
        show W p l e _ s m args below meth c H locs 0 0 _ (F0 m _ ls (.ref (g.2.2 + r14) :: _))
        obtain ⟨hq16, hf⟩ := jif hf
        refine gt_44 E hM hq16 lk_1_175 dX11_placeForEdition_43 ?_
        refine lv_iconst (v := (-1 : Int32)) hx hb dX11_placeForEdition_46 (by decide) ?_
        refine lv_icmp_ne (tgt := 58) hx hb dX11_placeForEdition_47 (by decide) (fun c17 => ?_) (fun c17 => ?_)
        · have hf := jf c17 hf
          exact B_X11_placeForEdition_58 E ih hf hM (lv_sub hl [0, 1, 2, 3, 4] rfl)
        · have hf := jt c17 hf
          refine lv_iload_n hx hb dX11_placeForEdition_50 rfl (lv_at hl 3 rfl) ?_
          refine lv_iconst (v := (-1 : Int32)) hx hb dX11_placeForEdition_51 (by decide) ?_
          refine lv_icmp_ne (tgt := 58) hx hb dX11_placeForEdition_52 (by decide) (fun c18 => ?_) (fun c18 => ?_)
          · have hf := jf c18 hf
            exact B_X11_placeForEdition_58 E ih hf hM (lv_sub hl [0, 1, 2, 3, 4] rfl)
          · have hf := jt c18 hf
            refine lv_iload hx hb dX11_placeForEdition_55 (lv_at hl 4 rfl) ?_
            refine lv_istore_n (lv' := [(3, .int v4), (0, .ref (g.2.2 + v0)), (1, .int v1), (2, .int v2), (4, .int v4)]) hx hb dX11_placeForEdition_57 rfl hl (by decide) rfl (fun ls hl => ?_)
            exact B_X11_placeForEdition_58 E ih hf hM (lv_sub hl [1, 2, 3, 0, 4] rfl)
      · have hf := jt c10 hf
        refine lv_iload hx hb dX11_placeForEdition_33 (lv_at hl 4 rfl) ?_
        exact jireti (jr1 hf) E hM dX11_placeForEdition_35
set_option maxRecDepth 100000 in
set_option maxHeartbeats 4000000 in
theorem B_X11_placeForEdition_0 {p : Program} {l : Launch} {e : Env} {s : State} {m : MethodId} {args : Array Value} {below : List Frame} {meth : Method} {c : Code} {g : jG} {rr : Int32} {S : jM} {v0 : Nat} {v1 : Int32} {v2 : Int32} (E : jEnv p s m args meth c cX11_placeForEdition "PensionHouse" (some .int) 5 g)  {H : Heap} {locs : List Loc} {ls : Array Slot} (hf : f_X11_placeForEdition v0 v1 v2 S = some rr) (hM : jAt g S s H locs) (hl : lv_has ls 5 [(0, .ref (g.2.2 + v0)), (1, .int v1), (2, .int v2)]) : W p l e (jRm 1 0 0) s m args below meth c H locs 0 0 (MQ below (jQi g rr S) args s 0 0 (jA0 g)) (F0 m 0 ls []) := by
  obtain ⟨hx, hb, hml, -, hts, hown, hK, -, hstr⟩ := id E
  unfold f_X11_placeForEdition at hf
  refine lv_iconst (v := (-1 : Int32)) hx hb dX11_placeForEdition_0 (by decide) ?_
  refine lv_istore_n (lv' := [(3, .int (-1 : Int32)), (0, .ref (g.2.2 + v0)), (1, .int v1), (2, .int v2)]) hx hb dX11_placeForEdition_1 rfl hl (by decide) rfl (fun ls hl => ?_)
  refine lv_iload_n hx hb dX11_placeForEdition_2 rfl (lv_at hl 2 rfl) ?_
  refine lv_bipush (v := (8 : Int32)) hx hb dX11_placeForEdition_3 (by decide) ?_
  refine lv_imul hx hb dX11_placeForEdition_5 ?_
  refine lv_topi (fun x19 ex19 => ?_)
  have hf := jlet_y ex19 hf
  refine lv_istore (lv' := [(4, .int x19), (3, .int (-1 : Int32)), (0, .ref (g.2.2 + v0)), (1, .int v1), (2, .int v2)]) hx hb dX11_placeForEdition_6 hl (by decide) rfl (fun ls hl => ?_)
  exact B_X11_placeForEdition_8 E  1100000 v0 v1 v2 (-1 : Int32) x19 _ _ _ hf hM (lv_sub hl [2, 3, 4, 1, 0] rfl)
set_option maxRecDepth 100000 in
theorem C_X11_placeForEdition {l : Launch} {g : jG} {a0 : Nat} {a1 : Int32} {a2 : Int32} {S : jM} {rr : Int32} (hf : f_X11_placeForEdition a0 a1 a2 S = some rr) : jMet l g yX11_placeForEdition cX11_placeForEdition 5 (some .int) 1 0 0 [.ref (g.2.2 + a0), .int a1, .int a2] S (jQi g rr S) := by
  refine jof (by decide +kernel) (Nat.le_of_ble_eq_true rfl) ?_
  intro p e s m below meth c E hM ls hl
  have hl : lv_has ls 5 [(0, .ref (g.2.2 + a0)),(1, .int a1),(2, .int a2)] := hl
  exact B_X11_placeForEdition_0 E hf hM hl
-- PensionHouse.edition(II)I  mode M
noncomputable def f_X11_edition (v0 : Nat) (v1 : Int32) (v2 : Int32) (S : jM) : Option (Int32 × jM) := if jK v0 = 9 then (jR S 72 v0).bind (fun r2 => if jK r2 = 5 then (f_X7_open r2 S).bind (fun S4 => if (f_X11_isScheme v1) = 0 then some ((-2 : Int32), S4) else if (f_X11_isDay v2) = 0 then some ((-3 : Int32), S4) else (f_X11_placeForEdition v0 v1 v2 S4).bind (fun x9 => if x9 < 0 then some ((-5 : Int32), S4) else (jR S4 73 v0).bind (fun r12 => if jK r12 = 18 then if x9 < (Int32.ofNat (jLen r12)) then (jR S4 71 v0).bind (fun r16 => if jK r16 = 3 then (f_X4_parse r16 S4).bind (fun S18 => (jR S18 71 v0).bind (fun r21 => if jK r21 = 3 then if (jI S18 26 r21) = 0 then (jR S18 71 v0).bind (fun r25 => if jK r25 = 3 then (jR S18 25 r25).bind (fun r28 => (jR S18 71 v0).bind (fun r30 => (jR S18 73 v0).bind (fun r32 => if jA r32 18 x9 = true then (jAR S18 r32 (x9).toNatClampNeg).bind (fun r35 => if jK r30 = 3 then jlet (jsR S18 25 r30 (some r35)) (fun S38 => (jR S38 73 v0).bind (fun r39 => if jA r39 18 x9 = true then if jK r28 = 6 then jlet (jrR S38 r39 (va_up (jAR S38 r39) (x9).toNatClampNeg (some r28))) (fun S42 => jlet (jsI S42 44 r28 v2) (fun S44 => some (jI S44 49 r28, S44))) else none else none)) else none) else none))) else none) else (jR S18 71 v0).bind (fun r45 => if jK r45 = 3 then some ((-10 : Int32) - (jI S18 27 r45), S18) else none) else none)) else none) else some ((-5 : Int32), S4) else none))) else none) else none
set_option maxRecDepth 100000 in
set_option maxHeartbeats 4000000 in
theorem B_X11_edition_0 {p : Program} {l : Launch} {e : Env} {s : State} {m : MethodId} {args : Array Value} {below : List Frame} {meth : Method} {c : Code} {g : jG} {rr : Int32} {SS : jM} {v0 : Nat} {v1 : Int32} {v2 : Int32} {S : jM} (E : jEnv p s m args meth c cX11_edition "PensionHouse" (some .int) 5 g)  {H : Heap} {locs : List Loc} {ls : Array Slot} (hf : f_X11_edition v0 v1 v2 S = some (rr, SS)) (hM : jAt g S s H locs) (hl : lv_has ls 5 [(0, .ref (g.2.2 + v0)), (1, .int v1), (2, .int v2)]) : W p l e (jRm 319 0 0) s m args below meth c H locs 0 0 (MQ below (jQi g rr SS) args s 0 0 (jA0 g)) (F0 m 0 ls []) := by
  obtain ⟨hx, hb, hml, -, hts, hown, hK, -, hstr⟩ := id E
  unfold f_X11_edition at hf
  refine lv_aload_n hx hb dX11_edition_0 rfl (lv_at hl 0 rfl) ?_
  obtain ⟨hq1, hf⟩ := jif hf
  refine gt_72 E hM hq1 lk_2_140 dX11_edition_1 ?_
  obtain ⟨r2, hr3, hf⟩ := jb hf
  rw [hr3]
  show W p l e _ s m args below meth c H locs 0 0 _ (F0 m _ ls (.ref (g.2.2 + r2) :: _))
  obtain ⟨hq6, hf⟩ := jif hf
  obtain ⟨S4, hc5, hf⟩ := jb hf
  refine jbackV hM (jrunV E hM ci_X7_open (C_X7_open hc5) lk_4_4 hq6 (by decide) rfl hl.1 rfl rfl (Nat.le_of_ble_eq_true rfl) ⟨Nat.le_of_ble_eq_true rfl, Nat.le_of_ble_eq_true rfl⟩ ⟨Nat.le_refl _, Nat.le_refl _⟩ dX11_edition_4) (fun H locs hM => ?_)
  refine lv_iload_n hx hb dX11_edition_7 rfl (lv_at hl 1 rfl) ?_
  refine jbackI hM (jrunS E hM ci_X11_isScheme (C_X11_isScheme rfl) lk_4_5 hl.1 rfl rfl (Nat.le_of_ble_eq_true rfl) ⟨Nat.le_of_ble_eq_true rfl, Nat.le_of_ble_eq_true rfl⟩ ⟨Nat.le_refl _, Nat.le_refl _⟩ dX11_edition_8) (fun H locs hM => ?_)
  refine lv_if_ne (tgt := 17) hx hb dX11_edition_11 (by decide) (fun c7 => ?_) (fun c7 => ?_)
  · have hf := jf c7 hf
    refine lv_iload_n hx hb dX11_edition_17 rfl (lv_at hl 2 rfl) ?_
    refine jbackI hM (jrunS E hM ci_X11_isDay (C_X11_isDay rfl) lk_2_211 hl.1 rfl rfl (Nat.le_of_ble_eq_true rfl) ⟨Nat.le_of_ble_eq_true rfl, Nat.le_of_ble_eq_true rfl⟩ ⟨Nat.le_refl _, Nat.le_refl _⟩ dX11_edition_18) (fun H locs hM => ?_)
    refine lv_if_ne (tgt := 27) hx hb dX11_edition_21 (by decide) (fun c8 => ?_) (fun c8 => ?_)
    · have hf := jf c8 hf
      refine lv_aload_n hx hb dX11_edition_27 rfl (lv_at hl 0 rfl) ?_
      refine lv_iload_n hx hb dX11_edition_28 rfl (lv_at hl 1 rfl) ?_
      refine lv_iload_n hx hb dX11_edition_29 rfl (lv_at hl 2 rfl) ?_
      obtain ⟨x9, hc10, hf⟩ := jb hf
      refine jbackI hM (jrunV E hM ci_X11_placeForEdition (C_X11_placeForEdition hc10) lk_4_8 hq1 (by decide) rfl hl.1 rfl rfl (Nat.le_of_ble_eq_true rfl) ⟨Nat.le_of_ble_eq_true rfl, Nat.le_of_ble_eq_true rfl⟩ ⟨Nat.le_refl _, Nat.le_refl _⟩ dX11_edition_30) (fun H locs hM => ?_)
      refine lv_istore_n (lv' := [(3, .int x9), (0, .ref (g.2.2 + v0)), (1, .int v1), (2, .int v2)]) hx hb dX11_edition_33 rfl hl (by decide) rfl (fun ls hl => ?_)
      refine lv_iload_n hx hb dX11_edition_34 rfl (lv_at hl 0 rfl) ?_
      refine lv_if_lt (tgt := 47) hx hb dX11_edition_35 (by decide) (fun c11 => ?_) (fun c11 => ?_)
      · have hf := jt c11 hf
        refine lv_bipush (v := (-5 : Int32)) hx hb dX11_edition_47 (by decide) ?_
        exact jireti (jr2 hf) E hM dX11_edition_49
      · have hf := jf c11 hf
        refine lv_iload_n hx hb dX11_edition_38 rfl (lv_at hl 0 rfl) ?_
        refine lv_aload_n hx hb dX11_edition_39 rfl (lv_at hl 1 rfl) ?_
        refine gt_73 E hM hq1 lk_2_141 dX11_edition_40 ?_
        obtain ⟨r12, hr13, hf⟩ := jb hf
        rw [hr13]
        show W p l e _ s m args below meth c H locs 0 0 _ (F0 m _ ls (.ref (g.2.2 + r12) :: _))
        obtain ⟨hq14, hf⟩ := jif hf
        refine jalen (t0 := 7) E hM hq14 (by decide) (by decide) rfl dX11_edition_43 ?_
        refine lv_icmp_lt (tgt := 50) hx hb dX11_edition_44 (by decide) (fun c15 => ?_) (fun c15 => ?_)
        · have hf := jt c15 hf
          refine lv_aload_n hx hb dX11_edition_50 rfl (lv_at hl 1 rfl) ?_
          refine gt_71 E hM hq1 lk_2_139 dX11_edition_51 ?_
          obtain ⟨r16, hr17, hf⟩ := jb hf
          rw [hr17]
          show W p l e _ s m args below meth c H locs 0 0 _ (F0 m _ ls (.ref (g.2.2 + r16) :: _))
          obtain ⟨hq20, hf⟩ := jif hf
          obtain ⟨S18, hc19, hf⟩ := jb hf
          refine jbackV hM (jrunV E hM ci_X4_parse (C_X4_parse hc19) lk_4_12 hq20 (by decide) rfl hl.1 rfl rfl (Nat.le_of_ble_eq_true rfl) ⟨Nat.le_of_ble_eq_true rfl, Nat.le_of_ble_eq_true rfl⟩ ⟨Nat.le_refl _, Nat.le_refl _⟩ dX11_edition_54) (fun H locs hM => ?_)
          refine lv_aload_n hx hb dX11_edition_57 rfl (lv_at hl 1 rfl) ?_
          refine gt_71 E hM hq1 lk_2_139 dX11_edition_58 ?_
          obtain ⟨r21, hr22, hf⟩ := jb hf
          rw [hr22]
          show W p l e _ s m args below meth c H locs 0 0 _ (F0 m _ ls (.ref (g.2.2 + r21) :: _))
          obtain ⟨hq23, hf⟩ := jif hf
          refine gt_26 E hM hq23 lk_1_212 dX11_edition_61 ?_
          refine lv_if_eq (tgt := 78) hx hb dX11_edition_64 (by decide) (fun c24 => ?_) (fun c24 => ?_)
          · have hf := jt c24 hf
            refine lv_aload_n hx hb dX11_edition_78 rfl (lv_at hl 1 rfl) ?_
            refine gt_71 E hM hq1 lk_2_139 dX11_edition_79 ?_
            obtain ⟨r25, hr26, hf⟩ := jb hf
            rw [hr26]
            show W p l e _ s m args below meth c H locs 0 0 _ (F0 m _ ls (.ref (g.2.2 + r25) :: _))
            obtain ⟨hq27, hf⟩ := jif hf
            refine gt_25 E hM hq27 lk_1_210 dX11_edition_82 ?_
            obtain ⟨r28, hr29, hf⟩ := jb hf
            rw [hr29]
            show W p l e _ s m args below meth c H locs 0 0 _ (F0 m _ ls (.ref (g.2.2 + r28) :: _))
            refine lv_astore (lv' := [(4, .ref (g.2.2 + r28)), (3, .int x9), (0, .ref (g.2.2 + v0)), (1, .int v1), (2, .int v2)]) hx hb dX11_edition_85 hl (by decide) rfl (fun ls hl => ?_)
            refine lv_aload_n hx hb dX11_edition_87 rfl (lv_at hl 2 rfl) ?_
            refine gt_71 E hM hq1 lk_2_139 dX11_edition_88 ?_
            obtain ⟨r30, hr31, hf⟩ := jb hf
            rw [hr31]
            show W p l e _ s m args below meth c H locs 0 0 _ (F0 m _ ls (.ref (g.2.2 + r30) :: _))
            refine lv_aload_n hx hb dX11_edition_91 rfl (lv_at hl 2 rfl) ?_
            refine gt_73 E hM hq1 lk_2_141 dX11_edition_92 ?_
            obtain ⟨r32, hr33, hf⟩ := jb hf
            rw [hr33]
            show W p l e _ s m args below meth c H locs 0 0 _ (F0 m _ ls (.ref (g.2.2 + r32) :: _))
            refine lv_iload_n hx hb dX11_edition_95 rfl (lv_at hl 1 rfl) ?_
            obtain ⟨ha34, hf⟩ := jif hf
            refine jaald (k := 18) (t0 := 7) E hM ha34 (by decide) (by decide) rfl dX11_edition_96 ?_
            obtain ⟨r35, hr36, hf⟩ := jb hf
            rw [hr36]
            show W p l e _ s m args below meth c H locs 0 0 _ (F0 m _ ls (.ref (g.2.2 + r35) :: _))
            obtain ⟨hq37, hf⟩ := jif hf
            refine pt_25 (v := (some r35)) E hM hq37 lk_1_210 dX11_edition_97 (fun H locs S38 eS38 hM => ?_)
            have hf := jlet_y eS38 hf
            refine lv_aload_n hx hb dX11_edition_100 rfl (lv_at hl 2 rfl) ?_
            refine gt_73 E hM hq1 lk_2_141 dX11_edition_101 ?_
            obtain ⟨r39, hr40, hf⟩ := jb hf
            rw [hr40]
            show W p l e _ s m args below meth c H locs 0 0 _ (F0 m _ ls (.ref (g.2.2 + r39) :: _))
            refine lv_iload_n hx hb dX11_edition_104 rfl (lv_at hl 1 rfl) ?_
            refine lv_aload hx hb dX11_edition_105 (lv_at hl 0 rfl) ?_
            obtain ⟨ha41, hf⟩ := jif hf
            obtain ⟨hq43, hf⟩ := jif hf
            refine jaast18 E hM ha41 hq43 dX11_edition_107 (fun H locs S42 eS42 hM => ?_)
            have hf := jlet_y eS42 hf
            refine lv_aload hx hb dX11_edition_108 (lv_at hl 0 rfl) ?_
            refine lv_iload_n hx hb dX11_edition_110 rfl (lv_at hl 4 rfl) ?_
            refine pt_44 E hM hq43 lk_1_175 dX11_edition_111 (fun H locs S44 eS44 hM => ?_)
            have hf := jlet_y eS44 hf
            refine lv_aload hx hb dX11_edition_114 (lv_at hl 0 rfl) ?_
            refine gt_49 E hM hq43 lk_1_186 dX11_edition_116 ?_
            exact jireti (jr2 hf) E hM dX11_edition_119
          · have hf := jf c24 hf
            refine lv_bipush (v := (-10 : Int32)) hx hb dX11_edition_67 (by decide) ?_
            refine lv_aload_n hx hb dX11_edition_69 rfl (lv_at hl 1 rfl) ?_
            refine gt_71 E hM hq1 lk_2_139 dX11_edition_70 ?_
            obtain ⟨r45, hr46, hf⟩ := jb hf
            rw [hr46]
            show W p l e _ s m args below meth c H locs 0 0 _ (F0 m _ ls (.ref (g.2.2 + r45) :: _))
            obtain ⟨hq47, hf⟩ := jif hf
            refine gt_27 E hM hq47 lk_1_214 dX11_edition_73 ?_
            refine lv_isub hx hb dX11_edition_76 ?_
            exact jireti (jr2 hf) E hM dX11_edition_77
        · have hf := jf c15 hf
          refine lv_bipush (v := (-5 : Int32)) hx hb dX11_edition_47 (by decide) ?_
          exact jireti (jr2 hf) E hM dX11_edition_49
    · have hf := jt c8 hf
      refine lv_bipush (v := (-3 : Int32)) hx hb dX11_edition_24 (by decide) ?_
      exact jireti (jr2 hf) E hM dX11_edition_26
  · have hf := jt c7 hf
    refine lv_bipush (v := (-2 : Int32)) hx hb dX11_edition_14 (by decide) ?_
    exact jireti (jr2 hf) E hM dX11_edition_16
set_option maxRecDepth 100000 in
theorem C_X11_edition {l : Launch} {g : jG} {a0 : Nat} {a1 : Int32} {a2 : Int32} {S : jM} {rr : Int32} {SS : jM} (hf : f_X11_edition a0 a1 a2 S = some (rr, SS)) : jMet l g yX11_edition cX11_edition 5 (some .int) 319 0 0 [.ref (g.2.2 + a0), .int a1, .int a2] S (jQi g rr SS) := by
  refine jof (by decide +kernel) (Nat.le_of_ble_eq_true rfl) ?_
  intro p e s m below meth c E hM ls hl
  have hl : lv_has ls 5 [(0, .ref (g.2.2 + a0)),(1, .int a1),(2, .int a2)] := hl
  exact B_X11_edition_0 E hf hM hl
-- PensionHouse.fact(III)I  mode M
noncomputable def f_X11_fact (v0 : Nat) (v1 : Int32) (v2 : Int32) (v3 : Int32) (S : jM) : Option (Int32 × jM) := if jK v0 = 9 then (jR S 72 v0).bind (fun r2 => if jK r2 = 5 then jbd (f_X7_takeName r2 S) (fun x4 S5 => if (f_X11_isMember v1) = 0 then some ((-2 : Int32), S5) else if (f_X11_isDay v2) = 0 then some ((-3 : Int32), S5) else if (f_X11_isDay v3) = 0 then some ((-3 : Int32), S5) else if v2 ≤ v3 then if x4 = (0 : Int64) then some ((-4 : Int32), S5) else (jR S5 70 v0).bind (fun r13 => if jK r13 = 7 then if (jI S5 52 r13) = (8 : Int32) then some ((-4 : Int32), S5) else (jR S5 69 v0).bind (fun r17 => if jK r17 = 4 then if (jI S5 34 r17) = (200 : Int32) then some ((-5 : Int32), S5) else (jR S5 69 v0).bind (fun r21 => if jK r21 = 4 then (jR S5 35 r21).bind (fun r24 => (jR S5 69 v0).bind (fun r26 => if jK r26 = 4 then if jA r24 17 (jI S5 34 r26) = true then (jAR S5 r24 (jI S5 34 r26).toNatClampNeg).bind (fun r30 => if jK r30 = 2 then jlet (jsI S5 17 r30 v1) (fun S33 => jlet (jsL S33 18 r30 x4) (fun S34 => jlet (jsI S34 19 r30 v2) (fun S35 => jlet (jsI S35 20 r30 v3) (fun S36 => jlet (jsI S36 21 r30 (jI S36 82 v0)) (fun S37 => jlet (jsI S37 22 r30 (-1 : Int32)) (fun S38 => (jR S38 23 r30).bind (fun r39 => (jR S38 70 v0).bind (fun r41 => if jK r39 = 7 then (f_X9_setTo r39 r41 S38).bind (fun S43 => (jR S43 69 v0).bind (fun r46 => if jK r46 = 4 then jlet (jI S43 34 r46) (fun x49 => jlet (jsI S43 34 r46 (x49 + (1 : Int32))) (fun S50 => some (x49, S50))) else none)) else none)))))))) else none) else none else none)) else none) else none) else none) else some ((-3 : Int32), S5)) else none) else none
set_option maxRecDepth 100000 in
set_option maxHeartbeats 4000000 in
theorem B_X11_fact_0 {p : Program} {l : Launch} {e : Env} {s : State} {m : MethodId} {args : Array Value} {below : List Frame} {meth : Method} {c : Code} {g : jG} {rr : Int32} {SS : jM} {v0 : Nat} {v1 : Int32} {v2 : Int32} {v3 : Int32} {S : jM} (E : jEnv p s m args meth c cX11_fact "PensionHouse" (some .int) 7 g)  {H : Heap} {locs : List Loc} {ls : Array Slot} (hf : f_X11_fact v0 v1 v2 v3 S = some (rr, SS)) (hM : jAt g S s H locs) (hl : lv_has ls 7 [(0, .ref (g.2.2 + v0)), (1, .int v1), (2, .int v2), (3, .int v3)]) : W p l e (jRm 9 0 0) s m args below meth c H locs 0 0 (MQ below (jQi g rr SS) args s 0 0 (jA0 g)) (F0 m 0 ls []) := by
  obtain ⟨hx, hb, hml, -, hts, hown, hK, -, hstr⟩ := id E
  unfold f_X11_fact at hf
  refine lv_aload_n hx hb dX11_fact_0 rfl (lv_at hl 0 rfl) ?_
  obtain ⟨hq1, hf⟩ := jif hf
  refine gt_72 E hM hq1 lk_2_140 dX11_fact_1 ?_
  obtain ⟨r2, hr3, hf⟩ := jb hf
  rw [hr3]
  show W p l e _ s m args below meth c H locs 0 0 _ (F0 m _ ls (.ref (g.2.2 + r2) :: _))
  obtain ⟨hq7, hf⟩ := jif hf
  obtain ⟨x4, S5, hc6, hf⟩ := jbd_e hf
  refine jbackL hM (jrunV E hM ci_X7_takeName (C_X7_takeName hc6) lk_3_63 hq7 (by decide) rfl hl.1 rfl rfl (Nat.le_of_ble_eq_true rfl) ⟨Nat.le_of_ble_eq_true rfl, Nat.le_of_ble_eq_true rfl⟩ ⟨Nat.le_refl _, Nat.le_refl _⟩ dX11_fact_4) (fun H locs hM => ?_)
  refine lv_lstore (lv' := [(4, .long x4), (0, .ref (g.2.2 + v0)), (1, .int v1), (2, .int v2), (3, .int v3)]) hx hb dX11_fact_7 hl (by decide) rfl (fun ls hl => ?_)
  refine lv_iload_n hx hb dX11_fact_9 rfl (lv_at hl 2 rfl) ?_
  refine jbackI hM (jrunS E hM ci_X11_isMember (C_X11_isMember rfl) lk_3_210 hl.1 rfl rfl (Nat.le_of_ble_eq_true rfl) ⟨Nat.le_of_ble_eq_true rfl, Nat.le_of_ble_eq_true rfl⟩ ⟨Nat.le_refl _, Nat.le_refl _⟩ dX11_fact_10) (fun H locs hM => ?_)
  refine lv_if_ne (tgt := 19) hx hb dX11_fact_13 (by decide) (fun c8 => ?_) (fun c8 => ?_)
  · have hf := jf c8 hf
    refine lv_iload_n hx hb dX11_fact_19 rfl (lv_at hl 3 rfl) ?_
    refine jbackI hM (jrunS E hM ci_X11_isDay (C_X11_isDay rfl) lk_2_211 hl.1 rfl rfl (Nat.le_of_ble_eq_true rfl) ⟨Nat.le_of_ble_eq_true rfl, Nat.le_of_ble_eq_true rfl⟩ ⟨Nat.le_refl _, Nat.le_refl _⟩ dX11_fact_20) (fun H locs hM => ?_)
    refine lv_if_eq (tgt := 38) hx hb dX11_fact_23 (by decide) (fun c9 => ?_) (fun c9 => ?_)
    · have hf := jt c9 hf
      refine lv_bipush (v := (-3 : Int32)) hx hb dX11_fact_38 (by decide) ?_
      exact jireti (jr2 hf) E hM dX11_fact_40
    · have hf := jf c9 hf
      refine lv_iload_n hx hb dX11_fact_26 rfl (lv_at hl 4 rfl) ?_
      refine jbackI hM (jrunS E hM ci_X11_isDay (C_X11_isDay rfl) lk_2_211 hl.1 rfl rfl (Nat.le_of_ble_eq_true rfl) ⟨Nat.le_of_ble_eq_true rfl, Nat.le_of_ble_eq_true rfl⟩ ⟨Nat.le_refl _, Nat.le_refl _⟩ dX11_fact_27) (fun H locs hM => ?_)
      refine lv_if_eq (tgt := 38) hx hb dX11_fact_30 (by decide) (fun c10 => ?_) (fun c10 => ?_)
      · have hf := jt c10 hf
        refine lv_bipush (v := (-3 : Int32)) hx hb dX11_fact_38 (by decide) ?_
        exact jireti (jr2 hf) E hM dX11_fact_40
      · have hf := jf c10 hf
        refine lv_iload_n hx hb dX11_fact_33 rfl (lv_at hl 4 rfl) ?_
        refine lv_iload_n hx hb dX11_fact_34 rfl (lv_at hl 3 rfl) ?_
        refine lv_icmp_ge (tgt := 41) hx hb dX11_fact_35 (by decide) (fun c11 => ?_) (fun c11 => ?_)
        · have hf := jt c11 hf
          refine lv_lload hx hb dX11_fact_41 (lv_at hl 0 rfl) ?_
          refine lv_lconst (v := (0 : Int64)) hx hb dX11_fact_43 (by decide) ?_
          refine jl_eq (tgt := 60) hx hb dX11_fact_44 dX11_fact_45 (by decide) (fun c12 => ?_) (fun c12 => ?_)
          · have hf := jt c12 hf
            refine lv_bipush (v := (-4 : Int32)) hx hb dX11_fact_60 (by decide) ?_
            exact jireti (jr2 hf) E hM dX11_fact_62
          · have hf := jf c12 hf
            refine lv_aload_n hx hb dX11_fact_48 rfl (lv_at hl 1 rfl) ?_
            refine gt_70 E hM hq1 lk_2_138 dX11_fact_49 ?_
            obtain ⟨r13, hr14, hf⟩ := jb hf
            rw [hr14]
            show W p l e _ s m args below meth c H locs 0 0 _ (F0 m _ ls (.ref (g.2.2 + r13) :: _))
            obtain ⟨hq15, hf⟩ := jif hf
            refine gt_52 E hM hq15 lk_1_52 dX11_fact_52 ?_
            refine lv_bipush (v := (8 : Int32)) hx hb dX11_fact_55 (by decide) ?_
            refine lv_icmp_ne (tgt := 63) hx hb dX11_fact_57 (by decide) (fun c16 => ?_) (fun c16 => ?_)
            · have hf := jf c16 hf
              refine lv_aload_n hx hb dX11_fact_63 rfl (lv_at hl 1 rfl) ?_
              refine gt_69 E hM hq1 lk_2_137 dX11_fact_64 ?_
              obtain ⟨r17, hr18, hf⟩ := jb hf
              rw [hr18]
              show W p l e _ s m args below meth c H locs 0 0 _ (F0 m _ ls (.ref (g.2.2 + r17) :: _))
              obtain ⟨hq19, hf⟩ := jif hf
              refine gt_34 E hM hq19 lk_1_108 dX11_fact_67 ?_
              refine lv_sipush (v := (200 : Int32)) hx hb dX11_fact_70 (by decide) ?_
              refine lv_icmp_ne (tgt := 79) hx hb dX11_fact_73 (by decide) (fun c20 => ?_) (fun c20 => ?_)
              · have hf := jf c20 hf
                refine lv_aload_n hx hb dX11_fact_79 rfl (lv_at hl 1 rfl) ?_
                refine gt_69 E hM hq1 lk_2_137 dX11_fact_80 ?_
                obtain ⟨r21, hr22, hf⟩ := jb hf
                rw [hr22]
                show W p l e _ s m args below meth c H locs 0 0 _ (F0 m _ ls (.ref (g.2.2 + r21) :: _))
                obtain ⟨hq23, hf⟩ := jif hf
                refine gt_35 E hM hq23 lk_1_110 dX11_fact_83 ?_
                obtain ⟨r24, hr25, hf⟩ := jb hf
                rw [hr25]
                show W p l e _ s m args below meth c H locs 0 0 _ (F0 m _ ls (.ref (g.2.2 + r24) :: _))
                refine lv_aload_n hx hb dX11_fact_86 rfl (lv_at hl 1 rfl) ?_
                refine gt_69 E hM hq1 lk_2_137 dX11_fact_87 ?_
                obtain ⟨r26, hr27, hf⟩ := jb hf
                rw [hr27]
                show W p l e _ s m args below meth c H locs 0 0 _ (F0 m _ ls (.ref (g.2.2 + r26) :: _))
                obtain ⟨hq28, hf⟩ := jif hf
                refine gt_34 E hM hq28 lk_1_108 dX11_fact_90 ?_
                obtain ⟨ha29, hf⟩ := jif hf
                refine jaald (k := 17) (t0 := 6) E hM ha29 (by decide) (by decide) rfl dX11_fact_93 ?_
                obtain ⟨r30, hr31, hf⟩ := jb hf
                rw [hr31]
                show W p l e _ s m args below meth c H locs 0 0 _ (F0 m _ ls (.ref (g.2.2 + r30) :: _))
                refine lv_astore (lv' := [(6, .ref (g.2.2 + r30)), (4, .long x4), (0, .ref (g.2.2 + v0)), (1, .int v1), (2, .int v2), (3, .int v3)]) hx hb dX11_fact_94 hl (by decide) rfl (fun ls hl => ?_)
                refine lv_aload hx hb dX11_fact_96 (lv_at hl 0 rfl) ?_
                refine lv_iload_n hx hb dX11_fact_98 rfl (lv_at hl 3 rfl) ?_
                obtain ⟨hq32, hf⟩ := jif hf
                refine pt_17 E hM hq32 lk_1_73 dX11_fact_99 (fun H locs S33 eS33 hM => ?_)
                have hf := jlet_y eS33 hf
                refine lv_aload hx hb dX11_fact_102 (lv_at hl 0 rfl) ?_
                refine lv_lload hx hb dX11_fact_104 (lv_at hl 1 rfl) ?_
                refine pt_18 E hM hq32 lk_1_75 dX11_fact_106 (fun H locs S34 eS34 hM => ?_)
                have hf := jlet_y eS34 hf
                refine lv_aload hx hb dX11_fact_109 (lv_at hl 0 rfl) ?_
                refine lv_iload_n hx hb dX11_fact_111 rfl (lv_at hl 4 rfl) ?_
                refine pt_19 E hM hq32 lk_1_77 dX11_fact_112 (fun H locs S35 eS35 hM => ?_)
                have hf := jlet_y eS35 hf
                refine lv_aload hx hb dX11_fact_115 (lv_at hl 0 rfl) ?_
                refine lv_iload_n hx hb dX11_fact_117 rfl (lv_at hl 5 rfl) ?_
                refine pt_20 E hM hq32 lk_1_79 dX11_fact_118 (fun H locs S36 eS36 hM => ?_)
                have hf := jlet_y eS36 hf
                refine lv_aload hx hb dX11_fact_121 (lv_at hl 0 rfl) ?_
                refine lv_aload_n hx hb dX11_fact_123 rfl (lv_at hl 2 rfl) ?_
                refine gt_82 E hM hq1 lk_2_150 dX11_fact_124 ?_
                refine pt_21 E hM hq32 lk_1_81 dX11_fact_127 (fun H locs S37 eS37 hM => ?_)
                have hf := jlet_y eS37 hf
                refine lv_aload hx hb dX11_fact_130 (lv_at hl 0 rfl) ?_
                refine lv_iconst (v := (-1 : Int32)) hx hb dX11_fact_132 (by decide) ?_
                refine pt_22 E hM hq32 lk_1_83 dX11_fact_133 (fun H locs S38 eS38 hM => ?_)
                have hf := jlet_y eS38 hf
                refine lv_aload hx hb dX11_fact_136 (lv_at hl 0 rfl) ?_
                refine gt_23 E hM hq32 lk_1_85 dX11_fact_138 ?_
                obtain ⟨r39, hr40, hf⟩ := jb hf
                rw [hr40]
                show W p l e _ s m args below meth c H locs 0 0 _ (F0 m _ ls (.ref (g.2.2 + r39) :: _))
                refine lv_aload_n hx hb dX11_fact_141 rfl (lv_at hl 2 rfl) ?_
                refine gt_70 E hM hq1 lk_2_138 dX11_fact_142 ?_
                obtain ⟨r41, hr42, hf⟩ := jb hf
                rw [hr42]
                show W p l e _ s m args below meth c H locs 0 0 _ (F0 m _ ls (.ref (g.2.2 + r41) :: _))
                obtain ⟨hq45, hf⟩ := jif hf
                obtain ⟨S43, hc44, hf⟩ := jb hf
                refine jbackV hM (jrunV E hM ci_X9_setTo (C_X9_setTo hc44) lk_3_213 hq45 (by decide) rfl hl.1 rfl rfl (Nat.le_of_ble_eq_true rfl) ⟨Nat.le_of_ble_eq_true rfl, Nat.le_of_ble_eq_true rfl⟩ ⟨Nat.le_refl _, Nat.le_refl _⟩ dX11_fact_145) (fun H locs hM => ?_)
                refine lv_aload_n hx hb dX11_fact_148 rfl (lv_at hl 2 rfl) ?_
                refine gt_69 E hM hq1 lk_2_137 dX11_fact_149 ?_
                obtain ⟨r46, hr47, hf⟩ := jb hf
                rw [hr47]
                show W p l e _ s m args below meth c H locs 0 0 _ (F0 m _ ls (.ref (g.2.2 + r46) :: _))
                refine lv_dup hx hb dX11_fact_152 rfl ?_
                obtain ⟨hq48, hf⟩ := jif hf
                refine gt_34 E hM hq48 lk_1_108 dX11_fact_153 ?_
                refine lv_topi (fun x49 ex49 => ?_)
                have hf := jlet_y ex49 hf
                refine lv_dup_x1 hx hb dX11_fact_156 rfl rfl ?_
                refine lv_iconst (v := (1 : Int32)) hx hb dX11_fact_157 (by decide) ?_
                refine lv_iadd hx hb dX11_fact_158 ?_
                refine pt_34 E hM hq48 lk_1_108 dX11_fact_159 (fun H locs S50 eS50 hM => ?_)
                have hf := jlet_y eS50 hf
                exact jireti (jr2 hf) E hM dX11_fact_162
              · have hf := jt c20 hf
                refine lv_bipush (v := (-5 : Int32)) hx hb dX11_fact_76 (by decide) ?_
                exact jireti (jr2 hf) E hM dX11_fact_78
            · have hf := jt c16 hf
              refine lv_bipush (v := (-4 : Int32)) hx hb dX11_fact_60 (by decide) ?_
              exact jireti (jr2 hf) E hM dX11_fact_62
        · have hf := jf c11 hf
          refine lv_bipush (v := (-3 : Int32)) hx hb dX11_fact_38 (by decide) ?_
          exact jireti (jr2 hf) E hM dX11_fact_40
  · have hf := jt c8 hf
    refine lv_bipush (v := (-2 : Int32)) hx hb dX11_fact_16 (by decide) ?_
    exact jireti (jr2 hf) E hM dX11_fact_18
set_option maxRecDepth 100000 in
theorem C_X11_fact {l : Launch} {g : jG} {a0 : Nat} {a1 : Int32} {a2 : Int32} {a3 : Int32} {S : jM} {rr : Int32} {SS : jM} (hf : f_X11_fact a0 a1 a2 a3 S = some (rr, SS)) : jMet l g yX11_fact cX11_fact 7 (some .int) 9 0 0 [.ref (g.2.2 + a0), .int a1, .int a2, .int a3] S (jQi g rr SS) := by
  refine jof (by decide +kernel) (Nat.le_of_ble_eq_true rfl) ?_
  intro p e s m below meth c E hM ls hl
  have hl : lv_has ls 7 [(0, .ref (g.2.2 + a0)),(1, .int a1),(2, .int a2),(3, .int a3)] := hl
  exact B_X11_fact_0 E hf hM hl
-- PensionHouse.fault()I  mode R
noncomputable def f_X11_fault (v0 : Nat) (S : jM) : Option Int32 := if jK v0 = 9 then (jR S 71 v0).bind (fun r2 => if jK r2 = 3 then some (jI S 26 r2) else none) else none
set_option maxRecDepth 100000 in
set_option maxHeartbeats 4000000 in
theorem B_X11_fault_0 {p : Program} {l : Launch} {e : Env} {s : State} {m : MethodId} {args : Array Value} {below : List Frame} {meth : Method} {c : Code} {g : jG} {rr : Int32} {S : jM} {v0 : Nat} (E : jEnv p s m args meth c cX11_fault "PensionHouse" (some .int) 1 g)  {H : Heap} {locs : List Loc} {ls : Array Slot} (hf : f_X11_fault v0 S = some rr) (hM : jAt g S s H locs) (hl : lv_has ls 1 [(0, .ref (g.2.2 + v0))]) : W p l e (jRm 1 0 0) s m args below meth c H locs 0 0 (MQ below (jQi g rr S) args s 0 0 (jA0 g)) (F0 m 0 ls []) := by
  obtain ⟨hx, hb, hml, -, hts, hown, hK, -, hstr⟩ := id E
  unfold f_X11_fault at hf
  refine lv_aload_n hx hb dX11_fault_0 rfl (lv_at hl 0 rfl) ?_
  obtain ⟨hq1, hf⟩ := jif hf
  refine gt_71 E hM hq1 lk_2_139 dX11_fault_1 ?_
  obtain ⟨r2, hr3, hf⟩ := jb hf
  rw [hr3]
  show W p l e _ s m args below meth c H locs 0 0 _ (F0 m _ ls (.ref (g.2.2 + r2) :: _))
  obtain ⟨hq4, hf⟩ := jif hf
  refine gt_26 E hM hq4 lk_1_212 dX11_fault_4 ?_
  exact jireti (jr1 hf) E hM dX11_fault_7
set_option maxRecDepth 100000 in
theorem C_X11_fault {l : Launch} {g : jG} {a0 : Nat} {S : jM} {rr : Int32} (hf : f_X11_fault a0 S = some rr) : jMet l g yX11_fault cX11_fault 1 (some .int) 1 0 0 [.ref (g.2.2 + a0)] S (jQi g rr S) := by
  refine jof (by decide +kernel) (Nat.le_of_ble_eq_true rfl) ?_
  intro p e s m below meth c E hM ls hl
  have hl : lv_has ls 1 [(0, .ref (g.2.2 + a0))] := hl
  exact B_X11_fault_0 E hf hM hl
-- PensionHouse.feed(JI)I  mode M
noncomputable def f_X11_feed_37 : Nat → Nat → Int64 → Int32 → jM → Option (Int32 × jM)
  | 0, _, _, _, _ => none
  | n + 1, v0, v1, v4, S => if v4 < 0 then if jK v0 = 9 then (jR S 72 v0).bind (fun r3 => if jK r3 = 5 then some (jI S 37 r3, S) else none) else none else if jK v0 = 9 then (jR S 72 v0).bind (fun r7 => if jK r7 = 5 then (f_X7_add r7 ((((v1.toUInt64 >>> (((8 : Int32) * v4).toInt64.toUInt64 &&& Int64.toUInt64 63)).toInt64).toInt32).toInt8.toInt32) S).bind (fun S9 => jlet (v4 + (-1 : Int32)) (fun x12 => (f_X11_feed_37 n) v0 v1 x12 S9)) else none) else none
noncomputable def f_X11_feed (v0 : Nat) (v1 : Int64) (v3 : Int32) (S : jM) : Option (Int32 × jM) := if v3 < (1 : Int32) then some ((-3 : Int32), S) else if v3 ≤ (8 : Int32) then if jK v0 = 9 then (jR S 72 v0).bind (fun r16 => if jK r16 = 5 then if ((jI S 37 r16) + v3) ≤ (1600 : Int32) then jlet (v3 - (1 : Int32)) (fun x20 => f_X11_feed_37 1100000 v0 v1 x20 S) else some ((-5 : Int32), S) else none) else none else some ((-3 : Int32), S)
set_option maxRecDepth 100000 in
set_option maxHeartbeats 4000000 in
theorem B_X11_feed_37 {p : Program} {l : Launch} {e : Env} {s : State} {m : MethodId} {args : Array Value} {below : List Frame} {meth : Method} {c : Code} {g : jG} {rr : Int32} {SS : jM} (E : jEnv p s m args meth c cX11_feed "PensionHouse" (some .int) 5 g)  : ∀ (n : Nat) (v0 : Nat) (v1 : Int64) (v4 : Int32) (S : jM) (H : Heap) (locs : List Loc) (ls : Array Slot), f_X11_feed_37 n v0 v1 v4 S = some (rr, SS) → jAt g S s H locs → lv_has ls 5 [(0, .ref (g.2.2 + v0)), (1, .long v1), (4, .int v4)] → W p l e (jRm 2 0 0) s m args below meth c H locs 0 0 (MQ below (jQi g rr SS) args s 0 0 (jA0 g)) (F0 m 37 ls []) := by
  obtain ⟨hx, hb, hml, -, hts, hown, hK, -, hstr⟩ := id E
  intro n
  induction n with
  | zero => intro v0 v1 v4 S H locs ls hf hM hl; rw [f_X11_feed_37] at hf; cases hf
  | succ n ih =>
    intro v0 v1 v4 S H locs ls hf hM hl
    rw [f_X11_feed_37] at hf
    refine lv_iload hx hb dX11_feed_37 (lv_at hl 2 rfl) ?_
    refine lv_if_lt (tgt := 64) hx hb dX11_feed_39 (by decide) (fun c1 => ?_) (fun c1 => ?_)
    · have hf := jt c1 hf
      refine lv_aload_n hx hb dX11_feed_64 rfl (lv_at hl 0 rfl) ?_
      obtain ⟨hq2, hf⟩ := jif hf
      refine gt_72 E hM hq2 lk_2_140 dX11_feed_65 ?_
      obtain ⟨r3, hr4, hf⟩ := jb hf
      rw [hr4]
      show W p l e _ s m args below meth c H locs 0 0 _ (F0 m _ ls (.ref (g.2.2 + r3) :: _))
      obtain ⟨hq5, hf⟩ := jif hf
      refine gt_37 E hM hq5 lk_1_139 dX11_feed_68 ?_
      exact jireti (jr2 hf) E hM dX11_feed_71
    · have hf := jf c1 hf
      refine lv_aload_n hx hb dX11_feed_42 rfl (lv_at hl 0 rfl) ?_
      obtain ⟨hq6, hf⟩ := jif hf
      refine gt_72 E hM hq6 lk_2_140 dX11_feed_43 ?_
      obtain ⟨r7, hr8, hf⟩ := jb hf
      rw [hr8]
      show W p l e _ s m args below meth c H locs 0 0 _ (F0 m _ ls (.ref (g.2.2 + r7) :: _))
      refine lv_lload_n hx hb dX11_feed_46 rfl (lv_at hl 1 rfl) ?_
      refine lv_bipush (v := (8 : Int32)) hx hb dX11_feed_47 (by decide) ?_
      refine lv_iload hx hb dX11_feed_49 (lv_at hl 2 rfl) ?_
      refine lv_imul hx hb dX11_feed_51 ?_
      refine lv_lushr hx hb dX11_feed_52 rfl ?_
      refine lv_l2i hx hb dX11_feed_53 rfl ?_
      refine lv_i2b hx hb dX11_feed_54 rfl ?_
      obtain ⟨hq11, hf⟩ := jif hf
      obtain ⟨S9, hc10, hf⟩ := jb hf
      refine jbackV hM (jrunV E hM ci_X7_add (C_X7_add hc10) lk_2_199 hq11 (by decide) rfl hl.1 rfl rfl (Nat.le_of_ble_eq_true rfl) ⟨Nat.le_of_ble_eq_true rfl, Nat.le_of_ble_eq_true rfl⟩ ⟨Nat.le_refl _, Nat.le_refl _⟩ dX11_feed_55) (fun H locs hM => ?_)
      obtain ⟨x12, ex12⟩ : ∃ z, z = v4 + (-1 : Int32) := ⟨_, rfl⟩
      have hf := jlet_y ex12 hf
      refine lv_iinc (v := x12) (lv' := [(4, .int x12), (0, .ref (g.2.2 + v0)), (1, .long v1)]) hx hb dX11_feed_58 hl (k := 2) rfl (by rw [ex12]; rfl) (by decide) rfl (fun ls hl => ?_)
      refine lv_goto (tgt := 37) hx hb dX11_feed_61 (by decide) ?_
      exact ih v0 v1 x12 S9 _ _ _ hf hM (lv_sub hl [1, 2, 0] rfl)
set_option maxRecDepth 100000 in
set_option maxHeartbeats 4000000 in
theorem B_X11_feed_0 {p : Program} {l : Launch} {e : Env} {s : State} {m : MethodId} {args : Array Value} {below : List Frame} {meth : Method} {c : Code} {g : jG} {rr : Int32} {SS : jM} {v0 : Nat} {v1 : Int64} {v3 : Int32} {S : jM} (E : jEnv p s m args meth c cX11_feed "PensionHouse" (some .int) 5 g)  {H : Heap} {locs : List Loc} {ls : Array Slot} (hf : f_X11_feed v0 v1 v3 S = some (rr, SS)) (hM : jAt g S s H locs) (hl : lv_has ls 5 [(0, .ref (g.2.2 + v0)), (1, .long v1), (3, .int v3)]) : W p l e (jRm 2 0 0) s m args below meth c H locs 0 0 (MQ below (jQi g rr SS) args s 0 0 (jA0 g)) (F0 m 0 ls []) := by
  obtain ⟨hx, hb, hml, -, hts, hown, hK, -, hstr⟩ := id E
  unfold f_X11_feed at hf
  refine lv_iload_n hx hb dX11_feed_0 rfl (lv_at hl 2 rfl) ?_
  refine lv_iconst (v := (1 : Int32)) hx hb dX11_feed_1 (by decide) ?_
  refine lv_icmp_lt (tgt := 11) hx hb dX11_feed_2 (by decide) (fun c13 => ?_) (fun c13 => ?_)
  · have hf := jt c13 hf
    refine lv_bipush (v := (-3 : Int32)) hx hb dX11_feed_11 (by decide) ?_
    exact jireti (jr2 hf) E hM dX11_feed_13
  · have hf := jf c13 hf
    refine lv_iload_n hx hb dX11_feed_5 rfl (lv_at hl 2 rfl) ?_
    refine lv_bipush (v := (8 : Int32)) hx hb dX11_feed_6 (by decide) ?_
    refine lv_icmp_le (tgt := 14) hx hb dX11_feed_8 (by decide) (fun c14 => ?_) (fun c14 => ?_)
    · have hf := jt c14 hf
      refine lv_aload_n hx hb dX11_feed_14 rfl (lv_at hl 0 rfl) ?_
      obtain ⟨hq15, hf⟩ := jif hf
      refine gt_72 E hM hq15 lk_2_140 dX11_feed_15 ?_
      obtain ⟨r16, hr17, hf⟩ := jb hf
      rw [hr17]
      show W p l e _ s m args below meth c H locs 0 0 _ (F0 m _ ls (.ref (g.2.2 + r16) :: _))
      obtain ⟨hq18, hf⟩ := jif hf
      refine gt_37 E hM hq18 lk_1_139 dX11_feed_18 ?_
      refine lv_iload_n hx hb dX11_feed_21 rfl (lv_at hl 2 rfl) ?_
      refine lv_iadd hx hb dX11_feed_22 ?_
      refine lv_sipush (v := (1600 : Int32)) hx hb dX11_feed_23 (by decide) ?_
      refine lv_icmp_le (tgt := 32) hx hb dX11_feed_26 (by decide) (fun c19 => ?_) (fun c19 => ?_)
      · have hf := jt c19 hf
        refine lv_iload_n hx hb dX11_feed_32 rfl (lv_at hl 2 rfl) ?_
        refine lv_iconst (v := (1 : Int32)) hx hb dX11_feed_33 (by decide) ?_
        refine lv_isub hx hb dX11_feed_34 ?_
        refine lv_topi (fun x20 ex20 => ?_)
        have hf := jlet_y ex20 hf
        refine lv_istore (lv' := [(4, .int x20), (0, .ref (g.2.2 + v0)), (1, .long v1), (3, .int v3)]) hx hb dX11_feed_35 hl (by decide) rfl (fun ls hl => ?_)
        exact B_X11_feed_37 E  1100000 v0 v1 x20 S _ _ _ hf hM (lv_sub hl [1, 2, 0] rfl)
      · have hf := jf c19 hf
        refine lv_bipush (v := (-5 : Int32)) hx hb dX11_feed_29 (by decide) ?_
        exact jireti (jr2 hf) E hM dX11_feed_31
    · have hf := jf c14 hf
      refine lv_bipush (v := (-3 : Int32)) hx hb dX11_feed_11 (by decide) ?_
      exact jireti (jr2 hf) E hM dX11_feed_13
set_option maxRecDepth 100000 in
theorem C_X11_feed {l : Launch} {g : jG} {a0 : Nat} {a1 : Int64} {a3 : Int32} {S : jM} {rr : Int32} {SS : jM} (hf : f_X11_feed a0 a1 a3 S = some (rr, SS)) : jMet l g yX11_feed cX11_feed 5 (some .int) 2 0 0 [.ref (g.2.2 + a0), .long a1, .int a3] S (jQi g rr SS) := by
  refine jof (by decide +kernel) (Nat.le_of_ble_eq_true rfl) ?_
  intro p e s m below meth c E hM ls hl
  have hl : lv_has ls 5 [(0, .ref (g.2.2 + a0)),(1, .long a1),(3, .int a3)] := hl
  exact B_X11_feed_0 E hf hM hl
-- PensionHouse.figure(IIII)I  mode M
noncomputable def f_X11_figure_130 (v0 : Nat) (S : jM) : Option (Int32 × jM) := if jK v0 = 9 then (jR S 75 v0).bind (fun r2 => if jK r2 = 1 then some (jI S 7 r2, S) else none) else none
noncomputable def f_X11_figure (v0 : Nat) (v1 : Int32) (v2 : Int32) (v3 : Int32) (v4 : Int32) (S : jM) : Option (Int32 × jM) := if jK v0 = 9 then (jR S 72 v0).bind (fun r6 => if jK r6 = 5 then jbd (f_X7_takeName r6 S) (fun x8 S9 => if (f_X11_isMember v1) = 0 then some ((-2 : Int32), S9) else if (f_X11_isScheme v2) = 0 then some ((-2 : Int32), S9) else if (f_X11_isDay v3) = 0 then some ((-3 : Int32), S9) else (f_X11_isPast v0 v4 S9).bind (fun x15 => if x15 = 0 then some ((-3 : Int32), S9) else (f_X11_textInForce v0 v2 v3 S9).bind (fun x18 => if x8 = (0 : Int64) then some ((-4 : Int32), S9) else if x18.isNone = true then some ((-4 : Int32), S9) else (x18).bind (fun r22 => if jK r22 = 6 then (f_X8_ruleNamed r22 x8 S9).bind (fun x24 => if x24 = (-1 : Int32) then some ((-4 : Int32), S9) else (jR S9 74 v0).bind (fun r28 => (jR S9 75 v0).bind (fun r30 => if jK r28 = 8 then (f_X10_work r28 r30 x18 x8 v1 v3 v4 S9).bind (fun S32 => (jR S32 75 v0).bind (fun r35 => if jK r35 = 1 then if (jI S32 7 r35) = 0 then (jR S32 70 v0).bind (fun r39 => (jR S32 75 v0).bind (fun r41 => if jK r41 = 1 then (jR S32 14 r41).bind (fun r44 => (jR S32 75 v0).bind (fun r46 => if jK r46 = 1 then if jA r44 19 (jI S32 6 r46) = true then (jAR S32 r44 (jI S32 6 r46).toNatClampNeg).bind (fun r50 => if jK r39 = 7 then (f_X9_setTo r39 r50 S32).bind (fun S52 => f_X11_figure_130 v0 S52) else none) else none else none)) else none)) else f_X11_figure_130 v0 S32 else none)) else none))) else none)))) else none) else none
set_option maxRecDepth 100000 in
set_option maxHeartbeats 4000000 in
theorem B_X11_figure_130 {p : Program} {l : Launch} {e : Env} {s : State} {m : MethodId} {args : Array Value} {below : List Frame} {meth : Method} {c : Code} {g : jG} {rr : Int32} {SS : jM} {v0 : Nat} {S : jM} (E : jEnv p s m args meth c cX11_figure "PensionHouse" (some .int) 8 g)  {H : Heap} {locs : List Loc} {ls : Array Slot} (hf : f_X11_figure_130 v0 S = some (rr, SS)) (hM : jAt g S s H locs) (hl : lv_has ls 8 [(0, .ref (g.2.2 + v0))]) : W p l e (jRm 9 0 0) s m args below meth c H locs 0 0 (MQ below (jQi g rr SS) args s 0 0 (jA0 g)) (F0 m 130 ls []) := by
  obtain ⟨hx, hb, hml, -, hts, hown, hK, -, hstr⟩ := id E
  unfold f_X11_figure_130 at hf
  refine lv_aload_n hx hb dX11_figure_130 rfl (lv_at hl 0 rfl) ?_
  obtain ⟨hq1, hf⟩ := jif hf
  refine gt_75 E hM hq1 lk_2_143 dX11_figure_131 ?_
  obtain ⟨r2, hr3, hf⟩ := jb hf
  rw [hr3]
  show W p l e _ s m args below meth c H locs 0 0 _ (F0 m _ ls (.ref (g.2.2 + r2) :: _))
  obtain ⟨hq4, hf⟩ := jif hf
  refine gt_7 E hM hq4 lk_2_61 dX11_figure_134 ?_
  exact jireti (jr2 hf) E hM dX11_figure_137
set_option maxRecDepth 100000 in
set_option maxHeartbeats 4000000 in
theorem B_X11_figure_0 {p : Program} {l : Launch} {e : Env} {s : State} {m : MethodId} {args : Array Value} {below : List Frame} {meth : Method} {c : Code} {g : jG} {rr : Int32} {SS : jM} {v0 : Nat} {v1 : Int32} {v2 : Int32} {v3 : Int32} {v4 : Int32} {S : jM} (E : jEnv p s m args meth c cX11_figure "PensionHouse" (some .int) 8 g)  {H : Heap} {locs : List Loc} {ls : Array Slot} (hf : f_X11_figure v0 v1 v2 v3 v4 S = some (rr, SS)) (hM : jAt g S s H locs) (hl : lv_has ls 8 [(0, .ref (g.2.2 + v0)), (1, .int v1), (2, .int v2), (3, .int v3), (4, .int v4)]) : W p l e (jRm 9 0 0) s m args below meth c H locs 0 0 (MQ below (jQi g rr SS) args s 0 0 (jA0 g)) (F0 m 0 ls []) := by
  obtain ⟨hx, hb, hml, -, hts, hown, hK, -, hstr⟩ := id E
  unfold f_X11_figure at hf
  refine lv_aload_n hx hb dX11_figure_0 rfl (lv_at hl 0 rfl) ?_
  obtain ⟨hq5, hf⟩ := jif hf
  refine gt_72 E hM hq5 lk_2_140 dX11_figure_1 ?_
  obtain ⟨r6, hr7, hf⟩ := jb hf
  rw [hr7]
  show W p l e _ s m args below meth c H locs 0 0 _ (F0 m _ ls (.ref (g.2.2 + r6) :: _))
  obtain ⟨hq11, hf⟩ := jif hf
  obtain ⟨x8, S9, hc10, hf⟩ := jbd_e hf
  refine jbackL hM (jrunV E hM ci_X7_takeName (C_X7_takeName hc10) lk_3_63 hq11 (by decide) rfl hl.1 rfl rfl (Nat.le_of_ble_eq_true rfl) ⟨Nat.le_of_ble_eq_true rfl, Nat.le_of_ble_eq_true rfl⟩ ⟨Nat.le_refl _, Nat.le_refl _⟩ dX11_figure_4) (fun H locs hM => ?_)
  refine lv_lstore (lv' := [(5, .long x8), (0, .ref (g.2.2 + v0)), (1, .int v1), (2, .int v2), (3, .int v3), (4, .int v4)]) hx hb dX11_figure_7 hl (by decide) rfl (fun ls hl => ?_)
  refine lv_iload_n hx hb dX11_figure_9 rfl (lv_at hl 2 rfl) ?_
  refine jbackI hM (jrunS E hM ci_X11_isMember (C_X11_isMember rfl) lk_3_210 hl.1 rfl rfl (Nat.le_of_ble_eq_true rfl) ⟨Nat.le_of_ble_eq_true rfl, Nat.le_of_ble_eq_true rfl⟩ ⟨Nat.le_refl _, Nat.le_refl _⟩ dX11_figure_10) (fun H locs hM => ?_)
  refine lv_if_eq (tgt := 23) hx hb dX11_figure_13 (by decide) (fun c12 => ?_) (fun c12 => ?_)
  · have hf := jt c12 hf
    refine lv_bipush (v := (-2 : Int32)) hx hb dX11_figure_23 (by decide) ?_
    exact jireti (jr2 hf) E hM dX11_figure_25
  · have hf := jf c12 hf
    refine lv_iload_n hx hb dX11_figure_16 rfl (lv_at hl 3 rfl) ?_
    refine jbackI hM (jrunS E hM ci_X11_isScheme (C_X11_isScheme rfl) lk_4_5 hl.1 rfl rfl (Nat.le_of_ble_eq_true rfl) ⟨Nat.le_of_ble_eq_true rfl, Nat.le_of_ble_eq_true rfl⟩ ⟨Nat.le_refl _, Nat.le_refl _⟩ dX11_figure_17) (fun H locs hM => ?_)
    refine lv_if_ne (tgt := 26) hx hb dX11_figure_20 (by decide) (fun c13 => ?_) (fun c13 => ?_)
    · have hf := jf c13 hf
      refine lv_iload_n hx hb dX11_figure_26 rfl (lv_at hl 4 rfl) ?_
      refine jbackI hM (jrunS E hM ci_X11_isDay (C_X11_isDay rfl) lk_2_211 hl.1 rfl rfl (Nat.le_of_ble_eq_true rfl) ⟨Nat.le_of_ble_eq_true rfl, Nat.le_of_ble_eq_true rfl⟩ ⟨Nat.le_refl _, Nat.le_refl _⟩ dX11_figure_27) (fun H locs hM => ?_)
      refine lv_if_eq (tgt := 42) hx hb dX11_figure_30 (by decide) (fun c14 => ?_) (fun c14 => ?_)
      · have hf := jt c14 hf
        refine lv_bipush (v := (-3 : Int32)) hx hb dX11_figure_42 (by decide) ?_
        exact jireti (jr2 hf) E hM dX11_figure_44
      · have hf := jf c14 hf
        refine lv_aload_n hx hb dX11_figure_33 rfl (lv_at hl 1 rfl) ?_
        refine lv_iload hx hb dX11_figure_34 (lv_at hl 5 rfl) ?_
        obtain ⟨x15, hc16, hf⟩ := jb hf
        refine jbackI hM (jrunV E hM ci_X11_isPast (C_X11_isPast hc16) lk_3_228 hq5 (by decide) rfl hl.1 rfl rfl (Nat.le_of_ble_eq_true rfl) ⟨Nat.le_of_ble_eq_true rfl, Nat.le_of_ble_eq_true rfl⟩ ⟨Nat.le_refl _, Nat.le_refl _⟩ dX11_figure_36) (fun H locs hM => ?_)
        refine lv_if_ne (tgt := 45) hx hb dX11_figure_39 (by decide) (fun c17 => ?_) (fun c17 => ?_)
        · have hf := jf c17 hf
          refine lv_aload_n hx hb dX11_figure_45 rfl (lv_at hl 1 rfl) ?_
          refine lv_iload_n hx hb dX11_figure_46 rfl (lv_at hl 3 rfl) ?_
          refine lv_iload_n hx hb dX11_figure_47 rfl (lv_at hl 4 rfl) ?_
          obtain ⟨x18, hc19, hf⟩ := jb hf
          refine jbackQ hM (jrunV E hM ci_X11_textInForce (C_X11_textInForce hc19) lk_4_137 hq5 (by decide) rfl hl.1 rfl rfl (Nat.le_of_ble_eq_true rfl) ⟨Nat.le_of_ble_eq_true rfl, Nat.le_of_ble_eq_true rfl⟩ ⟨Nat.le_refl _, Nat.le_refl _⟩ dX11_figure_48) (fun H locs hM => ?_)
          refine jastorew (g := g) (r := x18) (i := 7) (lv' := [(7, jo g x18), (5, .long x8), (0, .ref (g.2.2 + v0)), (1, .int v1), (2, .int v2), (3, .int v3), (4, .int v4)]) hx hb dX11_figure_51 hl (by decide) (by simp [jo_cat, jc_i, jc_l, jc_r]) (fun ls hl => ?_)
          refine lv_lload hx hb dX11_figure_53 (lv_at hl 1 rfl) ?_
          refine lv_lconst (v := (0 : Int64)) hx hb dX11_figure_55 (by decide) ?_
          refine jl_eq (tgt := 76) hx hb dX11_figure_56 dX11_figure_57 (by decide) (fun c20 => ?_) (fun c20 => ?_)
          · have hf := jt c20 hf
            refine lv_bipush (v := (-4 : Int32)) hx hb dX11_figure_76 (by decide) ?_
            exact jireti (jr2 hf) E hM dX11_figure_78
          · have hf := jf c20 hf
            refine jaloadw hx hb dX11_figure_60 (lv_at hl 0 rfl) ?_
            refine jifnull (tgt := 76) hx hb dX11_figure_62 (by decide) (fun c21 => ?_) (fun c21 => ?_)
            · have hf := jt c21 hf
              refine lv_bipush (v := (-4 : Int32)) hx hb dX11_figure_76 (by decide) ?_
              exact jireti (jr2 hf) E hM dX11_figure_78
            · have hf := jf c21 hf
              refine jaloadw hx hb dX11_figure_65 (lv_at hl 0 rfl) ?_
              refine lv_lload hx hb dX11_figure_67 (lv_at hl 1 rfl) ?_
              obtain ⟨r22, hr23, hf⟩ := jb hf
              rw [hr23]
              obtain ⟨hq26, hf⟩ := jif hf
              obtain ⟨x24, hc25, hf⟩ := jb hf
              refine jbackI hM (jrunV E hM ci_X8_ruleNamed (C_X8_ruleNamed hc25) lk_4_145 hq26 (by decide) rfl hl.1 rfl rfl (Nat.le_of_ble_eq_true rfl) ⟨Nat.le_of_ble_eq_true rfl, Nat.le_of_ble_eq_true rfl⟩ ⟨Nat.le_refl _, Nat.le_refl _⟩ dX11_figure_69) (fun H locs hM => ?_)
              refine lv_iconst (v := (-1 : Int32)) hx hb dX11_figure_72 (by decide) ?_
              refine lv_icmp_ne (tgt := 79) hx hb dX11_figure_73 (by decide) (fun c27 => ?_) (fun c27 => ?_)
              · have hf := jf c27 hf
                refine lv_aload_n hx hb dX11_figure_79 rfl (lv_at hl 2 rfl) ?_
                refine gt_74 E hM hq5 lk_2_142 dX11_figure_80 ?_
                obtain ⟨r28, hr29, hf⟩ := jb hf
                rw [hr29]
                show W p l e _ s m args below meth c H locs 0 0 _ (F0 m _ ls (.ref (g.2.2 + r28) :: _))
                refine lv_aload_n hx hb dX11_figure_83 rfl (lv_at hl 2 rfl) ?_
                refine gt_75 E hM hq5 lk_2_143 dX11_figure_84 ?_
                obtain ⟨r30, hr31, hf⟩ := jb hf
                rw [hr31]
                show W p l e _ s m args below meth c H locs 0 0 _ (F0 m _ ls (.ref (g.2.2 + r30) :: _))
                refine jaloadw hx hb dX11_figure_87 (lv_at hl 0 rfl) ?_
                refine lv_lload hx hb dX11_figure_89 (lv_at hl 1 rfl) ?_
                refine lv_iload_n hx hb dX11_figure_91 rfl (lv_at hl 3 rfl) ?_
                refine lv_iload_n hx hb dX11_figure_92 rfl (lv_at hl 5 rfl) ?_
                refine lv_iload hx hb dX11_figure_93 (lv_at hl 6 rfl) ?_
                obtain ⟨hq34, hf⟩ := jif hf
                obtain ⟨S32, hc33, hf⟩ := jb hf
                refine jbackV hM (jrunV E hM ci_X10_work (C_X10_work hc33) lk_4_146 hq34 (by decide) rfl hl.1 rfl rfl (Nat.le_of_ble_eq_true rfl) ⟨Nat.le_of_ble_eq_true rfl, Nat.le_of_ble_eq_true rfl⟩ ⟨Nat.le_refl _, Nat.le_refl _⟩ dX11_figure_95) (fun H locs hM => ?_)
                refine lv_aload_n hx hb dX11_figure_98 rfl (lv_at hl 2 rfl) ?_
                refine gt_75 E hM hq5 lk_2_143 dX11_figure_99 ?_
                obtain ⟨r35, hr36, hf⟩ := jb hf
                rw [hr36]
                show W p l e _ s m args below meth c H locs 0 0 _ (F0 m _ ls (.ref (g.2.2 + r35) :: _))
                obtain ⟨hq37, hf⟩ := jif hf
                refine gt_7 E hM hq37 lk_2_61 dX11_figure_102 ?_
                refine lv_if_ne (tgt := 130) hx hb dX11_figure_105 (by decide) (fun c38 => ?_) (fun c38 => ?_)
                · have hf := jf c38 hf
                  exact B_X11_figure_130 E  hf hM (lv_sub hl [2] rfl)
                · have hf := jt c38 hf
                  refine lv_aload_n hx hb dX11_figure_108 rfl (lv_at hl 2 rfl) ?_
                  refine gt_70 E hM hq5 lk_2_138 dX11_figure_109 ?_
                  obtain ⟨r39, hr40, hf⟩ := jb hf
                  rw [hr40]
                  show W p l e _ s m args below meth c H locs 0 0 _ (F0 m _ ls (.ref (g.2.2 + r39) :: _))
                  refine lv_aload_n hx hb dX11_figure_112 rfl (lv_at hl 2 rfl) ?_
                  refine gt_75 E hM hq5 lk_2_143 dX11_figure_113 ?_
                  obtain ⟨r41, hr42, hf⟩ := jb hf
                  rw [hr42]
                  show W p l e _ s m args below meth c H locs 0 0 _ (F0 m _ ls (.ref (g.2.2 + r41) :: _))
                  obtain ⟨hq43, hf⟩ := jif hf
                  refine gt_14 E hM hq43 lk_2_81 dX11_figure_116 ?_
                  obtain ⟨r44, hr45, hf⟩ := jb hf
                  rw [hr45]
                  show W p l e _ s m args below meth c H locs 0 0 _ (F0 m _ ls (.ref (g.2.2 + r44) :: _))
                  refine lv_aload_n hx hb dX11_figure_119 rfl (lv_at hl 2 rfl) ?_
                  refine gt_75 E hM hq5 lk_2_143 dX11_figure_120 ?_
                  obtain ⟨r46, hr47, hf⟩ := jb hf
                  rw [hr47]
                  show W p l e _ s m args below meth c H locs 0 0 _ (F0 m _ ls (.ref (g.2.2 + r46) :: _))
                  obtain ⟨hq48, hf⟩ := jif hf
                  refine gt_6 E hM hq48 lk_2_58 dX11_figure_123 ?_
                  obtain ⟨ha49, hf⟩ := jif hf
                  refine jaald (k := 19) (t0 := 8) E hM ha49 (by decide) (by decide) rfl dX11_figure_126 ?_
                  obtain ⟨r50, hr51, hf⟩ := jb hf
                  rw [hr51]
                  show W p l e _ s m args below meth c H locs 0 0 _ (F0 m _ ls (.ref (g.2.2 + r50) :: _))
                  obtain ⟨hq54, hf⟩ := jif hf
                  obtain ⟨S52, hc53, hf⟩ := jb hf
                  refine jbackV hM (jrunV E hM ci_X9_setTo (C_X9_setTo hc53) lk_3_213 hq54 (by decide) rfl hl.1 rfl rfl (Nat.le_of_ble_eq_true rfl) ⟨Nat.le_of_ble_eq_true rfl, Nat.le_of_ble_eq_true rfl⟩ ⟨Nat.le_refl _, Nat.le_refl _⟩ dX11_figure_127) (fun H locs hM => ?_)
                  exact B_X11_figure_130 E  hf hM (lv_sub hl [2] rfl)
              · have hf := jt c27 hf
                refine lv_bipush (v := (-4 : Int32)) hx hb dX11_figure_76 (by decide) ?_
                exact jireti (jr2 hf) E hM dX11_figure_78
        · have hf := jt c17 hf
          refine lv_bipush (v := (-3 : Int32)) hx hb dX11_figure_42 (by decide) ?_
          exact jireti (jr2 hf) E hM dX11_figure_44
    · have hf := jt c13 hf
      refine lv_bipush (v := (-2 : Int32)) hx hb dX11_figure_23 (by decide) ?_
      exact jireti (jr2 hf) E hM dX11_figure_25
set_option maxRecDepth 100000 in
theorem C_X11_figure {l : Launch} {g : jG} {a0 : Nat} {a1 : Int32} {a2 : Int32} {a3 : Int32} {a4 : Int32} {S : jM} {rr : Int32} {SS : jM} (hf : f_X11_figure a0 a1 a2 a3 a4 S = some (rr, SS)) : jMet l g yX11_figure cX11_figure 8 (some .int) 9 0 0 [.ref (g.2.2 + a0), .int a1, .int a2, .int a3, .int a4] S (jQi g rr SS) := by
  refine jof (by decide +kernel) (Nat.le_of_ble_eq_true rfl) ?_
  intro p e s m below meth c E hM ls hl
  have hl : lv_has ls 8 [(0, .ref (g.2.2 + a0)),(1, .int a1),(2, .int a2),(3, .int a3),(4, .int a4)] := hl
  exact B_X11_figure_0 E hf hM hl
-- PensionHouse.inForce(II)I  mode R
noncomputable def f_X11_inForce (v0 : Nat) (v1 : Int32) (v2 : Int32) (S : jM) : Option Int32 := if (f_X11_isScheme v1) = 0 then some (-2 : Int32) else if (f_X11_isDay v2) = 0 then some (-3 : Int32) else if jK v0 = 9 then (f_X11_textInForce v0 v1 v2 S).bind (fun x3 => if x3.isNone = true then some (-1 : Int32) else (x3).bind (fun r7 => if jK r7 = 6 then some (jI S 44 r7) else none)) else none
set_option maxRecDepth 100000 in
set_option maxHeartbeats 4000000 in
theorem B_X11_inForce_0 {p : Program} {l : Launch} {e : Env} {s : State} {m : MethodId} {args : Array Value} {below : List Frame} {meth : Method} {c : Code} {g : jG} {rr : Int32} {S : jM} {v0 : Nat} {v1 : Int32} {v2 : Int32} (E : jEnv p s m args meth c cX11_inForce "PensionHouse" (some .int) 4 g)  {H : Heap} {locs : List Loc} {ls : Array Slot} (hf : f_X11_inForce v0 v1 v2 S = some rr) (hM : jAt g S s H locs) (hl : lv_has ls 4 [(0, .ref (g.2.2 + v0)), (1, .int v1), (2, .int v2)]) : W p l e (jRm 2 0 0) s m args below meth c H locs 0 0 (MQ below (jQi g rr S) args s 0 0 (jA0 g)) (F0 m 0 ls []) := by
  obtain ⟨hx, hb, hml, -, hts, hown, hK, -, hstr⟩ := id E
  unfold f_X11_inForce at hf
  refine lv_iload_n hx hb dX11_inForce_0 rfl (lv_at hl 1 rfl) ?_
  refine jbackI hM (jrunS E hM ci_X11_isScheme (C_X11_isScheme rfl) lk_4_5 hl.1 rfl rfl (Nat.le_of_ble_eq_true rfl) ⟨Nat.le_of_ble_eq_true rfl, Nat.le_of_ble_eq_true rfl⟩ ⟨Nat.le_refl _, Nat.le_refl _⟩ dX11_inForce_1) (fun H locs hM => ?_)
  refine lv_if_ne (tgt := 10) hx hb dX11_inForce_4 (by decide) (fun c1 => ?_) (fun c1 => ?_)
  · have hf := jf c1 hf
    refine lv_iload_n hx hb dX11_inForce_10 rfl (lv_at hl 2 rfl) ?_
    refine jbackI hM (jrunS E hM ci_X11_isDay (C_X11_isDay rfl) lk_2_211 hl.1 rfl rfl (Nat.le_of_ble_eq_true rfl) ⟨Nat.le_of_ble_eq_true rfl, Nat.le_of_ble_eq_true rfl⟩ ⟨Nat.le_refl _, Nat.le_refl _⟩ dX11_inForce_11) (fun H locs hM => ?_)
    refine lv_if_ne (tgt := 20) hx hb dX11_inForce_14 (by decide) (fun c2 => ?_) (fun c2 => ?_)
    · have hf := jf c2 hf
      refine lv_aload_n hx hb dX11_inForce_20 rfl (lv_at hl 0 rfl) ?_
      refine lv_iload_n hx hb dX11_inForce_21 rfl (lv_at hl 1 rfl) ?_
      refine lv_iload_n hx hb dX11_inForce_22 rfl (lv_at hl 2 rfl) ?_
      obtain ⟨hq5, hf⟩ := jif hf
      obtain ⟨x3, hc4, hf⟩ := jb hf
      refine jbackQ hM (jrunV E hM ci_X11_textInForce (C_X11_textInForce hc4) lk_4_137 hq5 (by decide) rfl hl.1 rfl rfl (Nat.le_of_ble_eq_true rfl) ⟨Nat.le_of_ble_eq_true rfl, Nat.le_of_ble_eq_true rfl⟩ ⟨Nat.le_refl _, Nat.le_refl _⟩ dX11_inForce_23) (fun H locs hM => ?_)
      refine jastore (g := g) (r := x3) (i := 3) (lv' := [(3, jo g x3), (0, .ref (g.2.2 + v0)), (1, .int v1), (2, .int v2)]) hx hb dX11_inForce_26 rfl hl (by decide) (by simp [jo_cat, jc_i, jc_l, jc_r]) (fun ls hl => ?_)
      refine jaload hx hb dX11_inForce_27 rfl (lv_at hl 0 rfl) ?_
      refine jifnonnull (tgt := 35) hx hb dX11_inForce_28 (by decide) (fun c6 => ?_) (fun c6 => ?_)
      · have hf := jf c6 hf
        refine jaload hx hb dX11_inForce_35 rfl (lv_at hl 0 rfl) ?_
        obtain ⟨r7, hr8, hf⟩ := jb hf
        rw [hr8]
        show W p l e _ s m args below meth c H locs 0 0 _ (F0 m _ ls (.ref (g.2.2 + r7) :: _))
        obtain ⟨hq9, hf⟩ := jif hf
        refine gt_44 E hM hq9 lk_1_175 dX11_inForce_36 ?_
        exact jireti (jr1 hf) E hM dX11_inForce_39
      · have hf := jt c6 hf
        refine lv_iconst (v := (-1 : Int32)) hx hb dX11_inForce_31 (by decide) ?_
        refine lv_goto (tgt := 39) hx hb dX11_inForce_32 (by decide) ?_
        exact jireti (jr1 hf) E hM dX11_inForce_39
    · have hf := jt c2 hf
      refine lv_bipush (v := (-3 : Int32)) hx hb dX11_inForce_17 (by decide) ?_
      exact jireti (jr1 hf) E hM dX11_inForce_19
  · have hf := jt c1 hf
    refine lv_bipush (v := (-2 : Int32)) hx hb dX11_inForce_7 (by decide) ?_
    exact jireti (jr1 hf) E hM dX11_inForce_9
set_option maxRecDepth 100000 in
theorem C_X11_inForce {l : Launch} {g : jG} {a0 : Nat} {a1 : Int32} {a2 : Int32} {S : jM} {rr : Int32} (hf : f_X11_inForce a0 a1 a2 S = some rr) : jMet l g yX11_inForce cX11_inForce 4 (some .int) 2 0 0 [.ref (g.2.2 + a0), .int a1, .int a2] S (jQi g rr S) := by
  refine jof (by decide +kernel) (Nat.le_of_ble_eq_true rfl) ?_
  intro p e s m below meth c E hM ls hl
  have hl : lv_has ls 4 [(0, .ref (g.2.2 + a0)),(1, .int a1),(2, .int a2)] := hl
  exact B_X11_inForce_0 E hf hM hl
-- PensionHouse.known(III)I  mode M
noncomputable def f_X11_known (v0 : Nat) (v1 : Int32) (v2 : Int32) (v3 : Int32) (S : jM) : Option (Int32 × jM) := if jK v0 = 9 then (jR S 72 v0).bind (fun r2 => if jK r2 = 5 then jbd (f_X7_takeName r2 S) (fun x4 S5 => if (f_X11_isMember v1) = 0 then some ((-2 : Int32), S5) else if (f_X11_isDay v2) = 0 then some ((-3 : Int32), S5) else (f_X11_isPast v0 v3 S5).bind (fun x10 => if x10 = 0 then some ((-3 : Int32), S5) else if x4 = (0 : Int64) then some ((-4 : Int32), S5) else (jR S5 69 v0).bind (fun r14 => if jK r14 = 4 then (f_X6_latest r14 v1 x4 v2 v3 S5).bind (fun x16 => if x16 < 0 then some (x16, S5) else (jR S5 69 v0).bind (fun r20 => if jK r20 = 4 then if (jI S5 34 r20) ≤ x16 then some (x16, S5) else (jR S5 70 v0).bind (fun r24 => (jR S5 69 v0).bind (fun r26 => if jK r26 = 4 then (jR S5 35 r26).bind (fun r29 => if jA r29 17 x16 = true then (jAR S5 r29 (x16).toNatClampNeg).bind (fun r32 => if jK r32 = 2 then (jR S5 23 r32).bind (fun r35 => if jK r24 = 7 then (f_X9_setTo r24 r35 S5).bind (fun S37 => some (x16, S37)) else none) else none) else none) else none)) else none)) else none))) else none) else none
set_option maxRecDepth 100000 in
set_option maxHeartbeats 4000000 in
theorem B_X11_known_0 {p : Program} {l : Launch} {e : Env} {s : State} {m : MethodId} {args : Array Value} {below : List Frame} {meth : Method} {c : Code} {g : jG} {rr : Int32} {SS : jM} {v0 : Nat} {v1 : Int32} {v2 : Int32} {v3 : Int32} {S : jM} (E : jEnv p s m args meth c cX11_known "PensionHouse" (some .int) 7 g)  {H : Heap} {locs : List Loc} {ls : Array Slot} (hf : f_X11_known v0 v1 v2 v3 S = some (rr, SS)) (hM : jAt g S s H locs) (hl : lv_has ls 7 [(0, .ref (g.2.2 + v0)), (1, .int v1), (2, .int v2), (3, .int v3)]) : W p l e (jRm 9 0 0) s m args below meth c H locs 0 0 (MQ below (jQi g rr SS) args s 0 0 (jA0 g)) (F0 m 0 ls []) := by
  obtain ⟨hx, hb, hml, -, hts, hown, hK, -, hstr⟩ := id E
  unfold f_X11_known at hf
  refine lv_aload_n hx hb dX11_known_0 rfl (lv_at hl 0 rfl) ?_
  obtain ⟨hq1, hf⟩ := jif hf
  refine gt_72 E hM hq1 lk_2_140 dX11_known_1 ?_
  obtain ⟨r2, hr3, hf⟩ := jb hf
  rw [hr3]
  show W p l e _ s m args below meth c H locs 0 0 _ (F0 m _ ls (.ref (g.2.2 + r2) :: _))
  obtain ⟨hq7, hf⟩ := jif hf
  obtain ⟨x4, S5, hc6, hf⟩ := jbd_e hf
  refine jbackL hM (jrunV E hM ci_X7_takeName (C_X7_takeName hc6) lk_3_63 hq7 (by decide) rfl hl.1 rfl rfl (Nat.le_of_ble_eq_true rfl) ⟨Nat.le_of_ble_eq_true rfl, Nat.le_of_ble_eq_true rfl⟩ ⟨Nat.le_refl _, Nat.le_refl _⟩ dX11_known_4) (fun H locs hM => ?_)
  refine lv_lstore (lv' := [(4, .long x4), (0, .ref (g.2.2 + v0)), (1, .int v1), (2, .int v2), (3, .int v3)]) hx hb dX11_known_7 hl (by decide) rfl (fun ls hl => ?_)
  refine lv_iload_n hx hb dX11_known_9 rfl (lv_at hl 2 rfl) ?_
  refine jbackI hM (jrunS E hM ci_X11_isMember (C_X11_isMember rfl) lk_3_210 hl.1 rfl rfl (Nat.le_of_ble_eq_true rfl) ⟨Nat.le_of_ble_eq_true rfl, Nat.le_of_ble_eq_true rfl⟩ ⟨Nat.le_refl _, Nat.le_refl _⟩ dX11_known_10) (fun H locs hM => ?_)
  refine lv_if_ne (tgt := 19) hx hb dX11_known_13 (by decide) (fun c8 => ?_) (fun c8 => ?_)
  · have hf := jf c8 hf
    refine lv_iload_n hx hb dX11_known_19 rfl (lv_at hl 3 rfl) ?_
    refine jbackI hM (jrunS E hM ci_X11_isDay (C_X11_isDay rfl) lk_2_211 hl.1 rfl rfl (Nat.le_of_ble_eq_true rfl) ⟨Nat.le_of_ble_eq_true rfl, Nat.le_of_ble_eq_true rfl⟩ ⟨Nat.le_refl _, Nat.le_refl _⟩ dX11_known_20) (fun H locs hM => ?_)
    refine lv_if_eq (tgt := 34) hx hb dX11_known_23 (by decide) (fun c9 => ?_) (fun c9 => ?_)
    · have hf := jt c9 hf
      refine lv_bipush (v := (-3 : Int32)) hx hb dX11_known_34 (by decide) ?_
      exact jireti (jr2 hf) E hM dX11_known_36
    · have hf := jf c9 hf
      refine lv_aload_n hx hb dX11_known_26 rfl (lv_at hl 1 rfl) ?_
      refine lv_iload_n hx hb dX11_known_27 rfl (lv_at hl 4 rfl) ?_
      obtain ⟨x10, hc11, hf⟩ := jb hf
      refine jbackI hM (jrunV E hM ci_X11_isPast (C_X11_isPast hc11) lk_3_228 hq1 (by decide) rfl hl.1 rfl rfl (Nat.le_of_ble_eq_true rfl) ⟨Nat.le_of_ble_eq_true rfl, Nat.le_of_ble_eq_true rfl⟩ ⟨Nat.le_refl _, Nat.le_refl _⟩ dX11_known_28) (fun H locs hM => ?_)
      refine lv_if_ne (tgt := 37) hx hb dX11_known_31 (by decide) (fun c12 => ?_) (fun c12 => ?_)
      · have hf := jf c12 hf
        refine lv_lload hx hb dX11_known_37 (lv_at hl 0 rfl) ?_
        refine lv_lconst (v := (0 : Int64)) hx hb dX11_known_39 (by decide) ?_
        refine jl_ne (tgt := 47) hx hb dX11_known_40 dX11_known_41 (by decide) (fun c13 => ?_) (fun c13 => ?_)
        · have hf := jf c13 hf
          refine lv_aload_n hx hb dX11_known_47 rfl (lv_at hl 1 rfl) ?_
          refine gt_69 E hM hq1 lk_2_137 dX11_known_48 ?_
          obtain ⟨r14, hr15, hf⟩ := jb hf
          rw [hr15]
          show W p l e _ s m args below meth c H locs 0 0 _ (F0 m _ ls (.ref (g.2.2 + r14) :: _))
          refine lv_iload_n hx hb dX11_known_51 rfl (lv_at hl 2 rfl) ?_
          refine lv_lload hx hb dX11_known_52 (lv_at hl 0 rfl) ?_
          refine lv_iload_n hx hb dX11_known_54 rfl (lv_at hl 3 rfl) ?_
          refine lv_iload_n hx hb dX11_known_55 rfl (lv_at hl 4 rfl) ?_
          obtain ⟨hq18, hf⟩ := jif hf
          obtain ⟨x16, hc17, hf⟩ := jb hf
          refine jbackI hM (jrunV E hM ci_X6_latest (C_X6_latest hc17) lk_3_232 hq18 (by decide) rfl hl.1 rfl rfl (Nat.le_of_ble_eq_true rfl) ⟨Nat.le_of_ble_eq_true rfl, Nat.le_of_ble_eq_true rfl⟩ ⟨Nat.le_refl _, Nat.le_refl _⟩ dX11_known_56) (fun H locs hM => ?_)
          refine lv_istore (lv' := [(6, .int x16), (4, .long x4), (0, .ref (g.2.2 + v0)), (1, .int v1), (2, .int v2), (3, .int v3)]) hx hb dX11_known_59 hl (by decide) rfl (fun ls hl => ?_)
          refine lv_iload hx hb dX11_known_61 (lv_at hl 0 rfl) ?_
          refine lv_if_lt (tgt := 98) hx hb dX11_known_63 (by decide) (fun c19 => ?_) (fun c19 => ?_)
          · have hf := jt c19 hf
            refine lv_iload hx hb dX11_known_98 (lv_at hl 0 rfl) ?_
            exact jireti (jr2 hf) E hM dX11_known_100
          · have hf := jf c19 hf
            refine lv_iload hx hb dX11_known_66 (lv_at hl 0 rfl) ?_
            refine lv_aload_n hx hb dX11_known_68 rfl (lv_at hl 2 rfl) ?_
            refine gt_69 E hM hq1 lk_2_137 dX11_known_69 ?_
            obtain ⟨r20, hr21, hf⟩ := jb hf
            rw [hr21]
            show W p l e _ s m args below meth c H locs 0 0 _ (F0 m _ ls (.ref (g.2.2 + r20) :: _))
            obtain ⟨hq22, hf⟩ := jif hf
            refine gt_34 E hM hq22 lk_1_108 dX11_known_72 ?_
            refine lv_icmp_ge (tgt := 98) hx hb dX11_known_75 (by decide) (fun c23 => ?_) (fun c23 => ?_)
            · have hf := jt c23 hf
              refine lv_iload hx hb dX11_known_98 (lv_at hl 0 rfl) ?_
              exact jireti (jr2 hf) E hM dX11_known_100
            · have hf := jf c23 hf
              refine lv_aload_n hx hb dX11_known_78 rfl (lv_at hl 2 rfl) ?_
              refine gt_70 E hM hq1 lk_2_138 dX11_known_79 ?_
              obtain ⟨r24, hr25, hf⟩ := jb hf
              rw [hr25]
              show W p l e _ s m args below meth c H locs 0 0 _ (F0 m _ ls (.ref (g.2.2 + r24) :: _))
              refine lv_aload_n hx hb dX11_known_82 rfl (lv_at hl 2 rfl) ?_
              refine gt_69 E hM hq1 lk_2_137 dX11_known_83 ?_
              obtain ⟨r26, hr27, hf⟩ := jb hf
              rw [hr27]
              show W p l e _ s m args below meth c H locs 0 0 _ (F0 m _ ls (.ref (g.2.2 + r26) :: _))
              obtain ⟨hq28, hf⟩ := jif hf
              refine gt_35 E hM hq28 lk_1_110 dX11_known_86 ?_
              obtain ⟨r29, hr30, hf⟩ := jb hf
              rw [hr30]
              show W p l e _ s m args below meth c H locs 0 0 _ (F0 m _ ls (.ref (g.2.2 + r29) :: _))
              refine lv_iload hx hb dX11_known_89 (lv_at hl 0 rfl) ?_
              obtain ⟨ha31, hf⟩ := jif hf
              refine jaald (k := 17) (t0 := 6) E hM ha31 (by decide) (by decide) rfl dX11_known_91 ?_
              obtain ⟨r32, hr33, hf⟩ := jb hf
              rw [hr33]
              show W p l e _ s m args below meth c H locs 0 0 _ (F0 m _ ls (.ref (g.2.2 + r32) :: _))
              obtain ⟨hq34, hf⟩ := jif hf
              refine gt_23 E hM hq34 lk_1_85 dX11_known_92 ?_
              obtain ⟨r35, hr36, hf⟩ := jb hf
              rw [hr36]
              show W p l e _ s m args below meth c H locs 0 0 _ (F0 m _ ls (.ref (g.2.2 + r35) :: _))
              obtain ⟨hq39, hf⟩ := jif hf
              obtain ⟨S37, hc38, hf⟩ := jb hf
              refine jbackV hM (jrunV E hM ci_X9_setTo (C_X9_setTo hc38) lk_3_213 hq39 (by decide) rfl hl.1 rfl rfl (Nat.le_of_ble_eq_true rfl) ⟨Nat.le_of_ble_eq_true rfl, Nat.le_of_ble_eq_true rfl⟩ ⟨Nat.le_refl _, Nat.le_refl _⟩ dX11_known_95) (fun H locs hM => ?_)
              refine lv_iload hx hb dX11_known_98 (lv_at hl 0 rfl) ?_
              exact jireti (jr2 hf) E hM dX11_known_100
        · have hf := jt c13 hf
          refine lv_bipush (v := (-4 : Int32)) hx hb dX11_known_44 (by decide) ?_
          exact jireti (jr2 hf) E hM dX11_known_46
      · have hf := jt c12 hf
        refine lv_bipush (v := (-3 : Int32)) hx hb dX11_known_34 (by decide) ?_
        exact jireti (jr2 hf) E hM dX11_known_36
  · have hf := jt c8 hf
    refine lv_bipush (v := (-2 : Int32)) hx hb dX11_known_16 (by decide) ?_
    exact jireti (jr2 hf) E hM dX11_known_18
set_option maxRecDepth 100000 in
theorem C_X11_known {l : Launch} {g : jG} {a0 : Nat} {a1 : Int32} {a2 : Int32} {a3 : Int32} {S : jM} {rr : Int32} {SS : jM} (hf : f_X11_known a0 a1 a2 a3 S = some (rr, SS)) : jMet l g yX11_known cX11_known 7 (some .int) 9 0 0 [.ref (g.2.2 + a0), .int a1, .int a2, .int a3] S (jQi g rr SS) := by
  refine jof (by decide +kernel) (Nat.le_of_ble_eq_true rfl) ?_
  intro p e s m below meth c E hM ls hl
  have hl : lv_has ls 7 [(0, .ref (g.2.2 + a0)),(1, .int a1),(2, .int a2),(3, .int a3)] := hl
  exact B_X11_known_0 E hf hM hl
-- PensionHouse.length()I  mode R
noncomputable def f_X11_length (v0 : Nat) (S : jM) : Option Int32 := if jK v0 = 9 then (jR S 70 v0).bind (fun r2 => if jK r2 = 7 then some (jI S 53 r2) else none) else none
set_option maxRecDepth 100000 in
set_option maxHeartbeats 4000000 in
theorem B_X11_length_0 {p : Program} {l : Launch} {e : Env} {s : State} {m : MethodId} {args : Array Value} {below : List Frame} {meth : Method} {c : Code} {g : jG} {rr : Int32} {S : jM} {v0 : Nat} (E : jEnv p s m args meth c cX11_length "PensionHouse" (some .int) 1 g)  {H : Heap} {locs : List Loc} {ls : Array Slot} (hf : f_X11_length v0 S = some rr) (hM : jAt g S s H locs) (hl : lv_has ls 1 [(0, .ref (g.2.2 + v0))]) : W p l e (jRm 1 0 0) s m args below meth c H locs 0 0 (MQ below (jQi g rr S) args s 0 0 (jA0 g)) (F0 m 0 ls []) := by
  obtain ⟨hx, hb, hml, -, hts, hown, hK, -, hstr⟩ := id E
  unfold f_X11_length at hf
  refine lv_aload_n hx hb dX11_length_0 rfl (lv_at hl 0 rfl) ?_
  obtain ⟨hq1, hf⟩ := jif hf
  refine gt_70 E hM hq1 lk_2_138 dX11_length_1 ?_
  obtain ⟨r2, hr3, hf⟩ := jb hf
  rw [hr3]
  show W p l e _ s m args below meth c H locs 0 0 _ (F0 m _ ls (.ref (g.2.2 + r2) :: _))
  obtain ⟨hq4, hf⟩ := jif hf
  refine gt_53 E hM hq4 lk_1_55 dX11_length_4 ?_
  exact jireti (jr1 hf) E hM dX11_length_7
set_option maxRecDepth 100000 in
theorem C_X11_length {l : Launch} {g : jG} {a0 : Nat} {S : jM} {rr : Int32} (hf : f_X11_length a0 S = some rr) : jMet l g yX11_length cX11_length 1 (some .int) 1 0 0 [.ref (g.2.2 + a0)] S (jQi g rr S) := by
  refine jof (by decide +kernel) (Nat.le_of_ble_eq_true rfl) ?_
  intro p e s m below meth c E hM ls hl
  have hl : lv_has ls 1 [(0, .ref (g.2.2 + a0))] := hl
  exact B_X11_length_0 E hf hM hl
-- PensionHouse.payment(II)J  mode R
noncomputable def f_X11_payment (v0 : Nat) (v1 : Int32) (v2 : Int32) (S : jM) : Option Int64 := if v1 < 0 then some (0 : Int64) else if jK v0 = 9 then if (jI S 81 v0) ≤ v1 then some (0 : Int64) else if v2 < 0 then some (0 : Int64) else if v2 < (8 : Int32) then (jR S 80 v0).bind (fun r6 => if jA r6 20 v1 = true then (jAR S r6 (v1).toNatClampNeg).bind (fun r9 => if jA r9 14 v2 = true then some (jAL S r9 (v2).toNatClampNeg) else none) else none) else some (0 : Int64) else none
set_option maxRecDepth 100000 in
set_option maxHeartbeats 4000000 in
theorem B_X11_payment_0 {p : Program} {l : Launch} {e : Env} {s : State} {m : MethodId} {args : Array Value} {below : List Frame} {meth : Method} {c : Code} {g : jG} {rr : Int64} {S : jM} {v0 : Nat} {v1 : Int32} {v2 : Int32} (E : jEnv p s m args meth c cX11_payment "PensionHouse" (some .long) 3 g)  {H : Heap} {locs : List Loc} {ls : Array Slot} (hf : f_X11_payment v0 v1 v2 S = some rr) (hM : jAt g S s H locs) (hl : lv_has ls 3 [(0, .ref (g.2.2 + v0)), (1, .int v1), (2, .int v2)]) : W p l e (jRm 1 0 0) s m args below meth c H locs 0 0 (MQ below (jQl g rr S) args s 0 0 (jA0 g)) (F0 m 0 ls []) := by
  obtain ⟨hx, hb, hml, -, hts, hown, hK, -, hstr⟩ := id E
  unfold f_X11_payment at hf
  refine lv_iload_n hx hb dX11_payment_0 rfl (lv_at hl 1 rfl) ?_
  refine lv_if_lt (tgt := 22) hx hb dX11_payment_1 (by decide) (fun c1 => ?_) (fun c1 => ?_)
  · have hf := jt c1 hf
    refine lv_lconst (v := (0 : Int64)) hx hb dX11_payment_22 (by decide) ?_
    exact jlret (jr1 hf) E hM dX11_payment_23
  · have hf := jf c1 hf
    refine lv_iload_n hx hb dX11_payment_4 rfl (lv_at hl 1 rfl) ?_
    refine lv_aload_n hx hb dX11_payment_5 rfl (lv_at hl 0 rfl) ?_
    obtain ⟨hq2, hf⟩ := jif hf
    refine gt_81 E hM hq2 lk_2_149 dX11_payment_6 ?_
    refine lv_icmp_ge (tgt := 22) hx hb dX11_payment_9 (by decide) (fun c3 => ?_) (fun c3 => ?_)
    · have hf := jt c3 hf
      refine lv_lconst (v := (0 : Int64)) hx hb dX11_payment_22 (by decide) ?_
      exact jlret (jr1 hf) E hM dX11_payment_23
    · have hf := jf c3 hf
      refine lv_iload_n hx hb dX11_payment_12 rfl (lv_at hl 2 rfl) ?_
      refine lv_if_lt (tgt := 22) hx hb dX11_payment_13 (by decide) (fun c4 => ?_) (fun c4 => ?_)
      · have hf := jt c4 hf
        refine lv_lconst (v := (0 : Int64)) hx hb dX11_payment_22 (by decide) ?_
        exact jlret (jr1 hf) E hM dX11_payment_23
      · have hf := jf c4 hf
        refine lv_iload_n hx hb dX11_payment_16 rfl (lv_at hl 2 rfl) ?_
        refine lv_bipush (v := (8 : Int32)) hx hb dX11_payment_17 (by decide) ?_
        refine lv_icmp_lt (tgt := 24) hx hb dX11_payment_19 (by decide) (fun c5 => ?_) (fun c5 => ?_)
        · have hf := jt c5 hf
          refine lv_aload_n hx hb dX11_payment_24 rfl (lv_at hl 0 rfl) ?_
          refine gt_80 E hM hq2 lk_2_148 dX11_payment_25 ?_
          obtain ⟨r6, hr7, hf⟩ := jb hf
          rw [hr7]
          show W p l e _ s m args below meth c H locs 0 0 _ (F0 m _ ls (.ref (g.2.2 + r6) :: _))
          refine lv_iload_n hx hb dX11_payment_28 rfl (lv_at hl 1 rfl) ?_
          obtain ⟨ha8, hf⟩ := jif hf
          refine jaaldJ E hM ha8 dX11_payment_29 ?_
          obtain ⟨r9, hr10, hf⟩ := jb hf
          rw [hr10]
          show W p l e _ s m args below meth c H locs 0 0 _ (F0 m _ ls (.ref (g.2.2 + r9) :: _))
          refine lv_iload_n hx hb dX11_payment_30 rfl (lv_at hl 2 rfl) ?_
          obtain ⟨ha11, hf⟩ := jif hf
          refine jlald E hM ha11 dX11_payment_31 ?_
          exact jlret (jr1 hf) E hM dX11_payment_32
        · have hf := jf c5 hf
          refine lv_lconst (v := (0 : Int64)) hx hb dX11_payment_22 (by decide) ?_
          exact jlret (jr1 hf) E hM dX11_payment_23
set_option maxRecDepth 100000 in
theorem C_X11_payment {l : Launch} {g : jG} {a0 : Nat} {a1 : Int32} {a2 : Int32} {S : jM} {rr : Int64} (hf : f_X11_payment a0 a1 a2 S = some rr) : jMet l g yX11_payment cX11_payment 3 (some .long) 1 0 0 [.ref (g.2.2 + a0), .int a1, .int a2] S (jQl g rr S) := by
  refine jof (by decide +kernel) (Nat.le_of_ble_eq_true rfl) ?_
  intro p e s m below meth c E hM ls hl
  have hl : lv_has ls 3 [(0, .ref (g.2.2 + a0)),(1, .int a1),(2, .int a2)] := hl
  exact B_X11_payment_0 E hf hM hl
-- PensionHouse.person(ZI)I  mode M
noncomputable def f_X11_person (v0 : Nat) (v1 : Int32) (v2 : Int32) (S : jM) : Option (Int32 × jM) := if v2 < (-40000 : Int32) then some ((-3 : Int32), S) else if v2 ≤ (389 : Int32) then if jK v0 = 9 then (jR S 69 v0).bind (fun r4 => if jK r4 = 4 then jbd (f_X6_addPerson r4 v1 v2 S) (fun x6 S7 => some (x6, S7)) else none) else none else some ((-3 : Int32), S)
set_option maxRecDepth 100000 in
set_option maxHeartbeats 4000000 in
theorem B_X11_person_0 {p : Program} {l : Launch} {e : Env} {s : State} {m : MethodId} {args : Array Value} {below : List Frame} {meth : Method} {c : Code} {g : jG} {rr : Int32} {SS : jM} {v0 : Nat} {v1 : Int32} {v2 : Int32} {S : jM} (E : jEnv p s m args meth c cX11_person "PensionHouse" (some .int) 3 g)  {H : Heap} {locs : List Loc} {ls : Array Slot} (hf : f_X11_person v0 v1 v2 S = some (rr, SS)) (hM : jAt g S s H locs) (hl : lv_has ls 3 [(0, .ref (g.2.2 + v0)), (1, .int v1), (2, .int v2)]) : W p l e (jRm 2 0 0) s m args below meth c H locs 0 0 (MQ below (jQi g rr SS) args s 0 0 (jA0 g)) (F0 m 0 ls []) := by
  obtain ⟨hx, hb, hml, -, hts, hown, hK, -, hstr⟩ := id E
  unfold f_X11_person at hf
  refine lv_iload_n hx hb dX11_person_0 rfl (lv_at hl 2 rfl) ?_
  refine lv_ldc (v := (-40000 : Int32)) hx hb hown (hts _ lk_2_218) dX11_person_1 ?_
  refine lv_icmp_lt (tgt := 13) hx hb dX11_person_3 (by decide) (fun c1 => ?_) (fun c1 => ?_)
  · have hf := jt c1 hf
    refine lv_bipush (v := (-3 : Int32)) hx hb dX11_person_13 (by decide) ?_
    exact jireti (jr2 hf) E hM dX11_person_15
  · have hf := jf c1 hf
    refine lv_iload_n hx hb dX11_person_6 rfl (lv_at hl 2 rfl) ?_
    refine lv_sipush (v := (389 : Int32)) hx hb dX11_person_7 (by decide) ?_
    refine lv_icmp_le (tgt := 16) hx hb dX11_person_10 (by decide) (fun c2 => ?_) (fun c2 => ?_)
    · have hf := jt c2 hf
      refine lv_aload_n hx hb dX11_person_16 rfl (lv_at hl 0 rfl) ?_
      obtain ⟨hq3, hf⟩ := jif hf
      refine gt_69 E hM hq3 lk_2_137 dX11_person_17 ?_
      obtain ⟨r4, hr5, hf⟩ := jb hf
      rw [hr5]
      show W p l e _ s m args below meth c H locs 0 0 _ (F0 m _ ls (.ref (g.2.2 + r4) :: _))
      refine lv_iload_n hx hb dX11_person_20 rfl (lv_at hl 1 rfl) ?_
      refine lv_iload_n hx hb dX11_person_21 rfl (lv_at hl 2 rfl) ?_
      obtain ⟨hq9, hf⟩ := jif hf
      obtain ⟨x6, S7, hc8, hf⟩ := jbd_e hf
      refine jbackI hM (jrunV E hM ci_X6_addPerson (C_X6_addPerson hc8) lk_2_219 hq9 (by decide) rfl hl.1 rfl rfl (Nat.le_of_ble_eq_true rfl) ⟨Nat.le_of_ble_eq_true rfl, Nat.le_of_ble_eq_true rfl⟩ ⟨Nat.le_refl _, Nat.le_refl _⟩ dX11_person_22) (fun H locs hM => ?_)
      exact jireti (jr2 hf) E hM dX11_person_25
    · have hf := jf c2 hf
      refine lv_bipush (v := (-3 : Int32)) hx hb dX11_person_13 (by decide) ?_
      exact jireti (jr2 hf) E hM dX11_person_15
set_option maxRecDepth 100000 in
theorem C_X11_person {l : Launch} {g : jG} {a0 : Nat} {a1 : Int32} {a2 : Int32} {S : jM} {rr : Int32} {SS : jM} (hf : f_X11_person a0 a1 a2 S = some (rr, SS)) : jMet l g yX11_person cX11_person 3 (some .int) 2 0 0 [.ref (g.2.2 + a0), .int a1, .int a2] S (jQi g rr SS) := by
  refine jof (by decide +kernel) (Nat.le_of_ble_eq_true rfl) ?_
  intro p e s m below meth c E hM ls hl
  have hl : lv_has ls 3 [(0, .ref (g.2.2 + a0)),(1, .int a1),(2, .int a2)] := hl
  exact B_X11_person_0 E hf hM hl
-- PensionHouse.read(I)J  mode R
noncomputable def f_X11_read (v0 : Nat) (v1 : Int32) (S : jM) : Option Int64 := if v1 = (-1 : Int32) then if jK v0 = 9 then (jR S 70 v0).bind (fun r16 => if jK r16 = 7 then (f_X9_isRow r16 S).bind (fun x18 => if x18 = 0 then (jR S 70 v0).bind (fun r22 => if jK r22 = 7 then (jR S 54 r22).bind (fun r25 => if jA r25 14 (0 : Int32) = true then some (jAL S r25 ((0 : Int32)).toNatClampNeg) else none) else none) else some (0 : Int64)) else none) else none else if jK v0 = 9 then (jR S 70 v0).bind (fun r3 => if jK r3 = 7 then (f_X9_hasItem r3 (v1.toInt64) S).bind (fun x5 => if x5 = 0 then some (0 : Int64) else (jR S 70 v0).bind (fun r9 => if jK r9 = 7 then (jR S 54 r9).bind (fun r12 => if jA r12 14 v1 = true then some (jAL S r12 (v1).toNatClampNeg) else none) else none)) else none) else none
set_option maxRecDepth 100000 in
set_option maxHeartbeats 4000000 in
theorem B_X11_read_0 {p : Program} {l : Launch} {e : Env} {s : State} {m : MethodId} {args : Array Value} {below : List Frame} {meth : Method} {c : Code} {g : jG} {rr : Int64} {S : jM} {v0 : Nat} {v1 : Int32} (E : jEnv p s m args meth c cX11_read "PensionHouse" (some .long) 2 g)  {H : Heap} {locs : List Loc} {ls : Array Slot} (hf : f_X11_read v0 v1 S = some rr) (hM : jAt g S s H locs) (hl : lv_has ls 2 [(0, .ref (g.2.2 + v0)), (1, .int v1)]) : W p l e (jRm 2 0 0) s m args below meth c H locs 0 0 (MQ below (jQl g rr S) args s 0 0 (jA0 g)) (F0 m 0 ls []) := by
  obtain ⟨hx, hb, hml, -, hts, hown, hK, -, hstr⟩ := id E
  unfold f_X11_read at hf
  refine lv_iload_n hx hb dX11_read_0 rfl (lv_at hl 1 rfl) ?_
  refine lv_iconst (v := (-1 : Int32)) hx hb dX11_read_1 (by decide) ?_
  refine lv_icmp_ne (tgt := 29) hx hb dX11_read_2 (by decide) (fun c1 => ?_) (fun c1 => ?_)
  · have hf := jf c1 hf
    refine lv_aload_n hx hb dX11_read_29 rfl (lv_at hl 0 rfl) ?_
    obtain ⟨hq2, hf⟩ := jif hf
    refine gt_70 E hM hq2 lk_2_138 dX11_read_30 ?_
    obtain ⟨r3, hr4, hf⟩ := jb hf
    rw [hr4]
    show W p l e _ s m args below meth c H locs 0 0 _ (F0 m _ ls (.ref (g.2.2 + r3) :: _))
    refine lv_iload_n hx hb dX11_read_33 rfl (lv_at hl 1 rfl) ?_
    refine lv_i2l hx hb dX11_read_34 rfl ?_
    obtain ⟨hq7, hf⟩ := jif hf
    obtain ⟨x5, hc6, hf⟩ := jb hf
    refine jbackI hM (jrunV E hM ci_X9_hasItem (C_X9_hasItem hc6) lk_3_11 hq7 (by decide) rfl hl.1 rfl rfl (Nat.le_of_ble_eq_true rfl) ⟨Nat.le_of_ble_eq_true rfl, Nat.le_of_ble_eq_true rfl⟩ ⟨Nat.le_refl _, Nat.le_refl _⟩ dX11_read_35) (fun H locs hM => ?_)
    refine lv_if_eq (tgt := 53) hx hb dX11_read_38 (by decide) (fun c8 => ?_) (fun c8 => ?_)
    · have hf := jt c8 hf
      refine lv_lconst (v := (0 : Int64)) hx hb dX11_read_53 (by decide) ?_
      exact jlret (jr1 hf) E hM dX11_read_54
    · have hf := jf c8 hf
      refine lv_aload_n hx hb dX11_read_41 rfl (lv_at hl 0 rfl) ?_
      refine gt_70 E hM hq2 lk_2_138 dX11_read_42 ?_
      obtain ⟨r9, hr10, hf⟩ := jb hf
      rw [hr10]
      show W p l e _ s m args below meth c H locs 0 0 _ (F0 m _ ls (.ref (g.2.2 + r9) :: _))
      obtain ⟨hq11, hf⟩ := jif hf
      refine gt_54 E hM hq11 lk_1_60 dX11_read_45 ?_
      obtain ⟨r12, hr13, hf⟩ := jb hf
      rw [hr13]
      show W p l e _ s m args below meth c H locs 0 0 _ (F0 m _ ls (.ref (g.2.2 + r12) :: _))
      refine lv_iload_n hx hb dX11_read_48 rfl (lv_at hl 1 rfl) ?_
      obtain ⟨ha14, hf⟩ := jif hf
      refine jlald E hM ha14 dX11_read_49 ?_
      refine lv_goto (tgt := 54) hx hb dX11_read_50 (by decide) ?_
      exact jlret (jr1 hf) E hM dX11_read_54
  · have hf := jt c1 hf
    refine lv_aload_n hx hb dX11_read_5 rfl (lv_at hl 0 rfl) ?_
    obtain ⟨hq15, hf⟩ := jif hf
    refine gt_70 E hM hq15 lk_2_138 dX11_read_6 ?_
    obtain ⟨r16, hr17, hf⟩ := jb hf
    rw [hr17]
    show W p l e _ s m args below meth c H locs 0 0 _ (F0 m _ ls (.ref (g.2.2 + r16) :: _))
    obtain ⟨hq20, hf⟩ := jif hf
    obtain ⟨x18, hc19, hf⟩ := jb hf
    refine jbackI hM (jrunV E hM ci_X9_isRow (C_X9_isRow hc19) lk_3_55 hq20 (by decide) rfl hl.1 rfl rfl (Nat.le_of_ble_eq_true rfl) ⟨Nat.le_of_ble_eq_true rfl, Nat.le_of_ble_eq_true rfl⟩ ⟨Nat.le_refl _, Nat.le_refl _⟩ dX11_read_9) (fun H locs hM => ?_)
    refine lv_if_eq (tgt := 19) hx hb dX11_read_12 (by decide) (fun c21 => ?_) (fun c21 => ?_)
    · have hf := jt c21 hf
      refine lv_aload_n hx hb dX11_read_19 rfl (lv_at hl 0 rfl) ?_
      refine gt_70 E hM hq15 lk_2_138 dX11_read_20 ?_
      obtain ⟨r22, hr23, hf⟩ := jb hf
      rw [hr23]
      show W p l e _ s m args below meth c H locs 0 0 _ (F0 m _ ls (.ref (g.2.2 + r22) :: _))
      obtain ⟨hq24, hf⟩ := jif hf
      refine gt_54 E hM hq24 lk_1_60 dX11_read_23 ?_
      obtain ⟨r25, hr26, hf⟩ := jb hf
      rw [hr26]
      show W p l e _ s m args below meth c H locs 0 0 _ (F0 m _ ls (.ref (g.2.2 + r25) :: _))
      refine lv_iconst (v := (0 : Int32)) hx hb dX11_read_26 (by decide) ?_
      obtain ⟨ha27, hf⟩ := jif hf
      refine jlald E hM ha27 dX11_read_27 ?_
      exact jlret (jr1 hf) E hM dX11_read_28
    · have hf := jf c21 hf
      refine lv_lconst (v := (0 : Int64)) hx hb dX11_read_15 (by decide) ?_
      refine lv_goto (tgt := 28) hx hb dX11_read_16 (by decide) ?_
      exact jlret (jr1 hf) E hM dX11_read_28
set_option maxRecDepth 100000 in
theorem C_X11_read {l : Launch} {g : jG} {a0 : Nat} {a1 : Int32} {S : jM} {rr : Int64} (hf : f_X11_read a0 a1 S = some rr) : jMet l g yX11_read cX11_read 2 (some .long) 2 0 0 [.ref (g.2.2 + a0), .int a1] S (jQl g rr S) := by
  refine jof (by decide +kernel) (Nat.le_of_ble_eq_true rfl) ?_
  intro p e s m below meth c E hM ls hl
  have hl : lv_has ls 2 [(0, .ref (g.2.2 + a0)),(1, .int a1)] := hl
  exact B_X11_read_0 E hf hM hl
-- PensionHouse.returned(I)I  mode M
noncomputable def f_X11_returned (v0 : Nat) (v1 : Int32) (S : jM) : Option (Int32 × jM) := if v1 < 0 then some ((-2 : Int32), S) else if jK v0 = 9 then if v1 < (jI S 81 v0) then (jR S 80 v0).bind (fun r4 => if jA r4 20 v1 = true then (jAR S r4 (v1).toNatClampNeg).bind (fun r7 => if jA r7 14 (6 : Int32) = true then if (jAL S r7 ((6 : Int32)).toNatClampNeg) = (0 : Int64) then (jR S 80 v0).bind (fun r11 => if jA r11 20 v1 = true then (jAR S r11 (v1).toNatClampNeg).bind (fun r14 => if jA r14 14 (6 : Int32) = true then jlet (jrL S r14 (vp_updL (jAL S r14) ((6 : Int32)).toNatClampNeg (1 : Int64))) (fun S17 => some ((1 : Int32), S17)) else none) else none) else some ((-4 : Int32), S) else none) else none) else some ((-2 : Int32), S) else none
set_option maxRecDepth 100000 in
set_option maxHeartbeats 4000000 in
theorem B_X11_returned_0 {p : Program} {l : Launch} {e : Env} {s : State} {m : MethodId} {args : Array Value} {below : List Frame} {meth : Method} {c : Code} {g : jG} {rr : Int32} {SS : jM} {v0 : Nat} {v1 : Int32} {S : jM} (E : jEnv p s m args meth c cX11_returned "PensionHouse" (some .int) 2 g)  {H : Heap} {locs : List Loc} {ls : Array Slot} (hf : f_X11_returned v0 v1 S = some (rr, SS)) (hM : jAt g S s H locs) (hl : lv_has ls 2 [(0, .ref (g.2.2 + v0)), (1, .int v1)]) : W p l e (jRm 1 0 0) s m args below meth c H locs 0 0 (MQ below (jQi g rr SS) args s 0 0 (jA0 g)) (F0 m 0 ls []) := by
  obtain ⟨hx, hb, hml, -, hts, hown, hK, -, hstr⟩ := id E
  unfold f_X11_returned at hf
  refine lv_iload_n hx hb dX11_returned_0 rfl (lv_at hl 1 rfl) ?_
  refine lv_if_lt (tgt := 12) hx hb dX11_returned_1 (by decide) (fun c1 => ?_) (fun c1 => ?_)
  · have hf := jt c1 hf
    refine lv_bipush (v := (-2 : Int32)) hx hb dX11_returned_12 (by decide) ?_
    exact jireti (jr2 hf) E hM dX11_returned_14
  · have hf := jf c1 hf
    refine lv_iload_n hx hb dX11_returned_4 rfl (lv_at hl 1 rfl) ?_
    refine lv_aload_n hx hb dX11_returned_5 rfl (lv_at hl 0 rfl) ?_
    obtain ⟨hq2, hf⟩ := jif hf
    refine gt_81 E hM hq2 lk_2_149 dX11_returned_6 ?_
    refine lv_icmp_lt (tgt := 15) hx hb dX11_returned_9 (by decide) (fun c3 => ?_) (fun c3 => ?_)
    · have hf := jt c3 hf
      refine lv_aload_n hx hb dX11_returned_15 rfl (lv_at hl 0 rfl) ?_
      refine gt_80 E hM hq2 lk_2_148 dX11_returned_16 ?_
      obtain ⟨r4, hr5, hf⟩ := jb hf
      rw [hr5]
      show W p l e _ s m args below meth c H locs 0 0 _ (F0 m _ ls (.ref (g.2.2 + r4) :: _))
      refine lv_iload_n hx hb dX11_returned_19 rfl (lv_at hl 1 rfl) ?_
      obtain ⟨ha6, hf⟩ := jif hf
      refine jaaldJ E hM ha6 dX11_returned_20 ?_
      obtain ⟨r7, hr8, hf⟩ := jb hf
      rw [hr8]
      show W p l e _ s m args below meth c H locs 0 0 _ (F0 m _ ls (.ref (g.2.2 + r7) :: _))
      refine lv_bipush (v := (6 : Int32)) hx hb dX11_returned_21 (by decide) ?_
      obtain ⟨ha9, hf⟩ := jif hf
      refine jlald E hM ha9 dX11_returned_23 ?_
      refine lv_lconst (v := (0 : Int64)) hx hb dX11_returned_24 (by decide) ?_
      refine jl_eq (tgt := 32) hx hb dX11_returned_25 dX11_returned_26 (by decide) (fun c10 => ?_) (fun c10 => ?_)
      · have hf := jt c10 hf
        refine lv_aload_n hx hb dX11_returned_32 rfl (lv_at hl 0 rfl) ?_
        refine gt_80 E hM hq2 lk_2_148 dX11_returned_33 ?_
        obtain ⟨r11, hr12, hf⟩ := jb hf
        rw [hr12]
        show W p l e _ s m args below meth c H locs 0 0 _ (F0 m _ ls (.ref (g.2.2 + r11) :: _))
        refine lv_iload_n hx hb dX11_returned_36 rfl (lv_at hl 1 rfl) ?_
        obtain ⟨ha13, hf⟩ := jif hf
        refine jaaldJ E hM ha13 dX11_returned_37 ?_
        obtain ⟨r14, hr15, hf⟩ := jb hf
        rw [hr15]
        show W p l e _ s m args below meth c H locs 0 0 _ (F0 m _ ls (.ref (g.2.2 + r14) :: _))
        refine lv_bipush (v := (6 : Int32)) hx hb dX11_returned_38 (by decide) ?_
        refine lv_lconst (v := (1 : Int64)) hx hb dX11_returned_40 (by decide) ?_
        obtain ⟨ha16, hf⟩ := jif hf
        refine jlast E hM ha16 dX11_returned_41 (fun H locs S17 eS17 hM => ?_)
        have hf := jlet_y eS17 hf
        refine lv_iconst (v := (1 : Int32)) hx hb dX11_returned_42 (by decide) ?_
        exact jireti (jr2 hf) E hM dX11_returned_43
      · have hf := jf c10 hf
        refine lv_bipush (v := (-4 : Int32)) hx hb dX11_returned_29 (by decide) ?_
        exact jireti (jr2 hf) E hM dX11_returned_31
    · have hf := jf c3 hf
      refine lv_bipush (v := (-2 : Int32)) hx hb dX11_returned_12 (by decide) ?_
      exact jireti (jr2 hf) E hM dX11_returned_14
set_option maxRecDepth 100000 in
theorem C_X11_returned {l : Launch} {g : jG} {a0 : Nat} {a1 : Int32} {S : jM} {rr : Int32} {SS : jM} (hf : f_X11_returned a0 a1 S = some (rr, SS)) : jMet l g yX11_returned cX11_returned 2 (some .int) 1 0 0 [.ref (g.2.2 + a0), .int a1] S (jQi g rr SS) := by
  refine jof (by decide +kernel) (Nat.le_of_ble_eq_true rfl) ?_
  intro p e s m below meth c E hM ls hl
  have hl : lv_has ls 2 [(0, .ref (g.2.2 + a0)),(1, .int a1)] := hl
  exact B_X11_returned_0 E hf hM hl
-- PensionHouse.run(I)I  mode M
noncomputable def f_X11_run_71 (k47 : Nat → Int32 → Int32 → Int32 → jM → Option (Int32 × jM)) (v0 : Nat) (v1 : Int32) (v2 : Int32) (v3 : Int32) (S : jM) : Option (Int32 × jM) := jlet (v3 + (1 : Int32)) (fun x1 => k47 v0 v1 v2 x1 S)
noncomputable def f_X11_run_47 : Nat → Nat → Int32 → Int32 → Int32 → jM → Option (Int32 × jM)
  | 0, _, _, _, _, _ => none
  | n + 1, v0, v1, v2, v3, S => if jK v0 = 9 then if (jI S 79 v0) ≤ v3 then if ((jI S 81 v0) + v2) ≤ (200 : Int32) then (f_X11_beginRun v0 v1 S).bind (fun S5 => some (v2, S5)) else some ((-5 : Int32), S) else (jR S 78 v0).bind (fun r7 => if jA r7 16 v3 = true then (jAR S r7 (v3).toNatClampNeg).bind (fun r10 => if jK r10 = 0 then if v1 < (jI S 2 r10) then f_X11_run_71 (f_X11_run_47 n) v0 v1 v2 v3 S else jlet (v2 + (1 : Int32)) (fun x14 => f_X11_run_71 (f_X11_run_47 n) v0 v1 x14 v3 S) else none) else none) else none
noncomputable def f_X11_run (v0 : Nat) (v1 : Int32) (S : jM) : Option (Int32 × jM) := if (f_X11_isMonth v1) = 0 then some ((-3 : Int32), S) else if jK v0 = 9 then if (jI S 87 v0) < (jI S 86 v0) then some ((-4 : Int32), S) else if v1 ≤ (jI S 84 v0) then some ((-4 : Int32), S) else if (v1 * (30 : Int32)) ≤ (jI S 82 v0) then f_X11_run_47 1100000 v0 v1 (0 : Int32) (0 : Int32) S else some ((-4 : Int32), S) else none
set_option maxRecDepth 100000 in
set_option maxHeartbeats 4000000 in
theorem B_X11_run_71 {p : Program} {l : Launch} {e : Env} {s : State} {m : MethodId} {args : Array Value} {below : List Frame} {meth : Method} {c : Code} {g : jG} {rr : Int32} {SS : jM} {v0 : Nat} {v1 : Int32} {v2 : Int32} {v3 : Int32} {S : jM} {k47 : Nat → Int32 → Int32 → Int32 → jM → Option (Int32 × jM)} (E : jEnv p s m args meth c cX11_run "PensionHouse" (some .int) 4 g) (hk47 : ∀ (v0 : Nat) (v1 : Int32) (v2 : Int32) (v3 : Int32) (S : jM) (H : Heap) (locs : List Loc) (ls : Array Slot), k47 v0 v1 v2 v3 S = some (rr, SS) → jAt g S s H locs → lv_has ls 4 [(0, .ref (g.2.2 + v0)), (1, .int v1), (2, .int v2), (3, .int v3)] → W p l e (jRm 2 0 0) s m args below meth c H locs 0 0 (MQ below (jQi g rr SS) args s 0 0 (jA0 g)) (F0 m 47 ls [])) {H : Heap} {locs : List Loc} {ls : Array Slot} (hf : f_X11_run_71 k47 v0 v1 v2 v3 S = some (rr, SS)) (hM : jAt g S s H locs) (hl : lv_has ls 4 [(0, .ref (g.2.2 + v0)), (1, .int v1), (2, .int v2), (3, .int v3)]) : W p l e (jRm 2 0 0) s m args below meth c H locs 0 0 (MQ below (jQi g rr SS) args s 0 0 (jA0 g)) (F0 m 71 ls []) := by
  obtain ⟨hx, hb, hml, -, hts, hown, hK, -, hstr⟩ := id E
  unfold f_X11_run_71 at hf
  obtain ⟨x1, ex1⟩ : ∃ z, z = v3 + (1 : Int32) := ⟨_, rfl⟩
  have hf := jlet_y ex1 hf
  refine lv_iinc (v := x1) (lv' := [(3, .int x1), (0, .ref (g.2.2 + v0)), (1, .int v1), (2, .int v2)]) hx hb dX11_run_71 hl (k := 3) rfl (by rw [ex1]; rfl) (by decide) rfl (fun ls hl => ?_)
  refine lv_goto (tgt := 47) hx hb dX11_run_74 (by decide) ?_
  exact hk47 v0 v1 v2 x1 S _ _ _ hf hM (lv_sub hl [1, 2, 3, 0] rfl)
set_option maxRecDepth 100000 in
set_option maxHeartbeats 4000000 in
theorem B_X11_run_47 {p : Program} {l : Launch} {e : Env} {s : State} {m : MethodId} {args : Array Value} {below : List Frame} {meth : Method} {c : Code} {g : jG} {rr : Int32} {SS : jM} (E : jEnv p s m args meth c cX11_run "PensionHouse" (some .int) 4 g)  : ∀ (n : Nat) (v0 : Nat) (v1 : Int32) (v2 : Int32) (v3 : Int32) (S : jM) (H : Heap) (locs : List Loc) (ls : Array Slot), f_X11_run_47 n v0 v1 v2 v3 S = some (rr, SS) → jAt g S s H locs → lv_has ls 4 [(0, .ref (g.2.2 + v0)), (1, .int v1), (2, .int v2), (3, .int v3)] → W p l e (jRm 2 0 0) s m args below meth c H locs 0 0 (MQ below (jQi g rr SS) args s 0 0 (jA0 g)) (F0 m 47 ls []) := by
  obtain ⟨hx, hb, hml, -, hts, hown, hK, -, hstr⟩ := id E
  intro n
  induction n with
  | zero => intro v0 v1 v2 v3 S H locs ls hf hM hl; rw [f_X11_run_47] at hf; cases hf
  | succ n ih =>
    intro v0 v1 v2 v3 S H locs ls hf hM hl
    rw [f_X11_run_47] at hf
    refine lv_iload_n hx hb dX11_run_47 rfl (lv_at hl 3 rfl) ?_
    refine lv_aload_n hx hb dX11_run_48 rfl (lv_at hl 0 rfl) ?_
    obtain ⟨hq2, hf⟩ := jif hf
    refine gt_79 E hM hq2 lk_2_147 dX11_run_49 ?_
    refine lv_icmp_ge (tgt := 77) hx hb dX11_run_52 (by decide) (fun c3 => ?_) (fun c3 => ?_)
    · have hf := jt c3 hf
      refine lv_aload_n hx hb dX11_run_77 rfl (lv_at hl 0 rfl) ?_
      refine gt_81 E hM hq2 lk_2_149 dX11_run_78 ?_
      refine lv_iload_n hx hb dX11_run_81 rfl (lv_at hl 2 rfl) ?_
      refine lv_iadd hx hb dX11_run_82 ?_
      refine lv_sipush (v := (200 : Int32)) hx hb dX11_run_83 (by decide) ?_
      refine lv_icmp_le (tgt := 92) hx hb dX11_run_86 (by decide) (fun c4 => ?_) (fun c4 => ?_)
      · have hf := jt c4 hf
        refine lv_aload_n hx hb dX11_run_92 rfl (lv_at hl 0 rfl) ?_
        refine lv_iload_n hx hb dX11_run_93 rfl (lv_at hl 1 rfl) ?_
        obtain ⟨S5, hc6, hf⟩ := jb hf
        refine jbackV hM (jrunV E hM ci_X11_beginRun (C_X11_beginRun hc6) lk_5_193 hq2 (by decide) rfl hl.1 rfl rfl (Nat.le_of_ble_eq_true rfl) ⟨Nat.le_of_ble_eq_true rfl, Nat.le_of_ble_eq_true rfl⟩ ⟨Nat.le_refl _, Nat.le_refl _⟩ dX11_run_94) (fun H locs hM => ?_)
        refine lv_iload_n hx hb dX11_run_97 rfl (lv_at hl 2 rfl) ?_
        exact jireti (jr2 hf) E hM dX11_run_98
      · have hf := jf c4 hf
        refine lv_bipush (v := (-5 : Int32)) hx hb dX11_run_89 (by decide) ?_
        exact jireti (jr2 hf) E hM dX11_run_91
    · have hf := jf c3 hf
      refine lv_aload_n hx hb dX11_run_55 rfl (lv_at hl 0 rfl) ?_
      refine gt_78 E hM hq2 lk_2_146 dX11_run_56 ?_
      obtain ⟨r7, hr8, hf⟩ := jb hf
      rw [hr8]
      show W p l e _ s m args below meth c H locs 0 0 _ (F0 m _ ls (.ref (g.2.2 + r7) :: _))
      refine lv_iload_n hx hb dX11_run_59 rfl (lv_at hl 3 rfl) ?_
      obtain ⟨ha9, hf⟩ := jif hf
      refine jaald (k := 16) (t0 := 5) E hM ha9 (by decide) (by decide) rfl dX11_run_60 ?_
      obtain ⟨r10, hr11, hf⟩ := jb hf
      rw [hr11]
      show W p l e _ s m args below meth c H locs 0 0 _ (F0 m _ ls (.ref (g.2.2 + r10) :: _))
      obtain ⟨hq12, hf⟩ := jif hf
      refine gt_2 E hM hq12 lk_2_118 dX11_run_61 ?_
      refine lv_iload_n hx hb dX11_run_64 rfl (lv_at hl 1 rfl) ?_
      refine lv_icmp_gt (tgt := 71) hx hb dX11_run_65 (by decide) (fun c13 => ?_) (fun c13 => ?_)
      · have hf := jt c13 hf
        exact B_X11_run_71 E ih hf hM (lv_sub hl [0, 1, 2, 3] rfl)
      · have hf := jf c13 hf
        obtain ⟨x14, ex14⟩ : ∃ z, z = v2 + (1 : Int32) := ⟨_, rfl⟩
        have hf := jlet_y ex14 hf
        refine lv_iinc (v := x14) (lv' := [(2, .int x14), (0, .ref (g.2.2 + v0)), (1, .int v1), (3, .int v3)]) hx hb dX11_run_68 hl (k := 2) rfl (by rw [ex14]; rfl) (by decide) rfl (fun ls hl => ?_)
        exact B_X11_run_71 E ih hf hM (lv_sub hl [1, 2, 0, 3] rfl)
set_option maxRecDepth 100000 in
set_option maxHeartbeats 4000000 in
theorem B_X11_run_0 {p : Program} {l : Launch} {e : Env} {s : State} {m : MethodId} {args : Array Value} {below : List Frame} {meth : Method} {c : Code} {g : jG} {rr : Int32} {SS : jM} {v0 : Nat} {v1 : Int32} {S : jM} (E : jEnv p s m args meth c cX11_run "PensionHouse" (some .int) 4 g)  {H : Heap} {locs : List Loc} {ls : Array Slot} (hf : f_X11_run v0 v1 S = some (rr, SS)) (hM : jAt g S s H locs) (hl : lv_has ls 4 [(0, .ref (g.2.2 + v0)), (1, .int v1)]) : W p l e (jRm 2 0 0) s m args below meth c H locs 0 0 (MQ below (jQi g rr SS) args s 0 0 (jA0 g)) (F0 m 0 ls []) := by
  obtain ⟨hx, hb, hml, -, hts, hown, hK, -, hstr⟩ := id E
  unfold f_X11_run at hf
  refine lv_iload_n hx hb dX11_run_0 rfl (lv_at hl 1 rfl) ?_
  refine jbackI hM (jrunS E hM ci_X11_isMonth (C_X11_isMonth rfl) lk_5_153 hl.1 rfl rfl (Nat.le_of_ble_eq_true rfl) ⟨Nat.le_of_ble_eq_true rfl, Nat.le_of_ble_eq_true rfl⟩ ⟨Nat.le_refl _, Nat.le_refl _⟩ dX11_run_1) (fun H locs hM => ?_)
  refine lv_if_ne (tgt := 10) hx hb dX11_run_4 (by decide) (fun c15 => ?_) (fun c15 => ?_)
  · have hf := jf c15 hf
    refine lv_aload_n hx hb dX11_run_10 rfl (lv_at hl 0 rfl) ?_
    obtain ⟨hq16, hf⟩ := jif hf
    refine gt_87 E hM hq16 lk_2_155 dX11_run_11 ?_
    refine lv_aload_n hx hb dX11_run_14 rfl (lv_at hl 0 rfl) ?_
    refine gt_86 E hM hq16 lk_2_154 dX11_run_15 ?_
    refine lv_icmp_lt (tgt := 40) hx hb dX11_run_18 (by decide) (fun c17 => ?_) (fun c17 => ?_)
    · have hf := jt c17 hf
      refine lv_bipush (v := (-4 : Int32)) hx hb dX11_run_40 (by decide) ?_
      exact jireti (jr2 hf) E hM dX11_run_42
    · have hf := jf c17 hf
      refine lv_iload_n hx hb dX11_run_21 rfl (lv_at hl 1 rfl) ?_
      refine lv_aload_n hx hb dX11_run_22 rfl (lv_at hl 0 rfl) ?_
      refine gt_84 E hM hq16 lk_2_152 dX11_run_23 ?_
      refine lv_icmp_le (tgt := 40) hx hb dX11_run_26 (by decide) (fun c18 => ?_) (fun c18 => ?_)
      · have hf := jt c18 hf
        refine lv_bipush (v := (-4 : Int32)) hx hb dX11_run_40 (by decide) ?_
        exact jireti (jr2 hf) E hM dX11_run_42
      · have hf := jf c18 hf
        refine lv_iload_n hx hb dX11_run_29 rfl (lv_at hl 1 rfl) ?_
        refine lv_bipush (v := (30 : Int32)) hx hb dX11_run_30 (by decide) ?_
        refine lv_imul hx hb dX11_run_32 ?_
        refine lv_aload_n hx hb dX11_run_33 rfl (lv_at hl 0 rfl) ?_
        refine gt_82 E hM hq16 lk_2_150 dX11_run_34 ?_
        refine lv_icmp_le (tgt := 43) hx hb dX11_run_37 (by decide) (fun c19 => ?_) (fun c19 => ?_)
        · have hf := jt c19 hf
          refine lv_iconst (v := (0 : Int32)) hx hb dX11_run_43 (by decide) ?_
          refine lv_istore_n (lv' := [(2, .int (0 : Int32)), (0, .ref (g.2.2 + v0)), (1, .int v1)]) hx hb dX11_run_44 rfl hl (by decide) rfl (fun ls hl => ?_)
          refine lv_iconst (v := (0 : Int32)) hx hb dX11_run_45 (by decide) ?_
          refine lv_istore_n (lv' := [(3, .int (0 : Int32)), (2, .int (0 : Int32)), (0, .ref (g.2.2 + v0)), (1, .int v1)]) hx hb dX11_run_46 rfl hl (by decide) rfl (fun ls hl => ?_)
          exact B_X11_run_47 E  1100000 v0 v1 (0 : Int32) (0 : Int32) S _ _ _ hf hM (lv_sub hl [2, 3, 1, 0] rfl)
        · have hf := jf c19 hf
          refine lv_bipush (v := (-4 : Int32)) hx hb dX11_run_40 (by decide) ?_
          exact jireti (jr2 hf) E hM dX11_run_42
  · have hf := jt c15 hf
    refine lv_bipush (v := (-3 : Int32)) hx hb dX11_run_7 (by decide) ?_
    exact jireti (jr2 hf) E hM dX11_run_9
set_option maxRecDepth 100000 in
theorem C_X11_run {l : Launch} {g : jG} {a0 : Nat} {a1 : Int32} {S : jM} {rr : Int32} {SS : jM} (hf : f_X11_run a0 a1 S = some (rr, SS)) : jMet l g yX11_run cX11_run 4 (some .int) 2 0 0 [.ref (g.2.2 + a0), .int a1] S (jQi g rr SS) := by
  refine jof (by decide +kernel) (Nat.le_of_ble_eq_true rfl) ?_
  intro p e s m below meth c E hM ls hl
  have hl : lv_has ls 4 [(0, .ref (g.2.2 + a0)),(1, .int a1)] := hl
  exact B_X11_run_0 E hf hM hl
-- PensionHouse.seat(II)I  mode M
noncomputable def f_X11_seat_20 (v0 : Nat) (v1 : Int32) (v2 : Int32) (S : jM) : Option (Int32 × jM) := if jK v0 = 9 then (jR S 70 v0).bind (fun r2 => if jK r2 = 7 then (f_X9_isKin r2 S).bind (fun x4 => if x4 = 0 then some ((-4 : Int32), S) else (jR S 70 v0).bind (fun r8 => if jK r8 = 7 then (f_X9_hasItem r8 (v1.toInt64) S).bind (fun x10 => if x10 = 0 then some ((-3 : Int32), S) else (jR S 69 v0).bind (fun r14 => (jR S 70 v0).bind (fun r16 => if jK r16 = 7 then if jK r14 = 4 then (f_X6_belongs r14 (jI S 52 r16) (v2.toInt64) S).bind (fun x19 => if x19 = 0 then some ((-4 : Int32), S) else (jR S 70 v0).bind (fun r23 => if jK r23 = 7 then (f_X9_setBits r23 v1 (v2.toInt64) S).bind (fun S25 => some ((1 : Int32), S25)) else none)) else none else none))) else none)) else none) else none
noncomputable def f_X11_seat (v0 : Nat) (v1 : Int32) (v2 : Int32) (S : jM) : Option (Int32 × jM) := if v2 = (-1 : Int32) then f_X11_seat_20 v0 v1 v2 S else if jK v0 = 9 then (jR S 69 v0).bind (fun r30 => if jK r30 = 4 then (f_X6_hasPerson r30 (v2.toInt64) S).bind (fun x32 => if x32 = 0 then some ((-2 : Int32), S) else f_X11_seat_20 v0 v1 v2 S) else none) else none
set_option maxRecDepth 100000 in
set_option maxHeartbeats 4000000 in
theorem B_X11_seat_20 {p : Program} {l : Launch} {e : Env} {s : State} {m : MethodId} {args : Array Value} {below : List Frame} {meth : Method} {c : Code} {g : jG} {rr : Int32} {SS : jM} {v0 : Nat} {v1 : Int32} {v2 : Int32} {S : jM} (E : jEnv p s m args meth c cX11_seat "PensionHouse" (some .int) 3 g)  {H : Heap} {locs : List Loc} {ls : Array Slot} (hf : f_X11_seat_20 v0 v1 v2 S = some (rr, SS)) (hM : jAt g S s H locs) (hl : lv_has ls 3 [(0, .ref (g.2.2 + v0)), (1, .int v1), (2, .int v2)]) : W p l e (jRm 3 0 0) s m args below meth c H locs 0 0 (MQ below (jQi g rr SS) args s 0 0 (jA0 g)) (F0 m 20 ls []) := by
  obtain ⟨hx, hb, hml, -, hts, hown, hK, -, hstr⟩ := id E
  unfold f_X11_seat_20 at hf
  refine lv_aload_n hx hb dX11_seat_20 rfl (lv_at hl 0 rfl) ?_
  obtain ⟨hq1, hf⟩ := jif hf
  refine gt_70 E hM hq1 lk_2_138 dX11_seat_21 ?_
  obtain ⟨r2, hr3, hf⟩ := jb hf
  rw [hr3]
  show W p l e _ s m args below meth c H locs 0 0 _ (F0 m _ ls (.ref (g.2.2 + r2) :: _))
  obtain ⟨hq6, hf⟩ := jif hf
  obtain ⟨x4, hc5, hf⟩ := jb hf
  refine jbackI hM (jrunV E hM ci_X9_isKin (C_X9_isKin hc5) lk_3_34 hq6 (by decide) rfl hl.1 rfl rfl (Nat.le_of_ble_eq_true rfl) ⟨Nat.le_of_ble_eq_true rfl, Nat.le_of_ble_eq_true rfl⟩ ⟨Nat.le_refl _, Nat.le_refl _⟩ dX11_seat_24) (fun H locs hM => ?_)
  refine lv_if_ne (tgt := 33) hx hb dX11_seat_27 (by decide) (fun c7 => ?_) (fun c7 => ?_)
  · have hf := jf c7 hf
    refine lv_aload_n hx hb dX11_seat_33 rfl (lv_at hl 0 rfl) ?_
    refine gt_70 E hM hq1 lk_2_138 dX11_seat_34 ?_
    obtain ⟨r8, hr9, hf⟩ := jb hf
    rw [hr9]
    show W p l e _ s m args below meth c H locs 0 0 _ (F0 m _ ls (.ref (g.2.2 + r8) :: _))
    refine lv_iload_n hx hb dX11_seat_37 rfl (lv_at hl 1 rfl) ?_
    refine lv_i2l hx hb dX11_seat_38 rfl ?_
    obtain ⟨hq12, hf⟩ := jif hf
    obtain ⟨x10, hc11, hf⟩ := jb hf
    refine jbackI hM (jrunV E hM ci_X9_hasItem (C_X9_hasItem hc11) lk_3_11 hq12 (by decide) rfl hl.1 rfl rfl (Nat.le_of_ble_eq_true rfl) ⟨Nat.le_of_ble_eq_true rfl, Nat.le_of_ble_eq_true rfl⟩ ⟨Nat.le_refl _, Nat.le_refl _⟩ dX11_seat_39) (fun H locs hM => ?_)
    refine lv_if_ne (tgt := 48) hx hb dX11_seat_42 (by decide) (fun c13 => ?_) (fun c13 => ?_)
    · have hf := jf c13 hf
      refine lv_aload_n hx hb dX11_seat_48 rfl (lv_at hl 0 rfl) ?_
      refine gt_69 E hM hq1 lk_2_137 dX11_seat_49 ?_
      obtain ⟨r14, hr15, hf⟩ := jb hf
      rw [hr15]
      show W p l e _ s m args below meth c H locs 0 0 _ (F0 m _ ls (.ref (g.2.2 + r14) :: _))
      refine lv_aload_n hx hb dX11_seat_52 rfl (lv_at hl 0 rfl) ?_
      refine gt_70 E hM hq1 lk_2_138 dX11_seat_53 ?_
      obtain ⟨r16, hr17, hf⟩ := jb hf
      rw [hr17]
      show W p l e _ s m args below meth c H locs 0 0 _ (F0 m _ ls (.ref (g.2.2 + r16) :: _))
      obtain ⟨hq18, hf⟩ := jif hf
      refine gt_52 E hM hq18 lk_1_52 dX11_seat_56 ?_
      refine lv_iload_n hx hb dX11_seat_59 rfl (lv_at hl 2 rfl) ?_
      refine lv_i2l hx hb dX11_seat_60 rfl ?_
      obtain ⟨hq21, hf⟩ := jif hf
      obtain ⟨x19, hc20, hf⟩ := jb hf
      refine jbackI hM (jrunV E hM ci_X6_belongs (C_X6_belongs hc20) lk_3_38 hq21 (by decide) rfl hl.1 rfl rfl (Nat.le_of_ble_eq_true rfl) ⟨Nat.le_of_ble_eq_true rfl, Nat.le_of_ble_eq_true rfl⟩ ⟨Nat.le_refl _, Nat.le_refl _⟩ dX11_seat_61) (fun H locs hM => ?_)
      refine lv_if_ne (tgt := 70) hx hb dX11_seat_64 (by decide) (fun c22 => ?_) (fun c22 => ?_)
      · have hf := jf c22 hf
        refine lv_aload_n hx hb dX11_seat_70 rfl (lv_at hl 0 rfl) ?_
        refine gt_70 E hM hq1 lk_2_138 dX11_seat_71 ?_
        obtain ⟨r23, hr24, hf⟩ := jb hf
        rw [hr24]
        show W p l e _ s m args below meth c H locs 0 0 _ (F0 m _ ls (.ref (g.2.2 + r23) :: _))
        refine lv_iload_n hx hb dX11_seat_74 rfl (lv_at hl 1 rfl) ?_
        refine lv_iload_n hx hb dX11_seat_75 rfl (lv_at hl 2 rfl) ?_
        refine lv_i2l hx hb dX11_seat_76 rfl ?_
        obtain ⟨hq27, hf⟩ := jif hf
        obtain ⟨S25, hc26, hf⟩ := jb hf
        refine jbackV hM (jrunV E hM ci_X9_setBits (C_X9_setBits hc26) lk_3_16 hq27 (by decide) rfl hl.1 rfl rfl (Nat.le_of_ble_eq_true rfl) ⟨Nat.le_of_ble_eq_true rfl, Nat.le_of_ble_eq_true rfl⟩ ⟨Nat.le_refl _, Nat.le_refl _⟩ dX11_seat_77) (fun H locs hM => ?_)
        refine lv_iconst (v := (1 : Int32)) hx hb dX11_seat_80 (by decide) ?_
        exact jireti (jr2 hf) E hM dX11_seat_81
      · have hf := jt c22 hf
        refine lv_bipush (v := (-4 : Int32)) hx hb dX11_seat_67 (by decide) ?_
        exact jireti (jr2 hf) E hM dX11_seat_69
    · have hf := jt c13 hf
      refine lv_bipush (v := (-3 : Int32)) hx hb dX11_seat_45 (by decide) ?_
      exact jireti (jr2 hf) E hM dX11_seat_47
  · have hf := jt c7 hf
    refine lv_bipush (v := (-4 : Int32)) hx hb dX11_seat_30 (by decide) ?_
    exact jireti (jr2 hf) E hM dX11_seat_32
set_option maxRecDepth 100000 in
set_option maxHeartbeats 4000000 in
theorem B_X11_seat_0 {p : Program} {l : Launch} {e : Env} {s : State} {m : MethodId} {args : Array Value} {below : List Frame} {meth : Method} {c : Code} {g : jG} {rr : Int32} {SS : jM} {v0 : Nat} {v1 : Int32} {v2 : Int32} {S : jM} (E : jEnv p s m args meth c cX11_seat "PensionHouse" (some .int) 3 g)  {H : Heap} {locs : List Loc} {ls : Array Slot} (hf : f_X11_seat v0 v1 v2 S = some (rr, SS)) (hM : jAt g S s H locs) (hl : lv_has ls 3 [(0, .ref (g.2.2 + v0)), (1, .int v1), (2, .int v2)]) : W p l e (jRm 3 0 0) s m args below meth c H locs 0 0 (MQ below (jQi g rr SS) args s 0 0 (jA0 g)) (F0 m 0 ls []) := by
  obtain ⟨hx, hb, hml, -, hts, hown, hK, -, hstr⟩ := id E
  unfold f_X11_seat at hf
  refine lv_iload_n hx hb dX11_seat_0 rfl (lv_at hl 2 rfl) ?_
  refine lv_iconst (v := (-1 : Int32)) hx hb dX11_seat_1 (by decide) ?_
  refine lv_icmp_eq (tgt := 20) hx hb dX11_seat_2 (by decide) (fun c28 => ?_) (fun c28 => ?_)
  · have hf := jt c28 hf
    exact B_X11_seat_20 E  hf hM (lv_sub hl [0, 1, 2] rfl)
  · have hf := jf c28 hf
    refine lv_aload_n hx hb dX11_seat_5 rfl (lv_at hl 0 rfl) ?_
    obtain ⟨hq29, hf⟩ := jif hf
    refine gt_69 E hM hq29 lk_2_137 dX11_seat_6 ?_
    obtain ⟨r30, hr31, hf⟩ := jb hf
    rw [hr31]
    show W p l e _ s m args below meth c H locs 0 0 _ (F0 m _ ls (.ref (g.2.2 + r30) :: _))
    refine lv_iload_n hx hb dX11_seat_9 rfl (lv_at hl 2 rfl) ?_
    refine lv_i2l hx hb dX11_seat_10 rfl ?_
    obtain ⟨hq34, hf⟩ := jif hf
    obtain ⟨x32, hc33, hf⟩ := jb hf
    refine jbackI hM (jrunV E hM ci_X6_hasPerson (C_X6_hasPerson hc33) lk_3_30 hq34 (by decide) rfl hl.1 rfl rfl (Nat.le_of_ble_eq_true rfl) ⟨Nat.le_of_ble_eq_true rfl, Nat.le_of_ble_eq_true rfl⟩ ⟨Nat.le_refl _, Nat.le_refl _⟩ dX11_seat_11) (fun H locs hM => ?_)
    refine lv_if_ne (tgt := 20) hx hb dX11_seat_14 (by decide) (fun c35 => ?_) (fun c35 => ?_)
    · have hf := jf c35 hf
      exact B_X11_seat_20 E  hf hM (lv_sub hl [0, 1, 2] rfl)
    · have hf := jt c35 hf
      refine lv_bipush (v := (-2 : Int32)) hx hb dX11_seat_17 (by decide) ?_
      exact jireti (jr2 hf) E hM dX11_seat_19
set_option maxRecDepth 100000 in
theorem C_X11_seat {l : Launch} {g : jG} {a0 : Nat} {a1 : Int32} {a2 : Int32} {S : jM} {rr : Int32} {SS : jM} (hf : f_X11_seat a0 a1 a2 S = some (rr, SS)) : jMet l g yX11_seat cX11_seat 3 (some .int) 3 0 0 [.ref (g.2.2 + a0), .int a1, .int a2] S (jQi g rr SS) := by
  refine jof (by decide +kernel) (Nat.le_of_ble_eq_true rfl) ?_
  intro p e s m below meth c E hM ls hl
  have hl : lv_has ls 3 [(0, .ref (g.2.2 + a0)),(1, .int a1),(2, .int a2)] := hl
  exact B_X11_seat_0 E hf hM hl
-- PensionHouse.share(I)I  mode M
noncomputable def f_X11_share (v0 : Nat) (v1 : Int32) (S : jM) : Option (Int32 × jM) := if v1 < 0 then some ((-3 : Int32), S) else if v1 ≤ (100 : Int32) then if jK v0 = 9 then jlet (jI S 83 v0) (fun x4 => jlet (jsI S 83 v0 v1) (fun S5 => some (x4, S5))) else none else some ((-3 : Int32), S)
set_option maxRecDepth 100000 in
set_option maxHeartbeats 4000000 in
theorem B_X11_share_0 {p : Program} {l : Launch} {e : Env} {s : State} {m : MethodId} {args : Array Value} {below : List Frame} {meth : Method} {c : Code} {g : jG} {rr : Int32} {SS : jM} {v0 : Nat} {v1 : Int32} {S : jM} (E : jEnv p s m args meth c cX11_share "PensionHouse" (some .int) 3 g)  {H : Heap} {locs : List Loc} {ls : Array Slot} (hf : f_X11_share v0 v1 S = some (rr, SS)) (hM : jAt g S s H locs) (hl : lv_has ls 3 [(0, .ref (g.2.2 + v0)), (1, .int v1)]) : W p l e (jRm 1 0 0) s m args below meth c H locs 0 0 (MQ below (jQi g rr SS) args s 0 0 (jA0 g)) (F0 m 0 ls []) := by
  obtain ⟨hx, hb, hml, -, hts, hown, hK, -, hstr⟩ := id E
  unfold f_X11_share at hf
  refine lv_iload_n hx hb dX11_share_0 rfl (lv_at hl 1 rfl) ?_
  refine lv_if_lt (tgt := 10) hx hb dX11_share_1 (by decide) (fun c1 => ?_) (fun c1 => ?_)
  · have hf := jt c1 hf
    refine lv_bipush (v := (-3 : Int32)) hx hb dX11_share_10 (by decide) ?_
    exact jireti (jr2 hf) E hM dX11_share_12
  · have hf := jf c1 hf
    refine lv_iload_n hx hb dX11_share_4 rfl (lv_at hl 1 rfl) ?_
    refine lv_bipush (v := (100 : Int32)) hx hb dX11_share_5 (by decide) ?_
    refine lv_icmp_le (tgt := 13) hx hb dX11_share_7 (by decide) (fun c2 => ?_) (fun c2 => ?_)
    · have hf := jt c2 hf
      refine lv_aload_n hx hb dX11_share_13 rfl (lv_at hl 0 rfl) ?_
      obtain ⟨hq3, hf⟩ := jif hf
      refine gt_83 E hM hq3 lk_2_151 dX11_share_14 ?_
      refine lv_topi (fun x4 ex4 => ?_)
      have hf := jlet_y ex4 hf
      refine lv_istore_n (lv' := [(2, .int x4), (0, .ref (g.2.2 + v0)), (1, .int v1)]) hx hb dX11_share_17 rfl hl (by decide) rfl (fun ls hl => ?_)
      refine lv_aload_n hx hb dX11_share_18 rfl (lv_at hl 1 rfl) ?_
      refine lv_iload_n hx hb dX11_share_19 rfl (lv_at hl 2 rfl) ?_
      refine pt_83 E hM hq3 lk_2_151 dX11_share_20 (fun H locs S5 eS5 hM => ?_)
      have hf := jlet_y eS5 hf
      refine lv_iload_n hx hb dX11_share_23 rfl (lv_at hl 0 rfl) ?_
      exact jireti (jr2 hf) E hM dX11_share_24
    · have hf := jf c2 hf
      refine lv_bipush (v := (-3 : Int32)) hx hb dX11_share_10 (by decide) ?_
      exact jireti (jr2 hf) E hM dX11_share_12
set_option maxRecDepth 100000 in
theorem C_X11_share {l : Launch} {g : jG} {a0 : Nat} {a1 : Int32} {S : jM} {rr : Int32} {SS : jM} (hf : f_X11_share a0 a1 S = some (rr, SS)) : jMet l g yX11_share cX11_share 3 (some .int) 1 0 0 [.ref (g.2.2 + a0), .int a1] S (jQi g rr SS) := by
  refine jof (by decide +kernel) (Nat.le_of_ble_eq_true rfl) ?_
  intro p e s m below meth c E hM ls hl
  have hl : lv_has ls 3 [(0, .ref (g.2.2 + a0)),(1, .int a1)] := hl
  exact B_X11_share_0 E hf hM hl
-- PensionHouse.sort()I  mode R
noncomputable def f_X11_sort (v0 : Nat) (S : jM) : Option Int32 := if jK v0 = 9 then (jR S 70 v0).bind (fun r2 => if jK r2 = 7 then some (jI S 52 r2) else none) else none
set_option maxRecDepth 100000 in
set_option maxHeartbeats 4000000 in
theorem B_X11_sort_0 {p : Program} {l : Launch} {e : Env} {s : State} {m : MethodId} {args : Array Value} {below : List Frame} {meth : Method} {c : Code} {g : jG} {rr : Int32} {S : jM} {v0 : Nat} (E : jEnv p s m args meth c cX11_sort "PensionHouse" (some .int) 1 g)  {H : Heap} {locs : List Loc} {ls : Array Slot} (hf : f_X11_sort v0 S = some rr) (hM : jAt g S s H locs) (hl : lv_has ls 1 [(0, .ref (g.2.2 + v0))]) : W p l e (jRm 1 0 0) s m args below meth c H locs 0 0 (MQ below (jQi g rr S) args s 0 0 (jA0 g)) (F0 m 0 ls []) := by
  obtain ⟨hx, hb, hml, -, hts, hown, hK, -, hstr⟩ := id E
  unfold f_X11_sort at hf
  refine lv_aload_n hx hb dX11_sort_0 rfl (lv_at hl 0 rfl) ?_
  obtain ⟨hq1, hf⟩ := jif hf
  refine gt_70 E hM hq1 lk_2_138 dX11_sort_1 ?_
  obtain ⟨r2, hr3, hf⟩ := jb hf
  rw [hr3]
  show W p l e _ s m args below meth c H locs 0 0 _ (F0 m _ ls (.ref (g.2.2 + r2) :: _))
  obtain ⟨hq4, hf⟩ := jif hf
  refine gt_52 E hM hq4 lk_1_52 dX11_sort_4 ?_
  exact jireti (jr1 hf) E hM dX11_sort_7
set_option maxRecDepth 100000 in
theorem C_X11_sort {l : Launch} {g : jG} {a0 : Nat} {S : jM} {rr : Int32} (hf : f_X11_sort a0 S = some rr) : jMet l g yX11_sort cX11_sort 1 (some .int) 1 0 0 [.ref (g.2.2 + a0)] S (jQi g rr S) := by
  refine jof (by decide +kernel) (Nat.le_of_ble_eq_true rfl) ?_
  intro p e s m below meth c E hM ls hl
  have hl : lv_has ls 1 [(0, .ref (g.2.2 + a0))] := hl
  exact B_X11_sort_0 E hf hM hl
-- PensionHouse.step(I)I  mode M
noncomputable def f_X11_step_58 (v2 : Int32) (v3 : Int32) (S : jM) : Option (Int32 × jM) := some (((100 : Int32) * v2) + v3, S)
noncomputable def f_X11_step (v0 : Nat) (v1 : Int32) (S : jM) : Option (Int32 × jM) := if v1 < 0 then some ((-2 : Int32), S) else if jK v0 = 9 then (jR S 75 v0).bind (fun r3 => if jK r3 = 1 then if v1 < (jI S 16 r3) then (jR S 75 v0).bind (fun r7 => if jK r7 = 1 then (jR S 15 r7).bind (fun r10 => if jA r10 13 v1 = true then jlet (jAI S r10 (v1).toNatClampNeg) (fun x13 => (jR S 75 v0).bind (fun r14 => if jK r14 = 1 then (jR S 12 r14).bind (fun r17 => if jA r17 13 x13 = true then jlet (jAI S r17 (x13).toNatClampNeg) (fun x20 => if x20 = 0 then (jR S 70 v0).bind (fun r22 => (jR S 75 v0).bind (fun r24 => if jK r24 = 1 then (jR S 14 r24).bind (fun r27 => if jA r27 19 x13 = true then (jAR S r27 (x13).toNatClampNeg).bind (fun r30 => if jK r22 = 7 then (f_X9_setTo r22 r30 S).bind (fun S32 => f_X11_step_58 x13 x20 S32) else none) else none) else none)) else f_X11_step_58 x13 x20 S) else none) else none)) else none) else none) else some ((-2 : Int32), S) else none) else none
set_option maxRecDepth 100000 in
set_option maxHeartbeats 4000000 in
theorem B_X11_step_58 {p : Program} {l : Launch} {e : Env} {s : State} {m : MethodId} {args : Array Value} {below : List Frame} {meth : Method} {c : Code} {g : jG} {rr : Int32} {SS : jM} {v2 : Int32} {v3 : Int32} {S : jM} (E : jEnv p s m args meth c cX11_step "PensionHouse" (some .int) 4 g)  {H : Heap} {locs : List Loc} {ls : Array Slot} (hf : f_X11_step_58 v2 v3 S = some (rr, SS)) (hM : jAt g S s H locs) (hl : lv_has ls 4 [(2, .int v2), (3, .int v3)]) : W p l e (jRm 3 0 0) s m args below meth c H locs 0 0 (MQ below (jQi g rr SS) args s 0 0 (jA0 g)) (F0 m 58 ls []) := by
  obtain ⟨hx, hb, hml, -, hts, hown, hK, -, hstr⟩ := id E
  unfold f_X11_step_58 at hf
  refine lv_bipush (v := (100 : Int32)) hx hb dX11_step_58 (by decide) ?_
  refine lv_iload_n hx hb dX11_step_60 rfl (lv_at hl 0 rfl) ?_
  refine lv_imul hx hb dX11_step_61 ?_
  refine lv_iload_n hx hb dX11_step_62 rfl (lv_at hl 1 rfl) ?_
  refine lv_iadd hx hb dX11_step_63 ?_
  exact jireti (jr2 hf) E hM dX11_step_64
set_option maxRecDepth 100000 in
set_option maxHeartbeats 4000000 in
theorem B_X11_step_0 {p : Program} {l : Launch} {e : Env} {s : State} {m : MethodId} {args : Array Value} {below : List Frame} {meth : Method} {c : Code} {g : jG} {rr : Int32} {SS : jM} {v0 : Nat} {v1 : Int32} {S : jM} (E : jEnv p s m args meth c cX11_step "PensionHouse" (some .int) 4 g)  {H : Heap} {locs : List Loc} {ls : Array Slot} (hf : f_X11_step v0 v1 S = some (rr, SS)) (hM : jAt g S s H locs) (hl : lv_has ls 4 [(0, .ref (g.2.2 + v0)), (1, .int v1)]) : W p l e (jRm 3 0 0) s m args below meth c H locs 0 0 (MQ below (jQi g rr SS) args s 0 0 (jA0 g)) (F0 m 0 ls []) := by
  obtain ⟨hx, hb, hml, -, hts, hown, hK, -, hstr⟩ := id E
  unfold f_X11_step at hf
  refine lv_iload_n hx hb dX11_step_0 rfl (lv_at hl 1 rfl) ?_
  refine lv_if_lt (tgt := 15) hx hb dX11_step_1 (by decide) (fun c1 => ?_) (fun c1 => ?_)
  · have hf := jt c1 hf
    refine lv_bipush (v := (-2 : Int32)) hx hb dX11_step_15 (by decide) ?_
    exact jireti (jr2 hf) E hM dX11_step_17
  · have hf := jf c1 hf
    refine lv_iload_n hx hb dX11_step_4 rfl (lv_at hl 1 rfl) ?_
    refine lv_aload_n hx hb dX11_step_5 rfl (lv_at hl 0 rfl) ?_
    obtain ⟨hq2, hf⟩ := jif hf
    refine gt_75 E hM hq2 lk_2_143 dX11_step_6 ?_
    obtain ⟨r3, hr4, hf⟩ := jb hf
    rw [hr4]
    show W p l e _ s m args below meth c H locs 0 0 _ (F0 m _ ls (.ref (g.2.2 + r3) :: _))
    obtain ⟨hq5, hf⟩ := jif hf
    refine gt_16 E hM hq5 lk_2_85 dX11_step_9 ?_
    refine lv_icmp_lt (tgt := 18) hx hb dX11_step_12 (by decide) (fun c6 => ?_) (fun c6 => ?_)
    · have hf := jt c6 hf
      refine lv_aload_n hx hb dX11_step_18 rfl (lv_at hl 0 rfl) ?_
      refine gt_75 E hM hq2 lk_2_143 dX11_step_19 ?_
      obtain ⟨r7, hr8, hf⟩ := jb hf
      rw [hr8]
      show W p l e _ s m args below meth c H locs 0 0 _ (F0 m _ ls (.ref (g.2.2 + r7) :: _))
      obtain ⟨hq9, hf⟩ := jif hf
      refine gt_15 E hM hq9 lk_2_83 dX11_step_22 ?_
      obtain ⟨r10, hr11, hf⟩ := jb hf
      rw [hr11]
      show W p l e _ s m args below meth c H locs 0 0 _ (F0 m _ ls (.ref (g.2.2 + r10) :: _))
      refine lv_iload_n hx hb dX11_step_25 rfl (lv_at hl 1 rfl) ?_
      obtain ⟨ha12, hf⟩ := jif hf
      refine jiald E hM ha12 dX11_step_26 ?_
      refine lv_topi (fun x13 ex13 => ?_)
      have hf := jlet_y ex13 hf
      refine lv_istore_n (lv' := [(2, .int x13), (0, .ref (g.2.2 + v0)), (1, .int v1)]) hx hb dX11_step_27 rfl hl (by decide) rfl (fun ls hl => ?_)
      refine lv_aload_n hx hb dX11_step_28 rfl (lv_at hl 1 rfl) ?_
      refine gt_75 E hM hq2 lk_2_143 dX11_step_29 ?_
      obtain ⟨r14, hr15, hf⟩ := jb hf
      rw [hr15]
      show W p l e _ s m args below meth c H locs 0 0 _ (F0 m _ ls (.ref (g.2.2 + r14) :: _))
      obtain ⟨hq16, hf⟩ := jif hf
      refine gt_12 E hM hq16 lk_2_76 dX11_step_32 ?_
      obtain ⟨r17, hr18, hf⟩ := jb hf
      rw [hr18]
      show W p l e _ s m args below meth c H locs 0 0 _ (F0 m _ ls (.ref (g.2.2 + r17) :: _))
      refine lv_iload_n hx hb dX11_step_35 rfl (lv_at hl 0 rfl) ?_
      obtain ⟨ha19, hf⟩ := jif hf
      refine jiald E hM ha19 dX11_step_36 ?_
      refine lv_topi (fun x20 ex20 => ?_)
      have hf := jlet_y ex20 hf
      refine lv_istore_n (lv' := [(3, .int x20), (2, .int x13), (0, .ref (g.2.2 + v0)), (1, .int v1)]) hx hb dX11_step_37 rfl hl (by decide) rfl (fun ls hl => ?_)
      refine lv_iload_n hx hb dX11_step_38 rfl (lv_at hl 0 rfl) ?_
      refine lv_if_ne (tgt := 58) hx hb dX11_step_39 (by decide) (fun c21 => ?_) (fun c21 => ?_)
      · have hf := jf c21 hf
        exact B_X11_step_58 E  hf hM (lv_sub hl [1, 0] rfl)
      · have hf := jt c21 hf
        refine lv_aload_n hx hb dX11_step_42 rfl (lv_at hl 2 rfl) ?_
        refine gt_70 E hM hq2 lk_2_138 dX11_step_43 ?_
        obtain ⟨r22, hr23, hf⟩ := jb hf
        rw [hr23]
        show W p l e _ s m args below meth c H locs 0 0 _ (F0 m _ ls (.ref (g.2.2 + r22) :: _))
        refine lv_aload_n hx hb dX11_step_46 rfl (lv_at hl 2 rfl) ?_
        refine gt_75 E hM hq2 lk_2_143 dX11_step_47 ?_
        obtain ⟨r24, hr25, hf⟩ := jb hf
        rw [hr25]
        show W p l e _ s m args below meth c H locs 0 0 _ (F0 m _ ls (.ref (g.2.2 + r24) :: _))
        obtain ⟨hq26, hf⟩ := jif hf
        refine gt_14 E hM hq26 lk_2_81 dX11_step_50 ?_
        obtain ⟨r27, hr28, hf⟩ := jb hf
        rw [hr28]
        show W p l e _ s m args below meth c H locs 0 0 _ (F0 m _ ls (.ref (g.2.2 + r27) :: _))
        refine lv_iload_n hx hb dX11_step_53 rfl (lv_at hl 1 rfl) ?_
        obtain ⟨ha29, hf⟩ := jif hf
        refine jaald (k := 19) (t0 := 8) E hM ha29 (by decide) (by decide) rfl dX11_step_54 ?_
        obtain ⟨r30, hr31, hf⟩ := jb hf
        rw [hr31]
        show W p l e _ s m args below meth c H locs 0 0 _ (F0 m _ ls (.ref (g.2.2 + r30) :: _))
        obtain ⟨hq34, hf⟩ := jif hf
        obtain ⟨S32, hc33, hf⟩ := jb hf
        refine jbackV hM (jrunV E hM ci_X9_setTo (C_X9_setTo hc33) lk_3_213 hq34 (by decide) rfl hl.1 rfl rfl (Nat.le_of_ble_eq_true rfl) ⟨Nat.le_of_ble_eq_true rfl, Nat.le_of_ble_eq_true rfl⟩ ⟨Nat.le_refl _, Nat.le_refl _⟩ dX11_step_55) (fun H locs hM => ?_)
        exact B_X11_step_58 E  hf hM (lv_sub hl [1, 0] rfl)
    · have hf := jf c6 hf
      refine lv_bipush (v := (-2 : Int32)) hx hb dX11_step_15 (by decide) ?_
      exact jireti (jr2 hf) E hM dX11_step_17
set_option maxRecDepth 100000 in
theorem C_X11_step {l : Launch} {g : jG} {a0 : Nat} {a1 : Int32} {S : jM} {rr : Int32} {SS : jM} (hf : f_X11_step a0 a1 S = some (rr, SS)) : jMet l g yX11_step cX11_step 4 (some .int) 3 0 0 [.ref (g.2.2 + a0), .int a1] S (jQi g rr SS) := by
  refine jof (by decide +kernel) (Nat.le_of_ble_eq_true rfl) ?_
  intro p e s m below meth c E hM ls hl
  have hl : lv_has ls 4 [(0, .ref (g.2.2 + a0)),(1, .int a1)] := hl
  exact B_X11_step_0 E hf hM hl
-- PensionHouse.taken(II)I  mode R
noncomputable def f_X11_taken (v0 : Nat) (v1 : Int32) (v2 : Int32) (S : jM) : Option Int32 := if v1 < 0 then some (-2 : Int32) else if jK v0 = 9 then if v1 < (jI S 81 v0) then if v2 < 0 then some (-3 : Int32) else if v2 < (6 : Int32) then (jR S 80 v0).bind (fun r6 => if jA r6 20 v1 = true then (jAR S r6 (v1).toNatClampNeg).bind (fun r9 => if jA r9 14 ((8 : Int32) + v2) = true then some ((jAL S r9 ((8 : Int32) + v2).toNatClampNeg).toInt32) else none) else none) else some (-3 : Int32) else some (-2 : Int32) else none
set_option maxRecDepth 100000 in
set_option maxHeartbeats 4000000 in
theorem B_X11_taken_0 {p : Program} {l : Launch} {e : Env} {s : State} {m : MethodId} {args : Array Value} {below : List Frame} {meth : Method} {c : Code} {g : jG} {rr : Int32} {S : jM} {v0 : Nat} {v1 : Int32} {v2 : Int32} (E : jEnv p s m args meth c cX11_taken "PensionHouse" (some .int) 3 g)  {H : Heap} {locs : List Loc} {ls : Array Slot} (hf : f_X11_taken v0 v1 v2 S = some rr) (hM : jAt g S s H locs) (hl : lv_has ls 3 [(0, .ref (g.2.2 + v0)), (1, .int v1), (2, .int v2)]) : W p l e (jRm 1 0 0) s m args below meth c H locs 0 0 (MQ below (jQi g rr S) args s 0 0 (jA0 g)) (F0 m 0 ls []) := by
  obtain ⟨hx, hb, hml, -, hts, hown, hK, -, hstr⟩ := id E
  unfold f_X11_taken at hf
  refine lv_iload_n hx hb dX11_taken_0 rfl (lv_at hl 1 rfl) ?_
  refine lv_if_lt (tgt := 12) hx hb dX11_taken_1 (by decide) (fun c1 => ?_) (fun c1 => ?_)
  · have hf := jt c1 hf
    refine lv_bipush (v := (-2 : Int32)) hx hb dX11_taken_12 (by decide) ?_
    exact jireti (jr1 hf) E hM dX11_taken_14
  · have hf := jf c1 hf
    refine lv_iload_n hx hb dX11_taken_4 rfl (lv_at hl 1 rfl) ?_
    refine lv_aload_n hx hb dX11_taken_5 rfl (lv_at hl 0 rfl) ?_
    obtain ⟨hq2, hf⟩ := jif hf
    refine gt_81 E hM hq2 lk_2_149 dX11_taken_6 ?_
    refine lv_icmp_lt (tgt := 15) hx hb dX11_taken_9 (by decide) (fun c3 => ?_) (fun c3 => ?_)
    · have hf := jt c3 hf
      refine lv_iload_n hx hb dX11_taken_15 rfl (lv_at hl 2 rfl) ?_
      refine lv_if_lt (tgt := 25) hx hb dX11_taken_16 (by decide) (fun c4 => ?_) (fun c4 => ?_)
      · have hf := jt c4 hf
        refine lv_bipush (v := (-3 : Int32)) hx hb dX11_taken_25 (by decide) ?_
        exact jireti (jr1 hf) E hM dX11_taken_27
      · have hf := jf c4 hf
        refine lv_iload_n hx hb dX11_taken_19 rfl (lv_at hl 2 rfl) ?_
        refine lv_bipush (v := (6 : Int32)) hx hb dX11_taken_20 (by decide) ?_
        refine lv_icmp_lt (tgt := 28) hx hb dX11_taken_22 (by decide) (fun c5 => ?_) (fun c5 => ?_)
        · have hf := jt c5 hf
          refine lv_aload_n hx hb dX11_taken_28 rfl (lv_at hl 0 rfl) ?_
          refine gt_80 E hM hq2 lk_2_148 dX11_taken_29 ?_
          obtain ⟨r6, hr7, hf⟩ := jb hf
          rw [hr7]
          show W p l e _ s m args below meth c H locs 0 0 _ (F0 m _ ls (.ref (g.2.2 + r6) :: _))
          refine lv_iload_n hx hb dX11_taken_32 rfl (lv_at hl 1 rfl) ?_
          obtain ⟨ha8, hf⟩ := jif hf
          refine jaaldJ E hM ha8 dX11_taken_33 ?_
          obtain ⟨r9, hr10, hf⟩ := jb hf
          rw [hr10]
          show W p l e _ s m args below meth c H locs 0 0 _ (F0 m _ ls (.ref (g.2.2 + r9) :: _))
          refine lv_bipush (v := (8 : Int32)) hx hb dX11_taken_34 (by decide) ?_
          refine lv_iload_n hx hb dX11_taken_36 rfl (lv_at hl 2 rfl) ?_
          refine lv_iadd hx hb dX11_taken_37 ?_
          obtain ⟨ha11, hf⟩ := jif hf
          refine jlald E hM ha11 dX11_taken_38 ?_
          refine lv_l2i hx hb dX11_taken_39 rfl ?_
          exact jireti (jr1 hf) E hM dX11_taken_40
        · have hf := jf c5 hf
          refine lv_bipush (v := (-3 : Int32)) hx hb dX11_taken_25 (by decide) ?_
          exact jireti (jr1 hf) E hM dX11_taken_27
    · have hf := jf c3 hf
      refine lv_bipush (v := (-2 : Int32)) hx hb dX11_taken_12 (by decide) ?_
      exact jireti (jr1 hf) E hM dX11_taken_14
set_option maxRecDepth 100000 in
theorem C_X11_taken {l : Launch} {g : jG} {a0 : Nat} {a1 : Int32} {a2 : Int32} {S : jM} {rr : Int32} (hf : f_X11_taken a0 a1 a2 S = some rr) : jMet l g yX11_taken cX11_taken 3 (some .int) 1 0 0 [.ref (g.2.2 + a0), .int a1, .int a2] S (jQi g rr S) := by
  refine jof (by decide +kernel) (Nat.le_of_ble_eq_true rfl) ?_
  intro p e s m below meth c E hM ls hl
  have hl : lv_has ls 3 [(0, .ref (g.2.2 + a0)),(1, .int a1),(2, .int a2)] := hl
  exact B_X11_taken_0 E hf hM hl
-- PensionHouse.told(I)I  mode R
noncomputable def f_X11_told (v0 : Nat) (v1 : Int32) (S : jM) : Option Int32 := if v1 = (0 : Int32) then if jK v0 = 9 then (jR S 75 v0).bind (fun r2 => if jK r2 = 1 then some (jI S 8 r2) else none) else none else if v1 = (1 : Int32) then if jK v0 = 9 then (jR S 75 v0).bind (fun r7 => if jK r7 = 1 then some (jI S 9 r7) else none) else none else if v1 = (2 : Int32) then if jK v0 = 9 then (jR S 75 v0).bind (fun r12 => if jK r12 = 1 then some (jI S 16 r12) else none) else none else if v1 = (3 : Int32) then if jK v0 = 9 then (jR S 75 v0).bind (fun r17 => if jK r17 = 1 then some (jI S 10 r17) else none) else none else if v1 = (4 : Int32) then if jK v0 = 9 then (jR S 75 v0).bind (fun r22 => if jK r22 = 1 then some (jI S 11 r22) else none) else none else some (-3 : Int32)
set_option maxRecDepth 100000 in
set_option maxHeartbeats 4000000 in
theorem B_X11_told_0 {p : Program} {l : Launch} {e : Env} {s : State} {m : MethodId} {args : Array Value} {below : List Frame} {meth : Method} {c : Code} {g : jG} {rr : Int32} {S : jM} {v0 : Nat} {v1 : Int32} (E : jEnv p s m args meth c cX11_told "PensionHouse" (some .int) 2 g)  {H : Heap} {locs : List Loc} {ls : Array Slot} (hf : f_X11_told v0 v1 S = some rr) (hM : jAt g S s H locs) (hl : lv_has ls 2 [(0, .ref (g.2.2 + v0)), (1, .int v1)]) : W p l e (jRm 1 0 0) s m args below meth c H locs 0 0 (MQ below (jQi g rr S) args s 0 0 (jA0 g)) (F0 m 0 ls []) := by
  obtain ⟨hx, hb, hml, -, hts, hown, hK, -, hstr⟩ := id E
  unfold f_X11_told at hf
  refine lv_iload_n hx hb dX11_told_0 rfl (lv_at hl 1 rfl) ?_
  by_cases c5 : v1 = (0 : Int32)
  · have hf := jt c5 hf
    refine lv_tableIn (off := 35) (tgt := 36) hx hb dX11_told_1 (by rw [c5]; decide) (by rw [c5]; decide) (by rw [c5]; rfl) (by decide) ?_
    refine lv_aload_n hx hb dX11_told_36 rfl (lv_at hl 0 rfl) ?_
    obtain ⟨hq1, hf⟩ := jif hf
    refine gt_75 E hM hq1 lk_2_143 dX11_told_37 ?_
    obtain ⟨r2, hr3, hf⟩ := jb hf
    rw [hr3]
    show W p l e _ s m args below meth c H locs 0 0 _ (F0 m _ ls (.ref (g.2.2 + r2) :: _))
    obtain ⟨hq4, hf⟩ := jif hf
    refine gt_8 E hM hq4 lk_2_64 dX11_told_40 ?_
    exact jireti (jr1 hf) E hM dX11_told_43
  have hf := jf c5 hf
  by_cases c10 : v1 = (1 : Int32)
  · have hf := jt c10 hf
    refine lv_tableIn (off := 43) (tgt := 44) hx hb dX11_told_1 (by rw [c10]; decide) (by rw [c10]; decide) (by rw [c10]; rfl) (by decide) ?_
    refine lv_aload_n hx hb dX11_told_44 rfl (lv_at hl 0 rfl) ?_
    obtain ⟨hq6, hf⟩ := jif hf
    refine gt_75 E hM hq6 lk_2_143 dX11_told_45 ?_
    obtain ⟨r7, hr8, hf⟩ := jb hf
    rw [hr8]
    show W p l e _ s m args below meth c H locs 0 0 _ (F0 m _ ls (.ref (g.2.2 + r7) :: _))
    obtain ⟨hq9, hf⟩ := jif hf
    refine gt_9 E hM hq9 lk_2_67 dX11_told_48 ?_
    exact jireti (jr1 hf) E hM dX11_told_51
  have hf := jf c10 hf
  by_cases c15 : v1 = (2 : Int32)
  · have hf := jt c15 hf
    refine lv_tableIn (off := 51) (tgt := 52) hx hb dX11_told_1 (by rw [c15]; decide) (by rw [c15]; decide) (by rw [c15]; rfl) (by decide) ?_
    refine lv_aload_n hx hb dX11_told_52 rfl (lv_at hl 0 rfl) ?_
    obtain ⟨hq11, hf⟩ := jif hf
    refine gt_75 E hM hq11 lk_2_143 dX11_told_53 ?_
    obtain ⟨r12, hr13, hf⟩ := jb hf
    rw [hr13]
    show W p l e _ s m args below meth c H locs 0 0 _ (F0 m _ ls (.ref (g.2.2 + r12) :: _))
    obtain ⟨hq14, hf⟩ := jif hf
    refine gt_16 E hM hq14 lk_2_85 dX11_told_56 ?_
    exact jireti (jr1 hf) E hM dX11_told_59
  have hf := jf c15 hf
  by_cases c20 : v1 = (3 : Int32)
  · have hf := jt c20 hf
    refine lv_tableIn (off := 59) (tgt := 60) hx hb dX11_told_1 (by rw [c20]; decide) (by rw [c20]; decide) (by rw [c20]; rfl) (by decide) ?_
    refine lv_aload_n hx hb dX11_told_60 rfl (lv_at hl 0 rfl) ?_
    obtain ⟨hq16, hf⟩ := jif hf
    refine gt_75 E hM hq16 lk_2_143 dX11_told_61 ?_
    obtain ⟨r17, hr18, hf⟩ := jb hf
    rw [hr18]
    show W p l e _ s m args below meth c H locs 0 0 _ (F0 m _ ls (.ref (g.2.2 + r17) :: _))
    obtain ⟨hq19, hf⟩ := jif hf
    refine gt_10 E hM hq19 lk_2_70 dX11_told_64 ?_
    exact jireti (jr1 hf) E hM dX11_told_67
  have hf := jf c20 hf
  by_cases c25 : v1 = (4 : Int32)
  · have hf := jt c25 hf
    refine lv_tableIn (off := 67) (tgt := 68) hx hb dX11_told_1 (by rw [c25]; decide) (by rw [c25]; decide) (by rw [c25]; rfl) (by decide) ?_
    refine lv_aload_n hx hb dX11_told_68 rfl (lv_at hl 0 rfl) ?_
    obtain ⟨hq21, hf⟩ := jif hf
    refine gt_75 E hM hq21 lk_2_143 dX11_told_69 ?_
    obtain ⟨r22, hr23, hf⟩ := jb hf
    rw [hr23]
    show W p l e _ s m args below meth c H locs 0 0 _ (F0 m _ ls (.ref (g.2.2 + r22) :: _))
    obtain ⟨hq24, hf⟩ := jif hf
    refine gt_11 E hM hq24 lk_2_73 dX11_told_72 ?_
    exact jireti (jr1 hf) E hM dX11_told_75
  have hf := jf c25 hf
  refine jtabD (tgt := 76) (nd := [0, 1, 2, 3, 4]) hx hb dX11_told_1 (by decide) (by decide) (by decide) (List.forall_mem_cons.mpr ⟨jne (k := 0) c5 rfl, List.forall_mem_cons.mpr ⟨jne (k := 1) c10 rfl, List.forall_mem_cons.mpr ⟨jne (k := 2) c15 rfl, List.forall_mem_cons.mpr ⟨jne (k := 3) c20 rfl, List.forall_mem_cons.mpr ⟨jne (k := 4) c25 rfl, fun _ h => absurd h List.not_mem_nil⟩⟩⟩⟩⟩) ?_
  refine lv_bipush (v := (-3 : Int32)) hx hb dX11_told_76 (by decide) ?_
  exact jireti (jr1 hf) E hM dX11_told_78
set_option maxRecDepth 100000 in
theorem C_X11_told {l : Launch} {g : jG} {a0 : Nat} {a1 : Int32} {S : jM} {rr : Int32} (hf : f_X11_told a0 a1 S = some rr) : jMet l g yX11_told cX11_told 2 (some .int) 1 0 0 [.ref (g.2.2 + a0), .int a1] S (jQi g rr S) := by
  refine jof (by decide +kernel) (Nat.le_of_ble_eq_true rfl) ?_
  intro p e s m below meth c E hM ls hl
  have hl : lv_has ls 2 [(0, .ref (g.2.2 + a0)),(1, .int a1)] := hl
  exact B_X11_told_0 E hf hM hl
-- PensionHouse.trial(III)I  mode M
noncomputable def f_X11_trial_152 (k77 : Nat → Int32 → Int32 → Option Nat → Int32 → Int32 → jM → Option (Int32 × jM)) (v0 : Nat) (v2 : Int32) (v3 : Int32) (v4 : Option Nat) (v5 : Int32) (v6 : Int32) (S : jM) : Option (Int32 × jM) := jlet (v6 + (1 : Int32)) (fun x1 => k77 v0 v2 v3 v4 v5 x1 S)
noncomputable def f_X11_trial_77 : Nat → Nat → Int32 → Int32 → Option Nat → Int32 → Int32 → jM → Option (Int32 × jM)
  | 0, _, _, _, _, _, _, _ => none
  | n + 1, v0, v2, v3, v4, v5, v6, S => if (10 : Int32) ≤ v6 then some (v5, S) else if jK v0 = 9 then (jR S 74 v0).bind (fun r4 => (jR S 76 v0).bind (fun r6 => (jR S 71 v0).bind (fun r8 => if jK r8 = 3 then (jR S 25 r8).bind (fun r11 => if jK r4 = 8 then (f_X10_work r4 r6 (some r11) (6583653 : Int64) v6 v2 v3 S).bind (fun S13 => (jR S13 74 v0).bind (fun r16 => (jR S13 77 v0).bind (fun r18 => if jK r16 = 8 then (f_X10_work r16 r18 v4 (6583653 : Int64) v6 v2 v3 S13).bind (fun S20 => (jR S20 76 v0).bind (fun r23 => (jR S20 77 v0).bind (fun r25 => if jK r23 = 1 then (f_X1_endsLike r23 r25 S20).bind (fun x27 => if x27 = 0 then jlet (v5 ||| ((1 : Int32) <<< (v6 &&& 31))) (fun x31 => f_X11_trial_152 (f_X11_trial_77 n) v0 v2 v3 v4 x31 v6 S20) else f_X11_trial_152 (f_X11_trial_77 n) v0 v2 v3 v4 v5 v6 S20) else none))) else none))) else none) else none))) else none
noncomputable def f_X11_trial (v0 : Nat) (v1 : Int32) (v2 : Int32) (v3 : Int32) (S : jM) : Option (Int32 × jM) := if jK v0 = 9 then (jR S 72 v0).bind (fun r33 => if jK r33 = 5 then (f_X7_open r33 S).bind (fun S35 => if (f_X11_isScheme v1) = 0 then some ((-2 : Int32), S35) else if (f_X11_isDay v2) = 0 then some ((-3 : Int32), S35) else (f_X11_isPast v0 v3 S35).bind (fun x40 => if x40 = 0 then some ((-3 : Int32), S35) else (jR S35 71 v0).bind (fun r43 => if jK r43 = 3 then (f_X4_parse r43 S35).bind (fun S45 => (jR S45 71 v0).bind (fun r48 => if jK r48 = 3 then if (jI S45 26 r48) = 0 then (f_X11_textInForce v0 v1 v2 S45).bind (fun x52 => f_X11_trial_77 1100000 v0 v2 v3 x52 (0 : Int32) (0 : Int32) S45) else (jR S45 71 v0).bind (fun r54 => if jK r54 = 3 then some ((-10 : Int32) - (jI S45 27 r54), S45) else none) else none)) else none))) else none) else none
set_option maxRecDepth 100000 in
set_option maxHeartbeats 4000000 in
theorem B_X11_trial_152 {p : Program} {l : Launch} {e : Env} {s : State} {m : MethodId} {args : Array Value} {below : List Frame} {meth : Method} {c : Code} {g : jG} {rr : Int32} {SS : jM} {v0 : Nat} {v2 : Int32} {v3 : Int32} {v4 : Option Nat} {v5 : Int32} {v6 : Int32} {S : jM} {k77 : Nat → Int32 → Int32 → Option Nat → Int32 → Int32 → jM → Option (Int32 × jM)} (E : jEnv p s m args meth c cX11_trial "PensionHouse" (some .int) 7 g) (hk77 : ∀ (v0 : Nat) (v2 : Int32) (v3 : Int32) (v4 : Option Nat) (v5 : Int32) (v6 : Int32) (S : jM) (H : Heap) (locs : List Loc) (ls : Array Slot), k77 v0 v2 v3 v4 v5 v6 S = some (rr, SS) → jAt g S s H locs → lv_has ls 7 [(0, .ref (g.2.2 + v0)), (2, .int v2), (3, .int v3), (4, jo g v4), (5, .int v5), (6, .int v6)] → W p l e (jRm 319 0 0) s m args below meth c H locs 0 0 (MQ below (jQi g rr SS) args s 0 0 (jA0 g)) (F0 m 77 ls [])) {H : Heap} {locs : List Loc} {ls : Array Slot} (hf : f_X11_trial_152 k77 v0 v2 v3 v4 v5 v6 S = some (rr, SS)) (hM : jAt g S s H locs) (hl : lv_has ls 7 [(0, .ref (g.2.2 + v0)), (2, .int v2), (3, .int v3), (4, jo g v4), (5, .int v5), (6, .int v6)]) : W p l e (jRm 319 0 0) s m args below meth c H locs 0 0 (MQ below (jQi g rr SS) args s 0 0 (jA0 g)) (F0 m 152 ls []) := by
  obtain ⟨hx, hb, hml, -, hts, hown, hK, -, hstr⟩ := id E
  unfold f_X11_trial_152 at hf
  obtain ⟨x1, ex1⟩ : ∃ z, z = v6 + (1 : Int32) := ⟨_, rfl⟩
  have hf := jlet_y ex1 hf
  refine lv_iinc (v := x1) (lv' := [(6, .int x1), (0, .ref (g.2.2 + v0)), (2, .int v2), (3, .int v3), (4, jo g v4), (5, .int v5)]) hx hb dX11_trial_152 hl (k := 5) rfl (by rw [ex1]; rfl) (by decide) (by simp [jo_cat, jc_i, jc_l, jc_r]) (fun ls hl => ?_)
  refine lv_goto (tgt := 77) hx hb dX11_trial_155 (by decide) ?_
  exact hk77 v0 v2 v3 v4 v5 x1 S _ _ _ hf hM (lv_sub hl [1, 2, 3, 4, 5, 0] rfl)
set_option maxRecDepth 100000 in
set_option maxHeartbeats 4000000 in
theorem B_X11_trial_77 {p : Program} {l : Launch} {e : Env} {s : State} {m : MethodId} {args : Array Value} {below : List Frame} {meth : Method} {c : Code} {g : jG} {rr : Int32} {SS : jM} (E : jEnv p s m args meth c cX11_trial "PensionHouse" (some .int) 7 g)  : ∀ (n : Nat) (v0 : Nat) (v2 : Int32) (v3 : Int32) (v4 : Option Nat) (v5 : Int32) (v6 : Int32) (S : jM) (H : Heap) (locs : List Loc) (ls : Array Slot), f_X11_trial_77 n v0 v2 v3 v4 v5 v6 S = some (rr, SS) → jAt g S s H locs → lv_has ls 7 [(0, .ref (g.2.2 + v0)), (2, .int v2), (3, .int v3), (4, jo g v4), (5, .int v5), (6, .int v6)] → W p l e (jRm 319 0 0) s m args below meth c H locs 0 0 (MQ below (jQi g rr SS) args s 0 0 (jA0 g)) (F0 m 77 ls []) := by
  obtain ⟨hx, hb, hml, -, hts, hown, hK, -, hstr⟩ := id E
  intro n
  induction n with
  | zero => intro v0 v2 v3 v4 v5 v6 S H locs ls hf hM hl; rw [f_X11_trial_77] at hf; cases hf
  | succ n ih =>
    intro v0 v2 v3 v4 v5 v6 S H locs ls hf hM hl
    rw [f_X11_trial_77] at hf
    refine lv_iload hx hb dX11_trial_77 (lv_at hl 5 rfl) ?_
    refine lv_bipush (v := (10 : Int32)) hx hb dX11_trial_79 (by decide) ?_
    refine lv_icmp_ge (tgt := 158) hx hb dX11_trial_81 (by decide) (fun c2 => ?_) (fun c2 => ?_)
    · have hf := jt c2 hf
      refine lv_iload hx hb dX11_trial_158 (lv_at hl 4 rfl) ?_
      exact jireti (jr2 hf) E hM dX11_trial_160
    · have hf := jf c2 hf
      refine lv_aload_n hx hb dX11_trial_84 rfl (lv_at hl 0 rfl) ?_
      obtain ⟨hq3, hf⟩ := jif hf
      refine gt_74 E hM hq3 lk_2_142 dX11_trial_85 ?_
      obtain ⟨r4, hr5, hf⟩ := jb hf
      rw [hr5]
      show W p l e _ s m args below meth c H locs 0 0 _ (F0 m _ ls (.ref (g.2.2 + r4) :: _))
      refine lv_aload_n hx hb dX11_trial_88 rfl (lv_at hl 0 rfl) ?_
      refine gt_76 E hM hq3 lk_2_144 dX11_trial_89 ?_
      obtain ⟨r6, hr7, hf⟩ := jb hf
      rw [hr7]
      show W p l e _ s m args below meth c H locs 0 0 _ (F0 m _ ls (.ref (g.2.2 + r6) :: _))
      refine lv_aload_n hx hb dX11_trial_92 rfl (lv_at hl 0 rfl) ?_
      refine gt_71 E hM hq3 lk_2_139 dX11_trial_93 ?_
      obtain ⟨r8, hr9, hf⟩ := jb hf
      rw [hr9]
      show W p l e _ s m args below meth c H locs 0 0 _ (F0 m _ ls (.ref (g.2.2 + r8) :: _))
      obtain ⟨hq10, hf⟩ := jif hf
      refine gt_25 E hM hq10 lk_1_210 dX11_trial_96 ?_
      obtain ⟨r11, hr12, hf⟩ := jb hf
      rw [hr12]
      show W p l e _ s m args below meth c H locs 0 0 _ (F0 m _ ls (.ref (g.2.2 + r11) :: _))
      refine lv_ldc2 (v := (6583653 : Int64)) hx hb hown (hts _ lk_5_139) dX11_trial_99 ?_
      refine lv_iload hx hb dX11_trial_102 (lv_at hl 5 rfl) ?_
      refine lv_iload_n hx hb dX11_trial_104 rfl (lv_at hl 1 rfl) ?_
      refine lv_iload_n hx hb dX11_trial_105 rfl (lv_at hl 2 rfl) ?_
      obtain ⟨hq15, hf⟩ := jif hf
      obtain ⟨S13, hc14, hf⟩ := jb hf
      refine jbackV hM (jrunV E hM ci_X10_work (C_X10_work hc14) lk_4_146 hq15 (by decide) rfl hl.1 rfl rfl (Nat.le_of_ble_eq_true rfl) ⟨Nat.le_of_ble_eq_true rfl, Nat.le_of_ble_eq_true rfl⟩ ⟨Nat.le_refl _, Nat.le_refl _⟩ dX11_trial_106) (fun H locs hM => ?_)
      refine lv_aload_n hx hb dX11_trial_109 rfl (lv_at hl 0 rfl) ?_
      refine gt_74 E hM hq3 lk_2_142 dX11_trial_110 ?_
      obtain ⟨r16, hr17, hf⟩ := jb hf
      rw [hr17]
      show W p l e _ s m args below meth c H locs 0 0 _ (F0 m _ ls (.ref (g.2.2 + r16) :: _))
      refine lv_aload_n hx hb dX11_trial_113 rfl (lv_at hl 0 rfl) ?_
      refine gt_77 E hM hq3 lk_2_145 dX11_trial_114 ?_
      obtain ⟨r18, hr19, hf⟩ := jb hf
      rw [hr19]
      show W p l e _ s m args below meth c H locs 0 0 _ (F0 m _ ls (.ref (g.2.2 + r18) :: _))
      refine jaloadw hx hb dX11_trial_117 (lv_at hl 3 rfl) ?_
      refine lv_ldc2 (v := (6583653 : Int64)) hx hb hown (hts _ lk_5_139) dX11_trial_119 ?_
      refine lv_iload hx hb dX11_trial_122 (lv_at hl 5 rfl) ?_
      refine lv_iload_n hx hb dX11_trial_124 rfl (lv_at hl 1 rfl) ?_
      refine lv_iload_n hx hb dX11_trial_125 rfl (lv_at hl 2 rfl) ?_
      obtain ⟨hq22, hf⟩ := jif hf
      obtain ⟨S20, hc21, hf⟩ := jb hf
      refine jbackV hM (jrunV E hM ci_X10_work (C_X10_work hc21) lk_4_146 hq22 (by decide) rfl hl.1 rfl rfl (Nat.le_of_ble_eq_true rfl) ⟨Nat.le_of_ble_eq_true rfl, Nat.le_of_ble_eq_true rfl⟩ ⟨Nat.le_refl _, Nat.le_refl _⟩ dX11_trial_126) (fun H locs hM => ?_)
      refine lv_aload_n hx hb dX11_trial_129 rfl (lv_at hl 0 rfl) ?_
      refine gt_76 E hM hq3 lk_2_144 dX11_trial_130 ?_
      obtain ⟨r23, hr24, hf⟩ := jb hf
      rw [hr24]
      show W p l e _ s m args below meth c H locs 0 0 _ (F0 m _ ls (.ref (g.2.2 + r23) :: _))
      refine lv_aload_n hx hb dX11_trial_133 rfl (lv_at hl 0 rfl) ?_
      refine gt_77 E hM hq3 lk_2_145 dX11_trial_134 ?_
      obtain ⟨r25, hr26, hf⟩ := jb hf
      rw [hr26]
      show W p l e _ s m args below meth c H locs 0 0 _ (F0 m _ ls (.ref (g.2.2 + r25) :: _))
      obtain ⟨hq29, hf⟩ := jif hf
      obtain ⟨x27, hc28, hf⟩ := jb hf
      refine jbackI hM (jrunV E hM ci_X1_endsLike (C_X1_endsLike hc28) lk_5_140 hq29 (by decide) rfl hl.1 rfl rfl (Nat.le_of_ble_eq_true rfl) ⟨Nat.le_of_ble_eq_true rfl, Nat.le_of_ble_eq_true rfl⟩ ⟨Nat.le_refl _, Nat.le_refl _⟩ dX11_trial_137) (fun H locs hM => ?_)
      refine lv_if_ne (tgt := 152) hx hb dX11_trial_140 (by decide) (fun c30 => ?_) (fun c30 => ?_)
      · have hf := jf c30 hf
        exact B_X11_trial_152 E ih hf hM (lv_sub hl [0, 1, 2, 3, 4, 5] rfl)
      · have hf := jt c30 hf
        refine lv_iload hx hb dX11_trial_143 (lv_at hl 4 rfl) ?_
        refine lv_iconst (v := (1 : Int32)) hx hb dX11_trial_145 (by decide) ?_
        refine lv_iload hx hb dX11_trial_146 (lv_at hl 5 rfl) ?_
        refine lv_ishl hx hb dX11_trial_148 ?_
        refine lv_ior hx hb dX11_trial_149 ?_
        refine lv_topi (fun x31 ex31 => ?_)
        have hf := jlet_y ex31 hf
        refine lv_istore (i := 5) (lv' := [(5, .int x31), (0, .ref (g.2.2 + v0)), (2, .int v2), (3, .int v3), (4, jo g v4), (6, .int v6)]) hx hb dX11_trial_150 hl (by decide) (by simp [jo_cat, jc_i, jc_l, jc_r]) (fun ls hl => ?_)
        exact B_X11_trial_152 E ih hf hM (lv_sub hl [1, 2, 3, 4, 0, 5] rfl)
set_option maxRecDepth 100000 in
set_option maxHeartbeats 4000000 in
theorem B_X11_trial_0 {p : Program} {l : Launch} {e : Env} {s : State} {m : MethodId} {args : Array Value} {below : List Frame} {meth : Method} {c : Code} {g : jG} {rr : Int32} {SS : jM} {v0 : Nat} {v1 : Int32} {v2 : Int32} {v3 : Int32} {S : jM} (E : jEnv p s m args meth c cX11_trial "PensionHouse" (some .int) 7 g)  {H : Heap} {locs : List Loc} {ls : Array Slot} (hf : f_X11_trial v0 v1 v2 v3 S = some (rr, SS)) (hM : jAt g S s H locs) (hl : lv_has ls 7 [(0, .ref (g.2.2 + v0)), (1, .int v1), (2, .int v2), (3, .int v3)]) : W p l e (jRm 319 0 0) s m args below meth c H locs 0 0 (MQ below (jQi g rr SS) args s 0 0 (jA0 g)) (F0 m 0 ls []) := by
  obtain ⟨hx, hb, hml, -, hts, hown, hK, -, hstr⟩ := id E
  unfold f_X11_trial at hf
  refine lv_aload_n hx hb dX11_trial_0 rfl (lv_at hl 0 rfl) ?_
  obtain ⟨hq32, hf⟩ := jif hf
  refine gt_72 E hM hq32 lk_2_140 dX11_trial_1 ?_
  obtain ⟨r33, hr34, hf⟩ := jb hf
  rw [hr34]
  show W p l e _ s m args below meth c H locs 0 0 _ (F0 m _ ls (.ref (g.2.2 + r33) :: _))
  obtain ⟨hq37, hf⟩ := jif hf
  obtain ⟨S35, hc36, hf⟩ := jb hf
  refine jbackV hM (jrunV E hM ci_X7_open (C_X7_open hc36) lk_4_4 hq37 (by decide) rfl hl.1 rfl rfl (Nat.le_of_ble_eq_true rfl) ⟨Nat.le_of_ble_eq_true rfl, Nat.le_of_ble_eq_true rfl⟩ ⟨Nat.le_refl _, Nat.le_refl _⟩ dX11_trial_4) (fun H locs hM => ?_)
  refine lv_iload_n hx hb dX11_trial_7 rfl (lv_at hl 1 rfl) ?_
  refine jbackI hM (jrunS E hM ci_X11_isScheme (C_X11_isScheme rfl) lk_4_5 hl.1 rfl rfl (Nat.le_of_ble_eq_true rfl) ⟨Nat.le_of_ble_eq_true rfl, Nat.le_of_ble_eq_true rfl⟩ ⟨Nat.le_refl _, Nat.le_refl _⟩ dX11_trial_8) (fun H locs hM => ?_)
  refine lv_if_ne (tgt := 17) hx hb dX11_trial_11 (by decide) (fun c38 => ?_) (fun c38 => ?_)
  · have hf := jf c38 hf
    refine lv_iload_n hx hb dX11_trial_17 rfl (lv_at hl 2 rfl) ?_
    refine jbackI hM (jrunS E hM ci_X11_isDay (C_X11_isDay rfl) lk_2_211 hl.1 rfl rfl (Nat.le_of_ble_eq_true rfl) ⟨Nat.le_of_ble_eq_true rfl, Nat.le_of_ble_eq_true rfl⟩ ⟨Nat.le_refl _, Nat.le_refl _⟩ dX11_trial_18) (fun H locs hM => ?_)
    refine lv_if_eq (tgt := 32) hx hb dX11_trial_21 (by decide) (fun c39 => ?_) (fun c39 => ?_)
    · have hf := jt c39 hf
      refine lv_bipush (v := (-3 : Int32)) hx hb dX11_trial_32 (by decide) ?_
      exact jireti (jr2 hf) E hM dX11_trial_34
    · have hf := jf c39 hf
      refine lv_aload_n hx hb dX11_trial_24 rfl (lv_at hl 0 rfl) ?_
      refine lv_iload_n hx hb dX11_trial_25 rfl (lv_at hl 3 rfl) ?_
      obtain ⟨x40, hc41, hf⟩ := jb hf
      refine jbackI hM (jrunV E hM ci_X11_isPast (C_X11_isPast hc41) lk_3_228 hq32 (by decide) rfl hl.1 rfl rfl (Nat.le_of_ble_eq_true rfl) ⟨Nat.le_of_ble_eq_true rfl, Nat.le_of_ble_eq_true rfl⟩ ⟨Nat.le_refl _, Nat.le_refl _⟩ dX11_trial_26) (fun H locs hM => ?_)
      refine lv_if_ne (tgt := 35) hx hb dX11_trial_29 (by decide) (fun c42 => ?_) (fun c42 => ?_)
      · have hf := jf c42 hf
        refine lv_aload_n hx hb dX11_trial_35 rfl (lv_at hl 0 rfl) ?_
        refine gt_71 E hM hq32 lk_2_139 dX11_trial_36 ?_
        obtain ⟨r43, hr44, hf⟩ := jb hf
        rw [hr44]
        show W p l e _ s m args below meth c H locs 0 0 _ (F0 m _ ls (.ref (g.2.2 + r43) :: _))
        obtain ⟨hq47, hf⟩ := jif hf
        obtain ⟨S45, hc46, hf⟩ := jb hf
        refine jbackV hM (jrunV E hM ci_X4_parse (C_X4_parse hc46) lk_4_12 hq47 (by decide) rfl hl.1 rfl rfl (Nat.le_of_ble_eq_true rfl) ⟨Nat.le_of_ble_eq_true rfl, Nat.le_of_ble_eq_true rfl⟩ ⟨Nat.le_refl _, Nat.le_refl _⟩ dX11_trial_39) (fun H locs hM => ?_)
        refine lv_aload_n hx hb dX11_trial_42 rfl (lv_at hl 0 rfl) ?_
        refine gt_71 E hM hq32 lk_2_139 dX11_trial_43 ?_
        obtain ⟨r48, hr49, hf⟩ := jb hf
        rw [hr49]
        show W p l e _ s m args below meth c H locs 0 0 _ (F0 m _ ls (.ref (g.2.2 + r48) :: _))
        obtain ⟨hq50, hf⟩ := jif hf
        refine gt_26 E hM hq50 lk_1_212 dX11_trial_46 ?_
        refine lv_if_eq (tgt := 63) hx hb dX11_trial_49 (by decide) (fun c51 => ?_) (fun c51 => ?_)
        · have hf := jt c51 hf
          refine lv_aload_n hx hb dX11_trial_63 rfl (lv_at hl 0 rfl) ?_
          refine lv_iload_n hx hb dX11_trial_64 rfl (lv_at hl 1 rfl) ?_
          refine lv_iload_n hx hb dX11_trial_65 rfl (lv_at hl 2 rfl) ?_
          obtain ⟨x52, hc53, hf⟩ := jb hf
          refine jbackQ hM (jrunV E hM ci_X11_textInForce (C_X11_textInForce hc53) lk_4_137 hq32 (by decide) rfl hl.1 rfl rfl (Nat.le_of_ble_eq_true rfl) ⟨Nat.le_of_ble_eq_true rfl, Nat.le_of_ble_eq_true rfl⟩ ⟨Nat.le_refl _, Nat.le_refl _⟩ dX11_trial_66) (fun H locs hM => ?_)
          refine jastorew (g := g) (r := x52) (i := 4) (lv' := [(4, jo g x52), (0, .ref (g.2.2 + v0)), (1, .int v1), (2, .int v2), (3, .int v3)]) hx hb dX11_trial_69 hl (by decide) (by simp [jo_cat, jc_i, jc_l, jc_r]) (fun ls hl => ?_)
          refine lv_iconst (v := (0 : Int32)) hx hb dX11_trial_71 (by decide) ?_
          refine lv_istore (i := 5) (lv' := [(5, .int (0 : Int32)), (4, jo g x52), (0, .ref (g.2.2 + v0)), (1, .int v1), (2, .int v2), (3, .int v3)]) hx hb dX11_trial_72 hl (by decide) (by simp [jo_cat, jc_i, jc_l, jc_r]) (fun ls hl => ?_)
          refine lv_iconst (v := (0 : Int32)) hx hb dX11_trial_74 (by decide) ?_
          refine lv_istore (i := 6) (lv' := [(6, .int (0 : Int32)), (5, .int (0 : Int32)), (4, jo g x52), (0, .ref (g.2.2 + v0)), (1, .int v1), (2, .int v2), (3, .int v3)]) hx hb dX11_trial_75 hl (by decide) (by simp [jo_cat, jc_i, jc_l, jc_r]) (fun ls hl => ?_)
          exact B_X11_trial_77 E  1100000 v0 v2 v3 x52 (0 : Int32) (0 : Int32) S45 _ _ _ hf hM (lv_sub hl [3, 5, 6, 2, 1, 0] rfl)
        · have hf := jf c51 hf
          refine lv_bipush (v := (-10 : Int32)) hx hb dX11_trial_52 (by decide) ?_
          refine lv_aload_n hx hb dX11_trial_54 rfl (lv_at hl 0 rfl) ?_
          refine gt_71 E hM hq32 lk_2_139 dX11_trial_55 ?_
          obtain ⟨r54, hr55, hf⟩ := jb hf
          rw [hr55]
          show W p l e _ s m args below meth c H locs 0 0 _ (F0 m _ ls (.ref (g.2.2 + r54) :: _))
          obtain ⟨hq56, hf⟩ := jif hf
          refine gt_27 E hM hq56 lk_1_214 dX11_trial_58 ?_
          refine lv_isub hx hb dX11_trial_61 ?_
          exact jireti (jr2 hf) E hM dX11_trial_62
      · have hf := jt c42 hf
        refine lv_bipush (v := (-3 : Int32)) hx hb dX11_trial_32 (by decide) ?_
        exact jireti (jr2 hf) E hM dX11_trial_34
  · have hf := jt c38 hf
    refine lv_bipush (v := (-2 : Int32)) hx hb dX11_trial_14 (by decide) ?_
    exact jireti (jr2 hf) E hM dX11_trial_16
set_option maxRecDepth 100000 in
theorem C_X11_trial {l : Launch} {g : jG} {a0 : Nat} {a1 : Int32} {a2 : Int32} {a3 : Int32} {S : jM} {rr : Int32} {SS : jM} (hf : f_X11_trial a0 a1 a2 a3 S = some (rr, SS)) : jMet l g yX11_trial cX11_trial 7 (some .int) 319 0 0 [.ref (g.2.2 + a0), .int a1, .int a2, .int a3] S (jQi g rr SS) := by
  refine jof (by decide +kernel) (Nat.le_of_ble_eq_true rfl) ?_
  intro p e s m below meth c E hM ls hl
  have hl : lv_has ls 7 [(0, .ref (g.2.2 + a0)),(1, .int a1),(2, .int a2),(3, .int a3)] := hl
  exact B_X11_trial_0 E hf hM hl
-- PensionHouse.write(IJ)I  mode M
noncomputable def f_X11_write_65 (v2 : Int64) (t0 : Nat) (t1 : Int32) (S : jM) : Option (Int32 × jM) := if jK t0 = 7 then (f_X9_setBits t0 t1 v2 S).bind (fun S1 => some ((1 : Int32), S1)) else none
noncomputable def f_X11_write_51 (v0 : Nat) (v1 : Int32) (v2 : Int64) (S : jM) : Option (Int32 × jM) := if jK v0 = 9 then (jR S 70 v0).bind (fun r5 => if v1 = (-1 : Int32) then f_X11_write_65 v2 r5 (0 : Int32) S else f_X11_write_65 v2 r5 v1 S) else none
noncomputable def f_X11_write_31 (v0 : Nat) (v1 : Int32) (v2 : Int64) (S : jM) : Option (Int32 × jM) := if v1 = (-1 : Int32) then f_X11_write_51 v0 v1 v2 S else if jK v0 = 9 then (jR S 70 v0).bind (fun r10 => if jK r10 = 7 then (f_X9_hasItem r10 (v1.toInt64) S).bind (fun x12 => if x12 = 0 then some ((-3 : Int32), S) else f_X11_write_51 v0 v1 v2 S) else none) else none
noncomputable def f_X11_write (v0 : Nat) (v1 : Int32) (v2 : Int64) (S : jM) : Option (Int32 × jM) := if v1 = (-1 : Int32) then if jK v0 = 9 then (jR S 70 v0).bind (fun r25 => if jK r25 = 7 then (f_X9_isNumber r25 S).bind (fun x27 => if x27 = 0 then some ((-4 : Int32), S) else f_X11_write_31 v0 v1 v2 S) else none) else none else if jK v0 = 9 then (jR S 70 v0).bind (fun r18 => if jK r18 = 7 then (f_X9_isRowOfNumbers r18 S).bind (fun x20 => if x20 = 0 then some ((-4 : Int32), S) else f_X11_write_31 v0 v1 v2 S) else none) else none
set_option maxRecDepth 100000 in
set_option maxHeartbeats 4000000 in
theorem B_X11_write_65 {p : Program} {l : Launch} {e : Env} {s : State} {m : MethodId} {args : Array Value} {below : List Frame} {meth : Method} {c : Code} {g : jG} {rr : Int32} {SS : jM} {v2 : Int64} {t0 : Nat} {t1 : Int32} {S : jM} (E : jEnv p s m args meth c cX11_write "PensionHouse" (some .int) 4 g)  {H : Heap} {locs : List Loc} {ls : Array Slot} (hf : f_X11_write_65 v2 t0 t1 S = some (rr, SS)) (hM : jAt g S s H locs) (hl : lv_has ls 4 [(2, .long v2)]) : W p l e (jRm 3 0 0) s m args below meth c H locs 0 0 (MQ below (jQi g rr SS) args s 0 0 (jA0 g)) (F0 m 65 ls [.int t1, .ref (g.2.2 + t0)]) := by
  obtain ⟨hx, hb, hml, -, hts, hown, hK, -, hstr⟩ := id E
  unfold f_X11_write_65 at hf
  refine lv_lload_n hx hb dX11_write_65 rfl (lv_at hl 0 rfl) ?_
  obtain ⟨hq3, hf⟩ := jif hf
  obtain ⟨S1, hc2, hf⟩ := jb hf
  refine jbackV hM (jrunV E hM ci_X9_setBits (C_X9_setBits hc2) lk_3_16 hq3 (by decide) rfl hl.1 rfl rfl (Nat.le_of_ble_eq_true rfl) ⟨Nat.le_of_ble_eq_true rfl, Nat.le_of_ble_eq_true rfl⟩ ⟨Nat.le_refl _, Nat.le_refl _⟩ dX11_write_66) (fun H locs hM => ?_)
  refine lv_iconst (v := (1 : Int32)) hx hb dX11_write_69 (by decide) ?_
  exact jireti (jr2 hf) E hM dX11_write_70
set_option maxRecDepth 100000 in
set_option maxHeartbeats 4000000 in
theorem B_X11_write_51 {p : Program} {l : Launch} {e : Env} {s : State} {m : MethodId} {args : Array Value} {below : List Frame} {meth : Method} {c : Code} {g : jG} {rr : Int32} {SS : jM} {v0 : Nat} {v1 : Int32} {v2 : Int64} {S : jM} (E : jEnv p s m args meth c cX11_write "PensionHouse" (some .int) 4 g)  {H : Heap} {locs : List Loc} {ls : Array Slot} (hf : f_X11_write_51 v0 v1 v2 S = some (rr, SS)) (hM : jAt g S s H locs) (hl : lv_has ls 4 [(0, .ref (g.2.2 + v0)), (1, .int v1), (2, .long v2)]) : W p l e (jRm 3 0 0) s m args below meth c H locs 0 0 (MQ below (jQi g rr SS) args s 0 0 (jA0 g)) (F0 m 51 ls []) := by
  obtain ⟨hx, hb, hml, -, hts, hown, hK, -, hstr⟩ := id E
  unfold f_X11_write_51 at hf
  refine lv_aload_n hx hb dX11_write_51 rfl (lv_at hl 0 rfl) ?_
  obtain ⟨hq4, hf⟩ := jif hf
  refine gt_70 E hM hq4 lk_2_138 dX11_write_52 ?_
  obtain ⟨r5, hr6, hf⟩ := jb hf
  rw [hr6]
  show W p l e _ s m args below meth c H locs 0 0 _ (F0 m _ ls (.ref (g.2.2 + r5) :: _))
  refine lv_iload_n hx hb dX11_write_55 rfl (lv_at hl 1 rfl) ?_
  refine lv_iconst (v := (-1 : Int32)) hx hb dX11_write_56 (by decide) ?_
  refine lv_icmp_ne (tgt := 64) hx hb dX11_write_57 (by decide) (fun c7 => ?_) (fun c7 => ?_)
  · have hf := jf c7 hf
    refine lv_iload_n hx hb dX11_write_64 rfl (lv_at hl 1 rfl) ?_
    exact B_X11_write_65 E  hf hM (lv_sub hl [2] rfl)
  · have hf := jt c7 hf
    refine lv_iconst (v := (0 : Int32)) hx hb dX11_write_60 (by decide) ?_
    refine lv_goto (tgt := 65) hx hb dX11_write_61 (by decide) ?_
    exact B_X11_write_65 E  hf hM (lv_sub hl [2] rfl)
set_option maxRecDepth 100000 in
set_option maxHeartbeats 4000000 in
theorem B_X11_write_31 {p : Program} {l : Launch} {e : Env} {s : State} {m : MethodId} {args : Array Value} {below : List Frame} {meth : Method} {c : Code} {g : jG} {rr : Int32} {SS : jM} {v0 : Nat} {v1 : Int32} {v2 : Int64} {S : jM} (E : jEnv p s m args meth c cX11_write "PensionHouse" (some .int) 4 g)  {H : Heap} {locs : List Loc} {ls : Array Slot} (hf : f_X11_write_31 v0 v1 v2 S = some (rr, SS)) (hM : jAt g S s H locs) (hl : lv_has ls 4 [(0, .ref (g.2.2 + v0)), (1, .int v1), (2, .long v2)]) : W p l e (jRm 3 0 0) s m args below meth c H locs 0 0 (MQ below (jQi g rr SS) args s 0 0 (jA0 g)) (F0 m 31 ls []) := by
  obtain ⟨hx, hb, hml, -, hts, hown, hK, -, hstr⟩ := id E
  unfold f_X11_write_31 at hf
  refine lv_iload_n hx hb dX11_write_31 rfl (lv_at hl 1 rfl) ?_
  refine lv_iconst (v := (-1 : Int32)) hx hb dX11_write_32 (by decide) ?_
  refine lv_icmp_eq (tgt := 51) hx hb dX11_write_33 (by decide) (fun c8 => ?_) (fun c8 => ?_)
  · have hf := jt c8 hf
    exact B_X11_write_51 E  hf hM (lv_sub hl [0, 1, 2] rfl)
  · have hf := jf c8 hf
    refine lv_aload_n hx hb dX11_write_36 rfl (lv_at hl 0 rfl) ?_
    obtain ⟨hq9, hf⟩ := jif hf
    refine gt_70 E hM hq9 lk_2_138 dX11_write_37 ?_
    obtain ⟨r10, hr11, hf⟩ := jb hf
    rw [hr11]
    show W p l e _ s m args below meth c H locs 0 0 _ (F0 m _ ls (.ref (g.2.2 + r10) :: _))
    refine lv_iload_n hx hb dX11_write_40 rfl (lv_at hl 1 rfl) ?_
    refine lv_i2l hx hb dX11_write_41 rfl ?_
    obtain ⟨hq14, hf⟩ := jif hf
    obtain ⟨x12, hc13, hf⟩ := jb hf
    refine jbackI hM (jrunV E hM ci_X9_hasItem (C_X9_hasItem hc13) lk_3_11 hq14 (by decide) rfl hl.1 rfl rfl (Nat.le_of_ble_eq_true rfl) ⟨Nat.le_of_ble_eq_true rfl, Nat.le_of_ble_eq_true rfl⟩ ⟨Nat.le_refl _, Nat.le_refl _⟩ dX11_write_42) (fun H locs hM => ?_)
    refine lv_if_ne (tgt := 51) hx hb dX11_write_45 (by decide) (fun c15 => ?_) (fun c15 => ?_)
    · have hf := jf c15 hf
      exact B_X11_write_51 E  hf hM (lv_sub hl [0, 1, 2] rfl)
    · have hf := jt c15 hf
      refine lv_bipush (v := (-3 : Int32)) hx hb dX11_write_48 (by decide) ?_
      exact jireti (jr2 hf) E hM dX11_write_50
set_option maxRecDepth 100000 in
set_option maxHeartbeats 4000000 in
theorem B_X11_write_0 {p : Program} {l : Launch} {e : Env} {s : State} {m : MethodId} {args : Array Value} {below : List Frame} {meth : Method} {c : Code} {g : jG} {rr : Int32} {SS : jM} {v0 : Nat} {v1 : Int32} {v2 : Int64} {S : jM} (E : jEnv p s m args meth c cX11_write "PensionHouse" (some .int) 4 g)  {H : Heap} {locs : List Loc} {ls : Array Slot} (hf : f_X11_write v0 v1 v2 S = some (rr, SS)) (hM : jAt g S s H locs) (hl : lv_has ls 4 [(0, .ref (g.2.2 + v0)), (1, .int v1), (2, .long v2)]) : W p l e (jRm 3 0 0) s m args below meth c H locs 0 0 (MQ below (jQi g rr SS) args s 0 0 (jA0 g)) (F0 m 0 ls []) := by
  obtain ⟨hx, hb, hml, -, hts, hown, hK, -, hstr⟩ := id E
  unfold f_X11_write at hf
  refine lv_iload_n hx hb dX11_write_0 rfl (lv_at hl 1 rfl) ?_
  refine lv_iconst (v := (-1 : Int32)) hx hb dX11_write_1 (by decide) ?_
  refine lv_icmp_ne (tgt := 18) hx hb dX11_write_2 (by decide) (fun c16 => ?_) (fun c16 => ?_)
  · have hf := jf c16 hf
    refine lv_aload_n hx hb dX11_write_18 rfl (lv_at hl 0 rfl) ?_
    obtain ⟨hq17, hf⟩ := jif hf
    refine gt_70 E hM hq17 lk_2_138 dX11_write_19 ?_
    obtain ⟨r18, hr19, hf⟩ := jb hf
    rw [hr19]
    show W p l e _ s m args below meth c H locs 0 0 _ (F0 m _ ls (.ref (g.2.2 + r18) :: _))
    obtain ⟨hq22, hf⟩ := jif hf
    obtain ⟨x20, hc21, hf⟩ := jb hf
    refine jbackI hM (jrunV E hM ci_X9_isRowOfNumbers (C_X9_isRowOfNumbers hc21) lk_3_7 hq22 (by decide) rfl hl.1 rfl rfl (Nat.le_of_ble_eq_true rfl) ⟨Nat.le_of_ble_eq_true rfl, Nat.le_of_ble_eq_true rfl⟩ ⟨Nat.le_refl _, Nat.le_refl _⟩ dX11_write_22) (fun H locs hM => ?_)
    refine lv_if_ne (tgt := 31) hx hb dX11_write_25 (by decide) (fun c23 => ?_) (fun c23 => ?_)
    · have hf := jf c23 hf
      exact B_X11_write_31 E  hf hM (lv_sub hl [0, 1, 2] rfl)
    · have hf := jt c23 hf
      refine lv_bipush (v := (-4 : Int32)) hx hb dX11_write_28 (by decide) ?_
      exact jireti (jr2 hf) E hM dX11_write_30
  · have hf := jt c16 hf
    refine lv_aload_n hx hb dX11_write_5 rfl (lv_at hl 0 rfl) ?_
    obtain ⟨hq24, hf⟩ := jif hf
    refine gt_70 E hM hq24 lk_2_138 dX11_write_6 ?_
    obtain ⟨r25, hr26, hf⟩ := jb hf
    rw [hr26]
    show W p l e _ s m args below meth c H locs 0 0 _ (F0 m _ ls (.ref (g.2.2 + r25) :: _))
    obtain ⟨hq29, hf⟩ := jif hf
    obtain ⟨x27, hc28, hf⟩ := jb hf
    refine jbackI hM (jrunV E hM ci_X9_isNumber (C_X9_isNumber hc28) lk_3_3 hq29 (by decide) rfl hl.1 rfl rfl (Nat.le_of_ble_eq_true rfl) ⟨Nat.le_of_ble_eq_true rfl, Nat.le_of_ble_eq_true rfl⟩ ⟨Nat.le_refl _, Nat.le_refl _⟩ dX11_write_9) (fun H locs hM => ?_)
    refine lv_if_ne (tgt := 31) hx hb dX11_write_12 (by decide) (fun c30 => ?_) (fun c30 => ?_)
    · have hf := jf c30 hf
      exact B_X11_write_31 E  hf hM (lv_sub hl [0, 1, 2] rfl)
    · have hf := jt c30 hf
      refine lv_goto (tgt := 28) hx hb dX11_write_15 (by decide) ?_
      refine lv_bipush (v := (-4 : Int32)) hx hb dX11_write_28 (by decide) ?_
      exact jireti (jr2 hf) E hM dX11_write_30
set_option maxRecDepth 100000 in
theorem C_X11_write {l : Launch} {g : jG} {a0 : Nat} {a1 : Int32} {a2 : Int64} {S : jM} {rr : Int32} {SS : jM} (hf : f_X11_write a0 a1 a2 S = some (rr, SS)) : jMet l g yX11_write cX11_write 4 (some .int) 3 0 0 [.ref (g.2.2 + a0), .int a1, .long a2] S (jQi g rr SS) := by
  refine jof (by decide +kernel) (Nat.le_of_ble_eq_true rfl) ?_
  intro p e s m below meth c E hM ls hl
  have hl : lv_has ls 4 [(0, .ref (g.2.2 + a0)),(1, .int a1),(2, .long a2)] := hl
  exact B_X11_write_0 E hf hM hl
