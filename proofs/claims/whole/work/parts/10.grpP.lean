def jrc_P (l : Launch) (g : jG) (kk : Nat) (rc : Nat → Nat → Int32 → Int32 → jM → Option (Int32 × jM)) : Prop := (∀ {t : Nat} {a b : Int32} {S : jM} {rr : Int32} {SS : jM}, rc 0 t a b S = some (rr, SS) → jMet l g yX4_readE cX4_readE 6 (some .int) kk 0 0 [.ref (g.2.2 + t), .int a] S (jQi g rr SS)) ∧ (∀ {t : Nat} {a b : Int32} {S : jM} {rr : Int32} {SS : jM}, rc 1 t a b S = some (rr, SS) → jMet l g yX4_readC cX4_readC 4 (some .int) kk 0 0 [.ref (g.2.2 + t), .int a] S (jQi g rr SS)) ∧ (∀ {t : Nat} {a b : Int32} {S : jM} {rr : Int32} {SS : jM}, rc 2 t a b S = some (rr, SS) → jMet l g yX4_readA cX4_readA 5 (some .int) kk 0 0 [.ref (g.2.2 + t), .int a] S (jQi g rr SS)) ∧ (∀ {t : Nat} {a b : Int32} {S : jM} {rr : Int32} {SS : jM}, rc 3 t a b S = some (rr, SS) → jMet l g yX4_readM cX4_readM 5 (some .int) kk 0 0 [.ref (g.2.2 + t), .int a] S (jQi g rr SS)) ∧ (∀ {t : Nat} {a b : Int32} {S : jM} {rr : Int32} {SS : jM}, rc 4 t a b S = some (rr, SS) → jMet l g yX4_readU cX4_readU 5 (some .int) kk 0 0 [.ref (g.2.2 + t), .int a] S (jQi g rr SS)) ∧ (∀ {t : Nat} {a b : Int32} {S : jM} {rr : Int32} {SS : jM}, rc 5 t a b S = some (rr, SS) → jMet l g yX4_readP cX4_readP 5 (some .int) kk 0 0 [.ref (g.2.2 + t), .int a] S (jQi g rr SS)) ∧ (∀ {t : Nat} {a b : Int32} {S : jM} {rr : Int32} {SS : jM}, rc 6 t a b S = some (rr, SS) → jMet l g yX4_readSum cX4_readSum 5 (some .int) kk 0 0 [.ref (g.2.2 + t), .int a] S (jQi g rr SS)) ∧ (∀ {t : Nat} {a b : Int32} {S : jM} {rr : Int32} {SS : jM}, rc 7 t a b S = some (rr, SS) → jMet l g yX4_readFunction cX4_readFunction 5 (some .int) kk 0 0 [.ref (g.2.2 + t), .int a] S (jQi g rr SS))
-- PensionHouse$Parser.readE
noncomputable def f_X4_readE_152 (rc : Nat → Nat → Int32 → Int32 → jM → Option (Int32 × jM)) (v0 : Nat) (v1 : Int32) (v4 : Int32) (v5 : Int32) (S : jM) : Option (Int32 × jM) := if jK v0 = 3 then (f_X4_take v0 (132 : Int32) S).bind (fun S1 => (jR S1 25 v0).bind (fun r4 => jbd (rc 0 v0 (v1 + (1 : Int32)) 0 S1) (fun x6 S7 => if jK r4 = 6 then (f_X8_setInner r4 v4 v5 x6 S7).bind (fun S9 => some (v4, S9)) else none))) else none
noncomputable def f_X4_readE_82 (rc : Nat → Nat → Int32 → Int32 → jM → Option (Int32 × jM)) (v0 : Nat) (v1 : Int32) (v2 : Int32) (S : jM) : Option (Int32 × jM) := if jK v0 = 3 then (jR S 24 v0).bind (fun r13 => if jK r13 = 5 then jbd (f_X4_part v0 (jI S 40 r13) (0 : Int64) S) (fun x16 S17 => (jR S17 25 v0).bind (fun r19 => jlet ((0 : Int32) + (1 : Int32)) (fun x21 => jbd (rc 0 v0 (v1 + (1 : Int32)) 0 S17) (fun x22 S23 => if jK r19 = 6 then (f_X8_setInner r19 x16 (0 : Int32) x22 S23).bind (fun S25 => if v2 = 0 then f_X4_readE_152 rc v0 v1 x16 x21 S25 else (f_X4_take v0 (147 : Int32) S25).bind (fun S29 => (jR S29 25 v0).bind (fun r31 => jlet (x21 + (1 : Int32)) (fun x33 => jbd (rc 0 v0 (v1 + (1 : Int32)) 0 S29) (fun x34 S35 => if jK r31 = 6 then (f_X8_setInner r31 x16 x21 x34 S35).bind (fun S37 => f_X4_readE_152 rc v0 v1 x16 x33 S37) else none))))) else none)))) else none) else none
noncomputable def f_X4_readE_59 (rc : Nat → Nat → Int32 → Int32 → jM → Option (Int32 × jM)) (v0 : Nat) (v1 : Int32) (v2 : Int32) (v3 : Int32) (t0 : Nat) (t1 : Int32) (S : jM) : Option (Int32 × jM) := if jK t0 = 3 then jbd (f_X4_mayBegin t0 t1 v1 S) (fun x40 S41 => if x40 = 0 then some ((-1 : Int32), S41) else if v2 = 0 then if v3 = 0 then if jK v0 = 3 then jbd (rc 1 v0 v1 0 S41) (fun x47 S48 => some (x47, S48)) else none else f_X4_readE_82 rc v0 v1 v2 S41 else f_X4_readE_82 rc v0 v1 v2 S41) else none
noncomputable def f_X4_readE_54 (rc : Nat → Nat → Int32 → Int32 → jM → Option (Int32 × jM)) (v0 : Nat) (v1 : Int32) (v2 : Int32) (v3 : Int32) (t0 : Nat) (S : jM) : Option (Int32 × jM) := f_X4_readE_59 rc v0 v1 v2 v3 t0 (1 : Int32) S
noncomputable def f_X4_readE_37 (rc : Nat → Nat → Int32 → Int32 → jM → Option (Int32 × jM)) (v0 : Nat) (v1 : Int32) (v2 : Int32) (t0 : Int32) (S : jM) : Option (Int32 × jM) := if v2 = 0 then if t0 = 0 then if jK v0 = 3 then (f_X4_beginsU v0 S).bind (fun x53 => if x53 = 0 then f_X4_readE_59 rc v0 v1 v2 t0 v0 (0 : Int32) S else f_X4_readE_54 rc v0 v1 v2 t0 v0 S) else none else f_X4_readE_54 rc v0 v1 v2 t0 v0 S else f_X4_readE_54 rc v0 v1 v2 t0 v0 S
noncomputable def f_X4_readE_18 (rc : Nat → Nat → Int32 → Int32 → jM → Option (Int32 × jM)) (v0 : Nat) (v1 : Int32) (t0 : Int32) (S : jM) : Option (Int32 × jM) := if jK v0 = 3 then (jR S 24 v0).bind (fun r58 => if jK r58 = 5 then if (jI S 40 r58) = (149 : Int32) then f_X4_readE_37 rc v0 v1 t0 (1 : Int32) S else f_X4_readE_37 rc v0 v1 t0 (0 : Int32) S else none) else none
noncomputable def f_X4_readE (rc : Nat → Nat → Int32 → Int32 → jM → Option (Int32 × jM)) (v0 : Nat) (v1 : Int32) (S : jM) : Option (Int32 × jM) := if jK v0 = 3 then (jR S 24 v0).bind (fun r63 => if jK r63 = 5 then if (jI S 40 r63) = (135 : Int32) then f_X4_readE_18 rc v0 v1 (1 : Int32) S else f_X4_readE_18 rc v0 v1 (0 : Int32) S else none) else none
set_option maxRecDepth 100000 in
set_option maxHeartbeats 4000000 in
theorem B_X4_readE_152 {p : Program} {l : Launch} {e : Env} {s : State} {m : MethodId} {args : Array Value} {below : List Frame} {meth : Method} {c : Code} {g : jG} {rc : Nat → Nat → Int32 → Int32 → jM → Option (Int32 × jM)} {kk : Nat} (hkk : 16 ≤ kk) (hrc : jrc_P l g kk rc) {rr : Int32} {SS : jM} {v0 : Nat} {v1 : Int32} {v4 : Int32} {v5 : Int32} {S : jM} (E : jEnv p s m args meth c cX4_readE "PensionHouse$Parser" (some .int) 6 g)  {H : Heap} {locs : List Loc} {ls : Array Slot} (hf : f_X4_readE_152 rc v0 v1 v4 v5 S = some (rr, SS)) (hM : jAt g S s H locs) (hl : lv_has ls 6 [(0, .ref (g.2.2 + v0)), (1, .int v1), (4, .int v4), (5, .int v5)]) : W p l e (jRm (kk + 1) 0 0) s m args below meth c H locs 0 0 (MQ below (jQi g rr SS) args s 0 0 (jA0 g)) (F0 m 152 ls []) := by
  obtain ⟨hx, hb, hml, -, hts, hown, hK, -, hstr⟩ := id E
  unfold f_X4_readE_152 at hf
  refine lv_aload_n hx hb dX4_readE_152 rfl (lv_at hl 0 rfl) ?_
  refine lv_sipush (v := (132 : Int32)) hx hb dX4_readE_153 (by decide) ?_
  obtain ⟨hq3, hf⟩ := jif hf
  obtain ⟨S1, hc2, hf⟩ := jb hf
  refine jbackV hM (jrunV E hM ci_X4_take (C_X4_take hc2) lk_4_25 hq3 (by decide) rfl hl.1 rfl rfl (Nat.le_of_ble_eq_true rfl) ⟨by show 8 + 1 ≤ kk + 1; omega, by show 49 * (8 + 1) ≤ 49 * (kk + 1); omega⟩ ⟨Nat.le_refl _, Nat.le_refl _⟩ dX4_readE_156) (fun H locs hM => ?_)
  refine lv_aload_n hx hb dX4_readE_159 rfl (lv_at hl 0 rfl) ?_
  refine gt_25 E hM hq3 lk_1_209 dX4_readE_160 ?_
  obtain ⟨r4, hr5, hf⟩ := jb hf
  rw [hr5]
  show W p l e _ s m args below meth c H locs 0 0 _ (F0 m _ ls (.ref (g.2.2 + r4) :: _))
  refine lv_iload hx hb dX4_readE_163 (lv_at hl 2 rfl) ?_
  refine lv_iload hx hb dX4_readE_165 (lv_at hl 3 rfl) ?_
  refine lv_aload_n hx hb dX4_readE_167 rfl (lv_at hl 0 rfl) ?_
  refine lv_iload_n hx hb dX4_readE_168 rfl (lv_at hl 1 rfl) ?_
  refine lv_iconst (v := (1 : Int32)) hx hb dX4_readE_169 (by decide) ?_
  refine lv_iadd hx hb dX4_readE_170 ?_
  obtain ⟨x6, S7, hc8, hf⟩ := jbd_e hf
  refine jbackI hM (jrunV E hM ci_X4_readE (hrc.1 hc8) lk_4_37 hq3 (by decide) rfl hl.1 rfl rfl (Nat.le_of_ble_eq_true rfl) ⟨Nat.le_refl _, Nat.le_refl _⟩ ⟨Nat.le_refl _, Nat.le_refl _⟩ dX4_readE_171) (fun H locs hM => ?_)
  obtain ⟨hq11, hf⟩ := jif hf
  obtain ⟨S9, hc10, hf⟩ := jb hf
  refine jbackV hM (jrunV E hM ci_X8_setInner (C_X8_setInner hc10) lk_4_76 hq11 (by decide) rfl hl.1 rfl rfl (Nat.le_of_ble_eq_true rfl) ⟨by show 1 + 1 ≤ kk + 1; omega, by show 49 * (1 + 1) ≤ 49 * (kk + 1); omega⟩ ⟨Nat.le_refl _, Nat.le_refl _⟩ dX4_readE_174) (fun H locs hM => ?_)
  refine lv_iload hx hb dX4_readE_177 (lv_at hl 2 rfl) ?_
  exact jireti (jr2 hf) E hM dX4_readE_179
set_option maxRecDepth 100000 in
set_option maxHeartbeats 4000000 in
theorem B_X4_readE_82 {p : Program} {l : Launch} {e : Env} {s : State} {m : MethodId} {args : Array Value} {below : List Frame} {meth : Method} {c : Code} {g : jG} {rc : Nat → Nat → Int32 → Int32 → jM → Option (Int32 × jM)} {kk : Nat} (hkk : 16 ≤ kk) (hrc : jrc_P l g kk rc) {rr : Int32} {SS : jM} {v0 : Nat} {v1 : Int32} {v2 : Int32} {S : jM} (E : jEnv p s m args meth c cX4_readE "PensionHouse$Parser" (some .int) 6 g)  {H : Heap} {locs : List Loc} {ls : Array Slot} (hf : f_X4_readE_82 rc v0 v1 v2 S = some (rr, SS)) (hM : jAt g S s H locs) (hl : lv_has ls 6 [(0, .ref (g.2.2 + v0)), (1, .int v1), (2, .int v2)]) : W p l e (jRm (kk + 1) 0 0) s m args below meth c H locs 0 0 (MQ below (jQi g rr SS) args s 0 0 (jA0 g)) (F0 m 82 ls []) := by
  obtain ⟨hx, hb, hml, -, hts, hown, hK, -, hstr⟩ := id E
  unfold f_X4_readE_82 at hf
  refine lv_aload_n hx hb dX4_readE_82 rfl (lv_at hl 0 rfl) ?_
  refine lv_aload_n hx hb dX4_readE_83 rfl (lv_at hl 0 rfl) ?_
  obtain ⟨hq12, hf⟩ := jif hf
  refine gt_24 E hM hq12 lk_1_207 dX4_readE_84 ?_
  obtain ⟨r13, hr14, hf⟩ := jb hf
  rw [hr14]
  show W p l e _ s m args below meth c H locs 0 0 _ (F0 m _ ls (.ref (g.2.2 + r13) :: _))
  obtain ⟨hq15, hf⟩ := jif hf
  refine gt_40 E hM hq15 lk_1_142 dX4_readE_87 ?_
  refine lv_lconst (v := (0 : Int64)) hx hb dX4_readE_90 (by decide) ?_
  obtain ⟨x16, S17, hc18, hf⟩ := jbd_e hf
  refine jbackI hM (jrunV E hM ci_X4_part (C_X4_part hc18) lk_4_68 hq12 (by decide) rfl hl.1 rfl rfl (Nat.le_of_ble_eq_true rfl) ⟨by show 8 + 1 ≤ kk + 1; omega, by show 49 * (8 + 1) ≤ 49 * (kk + 1); omega⟩ ⟨Nat.le_refl _, Nat.le_refl _⟩ dX4_readE_91) (fun H locs hM => ?_)
  refine lv_istore (lv' := [(4, .int x16), (0, .ref (g.2.2 + v0)), (1, .int v1), (2, .int v2)]) hx hb dX4_readE_94 hl (by decide) rfl (fun ls hl => ?_)
  refine lv_iconst (v := (0 : Int32)) hx hb dX4_readE_96 (by decide) ?_
  refine lv_istore (lv' := [(5, .int (0 : Int32)), (4, .int x16), (0, .ref (g.2.2 + v0)), (1, .int v1), (2, .int v2)]) hx hb dX4_readE_97 hl (by decide) rfl (fun ls hl => ?_)
  refine lv_aload_n hx hb dX4_readE_99 rfl (lv_at hl 2 rfl) ?_
  refine gt_25 E hM hq12 lk_1_209 dX4_readE_100 ?_
  obtain ⟨r19, hr20, hf⟩ := jb hf
  rw [hr20]
  show W p l e _ s m args below meth c H locs 0 0 _ (F0 m _ ls (.ref (g.2.2 + r19) :: _))
  refine lv_iload hx hb dX4_readE_103 (lv_at hl 1 rfl) ?_
  refine lv_iload hx hb dX4_readE_105 (lv_at hl 0 rfl) ?_
  obtain ⟨x21, ex21⟩ : ∃ z, z = (0 : Int32) + (1 : Int32) := ⟨_, rfl⟩
  have hf := jlet_y ex21 hf
  refine lv_iinc (v := x21) (lv' := [(5, .int x21), (4, .int x16), (0, .ref (g.2.2 + v0)), (1, .int v1), (2, .int v2)]) hx hb dX4_readE_107 hl (k := 0) rfl (by rw [ex21]; rfl) (by decide) rfl (fun ls hl => ?_)
  refine lv_aload_n hx hb dX4_readE_110 rfl (lv_at hl 2 rfl) ?_
  refine lv_iload_n hx hb dX4_readE_111 rfl (lv_at hl 3 rfl) ?_
  refine lv_iconst (v := (1 : Int32)) hx hb dX4_readE_112 (by decide) ?_
  refine lv_iadd hx hb dX4_readE_113 ?_
  obtain ⟨x22, S23, hc24, hf⟩ := jbd_e hf
  refine jbackI hM (jrunV E hM ci_X4_readE (hrc.1 hc24) lk_4_37 hq12 (by decide) rfl hl.1 rfl rfl (Nat.le_of_ble_eq_true rfl) ⟨Nat.le_refl _, Nat.le_refl _⟩ ⟨Nat.le_refl _, Nat.le_refl _⟩ dX4_readE_114) (fun H locs hM => ?_)
  obtain ⟨hq27, hf⟩ := jif hf
  obtain ⟨S25, hc26, hf⟩ := jb hf
  refine jbackV hM (jrunV E hM ci_X8_setInner (C_X8_setInner hc26) lk_4_76 hq27 (by decide) rfl hl.1 rfl rfl (Nat.le_of_ble_eq_true rfl) ⟨by show 1 + 1 ≤ kk + 1; omega, by show 49 * (1 + 1) ≤ 49 * (kk + 1); omega⟩ ⟨Nat.le_refl _, Nat.le_refl _⟩ dX4_readE_117) (fun H locs hM => ?_)
  refine lv_iload_n hx hb dX4_readE_120 rfl (lv_at hl 4 rfl) ?_
  refine lv_if_eq (tgt := 152) hx hb dX4_readE_121 (by decide) (fun c28 => ?_) (fun c28 => ?_)
  · have hf := jt c28 hf
    exact B_X4_readE_152 hkk hrc E  hf hM (lv_sub hl [2, 3, 1, 0] rfl)
  · have hf := jf c28 hf
    refine lv_aload_n hx hb dX4_readE_124 rfl (lv_at hl 2 rfl) ?_
    refine lv_sipush (v := (147 : Int32)) hx hb dX4_readE_125 (by decide) ?_
    obtain ⟨S29, hc30, hf⟩ := jb hf
    refine jbackV hM (jrunV E hM ci_X4_take (C_X4_take hc30) lk_4_25 hq12 (by decide) rfl hl.1 rfl rfl (Nat.le_of_ble_eq_true rfl) ⟨by show 8 + 1 ≤ kk + 1; omega, by show 49 * (8 + 1) ≤ 49 * (kk + 1); omega⟩ ⟨Nat.le_refl _, Nat.le_refl _⟩ dX4_readE_128) (fun H locs hM => ?_)
    refine lv_aload_n hx hb dX4_readE_131 rfl (lv_at hl 2 rfl) ?_
    refine gt_25 E hM hq12 lk_1_209 dX4_readE_132 ?_
    obtain ⟨r31, hr32, hf⟩ := jb hf
    rw [hr32]
    show W p l e _ s m args below meth c H locs 0 0 _ (F0 m _ ls (.ref (g.2.2 + r31) :: _))
    refine lv_iload hx hb dX4_readE_135 (lv_at hl 1 rfl) ?_
    refine lv_iload hx hb dX4_readE_137 (lv_at hl 0 rfl) ?_
    obtain ⟨x33, ex33⟩ : ∃ z, z = x21 + (1 : Int32) := ⟨_, rfl⟩
    have hf := jlet_y ex33 hf
    refine lv_iinc (v := x33) (lv' := [(5, .int x33), (4, .int x16), (0, .ref (g.2.2 + v0)), (1, .int v1), (2, .int v2)]) hx hb dX4_readE_139 hl (k := 0) rfl (by rw [ex33]; rfl) (by decide) rfl (fun ls hl => ?_)
    refine lv_aload_n hx hb dX4_readE_142 rfl (lv_at hl 2 rfl) ?_
    refine lv_iload_n hx hb dX4_readE_143 rfl (lv_at hl 3 rfl) ?_
    refine lv_iconst (v := (1 : Int32)) hx hb dX4_readE_144 (by decide) ?_
    refine lv_iadd hx hb dX4_readE_145 ?_
    obtain ⟨x34, S35, hc36, hf⟩ := jbd_e hf
    refine jbackI hM (jrunV E hM ci_X4_readE (hrc.1 hc36) lk_4_37 hq12 (by decide) rfl hl.1 rfl rfl (Nat.le_of_ble_eq_true rfl) ⟨Nat.le_refl _, Nat.le_refl _⟩ ⟨Nat.le_refl _, Nat.le_refl _⟩ dX4_readE_146) (fun H locs hM => ?_)
    obtain ⟨hq39, hf⟩ := jif hf
    obtain ⟨S37, hc38, hf⟩ := jb hf
    refine jbackV hM (jrunV E hM ci_X8_setInner (C_X8_setInner hc38) lk_4_76 hq39 (by decide) rfl hl.1 rfl rfl (Nat.le_of_ble_eq_true rfl) ⟨by show 1 + 1 ≤ kk + 1; omega, by show 49 * (1 + 1) ≤ 49 * (kk + 1); omega⟩ ⟨Nat.le_refl _, Nat.le_refl _⟩ dX4_readE_149) (fun H locs hM => ?_)
    exact B_X4_readE_152 hkk hrc E  hf hM (lv_sub hl [2, 3, 1, 0] rfl)
set_option maxRecDepth 100000 in
set_option maxHeartbeats 4000000 in
theorem B_X4_readE_59 {p : Program} {l : Launch} {e : Env} {s : State} {m : MethodId} {args : Array Value} {below : List Frame} {meth : Method} {c : Code} {g : jG} {rc : Nat → Nat → Int32 → Int32 → jM → Option (Int32 × jM)} {kk : Nat} (hkk : 16 ≤ kk) (hrc : jrc_P l g kk rc) {rr : Int32} {SS : jM} {v0 : Nat} {v1 : Int32} {v2 : Int32} {v3 : Int32} {t0 : Nat} {t1 : Int32} {S : jM} (E : jEnv p s m args meth c cX4_readE "PensionHouse$Parser" (some .int) 6 g)  {H : Heap} {locs : List Loc} {ls : Array Slot} (hf : f_X4_readE_59 rc v0 v1 v2 v3 t0 t1 S = some (rr, SS)) (hM : jAt g S s H locs) (hl : lv_has ls 6 [(0, .ref (g.2.2 + v0)), (1, .int v1), (2, .int v2), (3, .int v3)]) : W p l e (jRm (kk + 1) 0 0) s m args below meth c H locs 0 0 (MQ below (jQi g rr SS) args s 0 0 (jA0 g)) (F0 m 59 ls [.int t1, .ref (g.2.2 + t0)]) := by
  obtain ⟨hx, hb, hml, -, hts, hown, hK, -, hstr⟩ := id E
  unfold f_X4_readE_59 at hf
  refine lv_iload_n hx hb dX4_readE_59 rfl (lv_at hl 1 rfl) ?_
  obtain ⟨hq43, hf⟩ := jif hf
  obtain ⟨x40, S41, hc42, hf⟩ := jbd_e hf
  refine jbackI hM (jrunV E hM ci_X4_mayBegin (C_X4_mayBegin hc42) lk_4_48 hq43 (by decide) rfl hl.1 rfl rfl (Nat.le_of_ble_eq_true rfl) ⟨by show 3 + 1 ≤ kk + 1; omega, by show 49 * (3 + 1) ≤ 49 * (kk + 1); omega⟩ ⟨Nat.le_refl _, Nat.le_refl _⟩ dX4_readE_60) (fun H locs hM => ?_)
  refine lv_if_ne (tgt := 68) hx hb dX4_readE_63 (by decide) (fun c44 => ?_) (fun c44 => ?_)
  · have hf := jf c44 hf
    refine lv_iload_n hx hb dX4_readE_68 rfl (lv_at hl 2 rfl) ?_
    refine lv_if_ne (tgt := 82) hx hb dX4_readE_69 (by decide) (fun c45 => ?_) (fun c45 => ?_)
    · have hf := jf c45 hf
      exact B_X4_readE_82 hkk hrc E  hf hM (lv_sub hl [0, 1, 2] rfl)
    · have hf := jt c45 hf
      refine lv_iload_n hx hb dX4_readE_72 rfl (lv_at hl 3 rfl) ?_
      refine lv_if_ne (tgt := 82) hx hb dX4_readE_73 (by decide) (fun c46 => ?_) (fun c46 => ?_)
      · have hf := jf c46 hf
        exact B_X4_readE_82 hkk hrc E  hf hM (lv_sub hl [0, 1, 2] rfl)
      · have hf := jt c46 hf
        refine lv_aload_n hx hb dX4_readE_76 rfl (lv_at hl 0 rfl) ?_
        refine lv_iload_n hx hb dX4_readE_77 rfl (lv_at hl 1 rfl) ?_
        obtain ⟨hq50, hf⟩ := jif hf
        obtain ⟨x47, S48, hc49, hf⟩ := jbd_e hf
        refine jbackI hM (jrunV E hM ci_X4_readC (hrc.2.1 hc49) lk_4_52 hq50 (by decide) rfl hl.1 rfl rfl (Nat.le_of_ble_eq_true rfl) ⟨Nat.le_refl _, Nat.le_refl _⟩ ⟨Nat.le_refl _, Nat.le_refl _⟩ dX4_readE_78) (fun H locs hM => ?_)
        exact jireti (jr2 hf) E hM dX4_readE_81
  · have hf := jt c44 hf
    refine lv_iconst (v := (-1 : Int32)) hx hb dX4_readE_66 (by decide) ?_
    exact jireti (jr2 hf) E hM dX4_readE_67
set_option maxRecDepth 100000 in
set_option maxHeartbeats 4000000 in
theorem B_X4_readE_54 {p : Program} {l : Launch} {e : Env} {s : State} {m : MethodId} {args : Array Value} {below : List Frame} {meth : Method} {c : Code} {g : jG} {rc : Nat → Nat → Int32 → Int32 → jM → Option (Int32 × jM)} {kk : Nat} (hkk : 16 ≤ kk) (hrc : jrc_P l g kk rc) {rr : Int32} {SS : jM} {v0 : Nat} {v1 : Int32} {v2 : Int32} {v3 : Int32} {t0 : Nat} {S : jM} (E : jEnv p s m args meth c cX4_readE "PensionHouse$Parser" (some .int) 6 g)  {H : Heap} {locs : List Loc} {ls : Array Slot} (hf : f_X4_readE_54 rc v0 v1 v2 v3 t0 S = some (rr, SS)) (hM : jAt g S s H locs) (hl : lv_has ls 6 [(0, .ref (g.2.2 + v0)), (1, .int v1), (2, .int v2), (3, .int v3)]) : W p l e (jRm (kk + 1) 0 0) s m args below meth c H locs 0 0 (MQ below (jQi g rr SS) args s 0 0 (jA0 g)) (F0 m 54 ls [.ref (g.2.2 + t0)]) := by
  obtain ⟨hx, hb, hml, -, hts, hown, hK, -, hstr⟩ := id E
  unfold f_X4_readE_54 at hf
  refine lv_iconst (v := (1 : Int32)) hx hb dX4_readE_54 (by decide) ?_
  refine lv_goto (tgt := 59) hx hb dX4_readE_55 (by decide) ?_
  exact B_X4_readE_59 hkk hrc E  hf hM (lv_sub hl [0, 1, 2, 3] rfl)
set_option maxRecDepth 100000 in
set_option maxHeartbeats 4000000 in
theorem B_X4_readE_37 {p : Program} {l : Launch} {e : Env} {s : State} {m : MethodId} {args : Array Value} {below : List Frame} {meth : Method} {c : Code} {g : jG} {rc : Nat → Nat → Int32 → Int32 → jM → Option (Int32 × jM)} {kk : Nat} (hkk : 16 ≤ kk) (hrc : jrc_P l g kk rc) {rr : Int32} {SS : jM} {v0 : Nat} {v1 : Int32} {v2 : Int32} {t0 : Int32} {S : jM} (E : jEnv p s m args meth c cX4_readE "PensionHouse$Parser" (some .int) 6 g)  {H : Heap} {locs : List Loc} {ls : Array Slot} (hf : f_X4_readE_37 rc v0 v1 v2 t0 S = some (rr, SS)) (hM : jAt g S s H locs) (hl : lv_has ls 6 [(0, .ref (g.2.2 + v0)), (1, .int v1), (2, .int v2)]) : W p l e (jRm (kk + 1) 0 0) s m args below meth c H locs 0 0 (MQ below (jQi g rr SS) args s 0 0 (jA0 g)) (F0 m 37 ls [.int t0]) := by
  obtain ⟨hx, hb, hml, -, hts, hown, hK, -, hstr⟩ := id E
  unfold f_X4_readE_37 at hf
  refine lv_istore_n (lv' := [(3, .int t0), (0, .ref (g.2.2 + v0)), (1, .int v1), (2, .int v2)]) hx hb dX4_readE_37 rfl hl (by decide) rfl (fun ls hl => ?_)
  refine lv_aload_n hx hb dX4_readE_38 rfl (lv_at hl 1 rfl) ?_
  refine lv_iload_n hx hb dX4_readE_39 rfl (lv_at hl 3 rfl) ?_
  refine lv_if_ne (tgt := 54) hx hb dX4_readE_40 (by decide) (fun c51 => ?_) (fun c51 => ?_)
  · have hf := jf c51 hf
    exact B_X4_readE_54 hkk hrc E  hf hM (lv_sub hl [1, 2, 3, 0] rfl)
  · have hf := jt c51 hf
    refine lv_iload_n hx hb dX4_readE_43 rfl (lv_at hl 0 rfl) ?_
    refine lv_if_ne (tgt := 54) hx hb dX4_readE_44 (by decide) (fun c52 => ?_) (fun c52 => ?_)
    · have hf := jf c52 hf
      exact B_X4_readE_54 hkk hrc E  hf hM (lv_sub hl [1, 2, 3, 0] rfl)
    · have hf := jt c52 hf
      refine lv_aload_n hx hb dX4_readE_47 rfl (lv_at hl 1 rfl) ?_
      obtain ⟨hq55, hf⟩ := jif hf
      obtain ⟨x53, hc54, hf⟩ := jb hf
      refine jbackI hM (jrunV E hM ci_X4_beginsU (C_X4_beginsU hc54) lk_4_41 hq55 (by decide) rfl hl.1 rfl rfl (Nat.le_of_ble_eq_true rfl) ⟨by show 2 + 1 ≤ kk + 1; omega, by show 49 * (2 + 1) ≤ 49 * (kk + 1); omega⟩ ⟨Nat.le_refl _, Nat.le_refl _⟩ dX4_readE_48) (fun H locs hM => ?_)
      refine lv_if_eq (tgt := 58) hx hb dX4_readE_51 (by decide) (fun c56 => ?_) (fun c56 => ?_)
      · have hf := jt c56 hf
        refine lv_iconst (v := (0 : Int32)) hx hb dX4_readE_58 (by decide) ?_
        exact B_X4_readE_59 hkk hrc E  hf hM (lv_sub hl [1, 2, 3, 0] rfl)
      · have hf := jf c56 hf
        exact B_X4_readE_54 hkk hrc E  hf hM (lv_sub hl [1, 2, 3, 0] rfl)
set_option maxRecDepth 100000 in
set_option maxHeartbeats 4000000 in
theorem B_X4_readE_18 {p : Program} {l : Launch} {e : Env} {s : State} {m : MethodId} {args : Array Value} {below : List Frame} {meth : Method} {c : Code} {g : jG} {rc : Nat → Nat → Int32 → Int32 → jM → Option (Int32 × jM)} {kk : Nat} (hkk : 16 ≤ kk) (hrc : jrc_P l g kk rc) {rr : Int32} {SS : jM} {v0 : Nat} {v1 : Int32} {t0 : Int32} {S : jM} (E : jEnv p s m args meth c cX4_readE "PensionHouse$Parser" (some .int) 6 g)  {H : Heap} {locs : List Loc} {ls : Array Slot} (hf : f_X4_readE_18 rc v0 v1 t0 S = some (rr, SS)) (hM : jAt g S s H locs) (hl : lv_has ls 6 [(0, .ref (g.2.2 + v0)), (1, .int v1)]) : W p l e (jRm (kk + 1) 0 0) s m args below meth c H locs 0 0 (MQ below (jQi g rr SS) args s 0 0 (jA0 g)) (F0 m 18 ls [.int t0]) := by
  obtain ⟨hx, hb, hml, -, hts, hown, hK, -, hstr⟩ := id E
  unfold f_X4_readE_18 at hf
  refine lv_istore_n (lv' := [(2, .int t0), (0, .ref (g.2.2 + v0)), (1, .int v1)]) hx hb dX4_readE_18 rfl hl (by decide) rfl (fun ls hl => ?_)
  refine lv_aload_n hx hb dX4_readE_19 rfl (lv_at hl 1 rfl) ?_
  obtain ⟨hq57, hf⟩ := jif hf
  refine gt_24 E hM hq57 lk_1_207 dX4_readE_20 ?_
  obtain ⟨r58, hr59, hf⟩ := jb hf
  rw [hr59]
  show W p l e _ s m args below meth c H locs 0 0 _ (F0 m _ ls (.ref (g.2.2 + r58) :: _))
  obtain ⟨hq60, hf⟩ := jif hf
  refine gt_40 E hM hq60 lk_1_142 dX4_readE_23 ?_
  refine lv_sipush (v := (149 : Int32)) hx hb dX4_readE_26 (by decide) ?_
  refine lv_icmp_ne (tgt := 36) hx hb dX4_readE_29 (by decide) (fun c61 => ?_) (fun c61 => ?_)
  · have hf := jf c61 hf
    refine lv_iconst (v := (0 : Int32)) hx hb dX4_readE_36 (by decide) ?_
    exact B_X4_readE_37 hkk hrc E  hf hM (lv_sub hl [1, 2, 0] rfl)
  · have hf := jt c61 hf
    refine lv_iconst (v := (1 : Int32)) hx hb dX4_readE_32 (by decide) ?_
    refine lv_goto (tgt := 37) hx hb dX4_readE_33 (by decide) ?_
    exact B_X4_readE_37 hkk hrc E  hf hM (lv_sub hl [1, 2, 0] rfl)
set_option maxRecDepth 100000 in
set_option maxHeartbeats 4000000 in
theorem B_X4_readE_0 {p : Program} {l : Launch} {e : Env} {s : State} {m : MethodId} {args : Array Value} {below : List Frame} {meth : Method} {c : Code} {g : jG} {rc : Nat → Nat → Int32 → Int32 → jM → Option (Int32 × jM)} {kk : Nat} (hkk : 16 ≤ kk) (hrc : jrc_P l g kk rc) {rr : Int32} {SS : jM} {v0 : Nat} {v1 : Int32} {S : jM} (E : jEnv p s m args meth c cX4_readE "PensionHouse$Parser" (some .int) 6 g)  {H : Heap} {locs : List Loc} {ls : Array Slot} (hf : f_X4_readE rc v0 v1 S = some (rr, SS)) (hM : jAt g S s H locs) (hl : lv_has ls 6 [(0, .ref (g.2.2 + v0)), (1, .int v1)]) : W p l e (jRm (kk + 1) 0 0) s m args below meth c H locs 0 0 (MQ below (jQi g rr SS) args s 0 0 (jA0 g)) (F0 m 0 ls []) := by
  obtain ⟨hx, hb, hml, -, hts, hown, hK, -, hstr⟩ := id E
  unfold f_X4_readE at hf
  refine lv_aload_n hx hb dX4_readE_0 rfl (lv_at hl 0 rfl) ?_
  obtain ⟨hq62, hf⟩ := jif hf
  refine gt_24 E hM hq62 lk_1_207 dX4_readE_1 ?_
  obtain ⟨r63, hr64, hf⟩ := jb hf
  rw [hr64]
  show W p l e _ s m args below meth c H locs 0 0 _ (F0 m _ ls (.ref (g.2.2 + r63) :: _))
  obtain ⟨hq65, hf⟩ := jif hf
  refine gt_40 E hM hq65 lk_1_142 dX4_readE_4 ?_
  refine lv_sipush (v := (135 : Int32)) hx hb dX4_readE_7 (by decide) ?_
  refine lv_icmp_ne (tgt := 17) hx hb dX4_readE_10 (by decide) (fun c66 => ?_) (fun c66 => ?_)
  · have hf := jf c66 hf
    refine lv_iconst (v := (0 : Int32)) hx hb dX4_readE_17 (by decide) ?_
    exact B_X4_readE_18 hkk hrc E  hf hM (lv_sub hl [0, 1] rfl)
  · have hf := jt c66 hf
    refine lv_iconst (v := (1 : Int32)) hx hb dX4_readE_13 (by decide) ?_
    refine lv_goto (tgt := 18) hx hb dX4_readE_14 (by decide) ?_
    exact B_X4_readE_18 hkk hrc E  hf hM (lv_sub hl [0, 1] rfl)
set_option maxRecDepth 100000 in
theorem D_X4_readE {l : Launch} {g : jG} {rc : Nat → Nat → Int32 → Int32 → jM → Option (Int32 × jM)} {kk : Nat} (hkk : 16 ≤ kk) (hrc : jrc_P l g kk rc) {a0 : Nat} {a1 : Int32} {S : jM} {rr : Int32} {SS : jM} (hf : f_X4_readE rc a0 a1 S = some (rr, SS)) : jMet l g yX4_readE cX4_readE 6 (some .int) (kk + 1) 0 0 [.ref (g.2.2 + a0), .int a1] S (jQi g rr SS) := by
  refine jof (by decide +kernel) (Nat.le_of_ble_eq_true rfl) ?_
  intro p e s m below meth c E hM ls hl
  have hl : lv_has ls 6 [(0, .ref (g.2.2 + a0)),(1, .int a1)] := hl
  exact B_X4_readE_0 hkk hrc E hf hM hl
-- PensionHouse$Parser.readC
noncomputable def f_X4_readC_42 (rc : Nat → Nat → Int32 → Int32 → jM → Option (Int32 × jM)) (v0 : Nat) (v1 : Int32) (v2 : Int32) (S : jM) : Option (Int32 × jM) := if jK v0 = 3 then (jR S 24 v0).bind (fun r2 => if jK r2 = 5 then jbd (f_X4_part v0 (jI S 40 r2) (0 : Int64) S) (fun x5 S6 => (jR S6 25 v0).bind (fun r8 => if jK r8 = 6 then (f_X8_setInner r8 x5 (0 : Int32) v2 S6).bind (fun S10 => (jR S10 25 v0).bind (fun r13 => jbd (rc 2 v0 v1 0 S10) (fun x15 S16 => if jK r13 = 6 then (f_X8_setInner r13 x5 (1 : Int32) x15 S16).bind (fun S18 => some (x5, S18)) else none))) else none)) else none) else none
noncomputable def f_X4_readC (rc : Nat → Nat → Int32 → Int32 → jM → Option (Int32 × jM)) (v0 : Nat) (v1 : Int32) (S : jM) : Option (Int32 × jM) := if jK v0 = 3 then jbd (rc 2 v0 v1 0 S) (fun x21 S22 => (f_X4_isNext v0 (60 : Int32) S22).bind (fun x25 => if x25 = 0 then (f_X4_isNext v0 (9 : Int32) S22).bind (fun x28 => if x28 = 0 then (f_X4_isNext v0 (61 : Int32) S22).bind (fun x31 => if x31 = 0 then (f_X4_isNext v0 (10 : Int32) S22).bind (fun x34 => if x34 = 0 then some (x21, S22) else f_X4_readC_42 rc v0 v1 x21 S22) else f_X4_readC_42 rc v0 v1 x21 S22) else f_X4_readC_42 rc v0 v1 x21 S22) else f_X4_readC_42 rc v0 v1 x21 S22)) else none
set_option maxRecDepth 100000 in
set_option maxHeartbeats 4000000 in
theorem B_X4_readC_42 {p : Program} {l : Launch} {e : Env} {s : State} {m : MethodId} {args : Array Value} {below : List Frame} {meth : Method} {c : Code} {g : jG} {rc : Nat → Nat → Int32 → Int32 → jM → Option (Int32 × jM)} {kk : Nat} (hkk : 16 ≤ kk) (hrc : jrc_P l g kk rc) {rr : Int32} {SS : jM} {v0 : Nat} {v1 : Int32} {v2 : Int32} {S : jM} (E : jEnv p s m args meth c cX4_readC "PensionHouse$Parser" (some .int) 4 g)  {H : Heap} {locs : List Loc} {ls : Array Slot} (hf : f_X4_readC_42 rc v0 v1 v2 S = some (rr, SS)) (hM : jAt g S s H locs) (hl : lv_has ls 4 [(0, .ref (g.2.2 + v0)), (1, .int v1), (2, .int v2)]) : W p l e (jRm (kk + 1) 0 0) s m args below meth c H locs 0 0 (MQ below (jQi g rr SS) args s 0 0 (jA0 g)) (F0 m 42 ls []) := by
  obtain ⟨hx, hb, hml, -, hts, hown, hK, -, hstr⟩ := id E
  unfold f_X4_readC_42 at hf
  refine lv_aload_n hx hb dX4_readC_42 rfl (lv_at hl 0 rfl) ?_
  refine lv_aload_n hx hb dX4_readC_43 rfl (lv_at hl 0 rfl) ?_
  obtain ⟨hq1, hf⟩ := jif hf
  refine gt_24 E hM hq1 lk_1_207 dX4_readC_44 ?_
  obtain ⟨r2, hr3, hf⟩ := jb hf
  rw [hr3]
  show W p l e _ s m args below meth c H locs 0 0 _ (F0 m _ ls (.ref (g.2.2 + r2) :: _))
  obtain ⟨hq4, hf⟩ := jif hf
  refine gt_40 E hM hq4 lk_1_142 dX4_readC_47 ?_
  refine lv_lconst (v := (0 : Int64)) hx hb dX4_readC_50 (by decide) ?_
  obtain ⟨x5, S6, hc7, hf⟩ := jbd_e hf
  refine jbackI hM (jrunV E hM ci_X4_part (C_X4_part hc7) lk_4_68 hq1 (by decide) rfl hl.1 rfl rfl (Nat.le_of_ble_eq_true rfl) ⟨by show 8 + 1 ≤ kk + 1; omega, by show 49 * (8 + 1) ≤ 49 * (kk + 1); omega⟩ ⟨Nat.le_refl _, Nat.le_refl _⟩ dX4_readC_51) (fun H locs hM => ?_)
  refine lv_istore_n (lv' := [(3, .int x5), (0, .ref (g.2.2 + v0)), (1, .int v1), (2, .int v2)]) hx hb dX4_readC_54 rfl hl (by decide) rfl (fun ls hl => ?_)
  refine lv_aload_n hx hb dX4_readC_55 rfl (lv_at hl 1 rfl) ?_
  refine gt_25 E hM hq1 lk_1_209 dX4_readC_56 ?_
  obtain ⟨r8, hr9, hf⟩ := jb hf
  rw [hr9]
  show W p l e _ s m args below meth c H locs 0 0 _ (F0 m _ ls (.ref (g.2.2 + r8) :: _))
  refine lv_iload_n hx hb dX4_readC_59 rfl (lv_at hl 0 rfl) ?_
  refine lv_iconst (v := (0 : Int32)) hx hb dX4_readC_60 (by decide) ?_
  refine lv_iload_n hx hb dX4_readC_61 rfl (lv_at hl 3 rfl) ?_
  obtain ⟨hq12, hf⟩ := jif hf
  obtain ⟨S10, hc11, hf⟩ := jb hf
  refine jbackV hM (jrunV E hM ci_X8_setInner (C_X8_setInner hc11) lk_4_76 hq12 (by decide) rfl hl.1 rfl rfl (Nat.le_of_ble_eq_true rfl) ⟨by show 1 + 1 ≤ kk + 1; omega, by show 49 * (1 + 1) ≤ 49 * (kk + 1); omega⟩ ⟨Nat.le_refl _, Nat.le_refl _⟩ dX4_readC_62) (fun H locs hM => ?_)
  refine lv_aload_n hx hb dX4_readC_65 rfl (lv_at hl 1 rfl) ?_
  refine gt_25 E hM hq1 lk_1_209 dX4_readC_66 ?_
  obtain ⟨r13, hr14, hf⟩ := jb hf
  rw [hr14]
  show W p l e _ s m args below meth c H locs 0 0 _ (F0 m _ ls (.ref (g.2.2 + r13) :: _))
  refine lv_iload_n hx hb dX4_readC_69 rfl (lv_at hl 0 rfl) ?_
  refine lv_iconst (v := (1 : Int32)) hx hb dX4_readC_70 (by decide) ?_
  refine lv_aload_n hx hb dX4_readC_71 rfl (lv_at hl 1 rfl) ?_
  refine lv_iload_n hx hb dX4_readC_72 rfl (lv_at hl 2 rfl) ?_
  obtain ⟨x15, S16, hc17, hf⟩ := jbd_e hf
  refine jbackI hM (jrunV E hM ci_X4_readA (hrc.2.2.1 hc17) lk_4_56 hq1 (by decide) rfl hl.1 rfl rfl (Nat.le_of_ble_eq_true rfl) ⟨Nat.le_refl _, Nat.le_refl _⟩ ⟨Nat.le_refl _, Nat.le_refl _⟩ dX4_readC_73) (fun H locs hM => ?_)
  obtain ⟨hq20, hf⟩ := jif hf
  obtain ⟨S18, hc19, hf⟩ := jb hf
  refine jbackV hM (jrunV E hM ci_X8_setInner (C_X8_setInner hc19) lk_4_76 hq20 (by decide) rfl hl.1 rfl rfl (Nat.le_of_ble_eq_true rfl) ⟨by show 1 + 1 ≤ kk + 1; omega, by show 49 * (1 + 1) ≤ 49 * (kk + 1); omega⟩ ⟨Nat.le_refl _, Nat.le_refl _⟩ dX4_readC_76) (fun H locs hM => ?_)
  refine lv_iload_n hx hb dX4_readC_79 rfl (lv_at hl 0 rfl) ?_
  exact jireti (jr2 hf) E hM dX4_readC_80
set_option maxRecDepth 100000 in
set_option maxHeartbeats 4000000 in
theorem B_X4_readC_0 {p : Program} {l : Launch} {e : Env} {s : State} {m : MethodId} {args : Array Value} {below : List Frame} {meth : Method} {c : Code} {g : jG} {rc : Nat → Nat → Int32 → Int32 → jM → Option (Int32 × jM)} {kk : Nat} (hkk : 16 ≤ kk) (hrc : jrc_P l g kk rc) {rr : Int32} {SS : jM} {v0 : Nat} {v1 : Int32} {S : jM} (E : jEnv p s m args meth c cX4_readC "PensionHouse$Parser" (some .int) 4 g)  {H : Heap} {locs : List Loc} {ls : Array Slot} (hf : f_X4_readC rc v0 v1 S = some (rr, SS)) (hM : jAt g S s H locs) (hl : lv_has ls 4 [(0, .ref (g.2.2 + v0)), (1, .int v1)]) : W p l e (jRm (kk + 1) 0 0) s m args below meth c H locs 0 0 (MQ below (jQi g rr SS) args s 0 0 (jA0 g)) (F0 m 0 ls []) := by
  obtain ⟨hx, hb, hml, -, hts, hown, hK, -, hstr⟩ := id E
  unfold f_X4_readC at hf
  refine lv_aload_n hx hb dX4_readC_0 rfl (lv_at hl 0 rfl) ?_
  refine lv_iload_n hx hb dX4_readC_1 rfl (lv_at hl 1 rfl) ?_
  obtain ⟨hq24, hf⟩ := jif hf
  obtain ⟨x21, S22, hc23, hf⟩ := jbd_e hf
  refine jbackI hM (jrunV E hM ci_X4_readA (hrc.2.2.1 hc23) lk_4_56 hq24 (by decide) rfl hl.1 rfl rfl (Nat.le_of_ble_eq_true rfl) ⟨Nat.le_refl _, Nat.le_refl _⟩ ⟨Nat.le_refl _, Nat.le_refl _⟩ dX4_readC_2) (fun H locs hM => ?_)
  refine lv_istore_n (lv' := [(2, .int x21), (0, .ref (g.2.2 + v0)), (1, .int v1)]) hx hb dX4_readC_5 rfl hl (by decide) rfl (fun ls hl => ?_)
  refine lv_aload_n hx hb dX4_readC_6 rfl (lv_at hl 1 rfl) ?_
  refine lv_bipush (v := (60 : Int32)) hx hb dX4_readC_7 (by decide) ?_
  obtain ⟨x25, hc26, hf⟩ := jb hf
  refine jbackI hM (jrunV E hM ci_X4_isNext (C_X4_isNext hc26) lk_4_121 hq24 (by decide) rfl hl.1 rfl rfl (Nat.le_of_ble_eq_true rfl) ⟨by show 1 + 1 ≤ kk + 1; omega, by show 49 * (1 + 1) ≤ 49 * (kk + 1); omega⟩ ⟨Nat.le_refl _, Nat.le_refl _⟩ dX4_readC_9) (fun H locs hM => ?_)
  refine lv_if_ne (tgt := 42) hx hb dX4_readC_12 (by decide) (fun c27 => ?_) (fun c27 => ?_)
  · have hf := jf c27 hf
    exact B_X4_readC_42 hkk hrc E  hf hM (lv_sub hl [1, 2, 0] rfl)
  · have hf := jt c27 hf
    refine lv_aload_n hx hb dX4_readC_15 rfl (lv_at hl 1 rfl) ?_
    refine lv_bipush (v := (9 : Int32)) hx hb dX4_readC_16 (by decide) ?_
    obtain ⟨x28, hc29, hf⟩ := jb hf
    refine jbackI hM (jrunV E hM ci_X4_isNext (C_X4_isNext hc29) lk_4_121 hq24 (by decide) rfl hl.1 rfl rfl (Nat.le_of_ble_eq_true rfl) ⟨by show 1 + 1 ≤ kk + 1; omega, by show 49 * (1 + 1) ≤ 49 * (kk + 1); omega⟩ ⟨Nat.le_refl _, Nat.le_refl _⟩ dX4_readC_18) (fun H locs hM => ?_)
    refine lv_if_ne (tgt := 42) hx hb dX4_readC_21 (by decide) (fun c30 => ?_) (fun c30 => ?_)
    · have hf := jf c30 hf
      exact B_X4_readC_42 hkk hrc E  hf hM (lv_sub hl [1, 2, 0] rfl)
    · have hf := jt c30 hf
      refine lv_aload_n hx hb dX4_readC_24 rfl (lv_at hl 1 rfl) ?_
      refine lv_bipush (v := (61 : Int32)) hx hb dX4_readC_25 (by decide) ?_
      obtain ⟨x31, hc32, hf⟩ := jb hf
      refine jbackI hM (jrunV E hM ci_X4_isNext (C_X4_isNext hc32) lk_4_121 hq24 (by decide) rfl hl.1 rfl rfl (Nat.le_of_ble_eq_true rfl) ⟨by show 1 + 1 ≤ kk + 1; omega, by show 49 * (1 + 1) ≤ 49 * (kk + 1); omega⟩ ⟨Nat.le_refl _, Nat.le_refl _⟩ dX4_readC_27) (fun H locs hM => ?_)
      refine lv_if_ne (tgt := 42) hx hb dX4_readC_30 (by decide) (fun c33 => ?_) (fun c33 => ?_)
      · have hf := jf c33 hf
        exact B_X4_readC_42 hkk hrc E  hf hM (lv_sub hl [1, 2, 0] rfl)
      · have hf := jt c33 hf
        refine lv_aload_n hx hb dX4_readC_33 rfl (lv_at hl 1 rfl) ?_
        refine lv_bipush (v := (10 : Int32)) hx hb dX4_readC_34 (by decide) ?_
        obtain ⟨x34, hc35, hf⟩ := jb hf
        refine jbackI hM (jrunV E hM ci_X4_isNext (C_X4_isNext hc35) lk_4_121 hq24 (by decide) rfl hl.1 rfl rfl (Nat.le_of_ble_eq_true rfl) ⟨by show 1 + 1 ≤ kk + 1; omega, by show 49 * (1 + 1) ≤ 49 * (kk + 1); omega⟩ ⟨Nat.le_refl _, Nat.le_refl _⟩ dX4_readC_36) (fun H locs hM => ?_)
        refine lv_if_eq (tgt := 81) hx hb dX4_readC_39 (by decide) (fun c36 => ?_) (fun c36 => ?_)
        · have hf := jt c36 hf
          refine lv_iload_n hx hb dX4_readC_81 rfl (lv_at hl 0 rfl) ?_
          exact jireti (jr2 hf) E hM dX4_readC_82
        · have hf := jf c36 hf
          exact B_X4_readC_42 hkk hrc E  hf hM (lv_sub hl [1, 2, 0] rfl)
set_option maxRecDepth 100000 in
theorem D_X4_readC {l : Launch} {g : jG} {rc : Nat → Nat → Int32 → Int32 → jM → Option (Int32 × jM)} {kk : Nat} (hkk : 16 ≤ kk) (hrc : jrc_P l g kk rc) {a0 : Nat} {a1 : Int32} {S : jM} {rr : Int32} {SS : jM} (hf : f_X4_readC rc a0 a1 S = some (rr, SS)) : jMet l g yX4_readC cX4_readC 4 (some .int) (kk + 1) 0 0 [.ref (g.2.2 + a0), .int a1] S (jQi g rr SS) := by
  refine jof (by decide +kernel) (Nat.le_of_ble_eq_true rfl) ?_
  intro p e s m below meth c E hM ls hl
  have hl : lv_has ls 4 [(0, .ref (g.2.2 + a0)),(1, .int a1)] := hl
  exact B_X4_readC_0 hkk hrc E hf hM hl
-- PensionHouse$Parser.readA
noncomputable def f_X4_readA_33 (rc : Nat → Nat → Int32 → Int32 → jM → Option (Int32 × jM)) (k8 : Nat → Int32 → Int32 → Int32 → jM → Option (Int32 × jM)) (v0 : Nat) (v1 : Int32) (v2 : Int32) (v3 : Int32) (S : jM) : Option (Int32 × jM) := if jK v0 = 3 then (jR S 24 v0).bind (fun r2 => if jK r2 = 5 then jbd (f_X4_part v0 (jI S 40 r2) (0 : Int64) S) (fun x5 S6 => (jR S6 25 v0).bind (fun r8 => if jK r8 = 6 then (f_X8_setInner r8 x5 (0 : Int32) v2 S6).bind (fun S10 => (jR S10 25 v0).bind (fun r13 => jbd (rc 3 v0 v1 0 S10) (fun x15 S16 => if jK r13 = 6 then (f_X8_setInner r13 x5 (1 : Int32) x15 S16).bind (fun S18 => jlet (v3 + (1 : Int32)) (fun x21 => k8 v0 v1 x5 x21 S18)) else none))) else none)) else none) else none
noncomputable def f_X4_readA_8 (rc : Nat → Nat → Int32 → Int32 → jM → Option (Int32 × jM)) : Nat → Nat → Int32 → Int32 → Int32 → jM → Option (Int32 × jM)
  | 0, _, _, _, _, _ => none
  | n + 1, v0, v1, v2, v3, S => if (300 : Int32) < v3 then some (v2, S) else if jK v0 = 3 then (f_X4_isNext v0 (43 : Int32) S).bind (fun x23 => if x23 = 0 then (f_X4_isNext v0 (45 : Int32) S).bind (fun x27 => if x27 = 0 then some (v2, S) else f_X4_readA_33 rc (f_X4_readA_8 rc n) v0 v1 v2 v3 S) else f_X4_readA_33 rc (f_X4_readA_8 rc n) v0 v1 v2 v3 S) else none
noncomputable def f_X4_readA (rc : Nat → Nat → Int32 → Int32 → jM → Option (Int32 × jM)) (v0 : Nat) (v1 : Int32) (S : jM) : Option (Int32 × jM) := if jK v0 = 3 then jbd (rc 3 v0 v1 0 S) (fun x30 S31 => f_X4_readA_8 rc 1100000 v0 v1 x30 (0 : Int32) S31) else none
set_option maxRecDepth 100000 in
set_option maxHeartbeats 4000000 in
theorem B_X4_readA_33 {p : Program} {l : Launch} {e : Env} {s : State} {m : MethodId} {args : Array Value} {below : List Frame} {meth : Method} {c : Code} {g : jG} {rc : Nat → Nat → Int32 → Int32 → jM → Option (Int32 × jM)} {kk : Nat} (hkk : 16 ≤ kk) (hrc : jrc_P l g kk rc) {rr : Int32} {SS : jM} {v0 : Nat} {v1 : Int32} {v2 : Int32} {v3 : Int32} {S : jM} {k8 : Nat → Int32 → Int32 → Int32 → jM → Option (Int32 × jM)} (E : jEnv p s m args meth c cX4_readA "PensionHouse$Parser" (some .int) 5 g) (hk8 : ∀ (v0 : Nat) (v1 : Int32) (v2 : Int32) (v3 : Int32) (S : jM) (H : Heap) (locs : List Loc) (ls : Array Slot), k8 v0 v1 v2 v3 S = some (rr, SS) → jAt g S s H locs → lv_has ls 5 [(0, .ref (g.2.2 + v0)), (1, .int v1), (2, .int v2), (3, .int v3)] → W p l e (jRm (kk + 1) 0 0) s m args below meth c H locs 0 0 (MQ below (jQi g rr SS) args s 0 0 (jA0 g)) (F0 m 8 ls [])) {H : Heap} {locs : List Loc} {ls : Array Slot} (hf : f_X4_readA_33 rc k8 v0 v1 v2 v3 S = some (rr, SS)) (hM : jAt g S s H locs) (hl : lv_has ls 5 [(0, .ref (g.2.2 + v0)), (1, .int v1), (2, .int v2), (3, .int v3)]) : W p l e (jRm (kk + 1) 0 0) s m args below meth c H locs 0 0 (MQ below (jQi g rr SS) args s 0 0 (jA0 g)) (F0 m 33 ls []) := by
  obtain ⟨hx, hb, hml, -, hts, hown, hK, -, hstr⟩ := id E
  unfold f_X4_readA_33 at hf
  refine lv_aload_n hx hb dX4_readA_33 rfl (lv_at hl 0 rfl) ?_
  refine lv_aload_n hx hb dX4_readA_34 rfl (lv_at hl 0 rfl) ?_
  obtain ⟨hq1, hf⟩ := jif hf
  refine gt_24 E hM hq1 lk_1_207 dX4_readA_35 ?_
  obtain ⟨r2, hr3, hf⟩ := jb hf
  rw [hr3]
  show W p l e _ s m args below meth c H locs 0 0 _ (F0 m _ ls (.ref (g.2.2 + r2) :: _))
  obtain ⟨hq4, hf⟩ := jif hf
  refine gt_40 E hM hq4 lk_1_142 dX4_readA_38 ?_
  refine lv_lconst (v := (0 : Int64)) hx hb dX4_readA_41 (by decide) ?_
  obtain ⟨x5, S6, hc7, hf⟩ := jbd_e hf
  refine jbackI hM (jrunV E hM ci_X4_part (C_X4_part hc7) lk_4_68 hq1 (by decide) rfl hl.1 rfl rfl (Nat.le_of_ble_eq_true rfl) ⟨by show 8 + 1 ≤ kk + 1; omega, by show 49 * (8 + 1) ≤ 49 * (kk + 1); omega⟩ ⟨Nat.le_refl _, Nat.le_refl _⟩ dX4_readA_42) (fun H locs hM => ?_)
  refine lv_istore (lv' := [(4, .int x5), (0, .ref (g.2.2 + v0)), (1, .int v1), (2, .int v2), (3, .int v3)]) hx hb dX4_readA_45 hl (by decide) rfl (fun ls hl => ?_)
  refine lv_aload_n hx hb dX4_readA_47 rfl (lv_at hl 1 rfl) ?_
  refine gt_25 E hM hq1 lk_1_209 dX4_readA_48 ?_
  obtain ⟨r8, hr9, hf⟩ := jb hf
  rw [hr9]
  show W p l e _ s m args below meth c H locs 0 0 _ (F0 m _ ls (.ref (g.2.2 + r8) :: _))
  refine lv_iload hx hb dX4_readA_51 (lv_at hl 0 rfl) ?_
  refine lv_iconst (v := (0 : Int32)) hx hb dX4_readA_53 (by decide) ?_
  refine lv_iload_n hx hb dX4_readA_54 rfl (lv_at hl 3 rfl) ?_
  obtain ⟨hq12, hf⟩ := jif hf
  obtain ⟨S10, hc11, hf⟩ := jb hf
  refine jbackV hM (jrunV E hM ci_X8_setInner (C_X8_setInner hc11) lk_4_76 hq12 (by decide) rfl hl.1 rfl rfl (Nat.le_of_ble_eq_true rfl) ⟨by show 1 + 1 ≤ kk + 1; omega, by show 49 * (1 + 1) ≤ 49 * (kk + 1); omega⟩ ⟨Nat.le_refl _, Nat.le_refl _⟩ dX4_readA_55) (fun H locs hM => ?_)
  refine lv_aload_n hx hb dX4_readA_58 rfl (lv_at hl 1 rfl) ?_
  refine gt_25 E hM hq1 lk_1_209 dX4_readA_59 ?_
  obtain ⟨r13, hr14, hf⟩ := jb hf
  rw [hr14]
  show W p l e _ s m args below meth c H locs 0 0 _ (F0 m _ ls (.ref (g.2.2 + r13) :: _))
  refine lv_iload hx hb dX4_readA_62 (lv_at hl 0 rfl) ?_
  refine lv_iconst (v := (1 : Int32)) hx hb dX4_readA_64 (by decide) ?_
  refine lv_aload_n hx hb dX4_readA_65 rfl (lv_at hl 1 rfl) ?_
  refine lv_iload_n hx hb dX4_readA_66 rfl (lv_at hl 2 rfl) ?_
  obtain ⟨x15, S16, hc17, hf⟩ := jbd_e hf
  refine jbackI hM (jrunV E hM ci_X4_readM (hrc.2.2.2.1 hc17) lk_4_60 hq1 (by decide) rfl hl.1 rfl rfl (Nat.le_of_ble_eq_true rfl) ⟨Nat.le_refl _, Nat.le_refl _⟩ ⟨Nat.le_refl _, Nat.le_refl _⟩ dX4_readA_67) (fun H locs hM => ?_)
  obtain ⟨hq20, hf⟩ := jif hf
  obtain ⟨S18, hc19, hf⟩ := jb hf
  refine jbackV hM (jrunV E hM ci_X8_setInner (C_X8_setInner hc19) lk_4_76 hq20 (by decide) rfl hl.1 rfl rfl (Nat.le_of_ble_eq_true rfl) ⟨by show 1 + 1 ≤ kk + 1; omega, by show 49 * (1 + 1) ≤ 49 * (kk + 1); omega⟩ ⟨Nat.le_refl _, Nat.le_refl _⟩ dX4_readA_70) (fun H locs hM => ?_)
  refine lv_iload hx hb dX4_readA_73 (lv_at hl 0 rfl) ?_
  refine lv_istore_n (lv' := [(2, .int x5), (4, .int x5), (0, .ref (g.2.2 + v0)), (1, .int v1), (3, .int v3)]) hx hb dX4_readA_75 rfl hl (by decide) rfl (fun ls hl => ?_)
  obtain ⟨x21, ex21⟩ : ∃ z, z = v3 + (1 : Int32) := ⟨_, rfl⟩
  have hf := jlet_y ex21 hf
  refine lv_iinc (v := x21) (lv' := [(3, .int x21), (2, .int x5), (4, .int x5), (0, .ref (g.2.2 + v0)), (1, .int v1)]) hx hb dX4_readA_76 hl (k := 4) rfl (by rw [ex21]; rfl) (by decide) rfl (fun ls hl => ?_)
  refine lv_goto (tgt := 8) hx hb dX4_readA_79 (by decide) ?_
  exact hk8 v0 v1 x5 x21 S18 _ _ _ hf hM (lv_sub hl [3, 4, 1, 0] rfl)
set_option maxRecDepth 100000 in
set_option maxHeartbeats 4000000 in
theorem B_X4_readA_8 {p : Program} {l : Launch} {e : Env} {s : State} {m : MethodId} {args : Array Value} {below : List Frame} {meth : Method} {c : Code} {g : jG} {rc : Nat → Nat → Int32 → Int32 → jM → Option (Int32 × jM)} {kk : Nat} (hkk : 16 ≤ kk) (hrc : jrc_P l g kk rc) {rr : Int32} {SS : jM} (E : jEnv p s m args meth c cX4_readA "PensionHouse$Parser" (some .int) 5 g)  : ∀ (n : Nat) (v0 : Nat) (v1 : Int32) (v2 : Int32) (v3 : Int32) (S : jM) (H : Heap) (locs : List Loc) (ls : Array Slot), f_X4_readA_8 rc n v0 v1 v2 v3 S = some (rr, SS) → jAt g S s H locs → lv_has ls 5 [(0, .ref (g.2.2 + v0)), (1, .int v1), (2, .int v2), (3, .int v3)] → W p l e (jRm (kk + 1) 0 0) s m args below meth c H locs 0 0 (MQ below (jQi g rr SS) args s 0 0 (jA0 g)) (F0 m 8 ls []) := by
  obtain ⟨hx, hb, hml, -, hts, hown, hK, -, hstr⟩ := id E
  intro n
  induction n with
  | zero => intro v0 v1 v2 v3 S H locs ls hf hM hl; rw [f_X4_readA_8] at hf; cases hf
  | succ n ih =>
    intro v0 v1 v2 v3 S H locs ls hf hM hl
    rw [f_X4_readA_8] at hf
    refine lv_iload_n hx hb dX4_readA_8 rfl (lv_at hl 3 rfl) ?_
    refine lv_sipush (v := (300 : Int32)) hx hb dX4_readA_9 (by decide) ?_
    refine lv_icmp_gt (tgt := 82) hx hb dX4_readA_12 (by decide) (fun c22 => ?_) (fun c22 => ?_)
    · have hf := jt c22 hf
      refine lv_iload_n hx hb dX4_readA_82 rfl (lv_at hl 2 rfl) ?_
      exact jireti (jr2 hf) E hM dX4_readA_83
    · have hf := jf c22 hf
      refine lv_aload_n hx hb dX4_readA_15 rfl (lv_at hl 0 rfl) ?_
      refine lv_bipush (v := (43 : Int32)) hx hb dX4_readA_16 (by decide) ?_
      obtain ⟨hq25, hf⟩ := jif hf
      obtain ⟨x23, hc24, hf⟩ := jb hf
      refine jbackI hM (jrunV E hM ci_X4_isNext (C_X4_isNext hc24) lk_4_121 hq25 (by decide) rfl hl.1 rfl rfl (Nat.le_of_ble_eq_true rfl) ⟨by show 1 + 1 ≤ kk + 1; omega, by show 49 * (1 + 1) ≤ 49 * (kk + 1); omega⟩ ⟨Nat.le_refl _, Nat.le_refl _⟩ dX4_readA_18) (fun H locs hM => ?_)
      refine lv_if_ne (tgt := 33) hx hb dX4_readA_21 (by decide) (fun c26 => ?_) (fun c26 => ?_)
      · have hf := jf c26 hf
        exact B_X4_readA_33 hkk hrc E ih hf hM (lv_sub hl [0, 1, 2, 3] rfl)
      · have hf := jt c26 hf
        refine lv_aload_n hx hb dX4_readA_24 rfl (lv_at hl 0 rfl) ?_
        refine lv_bipush (v := (45 : Int32)) hx hb dX4_readA_25 (by decide) ?_
        obtain ⟨x27, hc28, hf⟩ := jb hf
        refine jbackI hM (jrunV E hM ci_X4_isNext (C_X4_isNext hc28) lk_4_121 hq25 (by decide) rfl hl.1 rfl rfl (Nat.le_of_ble_eq_true rfl) ⟨by show 1 + 1 ≤ kk + 1; omega, by show 49 * (1 + 1) ≤ 49 * (kk + 1); omega⟩ ⟨Nat.le_refl _, Nat.le_refl _⟩ dX4_readA_27) (fun H locs hM => ?_)
        refine lv_if_eq (tgt := 82) hx hb dX4_readA_30 (by decide) (fun c29 => ?_) (fun c29 => ?_)
        · have hf := jt c29 hf
          refine lv_iload_n hx hb dX4_readA_82 rfl (lv_at hl 2 rfl) ?_
          exact jireti (jr2 hf) E hM dX4_readA_83
        · have hf := jf c29 hf
          exact B_X4_readA_33 hkk hrc E ih hf hM (lv_sub hl [0, 1, 2, 3] rfl)
set_option maxRecDepth 100000 in
set_option maxHeartbeats 4000000 in
theorem B_X4_readA_0 {p : Program} {l : Launch} {e : Env} {s : State} {m : MethodId} {args : Array Value} {below : List Frame} {meth : Method} {c : Code} {g : jG} {rc : Nat → Nat → Int32 → Int32 → jM → Option (Int32 × jM)} {kk : Nat} (hkk : 16 ≤ kk) (hrc : jrc_P l g kk rc) {rr : Int32} {SS : jM} {v0 : Nat} {v1 : Int32} {S : jM} (E : jEnv p s m args meth c cX4_readA "PensionHouse$Parser" (some .int) 5 g)  {H : Heap} {locs : List Loc} {ls : Array Slot} (hf : f_X4_readA rc v0 v1 S = some (rr, SS)) (hM : jAt g S s H locs) (hl : lv_has ls 5 [(0, .ref (g.2.2 + v0)), (1, .int v1)]) : W p l e (jRm (kk + 1) 0 0) s m args below meth c H locs 0 0 (MQ below (jQi g rr SS) args s 0 0 (jA0 g)) (F0 m 0 ls []) := by
  obtain ⟨hx, hb, hml, -, hts, hown, hK, -, hstr⟩ := id E
  unfold f_X4_readA at hf
  refine lv_aload_n hx hb dX4_readA_0 rfl (lv_at hl 0 rfl) ?_
  refine lv_iload_n hx hb dX4_readA_1 rfl (lv_at hl 1 rfl) ?_
  obtain ⟨hq33, hf⟩ := jif hf
  obtain ⟨x30, S31, hc32, hf⟩ := jbd_e hf
  refine jbackI hM (jrunV E hM ci_X4_readM (hrc.2.2.2.1 hc32) lk_4_60 hq33 (by decide) rfl hl.1 rfl rfl (Nat.le_of_ble_eq_true rfl) ⟨Nat.le_refl _, Nat.le_refl _⟩ ⟨Nat.le_refl _, Nat.le_refl _⟩ dX4_readA_2) (fun H locs hM => ?_)
  refine lv_istore_n (lv' := [(2, .int x30), (0, .ref (g.2.2 + v0)), (1, .int v1)]) hx hb dX4_readA_5 rfl hl (by decide) rfl (fun ls hl => ?_)
  refine lv_iconst (v := (0 : Int32)) hx hb dX4_readA_6 (by decide) ?_
  refine lv_istore_n (lv' := [(3, .int (0 : Int32)), (2, .int x30), (0, .ref (g.2.2 + v0)), (1, .int v1)]) hx hb dX4_readA_7 rfl hl (by decide) rfl (fun ls hl => ?_)
  exact B_X4_readA_8 hkk hrc E  1100000 v0 v1 x30 (0 : Int32) S31 _ _ _ hf hM (lv_sub hl [2, 3, 1, 0] rfl)
set_option maxRecDepth 100000 in
theorem D_X4_readA {l : Launch} {g : jG} {rc : Nat → Nat → Int32 → Int32 → jM → Option (Int32 × jM)} {kk : Nat} (hkk : 16 ≤ kk) (hrc : jrc_P l g kk rc) {a0 : Nat} {a1 : Int32} {S : jM} {rr : Int32} {SS : jM} (hf : f_X4_readA rc a0 a1 S = some (rr, SS)) : jMet l g yX4_readA cX4_readA 5 (some .int) (kk + 1) 0 0 [.ref (g.2.2 + a0), .int a1] S (jQi g rr SS) := by
  refine jof (by decide +kernel) (Nat.le_of_ble_eq_true rfl) ?_
  intro p e s m below meth c E hM ls hl
  have hl : lv_has ls 5 [(0, .ref (g.2.2 + a0)),(1, .int a1)] := hl
  exact B_X4_readA_0 hkk hrc E hf hM hl
-- PensionHouse$Parser.readM
noncomputable def f_X4_readM_44 (rc : Nat → Nat → Int32 → Int32 → jM → Option (Int32 × jM)) (k10 : Nat → Int32 → Int32 → Int32 → jM → Option (Int32 × jM)) (v0 : Nat) (v1 : Int32) (v2 : Int32) (v3 : Int32) (S : jM) : Option (Int32 × jM) := if jK v0 = 3 then (jR S 24 v0).bind (fun r2 => if jK r2 = 5 then jbd (f_X4_part v0 (jI S 40 r2) (0 : Int64) S) (fun x5 S6 => (jR S6 25 v0).bind (fun r8 => if jK r8 = 6 then (f_X8_setInner r8 x5 (0 : Int32) v2 S6).bind (fun S10 => (jR S10 25 v0).bind (fun r13 => jbd (rc 4 v0 (v1 + (1 : Int32)) 0 S10) (fun x15 S16 => if jK r13 = 6 then (f_X8_setInner r13 x5 (1 : Int32) x15 S16).bind (fun S18 => jlet (v3 + (1 : Int32)) (fun x21 => k10 v0 v1 x5 x21 S18)) else none))) else none)) else none) else none
noncomputable def f_X4_readM_10 (rc : Nat → Nat → Int32 → Int32 → jM → Option (Int32 × jM)) : Nat → Nat → Int32 → Int32 → Int32 → jM → Option (Int32 × jM)
  | 0, _, _, _, _, _ => none
  | n + 1, v0, v1, v2, v3, S => if (300 : Int32) < v3 then some (v2, S) else if jK v0 = 3 then (f_X4_isNext v0 (42 : Int32) S).bind (fun x23 => if x23 = 0 then (f_X4_isNext v0 (47 : Int32) S).bind (fun x27 => if x27 = 0 then (f_X4_isNext v0 (37 : Int32) S).bind (fun x30 => if x30 = 0 then some (v2, S) else f_X4_readM_44 rc (f_X4_readM_10 rc n) v0 v1 v2 v3 S) else f_X4_readM_44 rc (f_X4_readM_10 rc n) v0 v1 v2 v3 S) else f_X4_readM_44 rc (f_X4_readM_10 rc n) v0 v1 v2 v3 S) else none
noncomputable def f_X4_readM (rc : Nat → Nat → Int32 → Int32 → jM → Option (Int32 × jM)) (v0 : Nat) (v1 : Int32) (S : jM) : Option (Int32 × jM) := if jK v0 = 3 then jbd (rc 4 v0 (v1 + (1 : Int32)) 0 S) (fun x33 S34 => f_X4_readM_10 rc 1100000 v0 v1 x33 (0 : Int32) S34) else none
set_option maxRecDepth 100000 in
set_option maxHeartbeats 4000000 in
theorem B_X4_readM_44 {p : Program} {l : Launch} {e : Env} {s : State} {m : MethodId} {args : Array Value} {below : List Frame} {meth : Method} {c : Code} {g : jG} {rc : Nat → Nat → Int32 → Int32 → jM → Option (Int32 × jM)} {kk : Nat} (hkk : 16 ≤ kk) (hrc : jrc_P l g kk rc) {rr : Int32} {SS : jM} {v0 : Nat} {v1 : Int32} {v2 : Int32} {v3 : Int32} {S : jM} {k10 : Nat → Int32 → Int32 → Int32 → jM → Option (Int32 × jM)} (E : jEnv p s m args meth c cX4_readM "PensionHouse$Parser" (some .int) 5 g) (hk10 : ∀ (v0 : Nat) (v1 : Int32) (v2 : Int32) (v3 : Int32) (S : jM) (H : Heap) (locs : List Loc) (ls : Array Slot), k10 v0 v1 v2 v3 S = some (rr, SS) → jAt g S s H locs → lv_has ls 5 [(0, .ref (g.2.2 + v0)), (1, .int v1), (2, .int v2), (3, .int v3)] → W p l e (jRm (kk + 1) 0 0) s m args below meth c H locs 0 0 (MQ below (jQi g rr SS) args s 0 0 (jA0 g)) (F0 m 10 ls [])) {H : Heap} {locs : List Loc} {ls : Array Slot} (hf : f_X4_readM_44 rc k10 v0 v1 v2 v3 S = some (rr, SS)) (hM : jAt g S s H locs) (hl : lv_has ls 5 [(0, .ref (g.2.2 + v0)), (1, .int v1), (2, .int v2), (3, .int v3)]) : W p l e (jRm (kk + 1) 0 0) s m args below meth c H locs 0 0 (MQ below (jQi g rr SS) args s 0 0 (jA0 g)) (F0 m 44 ls []) := by
  obtain ⟨hx, hb, hml, -, hts, hown, hK, -, hstr⟩ := id E
  unfold f_X4_readM_44 at hf
  refine lv_aload_n hx hb dX4_readM_44 rfl (lv_at hl 0 rfl) ?_
  refine lv_aload_n hx hb dX4_readM_45 rfl (lv_at hl 0 rfl) ?_
  obtain ⟨hq1, hf⟩ := jif hf
  refine gt_24 E hM hq1 lk_1_207 dX4_readM_46 ?_
  obtain ⟨r2, hr3, hf⟩ := jb hf
  rw [hr3]
  show W p l e _ s m args below meth c H locs 0 0 _ (F0 m _ ls (.ref (g.2.2 + r2) :: _))
  obtain ⟨hq4, hf⟩ := jif hf
  refine gt_40 E hM hq4 lk_1_142 dX4_readM_49 ?_
  refine lv_lconst (v := (0 : Int64)) hx hb dX4_readM_52 (by decide) ?_
  obtain ⟨x5, S6, hc7, hf⟩ := jbd_e hf
  refine jbackI hM (jrunV E hM ci_X4_part (C_X4_part hc7) lk_4_68 hq1 (by decide) rfl hl.1 rfl rfl (Nat.le_of_ble_eq_true rfl) ⟨by show 8 + 1 ≤ kk + 1; omega, by show 49 * (8 + 1) ≤ 49 * (kk + 1); omega⟩ ⟨Nat.le_refl _, Nat.le_refl _⟩ dX4_readM_53) (fun H locs hM => ?_)
  refine lv_istore (lv' := [(4, .int x5), (0, .ref (g.2.2 + v0)), (1, .int v1), (2, .int v2), (3, .int v3)]) hx hb dX4_readM_56 hl (by decide) rfl (fun ls hl => ?_)
  refine lv_aload_n hx hb dX4_readM_58 rfl (lv_at hl 1 rfl) ?_
  refine gt_25 E hM hq1 lk_1_209 dX4_readM_59 ?_
  obtain ⟨r8, hr9, hf⟩ := jb hf
  rw [hr9]
  show W p l e _ s m args below meth c H locs 0 0 _ (F0 m _ ls (.ref (g.2.2 + r8) :: _))
  refine lv_iload hx hb dX4_readM_62 (lv_at hl 0 rfl) ?_
  refine lv_iconst (v := (0 : Int32)) hx hb dX4_readM_64 (by decide) ?_
  refine lv_iload_n hx hb dX4_readM_65 rfl (lv_at hl 3 rfl) ?_
  obtain ⟨hq12, hf⟩ := jif hf
  obtain ⟨S10, hc11, hf⟩ := jb hf
  refine jbackV hM (jrunV E hM ci_X8_setInner (C_X8_setInner hc11) lk_4_76 hq12 (by decide) rfl hl.1 rfl rfl (Nat.le_of_ble_eq_true rfl) ⟨by show 1 + 1 ≤ kk + 1; omega, by show 49 * (1 + 1) ≤ 49 * (kk + 1); omega⟩ ⟨Nat.le_refl _, Nat.le_refl _⟩ dX4_readM_66) (fun H locs hM => ?_)
  refine lv_aload_n hx hb dX4_readM_69 rfl (lv_at hl 1 rfl) ?_
  refine gt_25 E hM hq1 lk_1_209 dX4_readM_70 ?_
  obtain ⟨r13, hr14, hf⟩ := jb hf
  rw [hr14]
  show W p l e _ s m args below meth c H locs 0 0 _ (F0 m _ ls (.ref (g.2.2 + r13) :: _))
  refine lv_iload hx hb dX4_readM_73 (lv_at hl 0 rfl) ?_
  refine lv_iconst (v := (1 : Int32)) hx hb dX4_readM_75 (by decide) ?_
  refine lv_aload_n hx hb dX4_readM_76 rfl (lv_at hl 1 rfl) ?_
  refine lv_iload_n hx hb dX4_readM_77 rfl (lv_at hl 2 rfl) ?_
  refine lv_iconst (v := (1 : Int32)) hx hb dX4_readM_78 (by decide) ?_
  refine lv_iadd hx hb dX4_readM_79 ?_
  obtain ⟨x15, S16, hc17, hf⟩ := jbd_e hf
  refine jbackI hM (jrunV E hM ci_X4_readU (hrc.2.2.2.2.1 hc17) lk_4_64 hq1 (by decide) rfl hl.1 rfl rfl (Nat.le_of_ble_eq_true rfl) ⟨Nat.le_refl _, Nat.le_refl _⟩ ⟨Nat.le_refl _, Nat.le_refl _⟩ dX4_readM_80) (fun H locs hM => ?_)
  obtain ⟨hq20, hf⟩ := jif hf
  obtain ⟨S18, hc19, hf⟩ := jb hf
  refine jbackV hM (jrunV E hM ci_X8_setInner (C_X8_setInner hc19) lk_4_76 hq20 (by decide) rfl hl.1 rfl rfl (Nat.le_of_ble_eq_true rfl) ⟨by show 1 + 1 ≤ kk + 1; omega, by show 49 * (1 + 1) ≤ 49 * (kk + 1); omega⟩ ⟨Nat.le_refl _, Nat.le_refl _⟩ dX4_readM_83) (fun H locs hM => ?_)
  refine lv_iload hx hb dX4_readM_86 (lv_at hl 0 rfl) ?_
  refine lv_istore_n (lv' := [(2, .int x5), (4, .int x5), (0, .ref (g.2.2 + v0)), (1, .int v1), (3, .int v3)]) hx hb dX4_readM_88 rfl hl (by decide) rfl (fun ls hl => ?_)
  obtain ⟨x21, ex21⟩ : ∃ z, z = v3 + (1 : Int32) := ⟨_, rfl⟩
  have hf := jlet_y ex21 hf
  refine lv_iinc (v := x21) (lv' := [(3, .int x21), (2, .int x5), (4, .int x5), (0, .ref (g.2.2 + v0)), (1, .int v1)]) hx hb dX4_readM_89 hl (k := 4) rfl (by rw [ex21]; rfl) (by decide) rfl (fun ls hl => ?_)
  refine lv_goto (tgt := 10) hx hb dX4_readM_92 (by decide) ?_
  exact hk10 v0 v1 x5 x21 S18 _ _ _ hf hM (lv_sub hl [3, 4, 1, 0] rfl)
set_option maxRecDepth 100000 in
set_option maxHeartbeats 4000000 in
theorem B_X4_readM_10 {p : Program} {l : Launch} {e : Env} {s : State} {m : MethodId} {args : Array Value} {below : List Frame} {meth : Method} {c : Code} {g : jG} {rc : Nat → Nat → Int32 → Int32 → jM → Option (Int32 × jM)} {kk : Nat} (hkk : 16 ≤ kk) (hrc : jrc_P l g kk rc) {rr : Int32} {SS : jM} (E : jEnv p s m args meth c cX4_readM "PensionHouse$Parser" (some .int) 5 g)  : ∀ (n : Nat) (v0 : Nat) (v1 : Int32) (v2 : Int32) (v3 : Int32) (S : jM) (H : Heap) (locs : List Loc) (ls : Array Slot), f_X4_readM_10 rc n v0 v1 v2 v3 S = some (rr, SS) → jAt g S s H locs → lv_has ls 5 [(0, .ref (g.2.2 + v0)), (1, .int v1), (2, .int v2), (3, .int v3)] → W p l e (jRm (kk + 1) 0 0) s m args below meth c H locs 0 0 (MQ below (jQi g rr SS) args s 0 0 (jA0 g)) (F0 m 10 ls []) := by
  obtain ⟨hx, hb, hml, -, hts, hown, hK, -, hstr⟩ := id E
  intro n
  induction n with
  | zero => intro v0 v1 v2 v3 S H locs ls hf hM hl; rw [f_X4_readM_10] at hf; cases hf
  | succ n ih =>
    intro v0 v1 v2 v3 S H locs ls hf hM hl
    rw [f_X4_readM_10] at hf
    refine lv_iload_n hx hb dX4_readM_10 rfl (lv_at hl 3 rfl) ?_
    refine lv_sipush (v := (300 : Int32)) hx hb dX4_readM_11 (by decide) ?_
    refine lv_icmp_gt (tgt := 95) hx hb dX4_readM_14 (by decide) (fun c22 => ?_) (fun c22 => ?_)
    · have hf := jt c22 hf
      refine lv_iload_n hx hb dX4_readM_95 rfl (lv_at hl 2 rfl) ?_
      exact jireti (jr2 hf) E hM dX4_readM_96
    · have hf := jf c22 hf
      refine lv_aload_n hx hb dX4_readM_17 rfl (lv_at hl 0 rfl) ?_
      refine lv_bipush (v := (42 : Int32)) hx hb dX4_readM_18 (by decide) ?_
      obtain ⟨hq25, hf⟩ := jif hf
      obtain ⟨x23, hc24, hf⟩ := jb hf
      refine jbackI hM (jrunV E hM ci_X4_isNext (C_X4_isNext hc24) lk_4_121 hq25 (by decide) rfl hl.1 rfl rfl (Nat.le_of_ble_eq_true rfl) ⟨by show 1 + 1 ≤ kk + 1; omega, by show 49 * (1 + 1) ≤ 49 * (kk + 1); omega⟩ ⟨Nat.le_refl _, Nat.le_refl _⟩ dX4_readM_20) (fun H locs hM => ?_)
      refine lv_if_ne (tgt := 44) hx hb dX4_readM_23 (by decide) (fun c26 => ?_) (fun c26 => ?_)
      · have hf := jf c26 hf
        exact B_X4_readM_44 hkk hrc E ih hf hM (lv_sub hl [0, 1, 2, 3] rfl)
      · have hf := jt c26 hf
        refine lv_aload_n hx hb dX4_readM_26 rfl (lv_at hl 0 rfl) ?_
        refine lv_bipush (v := (47 : Int32)) hx hb dX4_readM_27 (by decide) ?_
        obtain ⟨x27, hc28, hf⟩ := jb hf
        refine jbackI hM (jrunV E hM ci_X4_isNext (C_X4_isNext hc28) lk_4_121 hq25 (by decide) rfl hl.1 rfl rfl (Nat.le_of_ble_eq_true rfl) ⟨by show 1 + 1 ≤ kk + 1; omega, by show 49 * (1 + 1) ≤ 49 * (kk + 1); omega⟩ ⟨Nat.le_refl _, Nat.le_refl _⟩ dX4_readM_29) (fun H locs hM => ?_)
        refine lv_if_ne (tgt := 44) hx hb dX4_readM_32 (by decide) (fun c29 => ?_) (fun c29 => ?_)
        · have hf := jf c29 hf
          exact B_X4_readM_44 hkk hrc E ih hf hM (lv_sub hl [0, 1, 2, 3] rfl)
        · have hf := jt c29 hf
          refine lv_aload_n hx hb dX4_readM_35 rfl (lv_at hl 0 rfl) ?_
          refine lv_bipush (v := (37 : Int32)) hx hb dX4_readM_36 (by decide) ?_
          obtain ⟨x30, hc31, hf⟩ := jb hf
          refine jbackI hM (jrunV E hM ci_X4_isNext (C_X4_isNext hc31) lk_4_121 hq25 (by decide) rfl hl.1 rfl rfl (Nat.le_of_ble_eq_true rfl) ⟨by show 1 + 1 ≤ kk + 1; omega, by show 49 * (1 + 1) ≤ 49 * (kk + 1); omega⟩ ⟨Nat.le_refl _, Nat.le_refl _⟩ dX4_readM_38) (fun H locs hM => ?_)
          refine lv_if_eq (tgt := 95) hx hb dX4_readM_41 (by decide) (fun c32 => ?_) (fun c32 => ?_)
          · have hf := jt c32 hf
            refine lv_iload_n hx hb dX4_readM_95 rfl (lv_at hl 2 rfl) ?_
            exact jireti (jr2 hf) E hM dX4_readM_96
          · have hf := jf c32 hf
            exact B_X4_readM_44 hkk hrc E ih hf hM (lv_sub hl [0, 1, 2, 3] rfl)
set_option maxRecDepth 100000 in
set_option maxHeartbeats 4000000 in
theorem B_X4_readM_0 {p : Program} {l : Launch} {e : Env} {s : State} {m : MethodId} {args : Array Value} {below : List Frame} {meth : Method} {c : Code} {g : jG} {rc : Nat → Nat → Int32 → Int32 → jM → Option (Int32 × jM)} {kk : Nat} (hkk : 16 ≤ kk) (hrc : jrc_P l g kk rc) {rr : Int32} {SS : jM} {v0 : Nat} {v1 : Int32} {S : jM} (E : jEnv p s m args meth c cX4_readM "PensionHouse$Parser" (some .int) 5 g)  {H : Heap} {locs : List Loc} {ls : Array Slot} (hf : f_X4_readM rc v0 v1 S = some (rr, SS)) (hM : jAt g S s H locs) (hl : lv_has ls 5 [(0, .ref (g.2.2 + v0)), (1, .int v1)]) : W p l e (jRm (kk + 1) 0 0) s m args below meth c H locs 0 0 (MQ below (jQi g rr SS) args s 0 0 (jA0 g)) (F0 m 0 ls []) := by
  obtain ⟨hx, hb, hml, -, hts, hown, hK, -, hstr⟩ := id E
  unfold f_X4_readM at hf
  refine lv_aload_n hx hb dX4_readM_0 rfl (lv_at hl 0 rfl) ?_
  refine lv_iload_n hx hb dX4_readM_1 rfl (lv_at hl 1 rfl) ?_
  refine lv_iconst (v := (1 : Int32)) hx hb dX4_readM_2 (by decide) ?_
  refine lv_iadd hx hb dX4_readM_3 ?_
  obtain ⟨hq36, hf⟩ := jif hf
  obtain ⟨x33, S34, hc35, hf⟩ := jbd_e hf
  refine jbackI hM (jrunV E hM ci_X4_readU (hrc.2.2.2.2.1 hc35) lk_4_64 hq36 (by decide) rfl hl.1 rfl rfl (Nat.le_of_ble_eq_true rfl) ⟨Nat.le_refl _, Nat.le_refl _⟩ ⟨Nat.le_refl _, Nat.le_refl _⟩ dX4_readM_4) (fun H locs hM => ?_)
  refine lv_istore_n (lv' := [(2, .int x33), (0, .ref (g.2.2 + v0)), (1, .int v1)]) hx hb dX4_readM_7 rfl hl (by decide) rfl (fun ls hl => ?_)
  refine lv_iconst (v := (0 : Int32)) hx hb dX4_readM_8 (by decide) ?_
  refine lv_istore_n (lv' := [(3, .int (0 : Int32)), (2, .int x33), (0, .ref (g.2.2 + v0)), (1, .int v1)]) hx hb dX4_readM_9 rfl hl (by decide) rfl (fun ls hl => ?_)
  exact B_X4_readM_10 hkk hrc E  1100000 v0 v1 x33 (0 : Int32) S34 _ _ _ hf hM (lv_sub hl [2, 3, 1, 0] rfl)
set_option maxRecDepth 100000 in
theorem D_X4_readM {l : Launch} {g : jG} {rc : Nat → Nat → Int32 → Int32 → jM → Option (Int32 × jM)} {kk : Nat} (hkk : 16 ≤ kk) (hrc : jrc_P l g kk rc) {a0 : Nat} {a1 : Int32} {S : jM} {rr : Int32} {SS : jM} (hf : f_X4_readM rc a0 a1 S = some (rr, SS)) : jMet l g yX4_readM cX4_readM 5 (some .int) (kk + 1) 0 0 [.ref (g.2.2 + a0), .int a1] S (jQi g rr SS) := by
  refine jof (by decide +kernel) (Nat.le_of_ble_eq_true rfl) ?_
  intro p e s m below meth c E hM ls hl
  have hl : lv_has ls 5 [(0, .ref (g.2.2 + a0)),(1, .int a1)] := hl
  exact B_X4_readM_0 hkk hrc E hf hM hl
-- PensionHouse$Parser.readU
noncomputable def f_X4_readU_59 (rc : Nat → Nat → Int32 → Int32 → jM → Option (Int32 × jM)) : Nat → Nat → Int32 → Int32 → Int32 → jM → Option (Int32 × jM)
  | 0, _, _, _, _, _ => none
  | n + 1, v0, v1, v2, v3, S => if (300 : Int32) < v3 then some (v2, S) else if jK v0 = 3 then (f_X4_isNext v0 (91 : Int32) S).bind (fun x2 => if x2 = 0 then some (v2, S) else jbd (f_X4_part v0 (91 : Int32) (0 : Int64) S) (fun x6 S7 => (jR S7 25 v0).bind (fun r9 => if jK r9 = 6 then (f_X8_setInner r9 x6 (0 : Int32) v2 S7).bind (fun S11 => (jR S11 25 v0).bind (fun r14 => jbd (rc 0 v0 (v1 + (1 : Int32)) 0 S11) (fun x16 S17 => if jK r14 = 6 then (f_X8_setInner r14 x6 (1 : Int32) x16 S17).bind (fun S19 => (f_X4_take v0 (93 : Int32) S19).bind (fun S22 => jlet (v3 + (1 : Int32)) (fun x24 => (f_X4_readU_59 rc n) v0 v1 x6 x24 S22))) else none))) else none))) else none
noncomputable def f_X4_readU (rc : Nat → Nat → Int32 → Int32 → jM → Option (Int32 × jM)) (v0 : Nat) (v1 : Int32) (S : jM) : Option (Int32 × jM) := if jK v0 = 3 then (f_X4_beginsU v0 S).bind (fun x25 => jbd (f_X4_mayBegin v0 x25 v1 S) (fun x28 S29 => if x28 = 0 then some ((-1 : Int32), S29) else (jR S29 24 v0).bind (fun r32 => if jK r32 = 5 then if (jI S29 40 r32) = (45 : Int32) then jbd (f_X4_part v0 (5 : Int32) (0 : Int64) S29) (fun x39 S40 => (jR S40 25 v0).bind (fun r42 => jbd (rc 4 v0 (v1 + (1 : Int32)) 0 S40) (fun x44 S45 => if jK r42 = 6 then (f_X8_setInner r42 x39 (0 : Int32) x44 S45).bind (fun S47 => some (x39, S47)) else none))) else jbd (rc 5 v0 v1 0 S29) (fun x36 S37 => f_X4_readU_59 rc 1100000 v0 v1 x36 (0 : Int32) S37) else none))) else none
set_option maxRecDepth 100000 in
set_option maxHeartbeats 4000000 in
theorem B_X4_readU_59 {p : Program} {l : Launch} {e : Env} {s : State} {m : MethodId} {args : Array Value} {below : List Frame} {meth : Method} {c : Code} {g : jG} {rc : Nat → Nat → Int32 → Int32 → jM → Option (Int32 × jM)} {kk : Nat} (hkk : 16 ≤ kk) (hrc : jrc_P l g kk rc) {rr : Int32} {SS : jM} (E : jEnv p s m args meth c cX4_readU "PensionHouse$Parser" (some .int) 5 g)  : ∀ (n : Nat) (v0 : Nat) (v1 : Int32) (v2 : Int32) (v3 : Int32) (S : jM) (H : Heap) (locs : List Loc) (ls : Array Slot), f_X4_readU_59 rc n v0 v1 v2 v3 S = some (rr, SS) → jAt g S s H locs → lv_has ls 5 [(0, .ref (g.2.2 + v0)), (1, .int v1), (2, .int v2), (3, .int v3)] → W p l e (jRm (kk + 1) 0 0) s m args below meth c H locs 0 0 (MQ below (jQi g rr SS) args s 0 0 (jA0 g)) (F0 m 59 ls []) := by
  obtain ⟨hx, hb, hml, -, hts, hown, hK, -, hstr⟩ := id E
  intro n
  induction n with
  | zero => intro v0 v1 v2 v3 S H locs ls hf hM hl; rw [f_X4_readU_59] at hf; cases hf
  | succ n ih =>
    intro v0 v1 v2 v3 S H locs ls hf hM hl
    rw [f_X4_readU_59] at hf
    refine lv_iload_n hx hb dX4_readU_59 rfl (lv_at hl 3 rfl) ?_
    refine lv_sipush (v := (300 : Int32)) hx hb dX4_readU_60 (by decide) ?_
    refine lv_icmp_gt (tgt := 127) hx hb dX4_readU_63 (by decide) (fun c1 => ?_) (fun c1 => ?_)
    · have hf := jt c1 hf
      refine lv_iload_n hx hb dX4_readU_127 rfl (lv_at hl 2 rfl) ?_
      exact jireti (jr2 hf) E hM dX4_readU_128
    · have hf := jf c1 hf
      refine lv_aload_n hx hb dX4_readU_66 rfl (lv_at hl 0 rfl) ?_
      refine lv_bipush (v := (91 : Int32)) hx hb dX4_readU_67 (by decide) ?_
      obtain ⟨hq4, hf⟩ := jif hf
      obtain ⟨x2, hc3, hf⟩ := jb hf
      refine jbackI hM (jrunV E hM ci_X4_isNext (C_X4_isNext hc3) lk_4_121 hq4 (by decide) rfl hl.1 rfl rfl (Nat.le_of_ble_eq_true rfl) ⟨by show 1 + 1 ≤ kk + 1; omega, by show 49 * (1 + 1) ≤ 49 * (kk + 1); omega⟩ ⟨Nat.le_refl _, Nat.le_refl _⟩ dX4_readU_69) (fun H locs hM => ?_)
      refine lv_if_eq (tgt := 127) hx hb dX4_readU_72 (by decide) (fun c5 => ?_) (fun c5 => ?_)
      · have hf := jt c5 hf
        refine lv_iload_n hx hb dX4_readU_127 rfl (lv_at hl 2 rfl) ?_
        exact jireti (jr2 hf) E hM dX4_readU_128
      · have hf := jf c5 hf
        refine lv_aload_n hx hb dX4_readU_75 rfl (lv_at hl 0 rfl) ?_
        refine lv_bipush (v := (91 : Int32)) hx hb dX4_readU_76 (by decide) ?_
        refine lv_lconst (v := (0 : Int64)) hx hb dX4_readU_78 (by decide) ?_
        obtain ⟨x6, S7, hc8, hf⟩ := jbd_e hf
        refine jbackI hM (jrunV E hM ci_X4_part (C_X4_part hc8) lk_4_68 hq4 (by decide) rfl hl.1 rfl rfl (Nat.le_of_ble_eq_true rfl) ⟨by show 8 + 1 ≤ kk + 1; omega, by show 49 * (8 + 1) ≤ 49 * (kk + 1); omega⟩ ⟨Nat.le_refl _, Nat.le_refl _⟩ dX4_readU_79) (fun H locs hM => ?_)
        refine lv_istore (lv' := [(4, .int x6), (0, .ref (g.2.2 + v0)), (1, .int v1), (2, .int v2), (3, .int v3)]) hx hb dX4_readU_82 hl (by decide) rfl (fun ls hl => ?_)
        refine lv_aload_n hx hb dX4_readU_84 rfl (lv_at hl 1 rfl) ?_
        refine gt_25 E hM hq4 lk_1_209 dX4_readU_85 ?_
        obtain ⟨r9, hr10, hf⟩ := jb hf
        rw [hr10]
        show W p l e _ s m args below meth c H locs 0 0 _ (F0 m _ ls (.ref (g.2.2 + r9) :: _))
        refine lv_iload hx hb dX4_readU_88 (lv_at hl 0 rfl) ?_
        refine lv_iconst (v := (0 : Int32)) hx hb dX4_readU_90 (by decide) ?_
        refine lv_iload_n hx hb dX4_readU_91 rfl (lv_at hl 3 rfl) ?_
        obtain ⟨hq13, hf⟩ := jif hf
        obtain ⟨S11, hc12, hf⟩ := jb hf
        refine jbackV hM (jrunV E hM ci_X8_setInner (C_X8_setInner hc12) lk_4_76 hq13 (by decide) rfl hl.1 rfl rfl (Nat.le_of_ble_eq_true rfl) ⟨by show 1 + 1 ≤ kk + 1; omega, by show 49 * (1 + 1) ≤ 49 * (kk + 1); omega⟩ ⟨Nat.le_refl _, Nat.le_refl _⟩ dX4_readU_92) (fun H locs hM => ?_)
        refine lv_aload_n hx hb dX4_readU_95 rfl (lv_at hl 1 rfl) ?_
        refine gt_25 E hM hq4 lk_1_209 dX4_readU_96 ?_
        obtain ⟨r14, hr15, hf⟩ := jb hf
        rw [hr15]
        show W p l e _ s m args below meth c H locs 0 0 _ (F0 m _ ls (.ref (g.2.2 + r14) :: _))
        refine lv_iload hx hb dX4_readU_99 (lv_at hl 0 rfl) ?_
        refine lv_iconst (v := (1 : Int32)) hx hb dX4_readU_101 (by decide) ?_
        refine lv_aload_n hx hb dX4_readU_102 rfl (lv_at hl 1 rfl) ?_
        refine lv_iload_n hx hb dX4_readU_103 rfl (lv_at hl 2 rfl) ?_
        refine lv_iconst (v := (1 : Int32)) hx hb dX4_readU_104 (by decide) ?_
        refine lv_iadd hx hb dX4_readU_105 ?_
        obtain ⟨x16, S17, hc18, hf⟩ := jbd_e hf
        refine jbackI hM (jrunV E hM ci_X4_readE (hrc.1 hc18) lk_4_37 hq4 (by decide) rfl hl.1 rfl rfl (Nat.le_of_ble_eq_true rfl) ⟨Nat.le_refl _, Nat.le_refl _⟩ ⟨Nat.le_refl _, Nat.le_refl _⟩ dX4_readU_106) (fun H locs hM => ?_)
        obtain ⟨hq21, hf⟩ := jif hf
        obtain ⟨S19, hc20, hf⟩ := jb hf
        refine jbackV hM (jrunV E hM ci_X8_setInner (C_X8_setInner hc20) lk_4_76 hq21 (by decide) rfl hl.1 rfl rfl (Nat.le_of_ble_eq_true rfl) ⟨by show 1 + 1 ≤ kk + 1; omega, by show 49 * (1 + 1) ≤ 49 * (kk + 1); omega⟩ ⟨Nat.le_refl _, Nat.le_refl _⟩ dX4_readU_109) (fun H locs hM => ?_)
        refine lv_aload_n hx hb dX4_readU_112 rfl (lv_at hl 1 rfl) ?_
        refine lv_bipush (v := (93 : Int32)) hx hb dX4_readU_113 (by decide) ?_
        obtain ⟨S22, hc23, hf⟩ := jb hf
        refine jbackV hM (jrunV E hM ci_X4_take (C_X4_take hc23) lk_4_25 hq4 (by decide) rfl hl.1 rfl rfl (Nat.le_of_ble_eq_true rfl) ⟨by show 8 + 1 ≤ kk + 1; omega, by show 49 * (8 + 1) ≤ 49 * (kk + 1); omega⟩ ⟨Nat.le_refl _, Nat.le_refl _⟩ dX4_readU_115) (fun H locs hM => ?_)
        refine lv_iload hx hb dX4_readU_118 (lv_at hl 0 rfl) ?_
        refine lv_istore_n (lv' := [(2, .int x6), (4, .int x6), (0, .ref (g.2.2 + v0)), (1, .int v1), (3, .int v3)]) hx hb dX4_readU_120 rfl hl (by decide) rfl (fun ls hl => ?_)
        obtain ⟨x24, ex24⟩ : ∃ z, z = v3 + (1 : Int32) := ⟨_, rfl⟩
        have hf := jlet_y ex24 hf
        refine lv_iinc (v := x24) (lv' := [(3, .int x24), (2, .int x6), (4, .int x6), (0, .ref (g.2.2 + v0)), (1, .int v1)]) hx hb dX4_readU_121 hl (k := 4) rfl (by rw [ex24]; rfl) (by decide) rfl (fun ls hl => ?_)
        refine lv_goto (tgt := 59) hx hb dX4_readU_124 (by decide) ?_
        exact ih v0 v1 x6 x24 S22 _ _ _ hf hM (lv_sub hl [3, 4, 1, 0] rfl)
set_option maxRecDepth 100000 in
set_option maxHeartbeats 4000000 in
theorem B_X4_readU_0 {p : Program} {l : Launch} {e : Env} {s : State} {m : MethodId} {args : Array Value} {below : List Frame} {meth : Method} {c : Code} {g : jG} {rc : Nat → Nat → Int32 → Int32 → jM → Option (Int32 × jM)} {kk : Nat} (hkk : 16 ≤ kk) (hrc : jrc_P l g kk rc) {rr : Int32} {SS : jM} {v0 : Nat} {v1 : Int32} {S : jM} (E : jEnv p s m args meth c cX4_readU "PensionHouse$Parser" (some .int) 5 g)  {H : Heap} {locs : List Loc} {ls : Array Slot} (hf : f_X4_readU rc v0 v1 S = some (rr, SS)) (hM : jAt g S s H locs) (hl : lv_has ls 5 [(0, .ref (g.2.2 + v0)), (1, .int v1)]) : W p l e (jRm (kk + 1) 0 0) s m args below meth c H locs 0 0 (MQ below (jQi g rr SS) args s 0 0 (jA0 g)) (F0 m 0 ls []) := by
  obtain ⟨hx, hb, hml, -, hts, hown, hK, -, hstr⟩ := id E
  unfold f_X4_readU at hf
  refine lv_aload_n hx hb dX4_readU_0 rfl (lv_at hl 0 rfl) ?_
  refine lv_aload_n hx hb dX4_readU_1 rfl (lv_at hl 0 rfl) ?_
  obtain ⟨hq27, hf⟩ := jif hf
  obtain ⟨x25, hc26, hf⟩ := jb hf
  refine jbackI hM (jrunV E hM ci_X4_beginsU (C_X4_beginsU hc26) lk_4_41 hq27 (by decide) rfl hl.1 rfl rfl (Nat.le_of_ble_eq_true rfl) ⟨by show 2 + 1 ≤ kk + 1; omega, by show 49 * (2 + 1) ≤ 49 * (kk + 1); omega⟩ ⟨Nat.le_refl _, Nat.le_refl _⟩ dX4_readU_2) (fun H locs hM => ?_)
  refine lv_iload_n hx hb dX4_readU_5 rfl (lv_at hl 1 rfl) ?_
  obtain ⟨x28, S29, hc30, hf⟩ := jbd_e hf
  refine jbackI hM (jrunV E hM ci_X4_mayBegin (C_X4_mayBegin hc30) lk_4_48 hq27 (by decide) rfl hl.1 rfl rfl (Nat.le_of_ble_eq_true rfl) ⟨by show 3 + 1 ≤ kk + 1; omega, by show 49 * (3 + 1) ≤ 49 * (kk + 1); omega⟩ ⟨Nat.le_refl _, Nat.le_refl _⟩ dX4_readU_6) (fun H locs hM => ?_)
  refine lv_if_ne (tgt := 14) hx hb dX4_readU_9 (by decide) (fun c31 => ?_) (fun c31 => ?_)
  · have hf := jf c31 hf
    refine lv_aload_n hx hb dX4_readU_14 rfl (lv_at hl 0 rfl) ?_
    refine gt_24 E hM hq27 lk_1_207 dX4_readU_15 ?_
    obtain ⟨r32, hr33, hf⟩ := jb hf
    rw [hr33]
    show W p l e _ s m args below meth c H locs 0 0 _ (F0 m _ ls (.ref (g.2.2 + r32) :: _))
    obtain ⟨hq34, hf⟩ := jif hf
    refine gt_40 E hM hq34 lk_1_142 dX4_readU_18 ?_
    refine lv_bipush (v := (45 : Int32)) hx hb dX4_readU_21 (by decide) ?_
    refine lv_icmp_ne (tgt := 51) hx hb dX4_readU_23 (by decide) (fun c35 => ?_) (fun c35 => ?_)
    · have hf := jf c35 hf
      refine lv_aload_n hx hb dX4_readU_51 rfl (lv_at hl 0 rfl) ?_
      refine lv_iload_n hx hb dX4_readU_52 rfl (lv_at hl 1 rfl) ?_
      obtain ⟨x36, S37, hc38, hf⟩ := jbd_e hf
      refine jbackI hM (jrunV E hM ci_X4_readP (hrc.2.2.2.2.2.1 hc38) lk_4_80 hq27 (by decide) rfl hl.1 rfl rfl (Nat.le_of_ble_eq_true rfl) ⟨Nat.le_refl _, Nat.le_refl _⟩ ⟨Nat.le_refl _, Nat.le_refl _⟩ dX4_readU_53) (fun H locs hM => ?_)
      refine lv_istore_n (lv' := [(2, .int x36), (0, .ref (g.2.2 + v0)), (1, .int v1)]) hx hb dX4_readU_56 rfl hl (by decide) rfl (fun ls hl => ?_)
      refine lv_iconst (v := (0 : Int32)) hx hb dX4_readU_57 (by decide) ?_
      refine lv_istore_n (lv' := [(3, .int (0 : Int32)), (2, .int x36), (0, .ref (g.2.2 + v0)), (1, .int v1)]) hx hb dX4_readU_58 rfl hl (by decide) rfl (fun ls hl => ?_)
      exact B_X4_readU_59 hkk hrc E  1100000 v0 v1 x36 (0 : Int32) S37 _ _ _ hf hM (lv_sub hl [2, 3, 1, 0] rfl)
    · have hf := jt c35 hf
      refine lv_aload_n hx hb dX4_readU_26 rfl (lv_at hl 0 rfl) ?_
      refine lv_iconst (v := (5 : Int32)) hx hb dX4_readU_27 (by decide) ?_
      refine lv_lconst (v := (0 : Int64)) hx hb dX4_readU_28 (by decide) ?_
      obtain ⟨x39, S40, hc41, hf⟩ := jbd_e hf
      refine jbackI hM (jrunV E hM ci_X4_part (C_X4_part hc41) lk_4_68 hq27 (by decide) rfl hl.1 rfl rfl (Nat.le_of_ble_eq_true rfl) ⟨by show 8 + 1 ≤ kk + 1; omega, by show 49 * (8 + 1) ≤ 49 * (kk + 1); omega⟩ ⟨Nat.le_refl _, Nat.le_refl _⟩ dX4_readU_29) (fun H locs hM => ?_)
      refine lv_istore_n (lv' := [(2, .int x39), (0, .ref (g.2.2 + v0)), (1, .int v1)]) hx hb dX4_readU_32 rfl hl (by decide) rfl (fun ls hl => ?_)
      refine lv_aload_n hx hb dX4_readU_33 rfl (lv_at hl 1 rfl) ?_
      refine gt_25 E hM hq27 lk_1_209 dX4_readU_34 ?_
      obtain ⟨r42, hr43, hf⟩ := jb hf
      rw [hr43]
      show W p l e _ s m args below meth c H locs 0 0 _ (F0 m _ ls (.ref (g.2.2 + r42) :: _))
      refine lv_iload_n hx hb dX4_readU_37 rfl (lv_at hl 0 rfl) ?_
      refine lv_iconst (v := (0 : Int32)) hx hb dX4_readU_38 (by decide) ?_
      refine lv_aload_n hx hb dX4_readU_39 rfl (lv_at hl 1 rfl) ?_
      refine lv_iload_n hx hb dX4_readU_40 rfl (lv_at hl 2 rfl) ?_
      refine lv_iconst (v := (1 : Int32)) hx hb dX4_readU_41 (by decide) ?_
      refine lv_iadd hx hb dX4_readU_42 ?_
      obtain ⟨x44, S45, hc46, hf⟩ := jbd_e hf
      refine jbackI hM (jrunV E hM ci_X4_readU (hrc.2.2.2.2.1 hc46) lk_4_64 hq27 (by decide) rfl hl.1 rfl rfl (Nat.le_of_ble_eq_true rfl) ⟨Nat.le_refl _, Nat.le_refl _⟩ ⟨Nat.le_refl _, Nat.le_refl _⟩ dX4_readU_43) (fun H locs hM => ?_)
      obtain ⟨hq49, hf⟩ := jif hf
      obtain ⟨S47, hc48, hf⟩ := jb hf
      refine jbackV hM (jrunV E hM ci_X8_setInner (C_X8_setInner hc48) lk_4_76 hq49 (by decide) rfl hl.1 rfl rfl (Nat.le_of_ble_eq_true rfl) ⟨by show 1 + 1 ≤ kk + 1; omega, by show 49 * (1 + 1) ≤ 49 * (kk + 1); omega⟩ ⟨Nat.le_refl _, Nat.le_refl _⟩ dX4_readU_46) (fun H locs hM => ?_)
      refine lv_iload_n hx hb dX4_readU_49 rfl (lv_at hl 0 rfl) ?_
      exact jireti (jr2 hf) E hM dX4_readU_50
  · have hf := jt c31 hf
    refine lv_iconst (v := (-1 : Int32)) hx hb dX4_readU_12 (by decide) ?_
    exact jireti (jr2 hf) E hM dX4_readU_13
set_option maxRecDepth 100000 in
theorem D_X4_readU {l : Launch} {g : jG} {rc : Nat → Nat → Int32 → Int32 → jM → Option (Int32 × jM)} {kk : Nat} (hkk : 16 ≤ kk) (hrc : jrc_P l g kk rc) {a0 : Nat} {a1 : Int32} {S : jM} {rr : Int32} {SS : jM} (hf : f_X4_readU rc a0 a1 S = some (rr, SS)) : jMet l g yX4_readU cX4_readU 5 (some .int) (kk + 1) 0 0 [.ref (g.2.2 + a0), .int a1] S (jQi g rr SS) := by
  refine jof (by decide +kernel) (Nat.le_of_ble_eq_true rfl) ?_
  intro p e s m below meth c E hM ls hl
  have hl : lv_has ls 5 [(0, .ref (g.2.2 + a0)),(1, .int a1)] := hl
  exact B_X4_readU_0 hkk hrc E hf hM hl
-- PensionHouse$Parser.readP
noncomputable def f_X4_readP (rc : Nat → Nat → Int32 → Int32 → jM → Option (Int32 × jM)) (v0 : Nat) (v1 : Int32) (S : jM) : Option (Int32 × jM) := if jK v0 = 3 then (jR S 24 v0).bind (fun r2 => if jK r2 = 5 then jlet (jI S 40 r2) (fun x5 => if x5 = (2 : Int32) then (jR S 24 v0).bind (fun r6 => if jK r6 = 5 then (f_X4_sumOf v0 (jL S 42 r6) S).bind (fun x9 => (jR S 25 v0).bind (fun r11 => (jR S 24 v0).bind (fun r13 => if jK r13 = 5 then if jK r11 = 6 then (f_X8_ruleNamed r11 (jL S 42 r13) S).bind (fun x16 => if x9 = (-1 : Int32) then if x16 = (-1 : Int32) then (jR S 24 v0).bind (fun r21 => if jK r21 = 5 then jbd (f_X4_part v0 (8 : Int32) (jL S 42 r21) S) (fun x24 S25 => some (x24, S25)) else none) else jbd (f_X4_part v0 (7 : Int32) (x16.toInt64) S) (fun x27 S28 => some (x27, S28)) else jbd (f_X4_part v0 (6 : Int32) (x9.toInt64) S) (fun x30 S31 => some (x30, S31))) else none else none))) else none) else if x5 = (3 : Int32) then (jR S 24 v0).bind (fun r34 => if jK r34 = 5 then jbd (f_X4_part v0 (3 : Int32) (jL S 42 r34) S) (fun x37 S38 => some (x37, S38)) else none) else if x5 = (4 : Int32) then (jR S 24 v0).bind (fun r41 => if jK r41 = 5 then (jR S 24 v0).bind (fun r44 => if jK r44 = 5 then (f_X5_decimal (jL S 42 r41) (jI S 43 r44)).bind (fun x47 => jbd (f_X4_part v0 (4 : Int32) x47 S) (fun x49 S50 => some (x49, S50))) else none) else none) else if x5 = (40 : Int32) then (f_X4_take v0 (40 : Int32) S).bind (fun S53 => jbd (rc 0 v0 (v1 + (1 : Int32)) 0 S53) (fun x55 S56 => (f_X4_take v0 (41 : Int32) S56).bind (fun S58 => some (x55, S58)))) else if x5 = (131 : Int32) then jbd (f_X4_part v0 (131 : Int32) (0 : Int64) S) (fun x61 S62 => some (x61, S62)) else if x5 = (146 : Int32) then jbd (rc 6 v0 v1 0 S) (fun x65 S66 => some (x65, S66)) else jbd (rc 7 v0 v1 0 S) (fun x69 S70 => some (x69, S70))) else none) else none
set_option maxRecDepth 100000 in
set_option maxHeartbeats 4000000 in
theorem B_X4_readP_0 {p : Program} {l : Launch} {e : Env} {s : State} {m : MethodId} {args : Array Value} {below : List Frame} {meth : Method} {c : Code} {g : jG} {rc : Nat → Nat → Int32 → Int32 → jM → Option (Int32 × jM)} {kk : Nat} (hkk : 16 ≤ kk) (hrc : jrc_P l g kk rc) {rr : Int32} {SS : jM} {v0 : Nat} {v1 : Int32} {S : jM} (E : jEnv p s m args meth c cX4_readP "PensionHouse$Parser" (some .int) 5 g)  {H : Heap} {locs : List Loc} {ls : Array Slot} (hf : f_X4_readP rc v0 v1 S = some (rr, SS)) (hM : jAt g S s H locs) (hl : lv_has ls 5 [(0, .ref (g.2.2 + v0)), (1, .int v1)]) : W p l e (jRm (kk + 1) 0 0) s m args below meth c H locs 0 0 (MQ below (jQi g rr SS) args s 0 0 (jA0 g)) (F0 m 0 ls []) := by
  obtain ⟨hx, hb, hml, -, hts, hown, hK, -, hstr⟩ := id E
  unfold f_X4_readP at hf
  refine lv_aload_n hx hb dX4_readP_0 rfl (lv_at hl 0 rfl) ?_
  obtain ⟨hq1, hf⟩ := jif hf
  refine gt_24 E hM hq1 lk_1_207 dX4_readP_1 ?_
  obtain ⟨r2, hr3, hf⟩ := jb hf
  rw [hr3]
  show W p l e _ s m args below meth c H locs 0 0 _ (F0 m _ ls (.ref (g.2.2 + r2) :: _))
  obtain ⟨hq4, hf⟩ := jif hf
  refine gt_40 E hM hq4 lk_1_142 dX4_readP_4 ?_
  refine lv_topi (fun x5 ex5 => ?_)
  have hf := jlet_y ex5 hf
  by_cases c33 : x5 = (2 : Int32)
  · have hf := jt c33 hf
    refine lv_lookup (off := 102) (tgt := 109) hx hb dX4_readP_7 (by decide) (by rw [c33]; rfl) (by decide) ?_
    refine lv_aload_n hx hb dX4_readP_109 rfl (lv_at hl 0 rfl) ?_
    refine lv_aload_n hx hb dX4_readP_110 rfl (lv_at hl 0 rfl) ?_
    refine gt_24 E hM hq1 lk_1_207 dX4_readP_111 ?_
    obtain ⟨r6, hr7, hf⟩ := jb hf
    rw [hr7]
    show W p l e _ s m args below meth c H locs 0 0 _ (F0 m _ ls (.ref (g.2.2 + r6) :: _))
    obtain ⟨hq8, hf⟩ := jif hf
    refine gt_42 E hM hq8 lk_1_146 dX4_readP_114 ?_
    obtain ⟨x9, hc10, hf⟩ := jb hf
    refine jbackI hM (jrunV E hM ci_X4_sumOf (C_X4_sumOf hc10) lk_4_109 hq1 (by decide) rfl hl.1 rfl rfl (Nat.le_of_ble_eq_true rfl) ⟨by show 1 + 1 ≤ kk + 1; omega, by show 49 * (1 + 1) ≤ 49 * (kk + 1); omega⟩ ⟨Nat.le_refl _, Nat.le_refl _⟩ dX4_readP_117) (fun H locs hM => ?_)
    refine lv_istore_n (lv' := [(2, .int x9), (0, .ref (g.2.2 + v0)), (1, .int v1)]) hx hb dX4_readP_120 rfl hl (by decide) rfl (fun ls hl => ?_)
    refine lv_aload_n hx hb dX4_readP_121 rfl (lv_at hl 1 rfl) ?_
    refine gt_25 E hM hq1 lk_1_209 dX4_readP_122 ?_
    obtain ⟨r11, hr12, hf⟩ := jb hf
    rw [hr12]
    show W p l e _ s m args below meth c H locs 0 0 _ (F0 m _ ls (.ref (g.2.2 + r11) :: _))
    refine lv_aload_n hx hb dX4_readP_125 rfl (lv_at hl 1 rfl) ?_
    refine gt_24 E hM hq1 lk_1_207 dX4_readP_126 ?_
    obtain ⟨r13, hr14, hf⟩ := jb hf
    rw [hr14]
    show W p l e _ s m args below meth c H locs 0 0 _ (F0 m _ ls (.ref (g.2.2 + r13) :: _))
    obtain ⟨hq15, hf⟩ := jif hf
    refine gt_42 E hM hq15 lk_1_146 dX4_readP_129 ?_
    obtain ⟨hq18, hf⟩ := jif hf
    obtain ⟨x16, hc17, hf⟩ := jb hf
    refine jbackI hM (jrunV E hM ci_X8_ruleNamed (C_X8_ruleNamed hc17) lk_4_33 hq18 (by decide) rfl hl.1 rfl rfl (Nat.le_of_ble_eq_true rfl) ⟨by show 1 + 1 ≤ kk + 1; omega, by show 49 * (1 + 1) ≤ 49 * (kk + 1); omega⟩ ⟨Nat.le_refl _, Nat.le_refl _⟩ dX4_readP_132) (fun H locs hM => ?_)
    refine lv_istore_n (lv' := [(3, .int x16), (2, .int x9), (0, .ref (g.2.2 + v0)), (1, .int v1)]) hx hb dX4_readP_135 rfl hl (by decide) rfl (fun ls hl => ?_)
    refine lv_iload_n hx hb dX4_readP_136 rfl (lv_at hl 1 rfl) ?_
    refine lv_iconst (v := (-1 : Int32)) hx hb dX4_readP_137 (by decide) ?_
    refine lv_icmp_eq (tgt := 150) hx hb dX4_readP_138 (by decide) (fun c19 => ?_) (fun c19 => ?_)
    · have hf := jt c19 hf
      refine lv_iload_n hx hb dX4_readP_150 rfl (lv_at hl 0 rfl) ?_
      refine lv_iconst (v := (-1 : Int32)) hx hb dX4_readP_151 (by decide) ?_
      refine lv_icmp_eq (tgt := 166) hx hb dX4_readP_152 (by decide) (fun c20 => ?_) (fun c20 => ?_)
      · have hf := jt c20 hf
        refine lv_aload_n hx hb dX4_readP_166 rfl (lv_at hl 2 rfl) ?_
        refine lv_bipush (v := (8 : Int32)) hx hb dX4_readP_167 (by decide) ?_
        refine lv_aload_n hx hb dX4_readP_169 rfl (lv_at hl 2 rfl) ?_
        refine gt_24 E hM hq1 lk_1_207 dX4_readP_170 ?_
        obtain ⟨r21, hr22, hf⟩ := jb hf
        rw [hr22]
        show W p l e _ s m args below meth c H locs 0 0 _ (F0 m _ ls (.ref (g.2.2 + r21) :: _))
        obtain ⟨hq23, hf⟩ := jif hf
        refine gt_42 E hM hq23 lk_1_146 dX4_readP_173 ?_
        obtain ⟨x24, S25, hc26, hf⟩ := jbd_e hf
        refine jbackI hM (jrunV E hM ci_X4_part (C_X4_part hc26) lk_4_68 hq1 (by decide) rfl hl.1 rfl rfl (Nat.le_of_ble_eq_true rfl) ⟨by show 8 + 1 ≤ kk + 1; omega, by show 49 * (8 + 1) ≤ 49 * (kk + 1); omega⟩ ⟨Nat.le_refl _, Nat.le_refl _⟩ dX4_readP_176) (fun H locs hM => ?_)
        exact jireti (jr2 hf) E hM dX4_readP_179
      · have hf := jf c20 hf
        refine lv_aload_n hx hb dX4_readP_155 rfl (lv_at hl 2 rfl) ?_
        refine lv_bipush (v := (7 : Int32)) hx hb dX4_readP_156 (by decide) ?_
        refine lv_iload_n hx hb dX4_readP_158 rfl (lv_at hl 0 rfl) ?_
        refine lv_i2l hx hb dX4_readP_159 rfl ?_
        obtain ⟨x27, S28, hc29, hf⟩ := jbd_e hf
        refine jbackI hM (jrunV E hM ci_X4_part (C_X4_part hc29) lk_4_68 hq1 (by decide) rfl hl.1 rfl rfl (Nat.le_of_ble_eq_true rfl) ⟨by show 8 + 1 ≤ kk + 1; omega, by show 49 * (8 + 1) ≤ 49 * (kk + 1); omega⟩ ⟨Nat.le_refl _, Nat.le_refl _⟩ dX4_readP_160) (fun H locs hM => ?_)
        refine lv_goto (tgt := 179) hx hb dX4_readP_163 (by decide) ?_
        exact jireti (jr2 hf) E hM dX4_readP_179
    · have hf := jf c19 hf
      refine lv_aload_n hx hb dX4_readP_141 rfl (lv_at hl 2 rfl) ?_
      refine lv_bipush (v := (6 : Int32)) hx hb dX4_readP_142 (by decide) ?_
      refine lv_iload_n hx hb dX4_readP_144 rfl (lv_at hl 1 rfl) ?_
      refine lv_i2l hx hb dX4_readP_145 rfl ?_
      obtain ⟨x30, S31, hc32, hf⟩ := jbd_e hf
      refine jbackI hM (jrunV E hM ci_X4_part (C_X4_part hc32) lk_4_68 hq1 (by decide) rfl hl.1 rfl rfl (Nat.le_of_ble_eq_true rfl) ⟨by show 8 + 1 ≤ kk + 1; omega, by show 49 * (8 + 1) ≤ 49 * (kk + 1); omega⟩ ⟨Nat.le_refl _, Nat.le_refl _⟩ dX4_readP_146) (fun H locs hM => ?_)
      exact jireti (jr2 hf) E hM dX4_readP_149
  have hf := jf c33 hf
  by_cases c40 : x5 = (3 : Int32)
  · have hf := jt c40 hf
    refine lv_lookup (off := 57) (tgt := 64) hx hb dX4_readP_7 (by decide) (by rw [c40]; rfl) (by decide) ?_
    refine lv_aload_n hx hb dX4_readP_64 rfl (lv_at hl 0 rfl) ?_
    refine lv_iconst (v := (3 : Int32)) hx hb dX4_readP_65 (by decide) ?_
    refine lv_aload_n hx hb dX4_readP_66 rfl (lv_at hl 0 rfl) ?_
    refine gt_24 E hM hq1 lk_1_207 dX4_readP_67 ?_
    obtain ⟨r34, hr35, hf⟩ := jb hf
    rw [hr35]
    show W p l e _ s m args below meth c H locs 0 0 _ (F0 m _ ls (.ref (g.2.2 + r34) :: _))
    obtain ⟨hq36, hf⟩ := jif hf
    refine gt_42 E hM hq36 lk_1_146 dX4_readP_70 ?_
    obtain ⟨x37, S38, hc39, hf⟩ := jbd_e hf
    refine jbackI hM (jrunV E hM ci_X4_part (C_X4_part hc39) lk_4_68 hq1 (by decide) rfl hl.1 rfl rfl (Nat.le_of_ble_eq_true rfl) ⟨by show 8 + 1 ≤ kk + 1; omega, by show 49 * (8 + 1) ≤ 49 * (kk + 1); omega⟩ ⟨Nat.le_refl _, Nat.le_refl _⟩ dX4_readP_73) (fun H locs hM => ?_)
    exact jireti (jr2 hf) E hM dX4_readP_76
  have hf := jf c40 hf
  by_cases c52 : x5 = (4 : Int32)
  · have hf := jt c52 hf
    refine lv_lookup (off := 70) (tgt := 77) hx hb dX4_readP_7 (by decide) (by rw [c52]; rfl) (by decide) ?_
    refine lv_aload_n hx hb dX4_readP_77 rfl (lv_at hl 0 rfl) ?_
    refine lv_iconst (v := (4 : Int32)) hx hb dX4_readP_78 (by decide) ?_
    refine lv_aload_n hx hb dX4_readP_79 rfl (lv_at hl 0 rfl) ?_
    refine gt_24 E hM hq1 lk_1_207 dX4_readP_80 ?_
    obtain ⟨r41, hr42, hf⟩ := jb hf
    rw [hr42]
    show W p l e _ s m args below meth c H locs 0 0 _ (F0 m _ ls (.ref (g.2.2 + r41) :: _))
    obtain ⟨hq43, hf⟩ := jif hf
    refine gt_42 E hM hq43 lk_1_146 dX4_readP_83 ?_
    refine lv_aload_n hx hb dX4_readP_86 rfl (lv_at hl 0 rfl) ?_
    refine gt_24 E hM hq1 lk_1_207 dX4_readP_87 ?_
    obtain ⟨r44, hr45, hf⟩ := jb hf
    rw [hr45]
    show W p l e _ s m args below meth c H locs 0 0 _ (F0 m _ ls (.ref (g.2.2 + r44) :: _))
    obtain ⟨hq46, hf⟩ := jif hf
    refine gt_43 E hM hq46 lk_1_149 dX4_readP_90 ?_
    obtain ⟨x47, hc48, hf⟩ := jb hf
    refine jbackL hM (jrunS E hM ci_X5_decimal (C_X5_decimal hc48) lk_4_84 hl.1 rfl rfl (Nat.le_of_ble_eq_true rfl) ⟨by show 3 + 1 ≤ kk + 1; omega, by show 49 * (3 + 1) ≤ 49 * (kk + 1); omega⟩ ⟨Nat.le_refl _, Nat.le_refl _⟩ dX4_readP_93) (fun H locs hM => ?_)
    obtain ⟨x49, S50, hc51, hf⟩ := jbd_e hf
    refine jbackI hM (jrunV E hM ci_X4_part (C_X4_part hc51) lk_4_68 hq1 (by decide) rfl hl.1 rfl rfl (Nat.le_of_ble_eq_true rfl) ⟨by show 8 + 1 ≤ kk + 1; omega, by show 49 * (8 + 1) ≤ 49 * (kk + 1); omega⟩ ⟨Nat.le_refl _, Nat.le_refl _⟩ dX4_readP_96) (fun H locs hM => ?_)
    exact jireti (jr2 hf) E hM dX4_readP_99
  have hf := jf c52 hf
  by_cases c60 : x5 = (40 : Int32)
  · have hf := jt c60 hf
    refine lv_lookup (off := 179) (tgt := 186) hx hb dX4_readP_7 (by decide) (by rw [c60]; rfl) (by decide) ?_
    refine lv_aload_n hx hb dX4_readP_186 rfl (lv_at hl 0 rfl) ?_
    refine lv_bipush (v := (40 : Int32)) hx hb dX4_readP_187 (by decide) ?_
    obtain ⟨S53, hc54, hf⟩ := jb hf
    refine jbackV hM (jrunV E hM ci_X4_take (C_X4_take hc54) lk_4_25 hq1 (by decide) rfl hl.1 rfl rfl (Nat.le_of_ble_eq_true rfl) ⟨by show 8 + 1 ≤ kk + 1; omega, by show 49 * (8 + 1) ≤ 49 * (kk + 1); omega⟩ ⟨Nat.le_refl _, Nat.le_refl _⟩ dX4_readP_189) (fun H locs hM => ?_)
    refine lv_aload_n hx hb dX4_readP_192 rfl (lv_at hl 0 rfl) ?_
    refine lv_iload_n hx hb dX4_readP_193 rfl (lv_at hl 1 rfl) ?_
    refine lv_iconst (v := (1 : Int32)) hx hb dX4_readP_194 (by decide) ?_
    refine lv_iadd hx hb dX4_readP_195 ?_
    obtain ⟨x55, S56, hc57, hf⟩ := jbd_e hf
    refine jbackI hM (jrunV E hM ci_X4_readE (hrc.1 hc57) lk_4_37 hq1 (by decide) rfl hl.1 rfl rfl (Nat.le_of_ble_eq_true rfl) ⟨Nat.le_refl _, Nat.le_refl _⟩ ⟨Nat.le_refl _, Nat.le_refl _⟩ dX4_readP_196) (fun H locs hM => ?_)
    refine lv_istore (lv' := [(4, .int x55), (0, .ref (g.2.2 + v0)), (1, .int v1)]) hx hb dX4_readP_199 hl (by decide) rfl (fun ls hl => ?_)
    refine lv_aload_n hx hb dX4_readP_201 rfl (lv_at hl 1 rfl) ?_
    refine lv_bipush (v := (41 : Int32)) hx hb dX4_readP_202 (by decide) ?_
    obtain ⟨S58, hc59, hf⟩ := jb hf
    refine jbackV hM (jrunV E hM ci_X4_take (C_X4_take hc59) lk_4_25 hq1 (by decide) rfl hl.1 rfl rfl (Nat.le_of_ble_eq_true rfl) ⟨by show 8 + 1 ≤ kk + 1; omega, by show 49 * (8 + 1) ≤ 49 * (kk + 1); omega⟩ ⟨Nat.le_refl _, Nat.le_refl _⟩ dX4_readP_204) (fun H locs hM => ?_)
    refine lv_iload hx hb dX4_readP_207 (lv_at hl 0 rfl) ?_
    exact jireti (jr2 hf) E hM dX4_readP_209
  have hf := jf c60 hf
  by_cases c64 : x5 = (131 : Int32)
  · have hf := jt c64 hf
    refine lv_lookup (off := 93) (tgt := 100) hx hb dX4_readP_7 (by decide) (by rw [c64]; rfl) (by decide) ?_
    refine lv_aload_n hx hb dX4_readP_100 rfl (lv_at hl 0 rfl) ?_
    refine lv_sipush (v := (131 : Int32)) hx hb dX4_readP_101 (by decide) ?_
    refine lv_lconst (v := (0 : Int64)) hx hb dX4_readP_104 (by decide) ?_
    obtain ⟨x61, S62, hc63, hf⟩ := jbd_e hf
    refine jbackI hM (jrunV E hM ci_X4_part (C_X4_part hc63) lk_4_68 hq1 (by decide) rfl hl.1 rfl rfl (Nat.le_of_ble_eq_true rfl) ⟨by show 8 + 1 ≤ kk + 1; omega, by show 49 * (8 + 1) ≤ 49 * (kk + 1); omega⟩ ⟨Nat.le_refl _, Nat.le_refl _⟩ dX4_readP_105) (fun H locs hM => ?_)
    exact jireti (jr2 hf) E hM dX4_readP_108
  have hf := jf c64 hf
  by_cases c68 : x5 = (146 : Int32)
  · have hf := jt c68 hf
    refine lv_lookup (off := 173) (tgt := 180) hx hb dX4_readP_7 (by decide) (by rw [c68]; rfl) (by decide) ?_
    refine lv_aload_n hx hb dX4_readP_180 rfl (lv_at hl 0 rfl) ?_
    refine lv_iload_n hx hb dX4_readP_181 rfl (lv_at hl 1 rfl) ?_
    obtain ⟨x65, S66, hc67, hf⟩ := jbd_e hf
    refine jbackI hM (jrunV E hM ci_X4_readSum (hrc.2.2.2.2.2.2.1 hc67) lk_4_113 hq1 (by decide) rfl hl.1 rfl rfl (Nat.le_of_ble_eq_true rfl) ⟨Nat.le_refl _, Nat.le_refl _⟩ ⟨Nat.le_refl _, Nat.le_refl _⟩ dX4_readP_182) (fun H locs hM => ?_)
    exact jireti (jr2 hf) E hM dX4_readP_185
  have hf := jf c68 hf
  refine jlookD (tgt := 210) hx hb dX4_readP_7 (by decide) (by decide) (List.forall_mem_cons.mpr ⟨jne (k := 2) c33 rfl, List.forall_mem_cons.mpr ⟨jne (k := 3) c40 rfl, List.forall_mem_cons.mpr ⟨jne (k := 4) c52 rfl, List.forall_mem_cons.mpr ⟨jne (k := 40) c60 rfl, List.forall_mem_cons.mpr ⟨jne (k := 131) c64 rfl, List.forall_mem_cons.mpr ⟨jne (k := 146) c68 rfl, fun _ h => absurd h List.not_mem_nil⟩⟩⟩⟩⟩⟩) ?_
  refine lv_aload_n hx hb dX4_readP_210 rfl (lv_at hl 0 rfl) ?_
  refine lv_iload_n hx hb dX4_readP_211 rfl (lv_at hl 1 rfl) ?_
  obtain ⟨x69, S70, hc71, hf⟩ := jbd_e hf
  refine jbackI hM (jrunV E hM ci_X4_readFunction (hrc.2.2.2.2.2.2.2 hc71) lk_4_117 hq1 (by decide) rfl hl.1 rfl rfl (Nat.le_of_ble_eq_true rfl) ⟨Nat.le_refl _, Nat.le_refl _⟩ ⟨Nat.le_refl _, Nat.le_refl _⟩ dX4_readP_212) (fun H locs hM => ?_)
  exact jireti (jr2 hf) E hM dX4_readP_215
set_option maxRecDepth 100000 in
theorem D_X4_readP {l : Launch} {g : jG} {rc : Nat → Nat → Int32 → Int32 → jM → Option (Int32 × jM)} {kk : Nat} (hkk : 16 ≤ kk) (hrc : jrc_P l g kk rc) {a0 : Nat} {a1 : Int32} {S : jM} {rr : Int32} {SS : jM} (hf : f_X4_readP rc a0 a1 S = some (rr, SS)) : jMet l g yX4_readP cX4_readP 5 (some .int) (kk + 1) 0 0 [.ref (g.2.2 + a0), .int a1] S (jQi g rr SS) := by
  refine jof (by decide +kernel) (Nat.le_of_ble_eq_true rfl) ?_
  intro p e s m below meth c E hM ls hl
  have hl : lv_has ls 5 [(0, .ref (g.2.2 + a0)),(1, .int a1)] := hl
  exact B_X4_readP_0 hkk hrc E hf hM hl
-- PensionHouse$Parser.readSum
noncomputable def f_X4_readSum (rc : Nat → Nat → Int32 → Int32 → jM → Option (Int32 × jM)) (v0 : Nat) (v1 : Int32) (S : jM) : Option (Int32 × jM) := if jK v0 = 3 then jbd (f_X4_part v0 (146 : Int32) (0 : Int64) S) (fun x1 S2 => (jR S2 24 v0).bind (fun r5 => if jK r5 = 5 then jlet (jL S2 42 r5) (fun x8 => (f_X4_take v0 (2 : Int32) S2).bind (fun S9 => (f_X4_take v0 (134 : Int32) S9).bind (fun S11 => (jR S11 25 v0).bind (fun r13 => jbd (rc 0 v0 (v1 + (1 : Int32)) 0 S11) (fun x15 S16 => if jK r13 = 6 then (f_X8_setInner r13 x1 (0 : Int32) x15 S16).bind (fun S18 => (f_X4_take v0 (148 : Int32) S18).bind (fun S21 => (jR S21 25 v0).bind (fun r23 => jbd (rc 0 v0 (v1 + (1 : Int32)) 0 S21) (fun x25 S26 => if jK r23 = 6 then (f_X8_setInner r23 x1 (1 : Int32) x25 S26).bind (fun S28 => (f_X4_take v0 (142 : Int32) S28).bind (fun S31 => if (jI S31 26 v0) = 0 then if (20 : Int32) ≤ (jI S31 30 v0) then some (x1, S31) else (jR S31 28 v0).bind (fun r35 => if jA r35 14 (jI S31 30 v0) = true then jlet (jrL S31 r35 (vp_updL (jAL S31 r35) (jI S31 30 v0).toNatClampNeg x8)) (fun S38 => (jR S38 29 v0).bind (fun r39 => if jA r39 13 (jI S38 30 v0) = true then jlet (jrI S38 r39 (upd (jAI S38 r39) (jI S38 30 v0).toNatClampNeg x1)) (fun S42 => jlet (jsI S42 30 v0 ((jI S42 30 v0) + (1 : Int32))) (fun S43 => (jR S43 25 v0).bind (fun r44 => jbd (rc 4 v0 (v1 + (1 : Int32)) 0 S43) (fun x46 S47 => if jK r44 = 6 then (f_X8_setInner r44 x1 (2 : Int32) x46 S47).bind (fun S49 => jlet (jsI S49 30 v0 ((jI S49 30 v0) - (1 : Int32))) (fun S52 => some (x1, S52))) else none)))) else none)) else none) else some (x1, S31))) else none)))) else none))))) else none)) else none
set_option maxRecDepth 100000 in
set_option maxHeartbeats 4000000 in
theorem B_X4_readSum_0 {p : Program} {l : Launch} {e : Env} {s : State} {m : MethodId} {args : Array Value} {below : List Frame} {meth : Method} {c : Code} {g : jG} {rc : Nat → Nat → Int32 → Int32 → jM → Option (Int32 × jM)} {kk : Nat} (hkk : 16 ≤ kk) (hrc : jrc_P l g kk rc) {rr : Int32} {SS : jM} {v0 : Nat} {v1 : Int32} {S : jM} (E : jEnv p s m args meth c cX4_readSum "PensionHouse$Parser" (some .int) 5 g)  {H : Heap} {locs : List Loc} {ls : Array Slot} (hf : f_X4_readSum rc v0 v1 S = some (rr, SS)) (hM : jAt g S s H locs) (hl : lv_has ls 5 [(0, .ref (g.2.2 + v0)), (1, .int v1)]) : W p l e (jRm (kk + 1) 0 0) s m args below meth c H locs 0 0 (MQ below (jQi g rr SS) args s 0 0 (jA0 g)) (F0 m 0 ls []) := by
  obtain ⟨hx, hb, hml, -, hts, hown, hK, -, hstr⟩ := id E
  unfold f_X4_readSum at hf
  refine lv_aload_n hx hb dX4_readSum_0 rfl (lv_at hl 0 rfl) ?_
  refine lv_sipush (v := (146 : Int32)) hx hb dX4_readSum_1 (by decide) ?_
  refine lv_lconst (v := (0 : Int64)) hx hb dX4_readSum_4 (by decide) ?_
  obtain ⟨hq4, hf⟩ := jif hf
  obtain ⟨x1, S2, hc3, hf⟩ := jbd_e hf
  refine jbackI hM (jrunV E hM ci_X4_part (C_X4_part hc3) lk_4_68 hq4 (by decide) rfl hl.1 rfl rfl (Nat.le_of_ble_eq_true rfl) ⟨by show 8 + 1 ≤ kk + 1; omega, by show 49 * (8 + 1) ≤ 49 * (kk + 1); omega⟩ ⟨Nat.le_refl _, Nat.le_refl _⟩ dX4_readSum_5) (fun H locs hM => ?_)
  refine lv_istore_n (lv' := [(2, .int x1), (0, .ref (g.2.2 + v0)), (1, .int v1)]) hx hb dX4_readSum_8 rfl hl (by decide) rfl (fun ls hl => ?_)
  refine lv_aload_n hx hb dX4_readSum_9 rfl (lv_at hl 1 rfl) ?_
  refine gt_24 E hM hq4 lk_1_207 dX4_readSum_10 ?_
  obtain ⟨r5, hr6, hf⟩ := jb hf
  rw [hr6]
  show W p l e _ s m args below meth c H locs 0 0 _ (F0 m _ ls (.ref (g.2.2 + r5) :: _))
  obtain ⟨hq7, hf⟩ := jif hf
  refine gt_42 E hM hq7 lk_1_146 dX4_readSum_13 ?_
  refine lv_topl (fun x8 ex8 => ?_)
  have hf := jlet_y ex8 hf
  refine lv_lstore_n (lv' := [(3, .long x8), (2, .int x1), (0, .ref (g.2.2 + v0)), (1, .int v1)]) hx hb dX4_readSum_16 rfl hl (by decide) rfl (fun ls hl => ?_)
  refine lv_aload_n hx hb dX4_readSum_17 rfl (lv_at hl 2 rfl) ?_
  refine lv_iconst (v := (2 : Int32)) hx hb dX4_readSum_18 (by decide) ?_
  obtain ⟨S9, hc10, hf⟩ := jb hf
  refine jbackV hM (jrunV E hM ci_X4_take (C_X4_take hc10) lk_4_25 hq4 (by decide) rfl hl.1 rfl rfl (Nat.le_of_ble_eq_true rfl) ⟨by show 8 + 1 ≤ kk + 1; omega, by show 49 * (8 + 1) ≤ 49 * (kk + 1); omega⟩ ⟨Nat.le_refl _, Nat.le_refl _⟩ dX4_readSum_19) (fun H locs hM => ?_)
  refine lv_aload_n hx hb dX4_readSum_22 rfl (lv_at hl 2 rfl) ?_
  refine lv_sipush (v := (134 : Int32)) hx hb dX4_readSum_23 (by decide) ?_
  obtain ⟨S11, hc12, hf⟩ := jb hf
  refine jbackV hM (jrunV E hM ci_X4_take (C_X4_take hc12) lk_4_25 hq4 (by decide) rfl hl.1 rfl rfl (Nat.le_of_ble_eq_true rfl) ⟨by show 8 + 1 ≤ kk + 1; omega, by show 49 * (8 + 1) ≤ 49 * (kk + 1); omega⟩ ⟨Nat.le_refl _, Nat.le_refl _⟩ dX4_readSum_26) (fun H locs hM => ?_)
  refine lv_aload_n hx hb dX4_readSum_29 rfl (lv_at hl 2 rfl) ?_
  refine gt_25 E hM hq4 lk_1_209 dX4_readSum_30 ?_
  obtain ⟨r13, hr14, hf⟩ := jb hf
  rw [hr14]
  show W p l e _ s m args below meth c H locs 0 0 _ (F0 m _ ls (.ref (g.2.2 + r13) :: _))
  refine lv_iload_n hx hb dX4_readSum_33 rfl (lv_at hl 1 rfl) ?_
  refine lv_iconst (v := (0 : Int32)) hx hb dX4_readSum_34 (by decide) ?_
  refine lv_aload_n hx hb dX4_readSum_35 rfl (lv_at hl 2 rfl) ?_
  refine lv_iload_n hx hb dX4_readSum_36 rfl (lv_at hl 3 rfl) ?_
  refine lv_iconst (v := (1 : Int32)) hx hb dX4_readSum_37 (by decide) ?_
  refine lv_iadd hx hb dX4_readSum_38 ?_
  obtain ⟨x15, S16, hc17, hf⟩ := jbd_e hf
  refine jbackI hM (jrunV E hM ci_X4_readE (hrc.1 hc17) lk_4_37 hq4 (by decide) rfl hl.1 rfl rfl (Nat.le_of_ble_eq_true rfl) ⟨Nat.le_refl _, Nat.le_refl _⟩ ⟨Nat.le_refl _, Nat.le_refl _⟩ dX4_readSum_39) (fun H locs hM => ?_)
  obtain ⟨hq20, hf⟩ := jif hf
  obtain ⟨S18, hc19, hf⟩ := jb hf
  refine jbackV hM (jrunV E hM ci_X8_setInner (C_X8_setInner hc19) lk_4_76 hq20 (by decide) rfl hl.1 rfl rfl (Nat.le_of_ble_eq_true rfl) ⟨by show 1 + 1 ≤ kk + 1; omega, by show 49 * (1 + 1) ≤ 49 * (kk + 1); omega⟩ ⟨Nat.le_refl _, Nat.le_refl _⟩ dX4_readSum_42) (fun H locs hM => ?_)
  refine lv_aload_n hx hb dX4_readSum_45 rfl (lv_at hl 2 rfl) ?_
  refine lv_sipush (v := (148 : Int32)) hx hb dX4_readSum_46 (by decide) ?_
  obtain ⟨S21, hc22, hf⟩ := jb hf
  refine jbackV hM (jrunV E hM ci_X4_take (C_X4_take hc22) lk_4_25 hq4 (by decide) rfl hl.1 rfl rfl (Nat.le_of_ble_eq_true rfl) ⟨by show 8 + 1 ≤ kk + 1; omega, by show 49 * (8 + 1) ≤ 49 * (kk + 1); omega⟩ ⟨Nat.le_refl _, Nat.le_refl _⟩ dX4_readSum_49) (fun H locs hM => ?_)
  refine lv_aload_n hx hb dX4_readSum_52 rfl (lv_at hl 2 rfl) ?_
  refine gt_25 E hM hq4 lk_1_209 dX4_readSum_53 ?_
  obtain ⟨r23, hr24, hf⟩ := jb hf
  rw [hr24]
  show W p l e _ s m args below meth c H locs 0 0 _ (F0 m _ ls (.ref (g.2.2 + r23) :: _))
  refine lv_iload_n hx hb dX4_readSum_56 rfl (lv_at hl 1 rfl) ?_
  refine lv_iconst (v := (1 : Int32)) hx hb dX4_readSum_57 (by decide) ?_
  refine lv_aload_n hx hb dX4_readSum_58 rfl (lv_at hl 2 rfl) ?_
  refine lv_iload_n hx hb dX4_readSum_59 rfl (lv_at hl 3 rfl) ?_
  refine lv_iconst (v := (1 : Int32)) hx hb dX4_readSum_60 (by decide) ?_
  refine lv_iadd hx hb dX4_readSum_61 ?_
  obtain ⟨x25, S26, hc27, hf⟩ := jbd_e hf
  refine jbackI hM (jrunV E hM ci_X4_readE (hrc.1 hc27) lk_4_37 hq4 (by decide) rfl hl.1 rfl rfl (Nat.le_of_ble_eq_true rfl) ⟨Nat.le_refl _, Nat.le_refl _⟩ ⟨Nat.le_refl _, Nat.le_refl _⟩ dX4_readSum_62) (fun H locs hM => ?_)
  obtain ⟨hq30, hf⟩ := jif hf
  obtain ⟨S28, hc29, hf⟩ := jb hf
  refine jbackV hM (jrunV E hM ci_X8_setInner (C_X8_setInner hc29) lk_4_76 hq30 (by decide) rfl hl.1 rfl rfl (Nat.le_of_ble_eq_true rfl) ⟨by show 1 + 1 ≤ kk + 1; omega, by show 49 * (1 + 1) ≤ 49 * (kk + 1); omega⟩ ⟨Nat.le_refl _, Nat.le_refl _⟩ dX4_readSum_65) (fun H locs hM => ?_)
  refine lv_aload_n hx hb dX4_readSum_68 rfl (lv_at hl 2 rfl) ?_
  refine lv_sipush (v := (142 : Int32)) hx hb dX4_readSum_69 (by decide) ?_
  obtain ⟨S31, hc32, hf⟩ := jb hf
  refine jbackV hM (jrunV E hM ci_X4_take (C_X4_take hc32) lk_4_25 hq4 (by decide) rfl hl.1 rfl rfl (Nat.le_of_ble_eq_true rfl) ⟨by show 8 + 1 ≤ kk + 1; omega, by show 49 * (8 + 1) ≤ 49 * (kk + 1); omega⟩ ⟨Nat.le_refl _, Nat.le_refl _⟩ dX4_readSum_72) (fun H locs hM => ?_)
  refine lv_aload_n hx hb dX4_readSum_75 rfl (lv_at hl 2 rfl) ?_
  refine gt_26 E hM hq4 lk_1_211 dX4_readSum_76 ?_
  refine lv_if_ne (tgt := 147) hx hb dX4_readSum_79 (by decide) (fun c33 => ?_) (fun c33 => ?_)
  · have hf := jf c33 hf
    refine lv_iload_n hx hb dX4_readSum_147 rfl (lv_at hl 1 rfl) ?_
    exact jireti (jr2 hf) E hM dX4_readSum_148
  · have hf := jt c33 hf
    refine lv_aload_n hx hb dX4_readSum_82 rfl (lv_at hl 2 rfl) ?_
    refine gt_30 E hM hq4 lk_1_217 dX4_readSum_83 ?_
    refine lv_bipush (v := (20 : Int32)) hx hb dX4_readSum_86 (by decide) ?_
    refine lv_icmp_ge (tgt := 147) hx hb dX4_readSum_88 (by decide) (fun c34 => ?_) (fun c34 => ?_)
    · have hf := jt c34 hf
      refine lv_iload_n hx hb dX4_readSum_147 rfl (lv_at hl 1 rfl) ?_
      exact jireti (jr2 hf) E hM dX4_readSum_148
    · have hf := jf c34 hf
      refine lv_aload_n hx hb dX4_readSum_91 rfl (lv_at hl 2 rfl) ?_
      refine gt_28 E hM hq4 lk_1_215 dX4_readSum_92 ?_
      obtain ⟨r35, hr36, hf⟩ := jb hf
      rw [hr36]
      show W p l e _ s m args below meth c H locs 0 0 _ (F0 m _ ls (.ref (g.2.2 + r35) :: _))
      refine lv_aload_n hx hb dX4_readSum_95 rfl (lv_at hl 2 rfl) ?_
      refine gt_30 E hM hq4 lk_1_217 dX4_readSum_96 ?_
      refine lv_lload_n hx hb dX4_readSum_99 rfl (lv_at hl 0 rfl) ?_
      obtain ⟨ha37, hf⟩ := jif hf
      refine jlast E hM ha37 dX4_readSum_100 (fun H locs S38 eS38 hM => ?_)
      have hf := jlet_y eS38 hf
      refine lv_aload_n hx hb dX4_readSum_101 rfl (lv_at hl 2 rfl) ?_
      refine gt_29 E hM hq4 lk_1_216 dX4_readSum_102 ?_
      obtain ⟨r39, hr40, hf⟩ := jb hf
      rw [hr40]
      show W p l e _ s m args below meth c H locs 0 0 _ (F0 m _ ls (.ref (g.2.2 + r39) :: _))
      refine lv_aload_n hx hb dX4_readSum_105 rfl (lv_at hl 2 rfl) ?_
      refine gt_30 E hM hq4 lk_1_217 dX4_readSum_106 ?_
      refine lv_iload_n hx hb dX4_readSum_109 rfl (lv_at hl 1 rfl) ?_
      obtain ⟨ha41, hf⟩ := jif hf
      refine jiast E hM ha41 dX4_readSum_110 (fun H locs S42 eS42 hM => ?_)
      have hf := jlet_y eS42 hf
      refine lv_aload_n hx hb dX4_readSum_111 rfl (lv_at hl 2 rfl) ?_
      refine lv_dup hx hb dX4_readSum_112 rfl ?_
      refine gt_30 E hM hq4 lk_1_217 dX4_readSum_113 ?_
      refine lv_iconst (v := (1 : Int32)) hx hb dX4_readSum_116 (by decide) ?_
      refine lv_iadd hx hb dX4_readSum_117 ?_
      refine pt_30 E hM hq4 lk_1_217 dX4_readSum_118 (fun H locs S43 eS43 hM => ?_)
      have hf := jlet_y eS43 hf
      refine lv_aload_n hx hb dX4_readSum_121 rfl (lv_at hl 2 rfl) ?_
      refine gt_25 E hM hq4 lk_1_209 dX4_readSum_122 ?_
      obtain ⟨r44, hr45, hf⟩ := jb hf
      rw [hr45]
      show W p l e _ s m args below meth c H locs 0 0 _ (F0 m _ ls (.ref (g.2.2 + r44) :: _))
      refine lv_iload_n hx hb dX4_readSum_125 rfl (lv_at hl 1 rfl) ?_
      refine lv_iconst (v := (2 : Int32)) hx hb dX4_readSum_126 (by decide) ?_
      refine lv_aload_n hx hb dX4_readSum_127 rfl (lv_at hl 2 rfl) ?_
      refine lv_iload_n hx hb dX4_readSum_128 rfl (lv_at hl 3 rfl) ?_
      refine lv_iconst (v := (1 : Int32)) hx hb dX4_readSum_129 (by decide) ?_
      refine lv_iadd hx hb dX4_readSum_130 ?_
      obtain ⟨x46, S47, hc48, hf⟩ := jbd_e hf
      refine jbackI hM (jrunV E hM ci_X4_readU (hrc.2.2.2.2.1 hc48) lk_4_64 hq4 (by decide) rfl hl.1 rfl rfl (Nat.le_of_ble_eq_true rfl) ⟨Nat.le_refl _, Nat.le_refl _⟩ ⟨Nat.le_refl _, Nat.le_refl _⟩ dX4_readSum_131) (fun H locs hM => ?_)
      obtain ⟨hq51, hf⟩ := jif hf
      obtain ⟨S49, hc50, hf⟩ := jb hf
      refine jbackV hM (jrunV E hM ci_X8_setInner (C_X8_setInner hc50) lk_4_76 hq51 (by decide) rfl hl.1 rfl rfl (Nat.le_of_ble_eq_true rfl) ⟨by show 1 + 1 ≤ kk + 1; omega, by show 49 * (1 + 1) ≤ 49 * (kk + 1); omega⟩ ⟨Nat.le_refl _, Nat.le_refl _⟩ dX4_readSum_134) (fun H locs hM => ?_)
      refine lv_aload_n hx hb dX4_readSum_137 rfl (lv_at hl 2 rfl) ?_
      refine lv_dup hx hb dX4_readSum_138 rfl ?_
      refine gt_30 E hM hq4 lk_1_217 dX4_readSum_139 ?_
      refine lv_iconst (v := (1 : Int32)) hx hb dX4_readSum_142 (by decide) ?_
      refine lv_isub hx hb dX4_readSum_143 ?_
      refine pt_30 E hM hq4 lk_1_217 dX4_readSum_144 (fun H locs S52 eS52 hM => ?_)
      have hf := jlet_y eS52 hf
      refine lv_iload_n hx hb dX4_readSum_147 rfl (lv_at hl 1 rfl) ?_
      exact jireti (jr2 hf) E hM dX4_readSum_148
set_option maxRecDepth 100000 in
theorem D_X4_readSum {l : Launch} {g : jG} {rc : Nat → Nat → Int32 → Int32 → jM → Option (Int32 × jM)} {kk : Nat} (hkk : 16 ≤ kk) (hrc : jrc_P l g kk rc) {a0 : Nat} {a1 : Int32} {S : jM} {rr : Int32} {SS : jM} (hf : f_X4_readSum rc a0 a1 S = some (rr, SS)) : jMet l g yX4_readSum cX4_readSum 5 (some .int) (kk + 1) 0 0 [.ref (g.2.2 + a0), .int a1] S (jQi g rr SS) := by
  refine jof (by decide +kernel) (Nat.le_of_ble_eq_true rfl) ?_
  intro p e s m below meth c E hM ls hl
  have hl : lv_has ls 5 [(0, .ref (g.2.2 + a0)),(1, .int a1)] := hl
  exact B_X4_readSum_0 hkk hrc E hf hM hl
-- PensionHouse$Parser.readFunction
noncomputable def f_X4_readFunction_46 (rc : Nat → Nat → Int32 → Int32 → jM → Option (Int32 × jM)) (k27 : Nat → Int32 → Int32 → Int32 → Int32 → jM → Option (Int32 × jM)) (v0 : Nat) (v1 : Int32) (v2 : Int32) (v3 : Int32) (v4 : Int32) (t0 : Nat) (t1 : Int32) (S : jM) : Option (Int32 × jM) := if jK t0 = 3 then (f_X4_take t0 t1 S).bind (fun S1 => if jK v0 = 3 then (jR S1 25 v0).bind (fun r5 => jbd (rc 0 v0 (v1 + (1 : Int32)) 0 S1) (fun x7 S8 => if jK r5 = 6 then (f_X8_setInner r5 v3 v4 x7 S8).bind (fun S10 => jlet (v4 + (1 : Int32)) (fun x13 => k27 v0 v1 v2 v3 x13 S10)) else none)) else none) else none
noncomputable def f_X4_readFunction_27 (rc : Nat → Nat → Int32 → Int32 → jM → Option (Int32 × jM)) : Nat → Nat → Int32 → Int32 → Int32 → Int32 → jM → Option (Int32 × jM)
  | 0, _, _, _, _, _, _ => none
  | n + 1, v0, v1, v2, v3, v4, S => if v2 ≤ v4 then if jK v0 = 3 then (f_X4_take v0 (41 : Int32) S).bind (fun S15 => some (v3, S15)) else none else if v4 = 0 then f_X4_readFunction_46 rc (f_X4_readFunction_27 rc n) v0 v1 v2 v3 v4 v0 (40 : Int32) S else f_X4_readFunction_46 rc (f_X4_readFunction_27 rc n) v0 v1 v2 v3 v4 v0 (44 : Int32) S
noncomputable def f_X4_readFunction (rc : Nat → Nat → Int32 → Int32 → jM → Option (Int32 × jM)) (v0 : Nat) (v1 : Int32) (S : jM) : Option (Int32 × jM) := if jK v0 = 3 then (jR S 24 v0).bind (fun r20 => if jK r20 = 5 then jlet (f_X7_arity (jI S 40 r20)) (fun x23 => (jR S 24 v0).bind (fun r24 => if jK r24 = 5 then jbd (f_X4_part v0 (jI S 40 r24) (0 : Int64) S) (fun x27 S28 => f_X4_readFunction_27 rc 1100000 v0 v1 x23 x27 (0 : Int32) S28) else none)) else none) else none
set_option maxRecDepth 100000 in
set_option maxHeartbeats 4000000 in
theorem B_X4_readFunction_46 {p : Program} {l : Launch} {e : Env} {s : State} {m : MethodId} {args : Array Value} {below : List Frame} {meth : Method} {c : Code} {g : jG} {rc : Nat → Nat → Int32 → Int32 → jM → Option (Int32 × jM)} {kk : Nat} (hkk : 16 ≤ kk) (hrc : jrc_P l g kk rc) {rr : Int32} {SS : jM} {v0 : Nat} {v1 : Int32} {v2 : Int32} {v3 : Int32} {v4 : Int32} {t0 : Nat} {t1 : Int32} {S : jM} {k27 : Nat → Int32 → Int32 → Int32 → Int32 → jM → Option (Int32 × jM)} (E : jEnv p s m args meth c cX4_readFunction "PensionHouse$Parser" (some .int) 5 g) (hk27 : ∀ (v0 : Nat) (v1 : Int32) (v2 : Int32) (v3 : Int32) (v4 : Int32) (S : jM) (H : Heap) (locs : List Loc) (ls : Array Slot), k27 v0 v1 v2 v3 v4 S = some (rr, SS) → jAt g S s H locs → lv_has ls 5 [(0, .ref (g.2.2 + v0)), (1, .int v1), (2, .int v2), (3, .int v3), (4, .int v4)] → W p l e (jRm (kk + 1) 0 0) s m args below meth c H locs 0 0 (MQ below (jQi g rr SS) args s 0 0 (jA0 g)) (F0 m 27 ls [])) {H : Heap} {locs : List Loc} {ls : Array Slot} (hf : f_X4_readFunction_46 rc k27 v0 v1 v2 v3 v4 t0 t1 S = some (rr, SS)) (hM : jAt g S s H locs) (hl : lv_has ls 5 [(0, .ref (g.2.2 + v0)), (1, .int v1), (2, .int v2), (3, .int v3), (4, .int v4)]) : W p l e (jRm (kk + 1) 0 0) s m args below meth c H locs 0 0 (MQ below (jQi g rr SS) args s 0 0 (jA0 g)) (F0 m 46 ls [.int t1, .ref (g.2.2 + t0)]) := by
  obtain ⟨hx, hb, hml, -, hts, hown, hK, -, hstr⟩ := id E
  unfold f_X4_readFunction_46 at hf
  obtain ⟨hq3, hf⟩ := jif hf
  obtain ⟨S1, hc2, hf⟩ := jb hf
  refine jbackV hM (jrunV E hM ci_X4_take (C_X4_take hc2) lk_4_25 hq3 (by decide) rfl hl.1 rfl rfl (Nat.le_of_ble_eq_true rfl) ⟨by show 8 + 1 ≤ kk + 1; omega, by show 49 * (8 + 1) ≤ 49 * (kk + 1); omega⟩ ⟨Nat.le_refl _, Nat.le_refl _⟩ dX4_readFunction_46) (fun H locs hM => ?_)
  refine lv_aload_n hx hb dX4_readFunction_49 rfl (lv_at hl 0 rfl) ?_
  obtain ⟨hq4, hf⟩ := jif hf
  refine gt_25 E hM hq4 lk_1_209 dX4_readFunction_50 ?_
  obtain ⟨r5, hr6, hf⟩ := jb hf
  rw [hr6]
  show W p l e _ s m args below meth c H locs 0 0 _ (F0 m _ ls (.ref (g.2.2 + r5) :: _))
  refine lv_iload_n hx hb dX4_readFunction_53 rfl (lv_at hl 3 rfl) ?_
  refine lv_iload hx hb dX4_readFunction_54 (lv_at hl 4 rfl) ?_
  refine lv_aload_n hx hb dX4_readFunction_56 rfl (lv_at hl 0 rfl) ?_
  refine lv_iload_n hx hb dX4_readFunction_57 rfl (lv_at hl 1 rfl) ?_
  refine lv_iconst (v := (1 : Int32)) hx hb dX4_readFunction_58 (by decide) ?_
  refine lv_iadd hx hb dX4_readFunction_59 ?_
  obtain ⟨x7, S8, hc9, hf⟩ := jbd_e hf
  refine jbackI hM (jrunV E hM ci_X4_readE (hrc.1 hc9) lk_4_37 hq4 (by decide) rfl hl.1 rfl rfl (Nat.le_of_ble_eq_true rfl) ⟨Nat.le_refl _, Nat.le_refl _⟩ ⟨Nat.le_refl _, Nat.le_refl _⟩ dX4_readFunction_60) (fun H locs hM => ?_)
  obtain ⟨hq12, hf⟩ := jif hf
  obtain ⟨S10, hc11, hf⟩ := jb hf
  refine jbackV hM (jrunV E hM ci_X8_setInner (C_X8_setInner hc11) lk_4_76 hq12 (by decide) rfl hl.1 rfl rfl (Nat.le_of_ble_eq_true rfl) ⟨by show 1 + 1 ≤ kk + 1; omega, by show 49 * (1 + 1) ≤ 49 * (kk + 1); omega⟩ ⟨Nat.le_refl _, Nat.le_refl _⟩ dX4_readFunction_63) (fun H locs hM => ?_)
  obtain ⟨x13, ex13⟩ : ∃ z, z = v4 + (1 : Int32) := ⟨_, rfl⟩
  have hf := jlet_y ex13 hf
  refine lv_iinc (v := x13) (lv' := [(4, .int x13), (0, .ref (g.2.2 + v0)), (1, .int v1), (2, .int v2), (3, .int v3)]) hx hb dX4_readFunction_66 hl (k := 4) rfl (by rw [ex13]; rfl) (by decide) rfl (fun ls hl => ?_)
  refine lv_goto (tgt := 27) hx hb dX4_readFunction_69 (by decide) ?_
  exact hk27 v0 v1 v2 v3 x13 S10 _ _ _ hf hM (lv_sub hl [1, 2, 3, 4, 0] rfl)
set_option maxRecDepth 100000 in
set_option maxHeartbeats 4000000 in
theorem B_X4_readFunction_27 {p : Program} {l : Launch} {e : Env} {s : State} {m : MethodId} {args : Array Value} {below : List Frame} {meth : Method} {c : Code} {g : jG} {rc : Nat → Nat → Int32 → Int32 → jM → Option (Int32 × jM)} {kk : Nat} (hkk : 16 ≤ kk) (hrc : jrc_P l g kk rc) {rr : Int32} {SS : jM} (E : jEnv p s m args meth c cX4_readFunction "PensionHouse$Parser" (some .int) 5 g)  : ∀ (n : Nat) (v0 : Nat) (v1 : Int32) (v2 : Int32) (v3 : Int32) (v4 : Int32) (S : jM) (H : Heap) (locs : List Loc) (ls : Array Slot), f_X4_readFunction_27 rc n v0 v1 v2 v3 v4 S = some (rr, SS) → jAt g S s H locs → lv_has ls 5 [(0, .ref (g.2.2 + v0)), (1, .int v1), (2, .int v2), (3, .int v3), (4, .int v4)] → W p l e (jRm (kk + 1) 0 0) s m args below meth c H locs 0 0 (MQ below (jQi g rr SS) args s 0 0 (jA0 g)) (F0 m 27 ls []) := by
  obtain ⟨hx, hb, hml, -, hts, hown, hK, -, hstr⟩ := id E
  intro n
  induction n with
  | zero => intro v0 v1 v2 v3 v4 S H locs ls hf hM hl; rw [f_X4_readFunction_27] at hf; cases hf
  | succ n ih =>
    intro v0 v1 v2 v3 v4 S H locs ls hf hM hl
    rw [f_X4_readFunction_27] at hf
    refine lv_iload hx hb dX4_readFunction_27 (lv_at hl 4 rfl) ?_
    refine lv_iload_n hx hb dX4_readFunction_29 rfl (lv_at hl 2 rfl) ?_
    refine lv_icmp_ge (tgt := 72) hx hb dX4_readFunction_30 (by decide) (fun c14 => ?_) (fun c14 => ?_)
    · have hf := jt c14 hf
      refine lv_aload_n hx hb dX4_readFunction_72 rfl (lv_at hl 0 rfl) ?_
      refine lv_bipush (v := (41 : Int32)) hx hb dX4_readFunction_73 (by decide) ?_
      obtain ⟨hq17, hf⟩ := jif hf
      obtain ⟨S15, hc16, hf⟩ := jb hf
      refine jbackV hM (jrunV E hM ci_X4_take (C_X4_take hc16) lk_4_25 hq17 (by decide) rfl hl.1 rfl rfl (Nat.le_of_ble_eq_true rfl) ⟨by show 8 + 1 ≤ kk + 1; omega, by show 49 * (8 + 1) ≤ 49 * (kk + 1); omega⟩ ⟨Nat.le_refl _, Nat.le_refl _⟩ dX4_readFunction_75) (fun H locs hM => ?_)
      refine lv_iload_n hx hb dX4_readFunction_78 rfl (lv_at hl 3 rfl) ?_
      exact jireti (jr2 hf) E hM dX4_readFunction_79
    · have hf := jf c14 hf
      refine lv_aload_n hx hb dX4_readFunction_33 rfl (lv_at hl 0 rfl) ?_
      refine lv_iload hx hb dX4_readFunction_34 (lv_at hl 4 rfl) ?_
      refine lv_if_ne (tgt := 44) hx hb dX4_readFunction_36 (by decide) (fun c18 => ?_) (fun c18 => ?_)
      · have hf := jf c18 hf
        refine lv_bipush (v := (44 : Int32)) hx hb dX4_readFunction_44 (by decide) ?_
        exact B_X4_readFunction_46 hkk hrc E ih hf hM (lv_sub hl [0, 1, 2, 3, 4] rfl)
      · have hf := jt c18 hf
        refine lv_bipush (v := (40 : Int32)) hx hb dX4_readFunction_39 (by decide) ?_
        refine lv_goto (tgt := 46) hx hb dX4_readFunction_41 (by decide) ?_
        exact B_X4_readFunction_46 hkk hrc E ih hf hM (lv_sub hl [0, 1, 2, 3, 4] rfl)
set_option maxRecDepth 100000 in
set_option maxHeartbeats 4000000 in
theorem B_X4_readFunction_0 {p : Program} {l : Launch} {e : Env} {s : State} {m : MethodId} {args : Array Value} {below : List Frame} {meth : Method} {c : Code} {g : jG} {rc : Nat → Nat → Int32 → Int32 → jM → Option (Int32 × jM)} {kk : Nat} (hkk : 16 ≤ kk) (hrc : jrc_P l g kk rc) {rr : Int32} {SS : jM} {v0 : Nat} {v1 : Int32} {S : jM} (E : jEnv p s m args meth c cX4_readFunction "PensionHouse$Parser" (some .int) 5 g)  {H : Heap} {locs : List Loc} {ls : Array Slot} (hf : f_X4_readFunction rc v0 v1 S = some (rr, SS)) (hM : jAt g S s H locs) (hl : lv_has ls 5 [(0, .ref (g.2.2 + v0)), (1, .int v1)]) : W p l e (jRm (kk + 1) 0 0) s m args below meth c H locs 0 0 (MQ below (jQi g rr SS) args s 0 0 (jA0 g)) (F0 m 0 ls []) := by
  obtain ⟨hx, hb, hml, -, hts, hown, hK, -, hstr⟩ := id E
  unfold f_X4_readFunction at hf
  refine lv_aload_n hx hb dX4_readFunction_0 rfl (lv_at hl 0 rfl) ?_
  obtain ⟨hq19, hf⟩ := jif hf
  refine gt_24 E hM hq19 lk_1_207 dX4_readFunction_1 ?_
  obtain ⟨r20, hr21, hf⟩ := jb hf
  rw [hr21]
  show W p l e _ s m args below meth c H locs 0 0 _ (F0 m _ ls (.ref (g.2.2 + r20) :: _))
  obtain ⟨hq22, hf⟩ := jif hf
  refine gt_40 E hM hq22 lk_1_142 dX4_readFunction_4 ?_
  refine jbackI hM (jrunS E hM ci_X7_arity (C_X7_arity rfl) lk_4_45 hl.1 rfl rfl (Nat.le_of_ble_eq_true rfl) ⟨by show 1 + 1 ≤ kk + 1; omega, by show 49 * (1 + 1) ≤ 49 * (kk + 1); omega⟩ ⟨Nat.le_refl _, Nat.le_refl _⟩ dX4_readFunction_7) (fun H locs hM => ?_)
  refine lv_topi (fun x23 ex23 => ?_)
  have hf := jlet_y ex23 hf
  refine lv_istore_n (lv' := [(2, .int x23), (0, .ref (g.2.2 + v0)), (1, .int v1)]) hx hb dX4_readFunction_10 rfl hl (by decide) rfl (fun ls hl => ?_)
  refine lv_aload_n hx hb dX4_readFunction_11 rfl (lv_at hl 1 rfl) ?_
  refine lv_aload_n hx hb dX4_readFunction_12 rfl (lv_at hl 1 rfl) ?_
  refine gt_24 E hM hq19 lk_1_207 dX4_readFunction_13 ?_
  obtain ⟨r24, hr25, hf⟩ := jb hf
  rw [hr25]
  show W p l e _ s m args below meth c H locs 0 0 _ (F0 m _ ls (.ref (g.2.2 + r24) :: _))
  obtain ⟨hq26, hf⟩ := jif hf
  refine gt_40 E hM hq26 lk_1_142 dX4_readFunction_16 ?_
  refine lv_lconst (v := (0 : Int64)) hx hb dX4_readFunction_19 (by decide) ?_
  obtain ⟨x27, S28, hc29, hf⟩ := jbd_e hf
  refine jbackI hM (jrunV E hM ci_X4_part (C_X4_part hc29) lk_4_68 hq19 (by decide) rfl hl.1 rfl rfl (Nat.le_of_ble_eq_true rfl) ⟨by show 8 + 1 ≤ kk + 1; omega, by show 49 * (8 + 1) ≤ 49 * (kk + 1); omega⟩ ⟨Nat.le_refl _, Nat.le_refl _⟩ dX4_readFunction_20) (fun H locs hM => ?_)
  refine lv_istore_n (lv' := [(3, .int x27), (2, .int x23), (0, .ref (g.2.2 + v0)), (1, .int v1)]) hx hb dX4_readFunction_23 rfl hl (by decide) rfl (fun ls hl => ?_)
  refine lv_iconst (v := (0 : Int32)) hx hb dX4_readFunction_24 (by decide) ?_
  refine lv_istore (lv' := [(4, .int (0 : Int32)), (3, .int x27), (2, .int x23), (0, .ref (g.2.2 + v0)), (1, .int v1)]) hx hb dX4_readFunction_25 hl (by decide) rfl (fun ls hl => ?_)
  exact B_X4_readFunction_27 hkk hrc E  1100000 v0 v1 x23 x27 (0 : Int32) S28 _ _ _ hf hM (lv_sub hl [3, 4, 2, 1, 0] rfl)
set_option maxRecDepth 100000 in
theorem D_X4_readFunction {l : Launch} {g : jG} {rc : Nat → Nat → Int32 → Int32 → jM → Option (Int32 × jM)} {kk : Nat} (hkk : 16 ≤ kk) (hrc : jrc_P l g kk rc) {a0 : Nat} {a1 : Int32} {S : jM} {rr : Int32} {SS : jM} (hf : f_X4_readFunction rc a0 a1 S = some (rr, SS)) : jMet l g yX4_readFunction cX4_readFunction 5 (some .int) (kk + 1) 0 0 [.ref (g.2.2 + a0), .int a1] S (jQi g rr SS) := by
  refine jof (by decide +kernel) (Nat.le_of_ble_eq_true rfl) ?_
  intro p e s m below meth c E hM ls hl
  have hl : lv_has ls 5 [(0, .ref (g.2.2 + a0)),(1, .int a1)] := hl
  exact B_X4_readFunction_0 hkk hrc E hf hM hl
noncomputable def g_P : Nat → Nat → Nat → Int32 → Int32 → jM → Option (Int32 × jM)
  | 0, _, _, _, _, _ => none
  | d + 1, sel, t, a, b, S => if sel = 0 then f_X4_readE (g_P d) t a S else if sel = 1 then f_X4_readC (g_P d) t a S else if sel = 2 then f_X4_readA (g_P d) t a S else if sel = 3 then f_X4_readM (g_P d) t a S else if sel = 4 then f_X4_readU (g_P d) t a S else if sel = 5 then f_X4_readP (g_P d) t a S else if sel = 6 then f_X4_readSum (g_P d) t a S else if sel = 7 then f_X4_readFunction (g_P d) t a S else none
theorem jrcA_P {l : Launch} {g : jG} : ∀ d : Nat, jrc_P l g (16 + d) (g_P d) := by
  intro d
  induction d with
  | zero => unfold jrc_P; exact ⟨fun h => (by rw [g_P] at h; cases h), fun h => (by rw [g_P] at h; cases h), fun h => (by rw [g_P] at h; cases h), fun h => (by rw [g_P] at h; cases h), fun h => (by rw [g_P] at h; cases h), fun h => (by rw [g_P] at h; cases h), fun h => (by rw [g_P] at h; cases h), fun h => (by rw [g_P] at h; cases h)⟩
  | succ d ih =>
    unfold jrc_P; exact ⟨fun h => (by rw [g_P] at h; exact D_X4_readE (by omega) ih (jt rfl h)),
      fun h => (by rw [g_P] at h; have h := jf (by decide) h; exact D_X4_readC (by omega) ih (jt rfl h)),
      fun h => (by rw [g_P] at h; have h := jf (by decide) h; have h := jf (by decide) h; exact D_X4_readA (by omega) ih (jt rfl h)),
      fun h => (by rw [g_P] at h; have h := jf (by decide) h; have h := jf (by decide) h; have h := jf (by decide) h; exact D_X4_readM (by omega) ih (jt rfl h)),
      fun h => (by rw [g_P] at h; have h := jf (by decide) h; have h := jf (by decide) h; have h := jf (by decide) h; have h := jf (by decide) h; exact D_X4_readU (by omega) ih (jt rfl h)),
      fun h => (by rw [g_P] at h; have h := jf (by decide) h; have h := jf (by decide) h; have h := jf (by decide) h; have h := jf (by decide) h; have h := jf (by decide) h; exact D_X4_readP (by omega) ih (jt rfl h)),
      fun h => (by rw [g_P] at h; have h := jf (by decide) h; have h := jf (by decide) h; have h := jf (by decide) h; have h := jf (by decide) h; have h := jf (by decide) h; have h := jf (by decide) h; exact D_X4_readSum (by omega) ih (jt rfl h)),
      fun h => (by rw [g_P] at h; have h := jf (by decide) h; have h := jf (by decide) h; have h := jf (by decide) h; have h := jf (by decide) h; have h := jf (by decide) h; have h := jf (by decide) h; have h := jf (by decide) h; exact D_X4_readFunction (by omega) ih (jt rfl h))⟩
theorem C_X4_readE {l : Launch} {g : jG} {a0 : Nat} {a1 : Int32} {S : jM} {rr : Int32} {SS : jM} (hf : f_X4_readE (g_P 300) a0 a1 S = some (rr, SS)) : jMet l g yX4_readE cX4_readE 6 (some .int) 317 0 0 [.ref (g.2.2 + a0), .int a1] S (jQi g rr SS) := D_X4_readE (kk := 316) (by decide) (jrcA_P 300) hf
theorem C_X4_readC {l : Launch} {g : jG} {a0 : Nat} {a1 : Int32} {S : jM} {rr : Int32} {SS : jM} (hf : f_X4_readC (g_P 300) a0 a1 S = some (rr, SS)) : jMet l g yX4_readC cX4_readC 4 (some .int) 317 0 0 [.ref (g.2.2 + a0), .int a1] S (jQi g rr SS) := D_X4_readC (kk := 316) (by decide) (jrcA_P 300) hf
theorem C_X4_readA {l : Launch} {g : jG} {a0 : Nat} {a1 : Int32} {S : jM} {rr : Int32} {SS : jM} (hf : f_X4_readA (g_P 300) a0 a1 S = some (rr, SS)) : jMet l g yX4_readA cX4_readA 5 (some .int) 317 0 0 [.ref (g.2.2 + a0), .int a1] S (jQi g rr SS) := D_X4_readA (kk := 316) (by decide) (jrcA_P 300) hf
theorem C_X4_readM {l : Launch} {g : jG} {a0 : Nat} {a1 : Int32} {S : jM} {rr : Int32} {SS : jM} (hf : f_X4_readM (g_P 300) a0 a1 S = some (rr, SS)) : jMet l g yX4_readM cX4_readM 5 (some .int) 317 0 0 [.ref (g.2.2 + a0), .int a1] S (jQi g rr SS) := D_X4_readM (kk := 316) (by decide) (jrcA_P 300) hf
theorem C_X4_readU {l : Launch} {g : jG} {a0 : Nat} {a1 : Int32} {S : jM} {rr : Int32} {SS : jM} (hf : f_X4_readU (g_P 300) a0 a1 S = some (rr, SS)) : jMet l g yX4_readU cX4_readU 5 (some .int) 317 0 0 [.ref (g.2.2 + a0), .int a1] S (jQi g rr SS) := D_X4_readU (kk := 316) (by decide) (jrcA_P 300) hf
theorem C_X4_readP {l : Launch} {g : jG} {a0 : Nat} {a1 : Int32} {S : jM} {rr : Int32} {SS : jM} (hf : f_X4_readP (g_P 300) a0 a1 S = some (rr, SS)) : jMet l g yX4_readP cX4_readP 5 (some .int) 317 0 0 [.ref (g.2.2 + a0), .int a1] S (jQi g rr SS) := D_X4_readP (kk := 316) (by decide) (jrcA_P 300) hf
theorem C_X4_readSum {l : Launch} {g : jG} {a0 : Nat} {a1 : Int32} {S : jM} {rr : Int32} {SS : jM} (hf : f_X4_readSum (g_P 300) a0 a1 S = some (rr, SS)) : jMet l g yX4_readSum cX4_readSum 5 (some .int) 317 0 0 [.ref (g.2.2 + a0), .int a1] S (jQi g rr SS) := D_X4_readSum (kk := 316) (by decide) (jrcA_P 300) hf
theorem C_X4_readFunction {l : Launch} {g : jG} {a0 : Nat} {a1 : Int32} {S : jM} {rr : Int32} {SS : jM} (hf : f_X4_readFunction (g_P 300) a0 a1 S = some (rr, SS)) : jMet l g yX4_readFunction cX4_readFunction 5 (some .int) 317 0 0 [.ref (g.2.2 + a0), .int a1] S (jQi g rr SS) := D_X4_readFunction (kk := 316) (by decide) (jrcA_P 300) hf
