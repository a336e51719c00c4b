-- PensionHouse$Parser.parse()V  mode M
noncomputable def f_X4_parse_168 (k31 : Nat → Int32 → jM → Option jM) (v0 : Nat) (v1 : Int32) (S : jM) : Option jM := jlet (v1 + (1 : Int32)) (fun x1 => k31 v0 x1 S)
noncomputable def f_X4_parse_127 (k31 : Nat → Int32 → jM → Option jM) (v0 : Nat) (v1 : Int32) (v2 : Int64) (S : jM) : Option jM := if jK v0 = 3 then (f_X4_take v0 (2 : Int32) S).bind (fun S2 => (f_X4_take v0 (61 : Int32) S2).bind (fun S5 => jbd (f_X4_readE (g_P 300) v0 (0 : Int32) S5) (fun x7 S8 => (f_X4_take v0 (59 : Int32) S8).bind (fun S10 => if (jI S10 26 v0) = 0 then (jR S10 25 v0).bind (fun r13 => if jK r13 = 6 then (f_X8_addRule r13 v2 x7 S10).bind (fun S15 => f_X4_parse_168 k31 v0 v1 S15) else none) else f_X4_parse_168 k31 v0 v1 S10)))) else none
noncomputable def f_X4_parse_84 (k31 : Nat → Int32 → jM → Option jM) (v0 : Nat) (v1 : Int32) (S : jM) : Option jM := if jK v0 = 3 then (f_X4_take v0 (145 : Int32) S).bind (fun S18 => (jR S18 24 v0).bind (fun r21 => if jK r21 = 5 then jlet (jL S18 42 r21) (fun x24 => (jR S18 24 v0).bind (fun r25 => if jK r25 = 5 then if (jI S18 40 r25) = (2 : Int32) then (jR S18 25 v0).bind (fun r29 => if jK r29 = 6 then (f_X8_ruleNamed r29 x24 S18).bind (fun x31 => if x31 = (-1 : Int32) then f_X4_parse_127 k31 v0 v1 x24 S18 else (f_X4_refuse v0 (3 : Int32) S18).bind (fun S35 => f_X4_parse_127 k31 v0 v1 x24 S35)) else none) else f_X4_parse_127 k31 v0 v1 x24 S18 else none)) else none)) else none
noncomputable def f_X4_parse_31 : Nat → Nat → Int32 → jM → Option jM
  | 0, _, _, _ => none
  | n + 1, v0, v1, S => if (24 : Int32) < v1 then some S else if jK v0 = 3 then if (jI S 26 v0) = 0 then (jR S 24 v0).bind (fun r40 => if jK r40 = 5 then if (jI S 40 r40) = 0 then some S else (jR S 24 v0).bind (fun r44 => if jK r44 = 5 then if (jI S 40 r44) = (145 : Int32) then (jR S 25 v0).bind (fun r48 => if jK r48 = 6 then if (jI S 49 r48) = (24 : Int32) then (f_X4_refuse v0 (4 : Int32) S).bind (fun S52 => f_X4_parse_84 (f_X4_parse_31 n) v0 v1 S52) else f_X4_parse_84 (f_X4_parse_31 n) v0 v1 S else none) else f_X4_parse_84 (f_X4_parse_31 n) v0 v1 S else none) else none) else some S else none
noncomputable def f_X4_parse (v0 : Nat) (S : jM) : Option jM := if jK v0 = 3 then (jR S 25 v0).bind (fun r55 => if jK r55 = 6 then (f_X8_clear r55 S).bind (fun S57 => jlet (jsI S57 26 v0 (0 : Int32)) (fun S60 => jlet (jsI S60 27 v0 (0 : Int32)) (fun S61 => jlet (jsI S61 30 v0 (0 : Int32)) (fun S62 => (jR S62 24 v0).bind (fun r63 => if jK r63 = 5 then (f_X7_next_0 1100000 r63 S62).bind (fun S65 => f_X4_parse_31 1100000 v0 (0 : Int32) S65) else none))))) else none) else none
set_option maxRecDepth 100000 in
set_option maxHeartbeats 4000000 in
theorem B_X4_parse_168 {p : Program} {l : Launch} {e : Env} {s : State} {m : MethodId} {args : Array Value} {below : List Frame} {meth : Method} {c : Code} {g : jG} {SS : jM} {v0 : Nat} {v1 : Int32} {S : jM} {k31 : Nat → Int32 → jM → Option jM} (E : jEnv p s m args meth c cX4_parse "PensionHouse$Parser" none 5 g) (hk31 : ∀ (v0 : Nat) (v1 : Int32) (S : jM) (H : Heap) (locs : List Loc) (ls : Array Slot), k31 v0 v1 S = some SS → jAt g S s H locs → lv_has ls 5 [(0, .ref (g.2.2 + v0)), (1, .int v1)] → W p l e (jRm 318 0 0) s m args below meth c H locs 0 0 (MQ below (jQv g SS) args s 0 0 (jA0 g)) (F0 m 31 ls [])) {H : Heap} {locs : List Loc} {ls : Array Slot} (hf : f_X4_parse_168 k31 v0 v1 S = some SS) (hM : jAt g S s H locs) (hl : lv_has ls 5 [(0, .ref (g.2.2 + v0)), (1, .int v1)]) : W p l e (jRm 318 0 0) s m args below meth c H locs 0 0 (MQ below (jQv g SS) args s 0 0 (jA0 g)) (F0 m 168 ls []) := by
  obtain ⟨hx, hb, hml, -, hts, hown, hK, -, hstr⟩ := id E
  unfold f_X4_parse_168 at hf
  obtain ⟨x1, ex1⟩ : ∃ z, z = v1 + (1 : Int32) := ⟨_, rfl⟩
  have hf := jlet_y ex1 hf
  refine lv_iinc (v := x1) (lv' := [(1, .int x1), (0, .ref (g.2.2 + v0))]) hx hb dX4_parse_168 hl (k := 1) rfl (by rw [ex1]; rfl) (by decide) rfl (fun ls hl => ?_)
  refine lv_goto (tgt := 31) hx hb dX4_parse_171 (by decide) ?_
  exact hk31 v0 x1 S _ _ _ hf hM (lv_sub hl [1, 0] rfl)
set_option maxRecDepth 100000 in
set_option maxHeartbeats 4000000 in
theorem B_X4_parse_127 {p : Program} {l : Launch} {e : Env} {s : State} {m : MethodId} {args : Array Value} {below : List Frame} {meth : Method} {c : Code} {g : jG} {SS : jM} {v0 : Nat} {v1 : Int32} {v2 : Int64} {S : jM} {k31 : Nat → Int32 → jM → Option jM} (E : jEnv p s m args meth c cX4_parse "PensionHouse$Parser" none 5 g) (hk31 : ∀ (v0 : Nat) (v1 : Int32) (S : jM) (H : Heap) (locs : List Loc) (ls : Array Slot), k31 v0 v1 S = some SS → jAt g S s H locs → lv_has ls 5 [(0, .ref (g.2.2 + v0)), (1, .int v1)] → W p l e (jRm 318 0 0) s m args below meth c H locs 0 0 (MQ below (jQv g SS) args s 0 0 (jA0 g)) (F0 m 31 ls [])) {H : Heap} {locs : List Loc} {ls : Array Slot} (hf : f_X4_parse_127 k31 v0 v1 v2 S = some SS) (hM : jAt g S s H locs) (hl : lv_has ls 5 [(0, .ref (g.2.2 + v0)), (1, .int v1), (2, .long v2)]) : W p l e (jRm 318 0 0) s m args below meth c H locs 0 0 (MQ below (jQv g SS) args s 0 0 (jA0 g)) (F0 m 127 ls []) := by
  obtain ⟨hx, hb, hml, -, hts, hown, hK, -, hstr⟩ := id E
  unfold f_X4_parse_127 at hf
  refine lv_aload_n hx hb dX4_parse_127 rfl (lv_at hl 0 rfl) ?_
  refine lv_iconst (v := (2 : Int32)) hx hb dX4_parse_128 (by decide) ?_
  obtain ⟨hq4, hf⟩ := jif hf
  obtain ⟨S2, hc3, hf⟩ := jb hf
  refine jbackV hM (jrunV E hM ci_X4_take (C_X4_take hc3) lk_4_25 hq4 (by decide) rfl hl.1 rfl rfl (Nat.le_of_ble_eq_true rfl) ⟨Nat.le_of_ble_eq_true rfl, Nat.le_of_ble_eq_true rfl⟩ ⟨Nat.le_refl _, Nat.le_refl _⟩ dX4_parse_129) (fun H locs hM => ?_)
  refine lv_aload_n hx hb dX4_parse_132 rfl (lv_at hl 0 rfl) ?_
  refine lv_bipush (v := (61 : Int32)) hx hb dX4_parse_133 (by decide) ?_
  obtain ⟨S5, hc6, hf⟩ := jb hf
  refine jbackV hM (jrunV E hM ci_X4_take (C_X4_take hc6) lk_4_25 hq4 (by decide) rfl hl.1 rfl rfl (Nat.le_of_ble_eq_true rfl) ⟨Nat.le_of_ble_eq_true rfl, Nat.le_of_ble_eq_true rfl⟩ ⟨Nat.le_refl _, Nat.le_refl _⟩ dX4_parse_135) (fun H locs hM => ?_)
  refine lv_aload_n hx hb dX4_parse_138 rfl (lv_at hl 0 rfl) ?_
  refine lv_iconst (v := (0 : Int32)) hx hb dX4_parse_139 (by decide) ?_
  obtain ⟨x7, S8, hc9, hf⟩ := jbd_e hf
  refine jbackI hM (jrunV E hM ci_X4_readE (C_X4_readE hc9) lk_4_37 hq4 (by decide) rfl hl.1 rfl rfl (Nat.le_of_ble_eq_true rfl) ⟨Nat.le_of_ble_eq_true rfl, Nat.le_of_ble_eq_true rfl⟩ ⟨Nat.le_refl _, Nat.le_refl _⟩ dX4_parse_140) (fun H locs hM => ?_)
  refine lv_istore (lv' := [(4, .int x7), (0, .ref (g.2.2 + v0)), (1, .int v1), (2, .long v2)]) hx hb dX4_parse_143 hl (by decide) rfl (fun ls hl => ?_)
  refine lv_aload_n hx hb dX4_parse_145 rfl (lv_at hl 1 rfl) ?_
  refine lv_bipush (v := (59 : Int32)) hx hb dX4_parse_146 (by decide) ?_
  obtain ⟨S10, hc11, hf⟩ := jb hf
  refine jbackV hM (jrunV E hM ci_X4_take (C_X4_take hc11) lk_4_25 hq4 (by decide) rfl hl.1 rfl rfl (Nat.le_of_ble_eq_true rfl) ⟨Nat.le_of_ble_eq_true rfl, Nat.le_of_ble_eq_true rfl⟩ ⟨Nat.le_refl _, Nat.le_refl _⟩ dX4_parse_148) (fun H locs hM => ?_)
  refine lv_aload_n hx hb dX4_parse_151 rfl (lv_at hl 1 rfl) ?_
  refine gt_26 E hM hq4 lk_1_211 dX4_parse_152 ?_
  refine lv_if_ne (tgt := 168) hx hb dX4_parse_155 (by decide) (fun c12 => ?_) (fun c12 => ?_)
  · have hf := jf c12 hf
    exact B_X4_parse_168 E hk31 hf hM (lv_sub hl [1, 2] rfl)
  · have hf := jt c12 hf
    refine lv_aload_n hx hb dX4_parse_158 rfl (lv_at hl 1 rfl) ?_
    refine gt_25 E hM hq4 lk_1_209 dX4_parse_159 ?_
    obtain ⟨r13, hr14, hf⟩ := jb hf
    rw [hr14]
    show W p l e _ s m args below meth c H locs 0 0 _ (F0 m _ ls (.ref (g.2.2 + r13) :: _))
    refine lv_lload_n hx hb dX4_parse_162 rfl (lv_at hl 3 rfl) ?_
    refine lv_iload hx hb dX4_parse_163 (lv_at hl 0 rfl) ?_
    obtain ⟨hq17, hf⟩ := jif hf
    obtain ⟨S15, hc16, hf⟩ := jb hf
    refine jbackV hM (jrunV E hM ci_X8_addRule (C_X8_addRule hc16) lk_4_125 hq17 (by decide) rfl hl.1 rfl rfl (Nat.le_of_ble_eq_true rfl) ⟨Nat.le_of_ble_eq_true rfl, Nat.le_of_ble_eq_true rfl⟩ ⟨Nat.le_refl _, Nat.le_refl _⟩ dX4_parse_165) (fun H locs hM => ?_)
    exact B_X4_parse_168 E hk31 hf hM (lv_sub hl [1, 2] rfl)
set_option maxRecDepth 100000 in
set_option maxHeartbeats 4000000 in
theorem B_X4_parse_84 {p : Program} {l : Launch} {e : Env} {s : State} {m : MethodId} {args : Array Value} {below : List Frame} {meth : Method} {c : Code} {g : jG} {SS : jM} {v0 : Nat} {v1 : Int32} {S : jM} {k31 : Nat → Int32 → jM → Option jM} (E : jEnv p s m args meth c cX4_parse "PensionHouse$Parser" none 5 g) (hk31 : ∀ (v0 : Nat) (v1 : Int32) (S : jM) (H : Heap) (locs : List Loc) (ls : Array Slot), k31 v0 v1 S = some SS → jAt g S s H locs → lv_has ls 5 [(0, .ref (g.2.2 + v0)), (1, .int v1)] → W p l e (jRm 318 0 0) s m args below meth c H locs 0 0 (MQ below (jQv g SS) args s 0 0 (jA0 g)) (F0 m 31 ls [])) {H : Heap} {locs : List Loc} {ls : Array Slot} (hf : f_X4_parse_84 k31 v0 v1 S = some SS) (hM : jAt g S s H locs) (hl : lv_has ls 5 [(0, .ref (g.2.2 + v0)), (1, .int v1)]) : W p l e (jRm 318 0 0) s m args below meth c H locs 0 0 (MQ below (jQv g SS) args s 0 0 (jA0 g)) (F0 m 84 ls []) := by
  obtain ⟨hx, hb, hml, -, hts, hown, hK, -, hstr⟩ := id E
  unfold f_X4_parse_84 at hf
  refine lv_aload_n hx hb dX4_parse_84 rfl (lv_at hl 0 rfl) ?_
  refine lv_sipush (v := (145 : Int32)) hx hb dX4_parse_85 (by decide) ?_
  obtain ⟨hq20, hf⟩ := jif hf
  obtain ⟨S18, hc19, hf⟩ := jb hf
  refine jbackV hM (jrunV E hM ci_X4_take (C_X4_take hc19) lk_4_25 hq20 (by decide) rfl hl.1 rfl rfl (Nat.le_of_ble_eq_true rfl) ⟨Nat.le_of_ble_eq_true rfl, Nat.le_of_ble_eq_true rfl⟩ ⟨Nat.le_refl _, Nat.le_refl _⟩ dX4_parse_88) (fun H locs hM => ?_)
  refine lv_aload_n hx hb dX4_parse_91 rfl (lv_at hl 0 rfl) ?_
  refine gt_24 E hM hq20 lk_1_207 dX4_parse_92 ?_
  obtain ⟨r21, hr22, hf⟩ := jb hf
  rw [hr22]
  show W p l e _ s m args below meth c H locs 0 0 _ (F0 m _ ls (.ref (g.2.2 + r21) :: _))
  obtain ⟨hq23, hf⟩ := jif hf
  refine gt_42 E hM hq23 lk_1_146 dX4_parse_95 ?_
  refine lv_topl (fun x24 ex24 => ?_)
  have hf := jlet_y ex24 hf
  refine lv_lstore_n (lv' := [(2, .long x24), (0, .ref (g.2.2 + v0)), (1, .int v1)]) hx hb dX4_parse_98 rfl hl (by decide) rfl (fun ls hl => ?_)
  refine lv_aload_n hx hb dX4_parse_99 rfl (lv_at hl 1 rfl) ?_
  refine gt_24 E hM hq20 lk_1_207 dX4_parse_100 ?_
  obtain ⟨r25, hr26, hf⟩ := jb hf
  rw [hr26]
  show W p l e _ s m args below meth c H locs 0 0 _ (F0 m _ ls (.ref (g.2.2 + r25) :: _))
  obtain ⟨hq27, hf⟩ := jif hf
  refine gt_40 E hM hq27 lk_1_142 dX4_parse_103 ?_
  refine lv_iconst (v := (2 : Int32)) hx hb dX4_parse_106 (by decide) ?_
  refine lv_icmp_ne (tgt := 127) hx hb dX4_parse_107 (by decide) (fun c28 => ?_) (fun c28 => ?_)
  · have hf := jf c28 hf
    exact B_X4_parse_127 E hk31 hf hM (lv_sub hl [1, 2, 0] rfl)
  · have hf := jt c28 hf
    refine lv_aload_n hx hb dX4_parse_110 rfl (lv_at hl 1 rfl) ?_
    refine gt_25 E hM hq20 lk_1_209 dX4_parse_111 ?_
    obtain ⟨r29, hr30, hf⟩ := jb hf
    rw [hr30]
    show W p l e _ s m args below meth c H locs 0 0 _ (F0 m _ ls (.ref (g.2.2 + r29) :: _))
    refine lv_lload_n hx hb dX4_parse_114 rfl (lv_at hl 0 rfl) ?_
    obtain ⟨hq33, hf⟩ := jif hf
    obtain ⟨x31, hc32, hf⟩ := jb hf
    refine jbackI hM (jrunV E hM ci_X8_ruleNamed (C_X8_ruleNamed hc32) lk_4_33 hq33 (by decide) rfl hl.1 rfl rfl (Nat.le_of_ble_eq_true rfl) ⟨Nat.le_of_ble_eq_true rfl, Nat.le_of_ble_eq_true rfl⟩ ⟨Nat.le_refl _, Nat.le_refl _⟩ dX4_parse_115) (fun H locs hM => ?_)
    refine lv_iconst (v := (-1 : Int32)) hx hb dX4_parse_118 (by decide) ?_
    refine lv_icmp_eq (tgt := 127) hx hb dX4_parse_119 (by decide) (fun c34 => ?_) (fun c34 => ?_)
    · have hf := jt c34 hf
      exact B_X4_parse_127 E hk31 hf hM (lv_sub hl [1, 2, 0] rfl)
    · have hf := jf c34 hf
      refine lv_aload_n hx hb dX4_parse_122 rfl (lv_at hl 1 rfl) ?_
      refine lv_iconst (v := (3 : Int32)) hx hb dX4_parse_123 (by decide) ?_
      obtain ⟨S35, hc36, hf⟩ := jb hf
      refine jbackV hM (jrunV E hM ci_X4_refuse (C_X4_refuse hc36) lk_4_21 hq20 (by decide) rfl hl.1 rfl rfl (Nat.le_of_ble_eq_true rfl) ⟨Nat.le_of_ble_eq_true rfl, Nat.le_of_ble_eq_true rfl⟩ ⟨Nat.le_refl _, Nat.le_refl _⟩ dX4_parse_124) (fun H locs hM => ?_)
      exact B_X4_parse_127 E hk31 hf hM (lv_sub hl [1, 2, 0] rfl)
set_option maxRecDepth 100000 in
set_option maxHeartbeats 4000000 in
theorem B_X4_parse_31 {p : Program} {l : Launch} {e : Env} {s : State} {m : MethodId} {args : Array Value} {below : List Frame} {meth : Method} {c : Code} {g : jG} {SS : jM} (E : jEnv p s m args meth c cX4_parse "PensionHouse$Parser" none 5 g)  : ∀ (n : Nat) (v0 : Nat) (v1 : Int32) (S : jM) (H : Heap) (locs : List Loc) (ls : Array Slot), f_X4_parse_31 n v0 v1 S = some SS → jAt g S s H locs → lv_has ls 5 [(0, .ref (g.2.2 + v0)), (1, .int v1)] → W p l e (jRm 318 0 0) s m args below meth c H locs 0 0 (MQ below (jQv g SS) args s 0 0 (jA0 g)) (F0 m 31 ls []) := by
  obtain ⟨hx, hb, hml, -, hts, hown, hK, -, hstr⟩ := id E
  intro n
  induction n with
  | zero => intro v0 v1 S H locs ls hf hM hl; rw [f_X4_parse_31] at hf; cases hf
  | succ n ih =>
    intro v0 v1 S H locs ls hf hM hl
    rw [f_X4_parse_31] at hf
    refine lv_iload_n hx hb dX4_parse_31 rfl (lv_at hl 1 rfl) ?_
    refine lv_bipush (v := (24 : Int32)) hx hb dX4_parse_32 (by decide) ?_
    refine lv_icmp_gt (tgt := 174) hx hb dX4_parse_34 (by decide) (fun c37 => ?_) (fun c37 => ?_)
    · have hf := jt c37 hf
      exact jvret (jrv hf) E hM dX4_parse_174
    · have hf := jf c37 hf
      refine lv_aload_n hx hb dX4_parse_37 rfl (lv_at hl 0 rfl) ?_
      obtain ⟨hq38, hf⟩ := jif hf
      refine gt_26 E hM hq38 lk_1_211 dX4_parse_38 ?_
      refine lv_if_ne (tgt := 174) hx hb dX4_parse_41 (by decide) (fun c39 => ?_) (fun c39 => ?_)
      · have hf := jf c39 hf
        exact jvret (jrv hf) E hM dX4_parse_174
      · have hf := jt c39 hf
        refine lv_aload_n hx hb dX4_parse_44 rfl (lv_at hl 0 rfl) ?_
        refine gt_24 E hM hq38 lk_1_207 dX4_parse_45 ?_
        obtain ⟨r40, hr41, hf⟩ := jb hf
        rw [hr41]
        show W p l e _ s m args below meth c H locs 0 0 _ (F0 m _ ls (.ref (g.2.2 + r40) :: _))
        obtain ⟨hq42, hf⟩ := jif hf
        refine gt_40 E hM hq42 lk_1_142 dX4_parse_48 ?_
        refine lv_if_eq (tgt := 174) hx hb dX4_parse_51 (by decide) (fun c43 => ?_) (fun c43 => ?_)
        · have hf := jt c43 hf
          exact jvret (jrv hf) E hM dX4_parse_174
        · have hf := jf c43 hf
          refine lv_aload_n hx hb dX4_parse_54 rfl (lv_at hl 0 rfl) ?_
          refine gt_24 E hM hq38 lk_1_207 dX4_parse_55 ?_
          obtain ⟨r44, hr45, hf⟩ := jb hf
          rw [hr45]
          show W p l e _ s m args below meth c H locs 0 0 _ (F0 m _ ls (.ref (g.2.2 + r44) :: _))
          obtain ⟨hq46, hf⟩ := jif hf
          refine gt_40 E hM hq46 lk_1_142 dX4_parse_58 ?_
          refine lv_sipush (v := (145 : Int32)) hx hb dX4_parse_61 (by decide) ?_
          refine lv_icmp_ne (tgt := 84) hx hb dX4_parse_64 (by decide) (fun c47 => ?_) (fun c47 => ?_)
          · have hf := jf c47 hf
            exact B_X4_parse_84 E ih hf hM (lv_sub hl [0, 1] rfl)
          · have hf := jt c47 hf
            refine lv_aload_n hx hb dX4_parse_67 rfl (lv_at hl 0 rfl) ?_
            refine gt_25 E hM hq38 lk_1_209 dX4_parse_68 ?_
            obtain ⟨r48, hr49, hf⟩ := jb hf
            rw [hr49]
            show W p l e _ s m args below meth c H locs 0 0 _ (F0 m _ ls (.ref (g.2.2 + r48) :: _))
            obtain ⟨hq50, hf⟩ := jif hf
            refine gt_49 E hM hq50 lk_1_184 dX4_parse_71 ?_
            refine lv_bipush (v := (24 : Int32)) hx hb dX4_parse_74 (by decide) ?_
            refine lv_icmp_ne (tgt := 84) hx hb dX4_parse_76 (by decide) (fun c51 => ?_) (fun c51 => ?_)
            · have hf := jf c51 hf
              exact B_X4_parse_84 E ih hf hM (lv_sub hl [0, 1] rfl)
            · have hf := jt c51 hf
              refine lv_aload_n hx hb dX4_parse_79 rfl (lv_at hl 0 rfl) ?_
              refine lv_iconst (v := (4 : Int32)) hx hb dX4_parse_80 (by decide) ?_
              obtain ⟨S52, hc53, hf⟩ := jb hf
              refine jbackV hM (jrunV E hM ci_X4_refuse (C_X4_refuse hc53) lk_4_21 hq38 (by decide) rfl hl.1 rfl rfl (Nat.le_of_ble_eq_true rfl) ⟨Nat.le_of_ble_eq_true rfl, Nat.le_of_ble_eq_true rfl⟩ ⟨Nat.le_refl _, Nat.le_refl _⟩ dX4_parse_81) (fun H locs hM => ?_)
              exact B_X4_parse_84 E ih hf hM (lv_sub hl [0, 1] rfl)
set_option maxRecDepth 100000 in
set_option maxHeartbeats 4000000 in
theorem B_X4_parse_0 {p : Program} {l : Launch} {e : Env} {s : State} {m : MethodId} {args : Array Value} {below : List Frame} {meth : Method} {c : Code} {g : jG} {SS : jM} {v0 : Nat} {S : jM} (E : jEnv p s m args meth c cX4_parse "PensionHouse$Parser" none 5 g)  {H : Heap} {locs : List Loc} {ls : Array Slot} (hf : f_X4_parse v0 S = some SS) (hM : jAt g S s H locs) (hl : lv_has ls 5 [(0, .ref (g.2.2 + v0))]) : W p l e (jRm 318 0 0) s m args below meth c H locs 0 0 (MQ below (jQv g SS) args s 0 0 (jA0 g)) (F0 m 0 ls []) := by
  obtain ⟨hx, hb, hml, -, hts, hown, hK, -, hstr⟩ := id E
  unfold f_X4_parse at hf
  refine lv_aload_n hx hb dX4_parse_0 rfl (lv_at hl 0 rfl) ?_
  obtain ⟨hq54, hf⟩ := jif hf
  refine gt_25 E hM hq54 lk_1_209 dX4_parse_1 ?_
  obtain ⟨r55, hr56, hf⟩ := jb hf
  rw [hr56]
  show W p l e _ s m args below meth c H locs 0 0 _ (F0 m _ ls (.ref (g.2.2 + r55) :: _))
  obtain ⟨hq59, hf⟩ := jif hf
  obtain ⟨S57, hc58, hf⟩ := jb hf
  refine jbackV hM (jrunV E hM ci_X8_clear (C_X8_clear hc58) lk_4_16 hq59 (by decide) rfl hl.1 rfl rfl (Nat.le_of_ble_eq_true rfl) ⟨Nat.le_of_ble_eq_true rfl, Nat.le_of_ble_eq_true rfl⟩ ⟨Nat.le_refl _, Nat.le_refl _⟩ dX4_parse_4) (fun H locs hM => ?_)
  refine lv_aload_n hx hb dX4_parse_7 rfl (lv_at hl 0 rfl) ?_
  refine lv_iconst (v := (0 : Int32)) hx hb dX4_parse_8 (by decide) ?_
  refine pt_26 E hM hq54 lk_1_211 dX4_parse_9 (fun H locs S60 eS60 hM => ?_)
  have hf := jlet_y eS60 hf
  refine lv_aload_n hx hb dX4_parse_12 rfl (lv_at hl 0 rfl) ?_
  refine lv_iconst (v := (0 : Int32)) hx hb dX4_parse_13 (by decide) ?_
  refine pt_27 E hM hq54 lk_1_213 dX4_parse_14 (fun H locs S61 eS61 hM => ?_)
  have hf := jlet_y eS61 hf
  refine lv_aload_n hx hb dX4_parse_17 rfl (lv_at hl 0 rfl) ?_
  refine lv_iconst (v := (0 : Int32)) hx hb dX4_parse_18 (by decide) ?_
  refine pt_30 E hM hq54 lk_1_217 dX4_parse_19 (fun H locs S62 eS62 hM => ?_)
  have hf := jlet_y eS62 hf
  refine lv_aload_n hx hb dX4_parse_22 rfl (lv_at hl 0 rfl) ?_
  refine gt_24 E hM hq54 lk_1_207 dX4_parse_23 ?_
  obtain ⟨r63, hr64, hf⟩ := jb hf
  rw [hr64]
  show W p l e _ s m args below meth c H locs 0 0 _ (F0 m _ ls (.ref (g.2.2 + r63) :: _))
  obtain ⟨hq67, hf⟩ := jif hf
  obtain ⟨S65, hc66, hf⟩ := jb hf
  refine jbackV hM (jrunV E hM ci_X7_next (C_X7_next hc66) lk_4_20 hq67 (by decide) rfl hl.1 rfl rfl (Nat.le_of_ble_eq_true rfl) ⟨Nat.le_of_ble_eq_true rfl, Nat.le_of_ble_eq_true rfl⟩ ⟨Nat.le_refl _, Nat.le_refl _⟩ dX4_parse_26) (fun H locs hM => ?_)
  refine lv_iconst (v := (0 : Int32)) hx hb dX4_parse_29 (by decide) ?_
  refine lv_istore_n (lv' := [(1, .int (0 : Int32)), (0, .ref (g.2.2 + v0))]) hx hb dX4_parse_30 rfl hl (by decide) rfl (fun ls hl => ?_)
  exact B_X4_parse_31 E  1100000 v0 (0 : Int32) S65 _ _ _ hf hM (lv_sub hl [1, 0] rfl)
set_option maxRecDepth 100000 in
theorem C_X4_parse {l : Launch} {g : jG} {a0 : Nat} {S : jM} {SS : jM} (hf : f_X4_parse a0 S = some SS) : jMet l g yX4_parse cX4_parse 5 none 318 0 0 [.ref (g.2.2 + a0)] S (jQv g SS) := by
  refine jof (by decide +kernel) (Nat.le_of_ble_eq_true rfl) ?_
  intro p e s m below meth c E hM ls hl
  have hl : lv_has ls 5 [(0, .ref (g.2.2 + a0))] := hl
  exact B_X4_parse_0 E hf hM hl
