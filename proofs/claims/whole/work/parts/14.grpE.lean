def jrc_E (l : Launch) (g : jG) (kk : Nat) (rc : Nat → Nat → Int32 → Int32 → jM → Option (Int32 × jM)) : Prop := (∀ {t : Nat} {a b : Int32} {S : jM} {rr : Int32} {SS : jM}, rc 0 t a b S = some (rr, SS) → jMet l g yX12_expression cX12_expression 3 (some .int) kk 0 0 [.ref (g.2.2 + t), .int a] S (jQi g rr SS)) ∧ (∀ {t : Nat} {a b : Int32} {S : jM} {rr : Int32} {SS : jM}, rc 1 t a b S = some (rr, SS) → jMet l g yX12_ifElse cX12_ifElse 3 (some .int) kk 0 0 [.ref (g.2.2 + t), .int a] S (jQi g rr SS)) ∧ (∀ {t : Nat} {a b : Int32} {S : jM} {rr : Int32} {SS : jM}, rc 2 t a b S = some (rr, SS) → jMet l g yX12_compared cX12_compared 5 (some .int) kk 0 0 [.ref (g.2.2 + t), .int a] S (jQi g rr SS)) ∧ (∀ {t : Nat} {a b : Int32} {S : jM} {rr : Int32} {SS : jM}, rc 3 t a b S = some (rr, SS) → jMet l g yX12_added cX12_added 5 (some .int) kk 0 0 [.ref (g.2.2 + t), .int a] S (jQi g rr SS)) ∧ (∀ {t : Nat} {a b : Int32} {S : jM} {rr : Int32} {SS : jM}, rc 4 t a b S = some (rr, SS) → jMet l g yX12_multiplied cX12_multiplied 5 (some .int) kk 0 0 [.ref (g.2.2 + t), .int a] S (jQi g rr SS)) ∧ (∀ {t : Nat} {a b : Int32} {S : jM} {rr : Int32} {SS : jM}, rc 5 t a b S = some (rr, SS) → jMet l g yX12_unary cX12_unary 4 (some .int) kk 0 0 [.ref (g.2.2 + t), .int a] S (jQi g rr SS)) ∧ (∀ {t : Nat} {a b : Int32} {S : jM} {rr : Int32} {SS : jM}, rc 6 t a b S = some (rr, SS) → jMet l g yX12_primary cX12_primary 5 (some .int) kk 0 0 [.ref (g.2.2 + t), .int a] S (jQi g rr SS)) ∧ (∀ {t : Nat} {a b : Int32} {S : jM} {rr : Int32} {SS : jM}, rc 7 t a b S = some (rr, SS) → jMet l g yX12_sum cX12_sum 5 (some .int) kk 0 0 [.ref (g.2.2 + t), .int a] S (jQi g rr SS))
-- PensionHouseModel.expression
noncomputable def f_X12_expression_61 (rc : Nat → Nat → Int32 → Int32 → jM → Option (Int32 × jM)) (v0 : Nat) (v1 : Int32) (S : jM) : Option (Int32 × jM) := if jK v0 = 10 then (f_X12_is v0 (8 : Int32) S).bind (fun x1 => if x1 = 0 then (f_X12_is v0 (22 : Int32) S).bind (fun x5 => if x5 = 0 then jbd (rc 2 v0 v1 0 S) (fun x8 S9 => some (x8, S9)) else jbd (f_X12_part v0 S) (fun x11 S12 => if x11 = 0 then some ((-1 : Int32), S12) else jbd (f_X12_node v0 (22 : Int32) S12) (fun x15 S16 => jlet (jsI S16 100 v0 ((jI S16 100 v0) + (1 : Int32))) (fun S18 => (jR S18 104 v0).bind (fun r19 => jbd (rc 0 v0 (v1 + (1 : Int32)) 0 S18) (fun x21 S22 => if jA r19 13 x15 = true then jlet (jrI S22 r19 (upd (jAI S22 r19) (x15).toNatClampNeg x21)) (fun S25 => (f_X12_want v0 (5 : Int32) S25).bind (fun S26 => (jR S26 105 v0).bind (fun r28 => jbd (rc 0 v0 (v1 + (1 : Int32)) 0 S26) (fun x30 S31 => if jA r28 13 x15 = true then jlet (jrI S31 r28 (upd (jAI S31 r28) (x15).toNatClampNeg x30)) (fun S34 => some (x15, S34)) else none)))) else none)))))) else jbd (rc 1 v0 v1 0 S) (fun x35 S36 => some (x35, S36))) else none
noncomputable def f_X12_expression_41 (rc : Nat → Nat → Int32 → Int32 → jM → Option (Int32 × jM)) (v0 : Nat) (v1 : Int32) (S : jM) : Option (Int32 × jM) := if v1 < (20 : Int32) then f_X12_expression_61 rc v0 v1 S else if jK v0 = 10 then (jR S 96 v0).bind (fun r40 => if jA r40 13 (jI S 100 v0) = true then (f_X12_fail v0 (4 : Int32) (jAI S r40 (jI S 100 v0).toNatClampNeg) S).bind (fun S43 => f_X12_expression_61 rc v0 v1 S43) else none) else none
noncomputable def f_X12_expression (rc : Nat → Nat → Int32 → Int32 → jM → Option (Int32 × jM)) (v0 : Nat) (v1 : Int32) (S : jM) : Option (Int32 × jM) := if jK v0 = 10 then if (jI S 101 v0) ≤ 0 then (f_X12_beginsUnary v0 S).bind (fun x47 => if x47 = 0 then (f_X12_now v0 S).bind (fun x50 => if x50 = (8 : Int32) then f_X12_expression_41 rc v0 v1 S else (f_X12_now v0 S).bind (fun x53 => if x53 = (22 : Int32) then f_X12_expression_41 rc v0 v1 S else (f_X12_wrong v0 S).bind (fun S56 => f_X12_expression_61 rc v0 v1 S56))) else f_X12_expression_41 rc v0 v1 S) else some ((-1 : Int32), S) else none
set_option maxRecDepth 100000 in
set_option maxHeartbeats 4000000 in
theorem B_X12_expression_61 {p : Program} {l : Launch} {e : Env} {s : State} {m : MethodId} {args : Array Value} {below : List Frame} {meth : Method} {c : Code} {g : jG} {rc : Nat → Nat → Int32 → Int32 → jM → Option (Int32 × jM)} {kk : Nat} (hkk : 16 ≤ kk) (hrc : jrc_E l g kk rc) {rr : Int32} {SS : jM} {v0 : Nat} {v1 : Int32} {S : jM} (E : jEnv p s m args meth c cX12_expression "PensionHouseModel" (some .int) 3 g)  {H : Heap} {locs : List Loc} {ls : Array Slot} (hf : f_X12_expression_61 rc v0 v1 S = some (rr, SS)) (hM : jAt g S s H locs) (hl : lv_has ls 3 [(0, .ref (g.2.2 + v0)), (1, .int v1)]) : W p l e (jRm (kk + 1) 0 0) s m args below meth c H locs 0 0 (MQ below (jQi g rr SS) args s 0 0 (jA0 g)) (F0 m 61 ls []) := by
  obtain ⟨hx, hb, hml, -, hts, hown, hK, -, hstr⟩ := id E
  unfold f_X12_expression_61 at hf
  refine lv_aload_n hx hb dX12_expression_61 rfl (lv_at hl 0 rfl) ?_
  refine lv_bipush (v := (8 : Int32)) hx hb dX12_expression_62 (by decide) ?_
  obtain ⟨hq3, hf⟩ := jif hf
  obtain ⟨x1, hc2, hf⟩ := jb hf
  refine jbackI hM (jrunV E hM ci_X12_is (C_X12_is hc2) lk_7_225 hq3 (by decide) rfl hl.1 rfl rfl (Nat.le_of_ble_eq_true rfl) ⟨by show 1 + 1 ≤ kk + 1; omega, by show 49 * (1 + 1) ≤ 49 * (kk + 1); omega⟩ ⟨Nat.le_refl _, Nat.le_refl _⟩ dX12_expression_64) (fun H locs hM => ?_)
  refine lv_if_eq (tgt := 76) hx hb dX12_expression_67 (by decide) (fun c4 => ?_) (fun c4 => ?_)
  · have hf := jt c4 hf
    refine lv_aload_n hx hb dX12_expression_76 rfl (lv_at hl 0 rfl) ?_
    refine lv_bipush (v := (22 : Int32)) hx hb dX12_expression_77 (by decide) ?_
    obtain ⟨x5, hc6, hf⟩ := jb hf
    refine jbackI hM (jrunV E hM ci_X12_is (C_X12_is hc6) lk_7_225 hq3 (by decide) rfl hl.1 rfl rfl (Nat.le_of_ble_eq_true rfl) ⟨by show 1 + 1 ≤ kk + 1; omega, by show 49 * (1 + 1) ≤ 49 * (kk + 1); omega⟩ ⟨Nat.le_refl _, Nat.le_refl _⟩ dX12_expression_79) (fun H locs hM => ?_)
    refine lv_if_eq (tgt := 144) hx hb dX12_expression_82 (by decide) (fun c7 => ?_) (fun c7 => ?_)
    · have hf := jt c7 hf
      refine lv_aload_n hx hb dX12_expression_144 rfl (lv_at hl 0 rfl) ?_
      refine lv_iload_n hx hb dX12_expression_145 rfl (lv_at hl 1 rfl) ?_
      obtain ⟨x8, S9, hc10, hf⟩ := jbd_e hf
      refine jbackI hM (jrunV E hM ci_X12_compared (hrc.2.2.1 hc10) lk_8_19 hq3 (by decide) rfl hl.1 rfl rfl (Nat.le_of_ble_eq_true rfl) ⟨Nat.le_refl _, Nat.le_refl _⟩ ⟨Nat.le_refl _, Nat.le_refl _⟩ dX12_expression_146) (fun H locs hM => ?_)
      exact jireti (jr2 hf) E hM dX12_expression_149
    · have hf := jf c7 hf
      refine lv_aload_n hx hb dX12_expression_85 rfl (lv_at hl 0 rfl) ?_
      obtain ⟨x11, S12, hc13, hf⟩ := jbd_e hf
      refine jbackI hM (jrunV E hM ci_X12_part (C_X12_part hc13) lk_8_11 hq3 (by decide) rfl hl.1 rfl rfl (Nat.le_of_ble_eq_true rfl) ⟨by show 2 + 1 ≤ kk + 1; omega, by show 49 * (2 + 1) ≤ 49 * (kk + 1); omega⟩ ⟨Nat.le_refl _, Nat.le_refl _⟩ dX12_expression_86) (fun H locs hM => ?_)
      refine lv_if_ne (tgt := 94) hx hb dX12_expression_89 (by decide) (fun c14 => ?_) (fun c14 => ?_)
      · have hf := jf c14 hf
        refine lv_aload_n hx hb dX12_expression_94 rfl (lv_at hl 0 rfl) ?_
        refine lv_bipush (v := (22 : Int32)) hx hb dX12_expression_95 (by decide) ?_
        obtain ⟨x15, S16, hc17, hf⟩ := jbd_e hf
        refine jbackI hM (jrunV E hM ci_X12_node (C_X12_node hc17) lk_8_15 hq3 (by decide) rfl hl.1 rfl rfl (Nat.le_of_ble_eq_true rfl) ⟨by show 1 + 1 ≤ kk + 1; omega, by show 49 * (1 + 1) ≤ 49 * (kk + 1); omega⟩ ⟨Nat.le_refl _, Nat.le_refl _⟩ dX12_expression_97) (fun H locs hM => ?_)
        refine lv_istore_n (lv' := [(2, .int x15), (0, .ref (g.2.2 + v0)), (1, .int v1)]) hx hb dX12_expression_100 rfl hl (by decide) rfl (fun ls hl => ?_)
        refine lv_aload_n hx hb dX12_expression_101 rfl (lv_at hl 1 rfl) ?_
        refine lv_dup hx hb dX12_expression_102 rfl ?_
        refine gt_100 E hM hq3 lk_6_14 dX12_expression_103 ?_
        refine lv_iconst (v := (1 : Int32)) hx hb dX12_expression_106 (by decide) ?_
        refine lv_iadd hx hb dX12_expression_107 ?_
        refine pt_100 E hM hq3 lk_6_14 dX12_expression_108 (fun H locs S18 eS18 hM => ?_)
        have hf := jlet_y eS18 hf
        refine lv_aload_n hx hb dX12_expression_111 rfl (lv_at hl 1 rfl) ?_
        refine gt_104 E hM hq3 lk_6_18 dX12_expression_112 ?_
        obtain ⟨r19, hr20, hf⟩ := jb hf
        rw [hr20]
        show W p l e _ s m args below meth c H locs 0 0 _ (F0 m _ ls (.ref (g.2.2 + r19) :: _))
        refine lv_iload_n hx hb dX12_expression_115 rfl (lv_at hl 0 rfl) ?_
        refine lv_aload_n hx hb dX12_expression_116 rfl (lv_at hl 1 rfl) ?_
        refine lv_iload_n hx hb dX12_expression_117 rfl (lv_at hl 2 rfl) ?_
        refine lv_iconst (v := (1 : Int32)) hx hb dX12_expression_118 (by decide) ?_
        refine lv_iadd hx hb dX12_expression_119 ?_
        obtain ⟨x21, S22, hc23, hf⟩ := jbd_e hf
        refine jbackI hM (jrunV E hM ci_X12_expression (hrc.1 hc23) lk_7_233 hq3 (by decide) rfl hl.1 rfl rfl (Nat.le_of_ble_eq_true rfl) ⟨Nat.le_refl _, Nat.le_refl _⟩ ⟨Nat.le_refl _, Nat.le_refl _⟩ dX12_expression_120) (fun H locs hM => ?_)
        obtain ⟨ha24, hf⟩ := jif hf
        refine jiast E hM ha24 dX12_expression_123 (fun H locs S25 eS25 hM => ?_)
        have hf := jlet_y eS25 hf
        refine lv_aload_n hx hb dX12_expression_124 rfl (lv_at hl 1 rfl) ?_
        refine lv_iconst (v := (5 : Int32)) hx hb dX12_expression_125 (by decide) ?_
        obtain ⟨S26, hc27, hf⟩ := jb hf
        refine jbackV hM (jrunV E hM ci_X12_want (C_X12_want hc27) lk_7_221 hq3 (by decide) rfl hl.1 rfl rfl (Nat.le_of_ble_eq_true rfl) ⟨by show 3 + 1 ≤ kk + 1; omega, by show 49 * (3 + 1) ≤ 49 * (kk + 1); omega⟩ ⟨Nat.le_refl _, Nat.le_refl _⟩ dX12_expression_126) (fun H locs hM => ?_)
        refine lv_aload_n hx hb dX12_expression_129 rfl (lv_at hl 1 rfl) ?_
        refine gt_105 E hM hq3 lk_6_19 dX12_expression_130 ?_
        obtain ⟨r28, hr29, hf⟩ := jb hf
        rw [hr29]
        show W p l e _ s m args below meth c H locs 0 0 _ (F0 m _ ls (.ref (g.2.2 + r28) :: _))
        refine lv_iload_n hx hb dX12_expression_133 rfl (lv_at hl 0 rfl) ?_
        refine lv_aload_n hx hb dX12_expression_134 rfl (lv_at hl 1 rfl) ?_
        refine lv_iload_n hx hb dX12_expression_135 rfl (lv_at hl 2 rfl) ?_
        refine lv_iconst (v := (1 : Int32)) hx hb dX12_expression_136 (by decide) ?_
        refine lv_iadd hx hb dX12_expression_137 ?_
        obtain ⟨x30, S31, hc32, hf⟩ := jbd_e hf
        refine jbackI hM (jrunV E hM ci_X12_expression (hrc.1 hc32) lk_7_233 hq3 (by decide) rfl hl.1 rfl rfl (Nat.le_of_ble_eq_true rfl) ⟨Nat.le_refl _, Nat.le_refl _⟩ ⟨Nat.le_refl _, Nat.le_refl _⟩ dX12_expression_138) (fun H locs hM => ?_)
        obtain ⟨ha33, hf⟩ := jif hf
        refine jiast E hM ha33 dX12_expression_141 (fun H locs S34 eS34 hM => ?_)
        have hf := jlet_y eS34 hf
        refine lv_iload_n hx hb dX12_expression_142 rfl (lv_at hl 0 rfl) ?_
        exact jireti (jr2 hf) E hM dX12_expression_143
      · have hf := jt c14 hf
        refine lv_iconst (v := (-1 : Int32)) hx hb dX12_expression_92 (by decide) ?_
        exact jireti (jr2 hf) E hM dX12_expression_93
  · have hf := jf c4 hf
    refine lv_aload_n hx hb dX12_expression_70 rfl (lv_at hl 0 rfl) ?_
    refine lv_iload_n hx hb dX12_expression_71 rfl (lv_at hl 1 rfl) ?_
    obtain ⟨x35, S36, hc37, hf⟩ := jbd_e hf
    refine jbackI hM (jrunV E hM ci_X12_ifElse (hrc.2.1 hc37) lk_8_7 hq3 (by decide) rfl hl.1 rfl rfl (Nat.le_of_ble_eq_true rfl) ⟨Nat.le_refl _, Nat.le_refl _⟩ ⟨Nat.le_refl _, Nat.le_refl _⟩ dX12_expression_72) (fun H locs hM => ?_)
    exact jireti (jr2 hf) E hM dX12_expression_75
set_option maxRecDepth 100000 in
set_option maxHeartbeats 4000000 in
theorem B_X12_expression_41 {p : Program} {l : Launch} {e : Env} {s : State} {m : MethodId} {args : Array Value} {below : List Frame} {meth : Method} {c : Code} {g : jG} {rc : Nat → Nat → Int32 → Int32 → jM → Option (Int32 × jM)} {kk : Nat} (hkk : 16 ≤ kk) (hrc : jrc_E l g kk rc) {rr : Int32} {SS : jM} {v0 : Nat} {v1 : Int32} {S : jM} (E : jEnv p s m args meth c cX12_expression "PensionHouseModel" (some .int) 3 g)  {H : Heap} {locs : List Loc} {ls : Array Slot} (hf : f_X12_expression_41 rc v0 v1 S = some (rr, SS)) (hM : jAt g S s H locs) (hl : lv_has ls 3 [(0, .ref (g.2.2 + v0)), (1, .int v1)]) : W p l e (jRm (kk + 1) 0 0) s m args below meth c H locs 0 0 (MQ below (jQi g rr SS) args s 0 0 (jA0 g)) (F0 m 41 ls []) := by
  obtain ⟨hx, hb, hml, -, hts, hown, hK, -, hstr⟩ := id E
  unfold f_X12_expression_41 at hf
  refine lv_iload_n hx hb dX12_expression_41 rfl (lv_at hl 1 rfl) ?_
  refine lv_bipush (v := (20 : Int32)) hx hb dX12_expression_42 (by decide) ?_
  refine lv_icmp_lt (tgt := 61) hx hb dX12_expression_44 (by decide) (fun c38 => ?_) (fun c38 => ?_)
  · have hf := jt c38 hf
    exact B_X12_expression_61 hkk hrc E  hf hM (lv_sub hl [0, 1] rfl)
  · have hf := jf c38 hf
    refine lv_aload_n hx hb dX12_expression_47 rfl (lv_at hl 0 rfl) ?_
    refine lv_iconst (v := (4 : Int32)) hx hb dX12_expression_48 (by decide) ?_
    refine lv_aload_n hx hb dX12_expression_49 rfl (lv_at hl 0 rfl) ?_
    obtain ⟨hq39, hf⟩ := jif hf
    refine gt_96 E hM hq39 lk_6_10 dX12_expression_50 ?_
    obtain ⟨r40, hr41, hf⟩ := jb hf
    rw [hr41]
    show W p l e _ s m args below meth c H locs 0 0 _ (F0 m _ ls (.ref (g.2.2 + r40) :: _))
    refine lv_aload_n hx hb dX12_expression_53 rfl (lv_at hl 0 rfl) ?_
    refine gt_100 E hM hq39 lk_6_14 dX12_expression_54 ?_
    obtain ⟨ha42, hf⟩ := jif hf
    refine jiald E hM ha42 dX12_expression_57 ?_
    obtain ⟨S43, hc44, hf⟩ := jb hf
    refine jbackV hM (jrunV E hM ci_X12_fail (C_X12_fail hc44) lk_7_217 hq39 (by decide) rfl hl.1 rfl rfl (Nat.le_of_ble_eq_true rfl) ⟨by show 1 + 1 ≤ kk + 1; omega, by show 49 * (1 + 1) ≤ 49 * (kk + 1); omega⟩ ⟨Nat.le_refl _, Nat.le_refl _⟩ dX12_expression_58) (fun H locs hM => ?_)
    exact B_X12_expression_61 hkk hrc E  hf hM (lv_sub hl [0, 1] rfl)
set_option maxRecDepth 100000 in
set_option maxHeartbeats 4000000 in
theorem B_X12_expression_0 {p : Program} {l : Launch} {e : Env} {s : State} {m : MethodId} {args : Array Value} {below : List Frame} {meth : Method} {c : Code} {g : jG} {rc : Nat → Nat → Int32 → Int32 → jM → Option (Int32 × jM)} {kk : Nat} (hkk : 16 ≤ kk) (hrc : jrc_E l g kk rc) {rr : Int32} {SS : jM} {v0 : Nat} {v1 : Int32} {S : jM} (E : jEnv p s m args meth c cX12_expression "PensionHouseModel" (some .int) 3 g)  {H : Heap} {locs : List Loc} {ls : Array Slot} (hf : f_X12_expression rc v0 v1 S = some (rr, SS)) (hM : jAt g S s H locs) (hl : lv_has ls 3 [(0, .ref (g.2.2 + v0)), (1, .int v1)]) : W p l e (jRm (kk + 1) 0 0) s m args below meth c H locs 0 0 (MQ below (jQi g rr SS) args s 0 0 (jA0 g)) (F0 m 0 ls []) := by
  obtain ⟨hx, hb, hml, -, hts, hown, hK, -, hstr⟩ := id E
  unfold f_X12_expression at hf
  refine lv_aload_n hx hb dX12_expression_0 rfl (lv_at hl 0 rfl) ?_
  obtain ⟨hq45, hf⟩ := jif hf
  refine gt_101 E hM hq45 lk_6_15 dX12_expression_1 ?_
  refine lv_if_le (tgt := 9) hx hb dX12_expression_4 (by decide) (fun c46 => ?_) (fun c46 => ?_)
  · have hf := jt c46 hf
    refine lv_aload_n hx hb dX12_expression_9 rfl (lv_at hl 0 rfl) ?_
    obtain ⟨x47, hc48, hf⟩ := jb hf
    refine jbackI hM (jrunV E hM ci_X12_beginsUnary (C_X12_beginsUnary hc48) lk_7_237 hq45 (by decide) rfl hl.1 rfl rfl (Nat.le_of_ble_eq_true rfl) ⟨by show 3 + 1 ≤ kk + 1; omega, by show 49 * (3 + 1) ≤ 49 * (kk + 1); omega⟩ ⟨Nat.le_refl _, Nat.le_refl _⟩ dX12_expression_10) (fun H locs hM => ?_)
    refine lv_if_ne (tgt := 41) hx hb dX12_expression_13 (by decide) (fun c49 => ?_) (fun c49 => ?_)
    · have hf := jf c49 hf
      exact B_X12_expression_41 hkk hrc E  hf hM (lv_sub hl [0, 1] rfl)
    · have hf := jt c49 hf
      refine lv_aload_n hx hb dX12_expression_16 rfl (lv_at hl 0 rfl) ?_
      obtain ⟨x50, hc51, hf⟩ := jb hf
      refine jbackI hM (jrunV E hM ci_X12_now (C_X12_now hc51) lk_7_209 hq45 (by decide) rfl hl.1 rfl rfl (Nat.le_of_ble_eq_true rfl) ⟨by show 1 + 1 ≤ kk + 1; omega, by show 49 * (1 + 1) ≤ 49 * (kk + 1); omega⟩ ⟨Nat.le_refl _, Nat.le_refl _⟩ dX12_expression_17) (fun H locs hM => ?_)
      refine lv_bipush (v := (8 : Int32)) hx hb dX12_expression_20 (by decide) ?_
      refine lv_icmp_eq (tgt := 41) hx hb dX12_expression_22 (by decide) (fun c52 => ?_) (fun c52 => ?_)
      · have hf := jt c52 hf
        exact B_X12_expression_41 hkk hrc E  hf hM (lv_sub hl [0, 1] rfl)
      · have hf := jf c52 hf
        refine lv_aload_n hx hb dX12_expression_25 rfl (lv_at hl 0 rfl) ?_
        obtain ⟨x53, hc54, hf⟩ := jb hf
        refine jbackI hM (jrunV E hM ci_X12_now (C_X12_now hc54) lk_7_209 hq45 (by decide) rfl hl.1 rfl rfl (Nat.le_of_ble_eq_true rfl) ⟨by show 1 + 1 ≤ kk + 1; omega, by show 49 * (1 + 1) ≤ 49 * (kk + 1); omega⟩ ⟨Nat.le_refl _, Nat.le_refl _⟩ dX12_expression_26) (fun H locs hM => ?_)
        refine lv_bipush (v := (22 : Int32)) hx hb dX12_expression_29 (by decide) ?_
        refine lv_icmp_eq (tgt := 41) hx hb dX12_expression_31 (by decide) (fun c55 => ?_) (fun c55 => ?_)
        · have hf := jt c55 hf
          exact B_X12_expression_41 hkk hrc E  hf hM (lv_sub hl [0, 1] rfl)
        · have hf := jf c55 hf
          refine lv_aload_n hx hb dX12_expression_34 rfl (lv_at hl 0 rfl) ?_
          obtain ⟨S56, hc57, hf⟩ := jb hf
          refine jbackV hM (jrunV E hM ci_X12_wrong (C_X12_wrong hc57) lk_7_213 hq45 (by decide) rfl hl.1 rfl rfl (Nat.le_of_ble_eq_true rfl) ⟨by show 2 + 1 ≤ kk + 1; omega, by show 49 * (2 + 1) ≤ 49 * (kk + 1); omega⟩ ⟨Nat.le_refl _, Nat.le_refl _⟩ dX12_expression_35) (fun H locs hM => ?_)
          refine lv_goto (tgt := 61) hx hb dX12_expression_38 (by decide) ?_
          exact B_X12_expression_61 hkk hrc E  hf hM (lv_sub hl [0, 1] rfl)
  · have hf := jf c46 hf
    refine lv_iconst (v := (-1 : Int32)) hx hb dX12_expression_7 (by decide) ?_
    exact jireti (jr2 hf) E hM dX12_expression_8
set_option maxRecDepth 100000 in
theorem D_X12_expression {l : Launch} {g : jG} {rc : Nat → Nat → Int32 → Int32 → jM → Option (Int32 × jM)} {kk : Nat} (hkk : 16 ≤ kk) (hrc : jrc_E l g kk rc) {a0 : Nat} {a1 : Int32} {S : jM} {rr : Int32} {SS : jM} (hf : f_X12_expression rc a0 a1 S = some (rr, SS)) : jMet l g yX12_expression cX12_expression 3 (some .int) (kk + 1) 0 0 [.ref (g.2.2 + a0), .int a1] S (jQi g rr SS) := by
  refine jof (by decide +kernel) (Nat.le_of_ble_eq_true rfl) ?_
  intro p e s m below meth c E hM ls hl
  have hl : lv_has ls 3 [(0, .ref (g.2.2 + a0)),(1, .int a1)] := hl
  exact B_X12_expression_0 hkk hrc E hf hM hl
-- PensionHouseModel.ifElse
noncomputable def f_X12_ifElse (rc : Nat → Nat → Int32 → Int32 → jM → Option (Int32 × jM)) (v0 : Nat) (v1 : Int32) (S : jM) : Option (Int32 × jM) := if jK v0 = 10 then jbd (f_X12_part v0 S) (fun x1 S2 => if x1 = 0 then some ((-1 : Int32), S2) else jbd (f_X12_node v0 (8 : Int32) S2) (fun x6 S7 => jlet (jsI S7 100 v0 ((jI S7 100 v0) + (1 : Int32))) (fun S9 => (jR S9 104 v0).bind (fun r10 => jbd (rc 0 v0 (v1 + (1 : Int32)) 0 S9) (fun x12 S13 => if jA r10 13 x6 = true then jlet (jrI S13 r10 (upd (jAI S13 r10) (x6).toNatClampNeg x12)) (fun S16 => (f_X12_want v0 (20 : Int32) S16).bind (fun S17 => (jR S17 105 v0).bind (fun r19 => jbd (rc 0 v0 (v1 + (1 : Int32)) 0 S17) (fun x21 S22 => if jA r19 13 x6 = true then jlet (jrI S22 r19 (upd (jAI S22 r19) (x6).toNatClampNeg x21)) (fun S25 => (f_X12_want v0 (5 : Int32) S25).bind (fun S26 => (jR S26 106 v0).bind (fun r28 => jbd (rc 0 v0 (v1 + (1 : Int32)) 0 S26) (fun x30 S31 => if jA r28 13 x6 = true then jlet (jrI S31 r28 (upd (jAI S31 r28) (x6).toNatClampNeg x30)) (fun S34 => some (x6, S34)) else none)))) else none)))) else none))))) else none
set_option maxRecDepth 100000 in
set_option maxHeartbeats 4000000 in
theorem B_X12_ifElse_0 {p : Program} {l : Launch} {e : Env} {s : State} {m : MethodId} {args : Array Value} {below : List Frame} {meth : Method} {c : Code} {g : jG} {rc : Nat → Nat → Int32 → Int32 → jM → Option (Int32 × jM)} {kk : Nat} (hkk : 16 ≤ kk) (hrc : jrc_E l g kk rc) {rr : Int32} {SS : jM} {v0 : Nat} {v1 : Int32} {S : jM} (E : jEnv p s m args meth c cX12_ifElse "PensionHouseModel" (some .int) 3 g)  {H : Heap} {locs : List Loc} {ls : Array Slot} (hf : f_X12_ifElse rc v0 v1 S = some (rr, SS)) (hM : jAt g S s H locs) (hl : lv_has ls 3 [(0, .ref (g.2.2 + v0)), (1, .int v1)]) : W p l e (jRm (kk + 1) 0 0) s m args below meth c H locs 0 0 (MQ below (jQi g rr SS) args s 0 0 (jA0 g)) (F0 m 0 ls []) := by
  obtain ⟨hx, hb, hml, -, hts, hown, hK, -, hstr⟩ := id E
  unfold f_X12_ifElse at hf
  refine lv_aload_n hx hb dX12_ifElse_0 rfl (lv_at hl 0 rfl) ?_
  obtain ⟨hq4, hf⟩ := jif hf
  obtain ⟨x1, S2, hc3, hf⟩ := jbd_e hf
  refine jbackI hM (jrunV E hM ci_X12_part (C_X12_part hc3) lk_8_11 hq4 (by decide) rfl hl.1 rfl rfl (Nat.le_of_ble_eq_true rfl) ⟨by show 2 + 1 ≤ kk + 1; omega, by show 49 * (2 + 1) ≤ 49 * (kk + 1); omega⟩ ⟨Nat.le_refl _, Nat.le_refl _⟩ dX12_ifElse_1) (fun H locs hM => ?_)
  refine lv_if_ne (tgt := 9) hx hb dX12_ifElse_4 (by decide) (fun c5 => ?_) (fun c5 => ?_)
  · have hf := jf c5 hf
    refine lv_aload_n hx hb dX12_ifElse_9 rfl (lv_at hl 0 rfl) ?_
    refine lv_bipush (v := (8 : Int32)) hx hb dX12_ifElse_10 (by decide) ?_
    obtain ⟨x6, S7, hc8, hf⟩ := jbd_e hf
    refine jbackI hM (jrunV E hM ci_X12_node (C_X12_node hc8) lk_8_15 hq4 (by decide) rfl hl.1 rfl rfl (Nat.le_of_ble_eq_true rfl) ⟨by show 1 + 1 ≤ kk + 1; omega, by show 49 * (1 + 1) ≤ 49 * (kk + 1); omega⟩ ⟨Nat.le_refl _, Nat.le_refl _⟩ dX12_ifElse_12) (fun H locs hM => ?_)
    refine lv_istore_n (lv' := [(2, .int x6), (0, .ref (g.2.2 + v0)), (1, .int v1)]) hx hb dX12_ifElse_15 rfl hl (by decide) rfl (fun ls hl => ?_)
    refine lv_aload_n hx hb dX12_ifElse_16 rfl (lv_at hl 1 rfl) ?_
    refine lv_dup hx hb dX12_ifElse_17 rfl ?_
    refine gt_100 E hM hq4 lk_6_14 dX12_ifElse_18 ?_
    refine lv_iconst (v := (1 : Int32)) hx hb dX12_ifElse_21 (by decide) ?_
    refine lv_iadd hx hb dX12_ifElse_22 ?_
    refine pt_100 E hM hq4 lk_6_14 dX12_ifElse_23 (fun H locs S9 eS9 hM => ?_)
    have hf := jlet_y eS9 hf
    refine lv_aload_n hx hb dX12_ifElse_26 rfl (lv_at hl 1 rfl) ?_
    refine gt_104 E hM hq4 lk_6_18 dX12_ifElse_27 ?_
    obtain ⟨r10, hr11, hf⟩ := jb hf
    rw [hr11]
    show W p l e _ s m args below meth c H locs 0 0 _ (F0 m _ ls (.ref (g.2.2 + r10) :: _))
    refine lv_iload_n hx hb dX12_ifElse_30 rfl (lv_at hl 0 rfl) ?_
    refine lv_aload_n hx hb dX12_ifElse_31 rfl (lv_at hl 1 rfl) ?_
    refine lv_iload_n hx hb dX12_ifElse_32 rfl (lv_at hl 2 rfl) ?_
    refine lv_iconst (v := (1 : Int32)) hx hb dX12_ifElse_33 (by decide) ?_
    refine lv_iadd hx hb dX12_ifElse_34 ?_
    obtain ⟨x12, S13, hc14, hf⟩ := jbd_e hf
    refine jbackI hM (jrunV E hM ci_X12_expression (hrc.1 hc14) lk_7_233 hq4 (by decide) rfl hl.1 rfl rfl (Nat.le_of_ble_eq_true rfl) ⟨Nat.le_refl _, Nat.le_refl _⟩ ⟨Nat.le_refl _, Nat.le_refl _⟩ dX12_ifElse_35) (fun H locs hM => ?_)
    obtain ⟨ha15, hf⟩ := jif hf
    refine jiast E hM ha15 dX12_ifElse_38 (fun H locs S16 eS16 hM => ?_)
    have hf := jlet_y eS16 hf
    refine lv_aload_n hx hb dX12_ifElse_39 rfl (lv_at hl 1 rfl) ?_
    refine lv_bipush (v := (20 : Int32)) hx hb dX12_ifElse_40 (by decide) ?_
    obtain ⟨S17, hc18, hf⟩ := jb hf
    refine jbackV hM (jrunV E hM ci_X12_want (C_X12_want hc18) lk_7_221 hq4 (by decide) rfl hl.1 rfl rfl (Nat.le_of_ble_eq_true rfl) ⟨by show 3 + 1 ≤ kk + 1; omega, by show 49 * (3 + 1) ≤ 49 * (kk + 1); omega⟩ ⟨Nat.le_refl _, Nat.le_refl _⟩ dX12_ifElse_42) (fun H locs hM => ?_)
    refine lv_aload_n hx hb dX12_ifElse_45 rfl (lv_at hl 1 rfl) ?_
    refine gt_105 E hM hq4 lk_6_19 dX12_ifElse_46 ?_
    obtain ⟨r19, hr20, hf⟩ := jb hf
    rw [hr20]
    show W p l e _ s m args below meth c H locs 0 0 _ (F0 m _ ls (.ref (g.2.2 + r19) :: _))
    refine lv_iload_n hx hb dX12_ifElse_49 rfl (lv_at hl 0 rfl) ?_
    refine lv_aload_n hx hb dX12_ifElse_50 rfl (lv_at hl 1 rfl) ?_
    refine lv_iload_n hx hb dX12_ifElse_51 rfl (lv_at hl 2 rfl) ?_
    refine lv_iconst (v := (1 : Int32)) hx hb dX12_ifElse_52 (by decide) ?_
    refine lv_iadd hx hb dX12_ifElse_53 ?_
    obtain ⟨x21, S22, hc23, hf⟩ := jbd_e hf
    refine jbackI hM (jrunV E hM ci_X12_expression (hrc.1 hc23) lk_7_233 hq4 (by decide) rfl hl.1 rfl rfl (Nat.le_of_ble_eq_true rfl) ⟨Nat.le_refl _, Nat.le_refl _⟩ ⟨Nat.le_refl _, Nat.le_refl _⟩ dX12_ifElse_54) (fun H locs hM => ?_)
    obtain ⟨ha24, hf⟩ := jif hf
    refine jiast E hM ha24 dX12_ifElse_57 (fun H locs S25 eS25 hM => ?_)
    have hf := jlet_y eS25 hf
    refine lv_aload_n hx hb dX12_ifElse_58 rfl (lv_at hl 1 rfl) ?_
    refine lv_iconst (v := (5 : Int32)) hx hb dX12_ifElse_59 (by decide) ?_
    obtain ⟨S26, hc27, hf⟩ := jb hf
    refine jbackV hM (jrunV E hM ci_X12_want (C_X12_want hc27) lk_7_221 hq4 (by decide) rfl hl.1 rfl rfl (Nat.le_of_ble_eq_true rfl) ⟨by show 3 + 1 ≤ kk + 1; omega, by show 49 * (3 + 1) ≤ 49 * (kk + 1); omega⟩ ⟨Nat.le_refl _, Nat.le_refl _⟩ dX12_ifElse_60) (fun H locs hM => ?_)
    refine lv_aload_n hx hb dX12_ifElse_63 rfl (lv_at hl 1 rfl) ?_
    refine gt_106 E hM hq4 lk_6_20 dX12_ifElse_64 ?_
    obtain ⟨r28, hr29, hf⟩ := jb hf
    rw [hr29]
    show W p l e _ s m args below meth c H locs 0 0 _ (F0 m _ ls (.ref (g.2.2 + r28) :: _))
    refine lv_iload_n hx hb dX12_ifElse_67 rfl (lv_at hl 0 rfl) ?_
    refine lv_aload_n hx hb dX12_ifElse_68 rfl (lv_at hl 1 rfl) ?_
    refine lv_iload_n hx hb dX12_ifElse_69 rfl (lv_at hl 2 rfl) ?_
    refine lv_iconst (v := (1 : Int32)) hx hb dX12_ifElse_70 (by decide) ?_
    refine lv_iadd hx hb dX12_ifElse_71 ?_
    obtain ⟨x30, S31, hc32, hf⟩ := jbd_e hf
    refine jbackI hM (jrunV E hM ci_X12_expression (hrc.1 hc32) lk_7_233 hq4 (by decide) rfl hl.1 rfl rfl (Nat.le_of_ble_eq_true rfl) ⟨Nat.le_refl _, Nat.le_refl _⟩ ⟨Nat.le_refl _, Nat.le_refl _⟩ dX12_ifElse_72) (fun H locs hM => ?_)
    obtain ⟨ha33, hf⟩ := jif hf
    refine jiast E hM ha33 dX12_ifElse_75 (fun H locs S34 eS34 hM => ?_)
    have hf := jlet_y eS34 hf
    refine lv_iload_n hx hb dX12_ifElse_76 rfl (lv_at hl 0 rfl) ?_
    exact jireti (jr2 hf) E hM dX12_ifElse_77
  · have hf := jt c5 hf
    refine lv_iconst (v := (-1 : Int32)) hx hb dX12_ifElse_7 (by decide) ?_
    exact jireti (jr2 hf) E hM dX12_ifElse_8
set_option maxRecDepth 100000 in
theorem D_X12_ifElse {l : Launch} {g : jG} {rc : Nat → Nat → Int32 → Int32 → jM → Option (Int32 × jM)} {kk : Nat} (hkk : 16 ≤ kk) (hrc : jrc_E l g kk rc) {a0 : Nat} {a1 : Int32} {S : jM} {rr : Int32} {SS : jM} (hf : f_X12_ifElse rc a0 a1 S = some (rr, SS)) : jMet l g yX12_ifElse cX12_ifElse 3 (some .int) (kk + 1) 0 0 [.ref (g.2.2 + a0), .int a1] S (jQi g rr SS) := by
  refine jof (by decide +kernel) (Nat.le_of_ble_eq_true rfl) ?_
  intro p e s m below meth c E hM ls hl
  have hl : lv_has ls 3 [(0, .ref (g.2.2 + a0)),(1, .int a1)] := hl
  exact B_X12_ifElse_0 hkk hrc E hf hM hl
-- PensionHouseModel.compared
noncomputable def f_X12_compared_44 (rc : Nat → Nat → Int32 → Int32 → jM → Option (Int32 × jM)) (v0 : Nat) (v1 : Int32) (v2 : Int32) (S : jM) : Option (Int32 × jM) := if jK v0 = 10 then jbd (f_X12_operator v0 v2 S) (fun x1 S2 => jbd (rc 3 v0 v1 0 S2) (fun x5 S6 => if (jI S6 101 v0) = 0 then (jR S6 105 v0).bind (fun r9 => if jA r9 13 x1 = true then jlet (jrI S6 r9 (upd (jAI S6 r9) (x1).toNatClampNeg x5)) (fun S12 => some (x1, S12)) else none) else some (x1, S6))) else none
noncomputable def f_X12_compared (rc : Nat → Nat → Int32 → Int32 → jM → Option (Int32 × jM)) (v0 : Nat) (v1 : Int32) (S : jM) : Option (Int32 × jM) := if jK v0 = 10 then jbd (rc 3 v0 v1 0 S) (fun x13 S14 => (f_X12_is v0 (160 : Int32) S14).bind (fun x17 => if x17 = 0 then (f_X12_is v0 (46 : Int32) S14).bind (fun x20 => if x20 = 0 then (f_X12_is v0 (161 : Int32) S14).bind (fun x23 => if x23 = 0 then (f_X12_is v0 (45 : Int32) S14).bind (fun x26 => if x26 = 0 then some (x13, S14) else f_X12_compared_44 rc v0 v1 x13 S14) else f_X12_compared_44 rc v0 v1 x13 S14) else f_X12_compared_44 rc v0 v1 x13 S14) else f_X12_compared_44 rc v0 v1 x13 S14)) else none
set_option maxRecDepth 100000 in
set_option maxHeartbeats 4000000 in
theorem B_X12_compared_44 {p : Program} {l : Launch} {e : Env} {s : State} {m : MethodId} {args : Array Value} {below : List Frame} {meth : Method} {c : Code} {g : jG} {rc : Nat → Nat → Int32 → Int32 → jM → Option (Int32 × jM)} {kk : Nat} (hkk : 16 ≤ kk) (hrc : jrc_E l g kk rc) {rr : Int32} {SS : jM} {v0 : Nat} {v1 : Int32} {v2 : Int32} {S : jM} (E : jEnv p s m args meth c cX12_compared "PensionHouseModel" (some .int) 5 g)  {H : Heap} {locs : List Loc} {ls : Array Slot} (hf : f_X12_compared_44 rc v0 v1 v2 S = some (rr, SS)) (hM : jAt g S s H locs) (hl : lv_has ls 5 [(0, .ref (g.2.2 + v0)), (1, .int v1), (2, .int v2)]) : W p l e (jRm (kk + 1) 0 0) s m args below meth c H locs 0 0 (MQ below (jQi g rr SS) args s 0 0 (jA0 g)) (F0 m 44 ls []) := by
  obtain ⟨hx, hb, hml, -, hts, hown, hK, -, hstr⟩ := id E
  unfold f_X12_compared_44 at hf
  refine lv_aload_n hx hb dX12_compared_44 rfl (lv_at hl 0 rfl) ?_
  refine lv_iload_n hx hb dX12_compared_45 rfl (lv_at hl 2 rfl) ?_
  obtain ⟨hq4, hf⟩ := jif hf
  obtain ⟨x1, S2, hc3, hf⟩ := jbd_e hf
  refine jbackI hM (jrunV E hM ci_X12_operator (C_X12_operator hc3) lk_8_47 hq4 (by decide) rfl hl.1 rfl rfl (Nat.le_of_ble_eq_true rfl) ⟨by show 3 + 1 ≤ kk + 1; omega, by show 49 * (3 + 1) ≤ 49 * (kk + 1); omega⟩ ⟨Nat.le_refl _, Nat.le_refl _⟩ dX12_compared_46) (fun H locs hM => ?_)
  refine lv_istore_n (lv' := [(3, .int x1), (0, .ref (g.2.2 + v0)), (1, .int v1), (2, .int v2)]) hx hb dX12_compared_49 rfl hl (by decide) rfl (fun ls hl => ?_)
  refine lv_aload_n hx hb dX12_compared_50 rfl (lv_at hl 1 rfl) ?_
  refine lv_iload_n hx hb dX12_compared_51 rfl (lv_at hl 2 rfl) ?_
  obtain ⟨x5, S6, hc7, hf⟩ := jbd_e hf
  refine jbackI hM (jrunV E hM ci_X12_added (hrc.2.2.2.1 hc7) lk_8_23 hq4 (by decide) rfl hl.1 rfl rfl (Nat.le_of_ble_eq_true rfl) ⟨Nat.le_refl _, Nat.le_refl _⟩ ⟨Nat.le_refl _, Nat.le_refl _⟩ dX12_compared_52) (fun H locs hM => ?_)
  refine lv_istore (lv' := [(4, .int x5), (3, .int x1), (0, .ref (g.2.2 + v0)), (1, .int v1), (2, .int v2)]) hx hb dX12_compared_55 hl (by decide) rfl (fun ls hl => ?_)
  refine lv_aload_n hx hb dX12_compared_57 rfl (lv_at hl 2 rfl) ?_
  refine gt_101 E hM hq4 lk_6_15 dX12_compared_58 ?_
  refine lv_if_ne (tgt := 72) hx hb dX12_compared_61 (by decide) (fun c8 => ?_) (fun c8 => ?_)
  · have hf := jf c8 hf
    refine lv_iload_n hx hb dX12_compared_72 rfl (lv_at hl 1 rfl) ?_
    exact jireti (jr2 hf) E hM dX12_compared_73
  · have hf := jt c8 hf
    refine lv_aload_n hx hb dX12_compared_64 rfl (lv_at hl 2 rfl) ?_
    refine gt_105 E hM hq4 lk_6_19 dX12_compared_65 ?_
    obtain ⟨r9, hr10, hf⟩ := jb hf
    rw [hr10]
    show W p l e _ s m args below meth c H locs 0 0 _ (F0 m _ ls (.ref (g.2.2 + r9) :: _))
    refine lv_iload_n hx hb dX12_compared_68 rfl (lv_at hl 1 rfl) ?_
    refine lv_iload hx hb dX12_compared_69 (lv_at hl 0 rfl) ?_
    obtain ⟨ha11, hf⟩ := jif hf
    refine jiast E hM ha11 dX12_compared_71 (fun H locs S12 eS12 hM => ?_)
    have hf := jlet_y eS12 hf
    refine lv_iload_n hx hb dX12_compared_72 rfl (lv_at hl 1 rfl) ?_
    exact jireti (jr2 hf) E hM dX12_compared_73
set_option maxRecDepth 100000 in
set_option maxHeartbeats 4000000 in
theorem B_X12_compared_0 {p : Program} {l : Launch} {e : Env} {s : State} {m : MethodId} {args : Array Value} {below : List Frame} {meth : Method} {c : Code} {g : jG} {rc : Nat → Nat → Int32 → Int32 → jM → Option (Int32 × jM)} {kk : Nat} (hkk : 16 ≤ kk) (hrc : jrc_E l g kk rc) {rr : Int32} {SS : jM} {v0 : Nat} {v1 : Int32} {S : jM} (E : jEnv p s m args meth c cX12_compared "PensionHouseModel" (some .int) 5 g)  {H : Heap} {locs : List Loc} {ls : Array Slot} (hf : f_X12_compared rc v0 v1 S = some (rr, SS)) (hM : jAt g S s H locs) (hl : lv_has ls 5 [(0, .ref (g.2.2 + v0)), (1, .int v1)]) : W p l e (jRm (kk + 1) 0 0) s m args below meth c H locs 0 0 (MQ below (jQi g rr SS) args s 0 0 (jA0 g)) (F0 m 0 ls []) := by
  obtain ⟨hx, hb, hml, -, hts, hown, hK, -, hstr⟩ := id E
  unfold f_X12_compared at hf
  refine lv_aload_n hx hb dX12_compared_0 rfl (lv_at hl 0 rfl) ?_
  refine lv_iload_n hx hb dX12_compared_1 rfl (lv_at hl 1 rfl) ?_
  obtain ⟨hq16, hf⟩ := jif hf
  obtain ⟨x13, S14, hc15, hf⟩ := jbd_e hf
  refine jbackI hM (jrunV E hM ci_X12_added (hrc.2.2.2.1 hc15) lk_8_23 hq16 (by decide) rfl hl.1 rfl rfl (Nat.le_of_ble_eq_true rfl) ⟨Nat.le_refl _, Nat.le_refl _⟩ ⟨Nat.le_refl _, Nat.le_refl _⟩ dX12_compared_2) (fun H locs hM => ?_)
  refine lv_istore_n (lv' := [(2, .int x13), (0, .ref (g.2.2 + v0)), (1, .int v1)]) hx hb dX12_compared_5 rfl hl (by decide) rfl (fun ls hl => ?_)
  refine lv_aload_n hx hb dX12_compared_6 rfl (lv_at hl 1 rfl) ?_
  refine lv_sipush (v := (160 : Int32)) hx hb dX12_compared_7 (by decide) ?_
  obtain ⟨x17, hc18, hf⟩ := jb hf
  refine jbackI hM (jrunV E hM ci_X12_is (C_X12_is hc18) lk_7_225 hq16 (by decide) rfl hl.1 rfl rfl (Nat.le_of_ble_eq_true rfl) ⟨by show 1 + 1 ≤ kk + 1; omega, by show 49 * (1 + 1) ≤ 49 * (kk + 1); omega⟩ ⟨Nat.le_refl _, Nat.le_refl _⟩ dX12_compared_10) (fun H locs hM => ?_)
  refine lv_if_ne (tgt := 44) hx hb dX12_compared_13 (by decide) (fun c19 => ?_) (fun c19 => ?_)
  · have hf := jf c19 hf
    exact B_X12_compared_44 hkk hrc E  hf hM (lv_sub hl [1, 2, 0] rfl)
  · have hf := jt c19 hf
    refine lv_aload_n hx hb dX12_compared_16 rfl (lv_at hl 1 rfl) ?_
    refine lv_bipush (v := (46 : Int32)) hx hb dX12_compared_17 (by decide) ?_
    obtain ⟨x20, hc21, hf⟩ := jb hf
    refine jbackI hM (jrunV E hM ci_X12_is (C_X12_is hc21) lk_7_225 hq16 (by decide) rfl hl.1 rfl rfl (Nat.le_of_ble_eq_true rfl) ⟨by show 1 + 1 ≤ kk + 1; omega, by show 49 * (1 + 1) ≤ 49 * (kk + 1); omega⟩ ⟨Nat.le_refl _, Nat.le_refl _⟩ dX12_compared_19) (fun H locs hM => ?_)
    refine lv_if_ne (tgt := 44) hx hb dX12_compared_22 (by decide) (fun c22 => ?_) (fun c22 => ?_)
    · have hf := jf c22 hf
      exact B_X12_compared_44 hkk hrc E  hf hM (lv_sub hl [1, 2, 0] rfl)
    · have hf := jt c22 hf
      refine lv_aload_n hx hb dX12_compared_25 rfl (lv_at hl 1 rfl) ?_
      refine lv_sipush (v := (161 : Int32)) hx hb dX12_compared_26 (by decide) ?_
      obtain ⟨x23, hc24, hf⟩ := jb hf
      refine jbackI hM (jrunV E hM ci_X12_is (C_X12_is hc24) lk_7_225 hq16 (by decide) rfl hl.1 rfl rfl (Nat.le_of_ble_eq_true rfl) ⟨by show 1 + 1 ≤ kk + 1; omega, by show 49 * (1 + 1) ≤ 49 * (kk + 1); omega⟩ ⟨Nat.le_refl _, Nat.le_refl _⟩ dX12_compared_29) (fun H locs hM => ?_)
      refine lv_if_ne (tgt := 44) hx hb dX12_compared_32 (by decide) (fun c25 => ?_) (fun c25 => ?_)
      · have hf := jf c25 hf
        exact B_X12_compared_44 hkk hrc E  hf hM (lv_sub hl [1, 2, 0] rfl)
      · have hf := jt c25 hf
        refine lv_aload_n hx hb dX12_compared_35 rfl (lv_at hl 1 rfl) ?_
        refine lv_bipush (v := (45 : Int32)) hx hb dX12_compared_36 (by decide) ?_
        obtain ⟨x26, hc27, hf⟩ := jb hf
        refine jbackI hM (jrunV E hM ci_X12_is (C_X12_is hc27) lk_7_225 hq16 (by decide) rfl hl.1 rfl rfl (Nat.le_of_ble_eq_true rfl) ⟨by show 1 + 1 ≤ kk + 1; omega, by show 49 * (1 + 1) ≤ 49 * (kk + 1); omega⟩ ⟨Nat.le_refl _, Nat.le_refl _⟩ dX12_compared_38) (fun H locs hM => ?_)
        refine lv_if_eq (tgt := 74) hx hb dX12_compared_41 (by decide) (fun c28 => ?_) (fun c28 => ?_)
        · have hf := jt c28 hf
          refine lv_iload_n hx hb dX12_compared_74 rfl (lv_at hl 0 rfl) ?_
          exact jireti (jr2 hf) E hM dX12_compared_75
        · have hf := jf c28 hf
          exact B_X12_compared_44 hkk hrc E  hf hM (lv_sub hl [1, 2, 0] rfl)
set_option maxRecDepth 100000 in
theorem D_X12_compared {l : Launch} {g : jG} {rc : Nat → Nat → Int32 → Int32 → jM → Option (Int32 × jM)} {kk : Nat} (hkk : 16 ≤ kk) (hrc : jrc_E l g kk rc) {a0 : Nat} {a1 : Int32} {S : jM} {rr : Int32} {SS : jM} (hf : f_X12_compared rc a0 a1 S = some (rr, SS)) : jMet l g yX12_compared cX12_compared 5 (some .int) (kk + 1) 0 0 [.ref (g.2.2 + a0), .int a1] S (jQi g rr SS) := by
  refine jof (by decide +kernel) (Nat.le_of_ble_eq_true rfl) ?_
  intro p e s m below meth c E hM ls hl
  have hl : lv_has ls 5 [(0, .ref (g.2.2 + a0)),(1, .int a1)] := hl
  exact B_X12_compared_0 hkk hrc E hf hM hl
-- PensionHouseModel.added
noncomputable def f_X12_added_54 (rc : Nat → Nat → Int32 → Int32 → jM → Option (Int32 × jM)) (k6 : Nat → Int32 → Int32 → jM → Option (Int32 × jM)) (v0 : Nat) (v1 : Int32) (v3 : Int32) (S : jM) : Option (Int32 × jM) := k6 v0 v1 v3 S
noncomputable def f_X12_added_26 (rc : Nat → Nat → Int32 → Int32 → jM → Option (Int32 × jM)) (k6 : Nat → Int32 → Int32 → jM → Option (Int32 × jM)) (v0 : Nat) (v1 : Int32) (v2 : Int32) (S : jM) : Option (Int32 × jM) := if jK v0 = 10 then jbd (f_X12_operator v0 v2 S) (fun x1 S2 => jbd (rc 4 v0 v1 0 S2) (fun x5 S6 => if (jI S6 101 v0) = 0 then (jR S6 105 v0).bind (fun r9 => if jA r9 13 x1 = true then jlet (jrI S6 r9 (upd (jAI S6 r9) (x1).toNatClampNeg x5)) (fun S12 => f_X12_added_54 rc k6 v0 v1 x1 S12) else none) else f_X12_added_54 rc k6 v0 v1 x1 S6)) else none
noncomputable def f_X12_added_6 (rc : Nat → Nat → Int32 → Int32 → jM → Option (Int32 × jM)) : Nat → Nat → Int32 → Int32 → jM → Option (Int32 × jM)
  | 0, _, _, _, _ => none
  | n + 1, v0, v1, v2, S => if jK v0 = 10 then (f_X12_is v0 (143 : Int32) S).bind (fun x13 => if x13 = 0 then (f_X12_is v0 (145 : Int32) S).bind (fun x17 => if x17 = 0 then some (v2, S) else f_X12_added_26 rc (f_X12_added_6 rc n) v0 v1 v2 S) else f_X12_added_26 rc (f_X12_added_6 rc n) v0 v1 v2 S) else none
noncomputable def f_X12_added (rc : Nat → Nat → Int32 → Int32 → jM → Option (Int32 × jM)) (v0 : Nat) (v1 : Int32) (S : jM) : Option (Int32 × jM) := if jK v0 = 10 then jbd (rc 4 v0 v1 0 S) (fun x20 S21 => f_X12_added_6 rc 1100000 v0 v1 x20 S21) else none
set_option maxRecDepth 100000 in
set_option maxHeartbeats 4000000 in
theorem B_X12_added_54 {p : Program} {l : Launch} {e : Env} {s : State} {m : MethodId} {args : Array Value} {below : List Frame} {meth : Method} {c : Code} {g : jG} {rc : Nat → Nat → Int32 → Int32 → jM → Option (Int32 × jM)} {kk : Nat} (hkk : 16 ≤ kk) (hrc : jrc_E l g kk rc) {rr : Int32} {SS : jM} {v0 : Nat} {v1 : Int32} {v3 : Int32} {S : jM} {k6 : Nat → Int32 → Int32 → jM → Option (Int32 × jM)} (E : jEnv p s m args meth c cX12_added "PensionHouseModel" (some .int) 5 g) (hk6 : ∀ (v0 : Nat) (v1 : Int32) (v2 : Int32) (S : jM) (H : Heap) (locs : List Loc) (ls : Array Slot), k6 v0 v1 v2 S = some (rr, SS) → jAt g S s H locs → lv_has ls 5 [(0, .ref (g.2.2 + v0)), (1, .int v1), (2, .int v2)] → W p l e (jRm (kk + 1) 0 0) s m args below meth c H locs 0 0 (MQ below (jQi g rr SS) args s 0 0 (jA0 g)) (F0 m 6 ls [])) {H : Heap} {locs : List Loc} {ls : Array Slot} (hf : f_X12_added_54 rc k6 v0 v1 v3 S = some (rr, SS)) (hM : jAt g S s H locs) (hl : lv_has ls 5 [(0, .ref (g.2.2 + v0)), (1, .int v1), (3, .int v3)]) : W p l e (jRm (kk + 1) 0 0) s m args below meth c H locs 0 0 (MQ below (jQi g rr SS) args s 0 0 (jA0 g)) (F0 m 54 ls []) := by
  obtain ⟨hx, hb, hml, -, hts, hown, hK, -, hstr⟩ := id E
  unfold f_X12_added_54 at hf
  refine lv_iload_n hx hb dX12_added_54 rfl (lv_at hl 2 rfl) ?_
  refine lv_istore_n (lv' := [(2, .int v3), (0, .ref (g.2.2 + v0)), (1, .int v1), (3, .int v3)]) hx hb dX12_added_55 rfl hl (by decide) rfl (fun ls hl => ?_)
  refine lv_goto (tgt := 6) hx hb dX12_added_56 (by decide) ?_
  exact hk6 v0 v1 v3 S _ _ _ hf hM (lv_sub hl [1, 2, 0] rfl)
set_option maxRecDepth 100000 in
set_option maxHeartbeats 4000000 in
theorem B_X12_added_26 {p : Program} {l : Launch} {e : Env} {s : State} {m : MethodId} {args : Array Value} {below : List Frame} {meth : Method} {c : Code} {g : jG} {rc : Nat → Nat → Int32 → Int32 → jM → Option (Int32 × jM)} {kk : Nat} (hkk : 16 ≤ kk) (hrc : jrc_E l g kk rc) {rr : Int32} {SS : jM} {v0 : Nat} {v1 : Int32} {v2 : Int32} {S : jM} {k6 : Nat → Int32 → Int32 → jM → Option (Int32 × jM)} (E : jEnv p s m args meth c cX12_added "PensionHouseModel" (some .int) 5 g) (hk6 : ∀ (v0 : Nat) (v1 : Int32) (v2 : Int32) (S : jM) (H : Heap) (locs : List Loc) (ls : Array Slot), k6 v0 v1 v2 S = some (rr, SS) → jAt g S s H locs → lv_has ls 5 [(0, .ref (g.2.2 + v0)), (1, .int v1), (2, .int v2)] → W p l e (jRm (kk + 1) 0 0) s m args below meth c H locs 0 0 (MQ below (jQi g rr SS) args s 0 0 (jA0 g)) (F0 m 6 ls [])) {H : Heap} {locs : List Loc} {ls : Array Slot} (hf : f_X12_added_26 rc k6 v0 v1 v2 S = some (rr, SS)) (hM : jAt g S s H locs) (hl : lv_has ls 5 [(0, .ref (g.2.2 + v0)), (1, .int v1), (2, .int v2)]) : W p l e (jRm (kk + 1) 0 0) s m args below meth c H locs 0 0 (MQ below (jQi g rr SS) args s 0 0 (jA0 g)) (F0 m 26 ls []) := by
  obtain ⟨hx, hb, hml, -, hts, hown, hK, -, hstr⟩ := id E
  unfold f_X12_added_26 at hf
  refine lv_aload_n hx hb dX12_added_26 rfl (lv_at hl 0 rfl) ?_
  refine lv_iload_n hx hb dX12_added_27 rfl (lv_at hl 2 rfl) ?_
  obtain ⟨hq4, hf⟩ := jif hf
  obtain ⟨x1, S2, hc3, hf⟩ := jbd_e hf
  refine jbackI hM (jrunV E hM ci_X12_operator (C_X12_operator hc3) lk_8_47 hq4 (by decide) rfl hl.1 rfl rfl (Nat.le_of_ble_eq_true rfl) ⟨by show 3 + 1 ≤ kk + 1; omega, by show 49 * (3 + 1) ≤ 49 * (kk + 1); omega⟩ ⟨Nat.le_refl _, Nat.le_refl _⟩ dX12_added_28) (fun H locs hM => ?_)
  refine lv_istore_n (lv' := [(3, .int x1), (0, .ref (g.2.2 + v0)), (1, .int v1), (2, .int v2)]) hx hb dX12_added_31 rfl hl (by decide) rfl (fun ls hl => ?_)
  refine lv_aload_n hx hb dX12_added_32 rfl (lv_at hl 1 rfl) ?_
  refine lv_iload_n hx hb dX12_added_33 rfl (lv_at hl 2 rfl) ?_
  obtain ⟨x5, S6, hc7, hf⟩ := jbd_e hf
  refine jbackI hM (jrunV E hM ci_X12_multiplied (hrc.2.2.2.2.1 hc7) lk_8_27 hq4 (by decide) rfl hl.1 rfl rfl (Nat.le_of_ble_eq_true rfl) ⟨Nat.le_refl _, Nat.le_refl _⟩ ⟨Nat.le_refl _, Nat.le_refl _⟩ dX12_added_34) (fun H locs hM => ?_)
  refine lv_istore (lv' := [(4, .int x5), (3, .int x1), (0, .ref (g.2.2 + v0)), (1, .int v1), (2, .int v2)]) hx hb dX12_added_37 hl (by decide) rfl (fun ls hl => ?_)
  refine lv_aload_n hx hb dX12_added_39 rfl (lv_at hl 2 rfl) ?_
  refine gt_101 E hM hq4 lk_6_15 dX12_added_40 ?_
  refine lv_if_ne (tgt := 54) hx hb dX12_added_43 (by decide) (fun c8 => ?_) (fun c8 => ?_)
  · have hf := jf c8 hf
    exact B_X12_added_54 hkk hrc E hk6 hf hM (lv_sub hl [2, 3, 1] rfl)
  · have hf := jt c8 hf
    refine lv_aload_n hx hb dX12_added_46 rfl (lv_at hl 2 rfl) ?_
    refine gt_105 E hM hq4 lk_6_19 dX12_added_47 ?_
    obtain ⟨r9, hr10, hf⟩ := jb hf
    rw [hr10]
    show W p l e _ s m args below meth c H locs 0 0 _ (F0 m _ ls (.ref (g.2.2 + r9) :: _))
    refine lv_iload_n hx hb dX12_added_50 rfl (lv_at hl 1 rfl) ?_
    refine lv_iload hx hb dX12_added_51 (lv_at hl 0 rfl) ?_
    obtain ⟨ha11, hf⟩ := jif hf
    refine jiast E hM ha11 dX12_added_53 (fun H locs S12 eS12 hM => ?_)
    have hf := jlet_y eS12 hf
    exact B_X12_added_54 hkk hrc E hk6 hf hM (lv_sub hl [2, 3, 1] rfl)
set_option maxRecDepth 100000 in
set_option maxHeartbeats 4000000 in
theorem B_X12_added_6 {p : Program} {l : Launch} {e : Env} {s : State} {m : MethodId} {args : Array Value} {below : List Frame} {meth : Method} {c : Code} {g : jG} {rc : Nat → Nat → Int32 → Int32 → jM → Option (Int32 × jM)} {kk : Nat} (hkk : 16 ≤ kk) (hrc : jrc_E l g kk rc) {rr : Int32} {SS : jM} (E : jEnv p s m args meth c cX12_added "PensionHouseModel" (some .int) 5 g)  : ∀ (n : Nat) (v0 : Nat) (v1 : Int32) (v2 : Int32) (S : jM) (H : Heap) (locs : List Loc) (ls : Array Slot), f_X12_added_6 rc n v0 v1 v2 S = some (rr, SS) → jAt g S s H locs → lv_has ls 5 [(0, .ref (g.2.2 + v0)), (1, .int v1), (2, .int v2)] → W p l e (jRm (kk + 1) 0 0) s m args below meth c H locs 0 0 (MQ below (jQi g rr SS) args s 0 0 (jA0 g)) (F0 m 6 ls []) := by
  obtain ⟨hx, hb, hml, -, hts, hown, hK, -, hstr⟩ := id E
  intro n
  induction n with
  | zero => intro v0 v1 v2 S H locs ls hf hM hl; rw [f_X12_added_6] at hf; cases hf
  | succ n ih =>
    intro v0 v1 v2 S H locs ls hf hM hl
    rw [f_X12_added_6] at hf
    refine lv_aload_n hx hb dX12_added_6 rfl (lv_at hl 0 rfl) ?_
    refine lv_sipush (v := (143 : Int32)) hx hb dX12_added_7 (by decide) ?_
    obtain ⟨hq15, hf⟩ := jif hf
    obtain ⟨x13, hc14, hf⟩ := jb hf
    refine jbackI hM (jrunV E hM ci_X12_is (C_X12_is hc14) lk_7_225 hq15 (by decide) rfl hl.1 rfl rfl (Nat.le_of_ble_eq_true rfl) ⟨by show 1 + 1 ≤ kk + 1; omega, by show 49 * (1 + 1) ≤ 49 * (kk + 1); omega⟩ ⟨Nat.le_refl _, Nat.le_refl _⟩ dX12_added_10) (fun H locs hM => ?_)
    refine lv_if_ne (tgt := 26) hx hb dX12_added_13 (by decide) (fun c16 => ?_) (fun c16 => ?_)
    · have hf := jf c16 hf
      exact B_X12_added_26 hkk hrc E ih hf hM (lv_sub hl [0, 1, 2] rfl)
    · have hf := jt c16 hf
      refine lv_aload_n hx hb dX12_added_16 rfl (lv_at hl 0 rfl) ?_
      refine lv_sipush (v := (145 : Int32)) hx hb dX12_added_17 (by decide) ?_
      obtain ⟨x17, hc18, hf⟩ := jb hf
      refine jbackI hM (jrunV E hM ci_X12_is (C_X12_is hc18) lk_7_225 hq15 (by decide) rfl hl.1 rfl rfl (Nat.le_of_ble_eq_true rfl) ⟨by show 1 + 1 ≤ kk + 1; omega, by show 49 * (1 + 1) ≤ 49 * (kk + 1); omega⟩ ⟨Nat.le_refl _, Nat.le_refl _⟩ dX12_added_20) (fun H locs hM => ?_)
      refine lv_if_eq (tgt := 59) hx hb dX12_added_23 (by decide) (fun c19 => ?_) (fun c19 => ?_)
      · have hf := jt c19 hf
        refine lv_iload_n hx hb dX12_added_59 rfl (lv_at hl 2 rfl) ?_
        exact jireti (jr2 hf) E hM dX12_added_60
      · have hf := jf c19 hf
        exact B_X12_added_26 hkk hrc E ih hf hM (lv_sub hl [0, 1, 2] rfl)
set_option maxRecDepth 100000 in
set_option maxHeartbeats 4000000 in
theorem B_X12_added_0 {p : Program} {l : Launch} {e : Env} {s : State} {m : MethodId} {args : Array Value} {below : List Frame} {meth : Method} {c : Code} {g : jG} {rc : Nat → Nat → Int32 → Int32 → jM → Option (Int32 × jM)} {kk : Nat} (hkk : 16 ≤ kk) (hrc : jrc_E l g kk rc) {rr : Int32} {SS : jM} {v0 : Nat} {v1 : Int32} {S : jM} (E : jEnv p s m args meth c cX12_added "PensionHouseModel" (some .int) 5 g)  {H : Heap} {locs : List Loc} {ls : Array Slot} (hf : f_X12_added rc v0 v1 S = some (rr, SS)) (hM : jAt g S s H locs) (hl : lv_has ls 5 [(0, .ref (g.2.2 + v0)), (1, .int v1)]) : W p l e (jRm (kk + 1) 0 0) s m args below meth c H locs 0 0 (MQ below (jQi g rr SS) args s 0 0 (jA0 g)) (F0 m 0 ls []) := by
  obtain ⟨hx, hb, hml, -, hts, hown, hK, -, hstr⟩ := id E
  unfold f_X12_added at hf
  refine lv_aload_n hx hb dX12_added_0 rfl (lv_at hl 0 rfl) ?_
  refine lv_iload_n hx hb dX12_added_1 rfl (lv_at hl 1 rfl) ?_
  obtain ⟨hq23, hf⟩ := jif hf
  obtain ⟨x20, S21, hc22, hf⟩ := jbd_e hf
  refine jbackI hM (jrunV E hM ci_X12_multiplied (hrc.2.2.2.2.1 hc22) lk_8_27 hq23 (by decide) rfl hl.1 rfl rfl (Nat.le_of_ble_eq_true rfl) ⟨Nat.le_refl _, Nat.le_refl _⟩ ⟨Nat.le_refl _, Nat.le_refl _⟩ dX12_added_2) (fun H locs hM => ?_)
  refine lv_istore_n (lv' := [(2, .int x20), (0, .ref (g.2.2 + v0)), (1, .int v1)]) hx hb dX12_added_5 rfl hl (by decide) rfl (fun ls hl => ?_)
  exact B_X12_added_6 hkk hrc E  1100000 v0 v1 x20 S21 _ _ _ hf hM (lv_sub hl [1, 2, 0] rfl)
set_option maxRecDepth 100000 in
theorem D_X12_added {l : Launch} {g : jG} {rc : Nat → Nat → Int32 → Int32 → jM → Option (Int32 × jM)} {kk : Nat} (hkk : 16 ≤ kk) (hrc : jrc_E l g kk rc) {a0 : Nat} {a1 : Int32} {S : jM} {rr : Int32} {SS : jM} (hf : f_X12_added rc a0 a1 S = some (rr, SS)) : jMet l g yX12_added cX12_added 5 (some .int) (kk + 1) 0 0 [.ref (g.2.2 + a0), .int a1] S (jQi g rr SS) := by
  refine jof (by decide +kernel) (Nat.le_of_ble_eq_true rfl) ?_
  intro p e s m below meth c E hM ls hl
  have hl : lv_has ls 5 [(0, .ref (g.2.2 + a0)),(1, .int a1)] := hl
  exact B_X12_added_0 hkk hrc E hf hM hl
-- PensionHouseModel.multiplied
noncomputable def f_X12_multiplied_68 (rc : Nat → Nat → Int32 → Int32 → jM → Option (Int32 × jM)) (k8 : Nat → Int32 → Int32 → jM → Option (Int32 × jM)) (v0 : Nat) (v1 : Int32) (v3 : Int32) (S : jM) : Option (Int32 × jM) := k8 v0 v1 v3 S
noncomputable def f_X12_multiplied_38 (rc : Nat → Nat → Int32 → Int32 → jM → Option (Int32 × jM)) (k8 : Nat → Int32 → Int32 → jM → Option (Int32 × jM)) (v0 : Nat) (v1 : Int32) (v2 : Int32) (S : jM) : Option (Int32 × jM) := if jK v0 = 10 then jbd (f_X12_operator v0 v2 S) (fun x1 S2 => jbd (rc 5 v0 (v1 + (1 : Int32)) 0 S2) (fun x5 S6 => if (jI S6 101 v0) = 0 then (jR S6 105 v0).bind (fun r9 => if jA r9 13 x1 = true then jlet (jrI S6 r9 (upd (jAI S6 r9) (x1).toNatClampNeg x5)) (fun S12 => f_X12_multiplied_68 rc k8 v0 v1 x1 S12) else none) else f_X12_multiplied_68 rc k8 v0 v1 x1 S6)) else none
noncomputable def f_X12_multiplied_8 (rc : Nat → Nat → Int32 → Int32 → jM → Option (Int32 × jM)) : Nat → Nat → Int32 → Int32 → jM → Option (Int32 × jM)
  | 0, _, _, _, _ => none
  | n + 1, v0, v1, v2, S => if jK v0 = 10 then (f_X12_is v0 (142 : Int32) S).bind (fun x13 => if x13 = 0 then (f_X12_is v0 (147 : Int32) S).bind (fun x17 => if x17 = 0 then (f_X12_is v0 (137 : Int32) S).bind (fun x20 => if x20 = 0 then some (v2, S) else f_X12_multiplied_38 rc (f_X12_multiplied_8 rc n) v0 v1 v2 S) else f_X12_multiplied_38 rc (f_X12_multiplied_8 rc n) v0 v1 v2 S) else f_X12_multiplied_38 rc (f_X12_multiplied_8 rc n) v0 v1 v2 S) else none
noncomputable def f_X12_multiplied (rc : Nat → Nat → Int32 → Int32 → jM → Option (Int32 × jM)) (v0 : Nat) (v1 : Int32) (S : jM) : Option (Int32 × jM) := if jK v0 = 10 then jbd (rc 5 v0 (v1 + (1 : Int32)) 0 S) (fun x23 S24 => f_X12_multiplied_8 rc 1100000 v0 v1 x23 S24) else none
set_option maxRecDepth 100000 in
set_option maxHeartbeats 4000000 in
theorem B_X12_multiplied_68 {p : Program} {l : Launch} {e : Env} {s : State} {m : MethodId} {args : Array Value} {below : List Frame} {meth : Method} {c : Code} {g : jG} {rc : Nat → Nat → Int32 → Int32 → jM → Option (Int32 × jM)} {kk : Nat} (hkk : 16 ≤ kk) (hrc : jrc_E l g kk rc) {rr : Int32} {SS : jM} {v0 : Nat} {v1 : Int32} {v3 : Int32} {S : jM} {k8 : Nat → Int32 → Int32 → jM → Option (Int32 × jM)} (E : jEnv p s m args meth c cX12_multiplied "PensionHouseModel" (some .int) 5 g) (hk8 : ∀ (v0 : Nat) (v1 : Int32) (v2 : Int32) (S : jM) (H : Heap) (locs : List Loc) (ls : Array Slot), k8 v0 v1 v2 S = some (rr, SS) → jAt g S s H locs → lv_has ls 5 [(0, .ref (g.2.2 + v0)), (1, .int v1), (2, .int v2)] → W p l e (jRm (kk + 1) 0 0) s m args below meth c H locs 0 0 (MQ below (jQi g rr SS) args s 0 0 (jA0 g)) (F0 m 8 ls [])) {H : Heap} {locs : List Loc} {ls : Array Slot} (hf : f_X12_multiplied_68 rc k8 v0 v1 v3 S = some (rr, SS)) (hM : jAt g S s H locs) (hl : lv_has ls 5 [(0, .ref (g.2.2 + v0)), (1, .int v1), (3, .int v3)]) : W p l e (jRm (kk + 1) 0 0) s m args below meth c H locs 0 0 (MQ below (jQi g rr SS) args s 0 0 (jA0 g)) (F0 m 68 ls []) := by
  obtain ⟨hx, hb, hml, -, hts, hown, hK, -, hstr⟩ := id E
  unfold f_X12_multiplied_68 at hf
  refine lv_iload_n hx hb dX12_multiplied_68 rfl (lv_at hl 2 rfl) ?_
  refine lv_istore_n (lv' := [(2, .int v3), (0, .ref (g.2.2 + v0)), (1, .int v1), (3, .int v3)]) hx hb dX12_multiplied_69 rfl hl (by decide) rfl (fun ls hl => ?_)
  refine lv_goto (tgt := 8) hx hb dX12_multiplied_70 (by decide) ?_
  exact hk8 v0 v1 v3 S _ _ _ hf hM (lv_sub hl [1, 2, 0] rfl)
set_option maxRecDepth 100000 in
set_option maxHeartbeats 4000000 in
theorem B_X12_multiplied_38 {p : Program} {l : Launch} {e : Env} {s : State} {m : MethodId} {args : Array Value} {below : List Frame} {meth : Method} {c : Code} {g : jG} {rc : Nat → Nat → Int32 → Int32 → jM → Option (Int32 × jM)} {kk : Nat} (hkk : 16 ≤ kk) (hrc : jrc_E l g kk rc) {rr : Int32} {SS : jM} {v0 : Nat} {v1 : Int32} {v2 : Int32} {S : jM} {k8 : Nat → Int32 → Int32 → jM → Option (Int32 × jM)} (E : jEnv p s m args meth c cX12_multiplied "PensionHouseModel" (some .int) 5 g) (hk8 : ∀ (v0 : Nat) (v1 : Int32) (v2 : Int32) (S : jM) (H : Heap) (locs : List Loc) (ls : Array Slot), k8 v0 v1 v2 S = some (rr, SS) → jAt g S s H locs → lv_has ls 5 [(0, .ref (g.2.2 + v0)), (1, .int v1), (2, .int v2)] → W p l e (jRm (kk + 1) 0 0) s m args below meth c H locs 0 0 (MQ below (jQi g rr SS) args s 0 0 (jA0 g)) (F0 m 8 ls [])) {H : Heap} {locs : List Loc} {ls : Array Slot} (hf : f_X12_multiplied_38 rc k8 v0 v1 v2 S = some (rr, SS)) (hM : jAt g S s H locs) (hl : lv_has ls 5 [(0, .ref (g.2.2 + v0)), (1, .int v1), (2, .int v2)]) : W p l e (jRm (kk + 1) 0 0) s m args below meth c H locs 0 0 (MQ below (jQi g rr SS) args s 0 0 (jA0 g)) (F0 m 38 ls []) := by
  obtain ⟨hx, hb, hml, -, hts, hown, hK, -, hstr⟩ := id E
  unfold f_X12_multiplied_38 at hf
  refine lv_aload_n hx hb dX12_multiplied_38 rfl (lv_at hl 0 rfl) ?_
  refine lv_iload_n hx hb dX12_multiplied_39 rfl (lv_at hl 2 rfl) ?_
  obtain ⟨hq4, hf⟩ := jif hf
  obtain ⟨x1, S2, hc3, hf⟩ := jbd_e hf
  refine jbackI hM (jrunV E hM ci_X12_operator (C_X12_operator hc3) lk_8_47 hq4 (by decide) rfl hl.1 rfl rfl (Nat.le_of_ble_eq_true rfl) ⟨by show 3 + 1 ≤ kk + 1; omega, by show 49 * (3 + 1) ≤ 49 * (kk + 1); omega⟩ ⟨Nat.le_refl _, Nat.le_refl _⟩ dX12_multiplied_40) (fun H locs hM => ?_)
  refine lv_istore_n (lv' := [(3, .int x1), (0, .ref (g.2.2 + v0)), (1, .int v1), (2, .int v2)]) hx hb dX12_multiplied_43 rfl hl (by decide) rfl (fun ls hl => ?_)
  refine lv_aload_n hx hb dX12_multiplied_44 rfl (lv_at hl 1 rfl) ?_
  refine lv_iload_n hx hb dX12_multiplied_45 rfl (lv_at hl 2 rfl) ?_
  refine lv_iconst (v := (1 : Int32)) hx hb dX12_multiplied_46 (by decide) ?_
  refine lv_iadd hx hb dX12_multiplied_47 ?_
  obtain ⟨x5, S6, hc7, hf⟩ := jbd_e hf
  refine jbackI hM (jrunV E hM ci_X12_unary (hrc.2.2.2.2.2.1 hc7) lk_8_31 hq4 (by decide) rfl hl.1 rfl rfl (Nat.le_of_ble_eq_true rfl) ⟨Nat.le_refl _, Nat.le_refl _⟩ ⟨Nat.le_refl _, Nat.le_refl _⟩ dX12_multiplied_48) (fun H locs hM => ?_)
  refine lv_istore (lv' := [(4, .int x5), (3, .int x1), (0, .ref (g.2.2 + v0)), (1, .int v1), (2, .int v2)]) hx hb dX12_multiplied_51 hl (by decide) rfl (fun ls hl => ?_)
  refine lv_aload_n hx hb dX12_multiplied_53 rfl (lv_at hl 2 rfl) ?_
  refine gt_101 E hM hq4 lk_6_15 dX12_multiplied_54 ?_
  refine lv_if_ne (tgt := 68) hx hb dX12_multiplied_57 (by decide) (fun c8 => ?_) (fun c8 => ?_)
  · have hf := jf c8 hf
    exact B_X12_multiplied_68 hkk hrc E hk8 hf hM (lv_sub hl [2, 3, 1] rfl)
  · have hf := jt c8 hf
    refine lv_aload_n hx hb dX12_multiplied_60 rfl (lv_at hl 2 rfl) ?_
    refine gt_105 E hM hq4 lk_6_19 dX12_multiplied_61 ?_
    obtain ⟨r9, hr10, hf⟩ := jb hf
    rw [hr10]
    show W p l e _ s m args below meth c H locs 0 0 _ (F0 m _ ls (.ref (g.2.2 + r9) :: _))
    refine lv_iload_n hx hb dX12_multiplied_64 rfl (lv_at hl 1 rfl) ?_
    refine lv_iload hx hb dX12_multiplied_65 (lv_at hl 0 rfl) ?_
    obtain ⟨ha11, hf⟩ := jif hf
    refine jiast E hM ha11 dX12_multiplied_67 (fun H locs S12 eS12 hM => ?_)
    have hf := jlet_y eS12 hf
    exact B_X12_multiplied_68 hkk hrc E hk8 hf hM (lv_sub hl [2, 3, 1] rfl)
set_option maxRecDepth 100000 in
set_option maxHeartbeats 4000000 in
theorem B_X12_multiplied_8 {p : Program} {l : Launch} {e : Env} {s : State} {m : MethodId} {args : Array Value} {below : List Frame} {meth : Method} {c : Code} {g : jG} {rc : Nat → Nat → Int32 → Int32 → jM → Option (Int32 × jM)} {kk : Nat} (hkk : 16 ≤ kk) (hrc : jrc_E l g kk rc) {rr : Int32} {SS : jM} (E : jEnv p s m args meth c cX12_multiplied "PensionHouseModel" (some .int) 5 g)  : ∀ (n : Nat) (v0 : Nat) (v1 : Int32) (v2 : Int32) (S : jM) (H : Heap) (locs : List Loc) (ls : Array Slot), f_X12_multiplied_8 rc n v0 v1 v2 S = some (rr, SS) → jAt g S s H locs → lv_has ls 5 [(0, .ref (g.2.2 + v0)), (1, .int v1), (2, .int v2)] → W p l e (jRm (kk + 1) 0 0) s m args below meth c H locs 0 0 (MQ below (jQi g rr SS) args s 0 0 (jA0 g)) (F0 m 8 ls []) := by
  obtain ⟨hx, hb, hml, -, hts, hown, hK, -, hstr⟩ := id E
  intro n
  induction n with
  | zero => intro v0 v1 v2 S H locs ls hf hM hl; rw [f_X12_multiplied_8] at hf; cases hf
  | succ n ih =>
    intro v0 v1 v2 S H locs ls hf hM hl
    rw [f_X12_multiplied_8] at hf
    refine lv_aload_n hx hb dX12_multiplied_8 rfl (lv_at hl 0 rfl) ?_
    refine lv_sipush (v := (142 : Int32)) hx hb dX12_multiplied_9 (by decide) ?_
    obtain ⟨hq15, hf⟩ := jif hf
    obtain ⟨x13, hc14, hf⟩ := jb hf
    refine jbackI hM (jrunV E hM ci_X12_is (C_X12_is hc14) lk_7_225 hq15 (by decide) rfl hl.1 rfl rfl (Nat.le_of_ble_eq_true rfl) ⟨by show 1 + 1 ≤ kk + 1; omega, by show 49 * (1 + 1) ≤ 49 * (kk + 1); omega⟩ ⟨Nat.le_refl _, Nat.le_refl _⟩ dX12_multiplied_12) (fun H locs hM => ?_)
    refine lv_if_ne (tgt := 38) hx hb dX12_multiplied_15 (by decide) (fun c16 => ?_) (fun c16 => ?_)
    · have hf := jf c16 hf
      exact B_X12_multiplied_38 hkk hrc E ih hf hM (lv_sub hl [0, 1, 2] rfl)
    · have hf := jt c16 hf
      refine lv_aload_n hx hb dX12_multiplied_18 rfl (lv_at hl 0 rfl) ?_
      refine lv_sipush (v := (147 : Int32)) hx hb dX12_multiplied_19 (by decide) ?_
      obtain ⟨x17, hc18, hf⟩ := jb hf
      refine jbackI hM (jrunV E hM ci_X12_is (C_X12_is hc18) lk_7_225 hq15 (by decide) rfl hl.1 rfl rfl (Nat.le_of_ble_eq_true rfl) ⟨by show 1 + 1 ≤ kk + 1; omega, by show 49 * (1 + 1) ≤ 49 * (kk + 1); omega⟩ ⟨Nat.le_refl _, Nat.le_refl _⟩ dX12_multiplied_22) (fun H locs hM => ?_)
      refine lv_if_ne (tgt := 38) hx hb dX12_multiplied_25 (by decide) (fun c19 => ?_) (fun c19 => ?_)
      · have hf := jf c19 hf
        exact B_X12_multiplied_38 hkk hrc E ih hf hM (lv_sub hl [0, 1, 2] rfl)
      · have hf := jt c19 hf
        refine lv_aload_n hx hb dX12_multiplied_28 rfl (lv_at hl 0 rfl) ?_
        refine lv_sipush (v := (137 : Int32)) hx hb dX12_multiplied_29 (by decide) ?_
        obtain ⟨x20, hc21, hf⟩ := jb hf
        refine jbackI hM (jrunV E hM ci_X12_is (C_X12_is hc21) lk_7_225 hq15 (by decide) rfl hl.1 rfl rfl (Nat.le_of_ble_eq_true rfl) ⟨by show 1 + 1 ≤ kk + 1; omega, by show 49 * (1 + 1) ≤ 49 * (kk + 1); omega⟩ ⟨Nat.le_refl _, Nat.le_refl _⟩ dX12_multiplied_32) (fun H locs hM => ?_)
        refine lv_if_eq (tgt := 73) hx hb dX12_multiplied_35 (by decide) (fun c22 => ?_) (fun c22 => ?_)
        · have hf := jt c22 hf
          refine lv_iload_n hx hb dX12_multiplied_73 rfl (lv_at hl 2 rfl) ?_
          exact jireti (jr2 hf) E hM dX12_multiplied_74
        · have hf := jf c22 hf
          exact B_X12_multiplied_38 hkk hrc E ih hf hM (lv_sub hl [0, 1, 2] rfl)
set_option maxRecDepth 100000 in
set_option maxHeartbeats 4000000 in
theorem B_X12_multiplied_0 {p : Program} {l : Launch} {e : Env} {s : State} {m : MethodId} {args : Array Value} {below : List Frame} {meth : Method} {c : Code} {g : jG} {rc : Nat → Nat → Int32 → Int32 → jM → Option (Int32 × jM)} {kk : Nat} (hkk : 16 ≤ kk) (hrc : jrc_E l g kk rc) {rr : Int32} {SS : jM} {v0 : Nat} {v1 : Int32} {S : jM} (E : jEnv p s m args meth c cX12_multiplied "PensionHouseModel" (some .int) 5 g)  {H : Heap} {locs : List Loc} {ls : Array Slot} (hf : f_X12_multiplied rc v0 v1 S = some (rr, SS)) (hM : jAt g S s H locs) (hl : lv_has ls 5 [(0, .ref (g.2.2 + v0)), (1, .int v1)]) : W p l e (jRm (kk + 1) 0 0) s m args below meth c H locs 0 0 (MQ below (jQi g rr SS) args s 0 0 (jA0 g)) (F0 m 0 ls []) := by
  obtain ⟨hx, hb, hml, -, hts, hown, hK, -, hstr⟩ := id E
  unfold f_X12_multiplied at hf
  refine lv_aload_n hx hb dX12_multiplied_0 rfl (lv_at hl 0 rfl) ?_
  refine lv_iload_n hx hb dX12_multiplied_1 rfl (lv_at hl 1 rfl) ?_
  refine lv_iconst (v := (1 : Int32)) hx hb dX12_multiplied_2 (by decide) ?_
  refine lv_iadd hx hb dX12_multiplied_3 ?_
  obtain ⟨hq26, hf⟩ := jif hf
  obtain ⟨x23, S24, hc25, hf⟩ := jbd_e hf
  refine jbackI hM (jrunV E hM ci_X12_unary (hrc.2.2.2.2.2.1 hc25) lk_8_31 hq26 (by decide) rfl hl.1 rfl rfl (Nat.le_of_ble_eq_true rfl) ⟨Nat.le_refl _, Nat.le_refl _⟩ ⟨Nat.le_refl _, Nat.le_refl _⟩ dX12_multiplied_4) (fun H locs hM => ?_)
  refine lv_istore_n (lv' := [(2, .int x23), (0, .ref (g.2.2 + v0)), (1, .int v1)]) hx hb dX12_multiplied_7 rfl hl (by decide) rfl (fun ls hl => ?_)
  exact B_X12_multiplied_8 hkk hrc E  1100000 v0 v1 x23 S24 _ _ _ hf hM (lv_sub hl [1, 2, 0] rfl)
set_option maxRecDepth 100000 in
theorem D_X12_multiplied {l : Launch} {g : jG} {rc : Nat → Nat → Int32 → Int32 → jM → Option (Int32 × jM)} {kk : Nat} (hkk : 16 ≤ kk) (hrc : jrc_E l g kk rc) {a0 : Nat} {a1 : Int32} {S : jM} {rr : Int32} {SS : jM} (hf : f_X12_multiplied rc a0 a1 S = some (rr, SS)) : jMet l g yX12_multiplied cX12_multiplied 5 (some .int) (kk + 1) 0 0 [.ref (g.2.2 + a0), .int a1] S (jQi g rr SS) := by
  refine jof (by decide +kernel) (Nat.le_of_ble_eq_true rfl) ?_
  intro p e s m below meth c E hM ls hl
  have hl : lv_has ls 5 [(0, .ref (g.2.2 + a0)),(1, .int a1)] := hl
  exact B_X12_multiplied_0 hkk hrc E hf hM hl
-- PensionHouseModel.unary
noncomputable def f_X12_unary_100 (rc : Nat → Nat → Int32 → Int32 → jM → Option (Int32 × jM)) : Nat → Nat → Int32 → Int32 → jM → Option (Int32 × jM)
  | 0, _, _, _, _ => none
  | n + 1, v0, v1, v2, S => if jK v0 = 10 then (f_X12_is v0 (191 : Int32) S).bind (fun x1 => if x1 = 0 then some (v2, S) else jbd (f_X12_part v0 S) (fun x5 S6 => if x5 = 0 then some ((-1 : Int32), S6) else jbd (f_X12_node v0 (51 : Int32) S6) (fun x9 S10 => jlet (jsI S10 100 v0 ((jI S10 100 v0) + (1 : Int32))) (fun S12 => (jR S12 104 v0).bind (fun r13 => if jA r13 13 x9 = true then jlet (jrI S12 r13 (upd (jAI S12 r13) (x9).toNatClampNeg v2)) (fun S16 => (jR S16 105 v0).bind (fun r17 => jbd (rc 0 v0 (v1 + (1 : Int32)) 0 S16) (fun x19 S20 => if jA r17 13 x9 = true then jlet (jrI S20 r17 (upd (jAI S20 r17) (x9).toNatClampNeg x19)) (fun S23 => (f_X12_want v0 (193 : Int32) S23).bind (fun S24 => (f_X12_unary_100 rc n) v0 v1 x9 S24)) else none))) else none))))) else none
noncomputable def f_X12_unary_43 (rc : Nat → Nat → Int32 → Int32 → jM → Option (Int32 × jM)) (v0 : Nat) (v1 : Int32) (S : jM) : Option (Int32 × jM) := if jK v0 = 10 then (f_X12_is v0 (145 : Int32) S).bind (fun x26 => if x26 = 0 then jbd (rc 6 v0 v1 0 S) (fun x30 S31 => f_X12_unary_100 rc 1100000 v0 v1 x30 S31) else jbd (f_X12_part v0 S) (fun x33 S34 => if x33 = 0 then some ((-1 : Int32), S34) else jbd (f_X12_node v0 (47 : Int32) S34) (fun x37 S38 => jlet (jsI S38 100 v0 ((jI S38 100 v0) + (1 : Int32))) (fun S40 => (jR S40 104 v0).bind (fun r41 => jbd (rc 5 v0 (v1 + (1 : Int32)) 0 S40) (fun x43 S44 => if jA r41 13 x37 = true then jlet (jrI S44 r41 (upd (jAI S44 r41) (x37).toNatClampNeg x43)) (fun S47 => some (x37, S47)) else none)))))) else none
noncomputable def f_X12_unary (rc : Nat → Nat → Int32 → Int32 → jM → Option (Int32 × jM)) (v0 : Nat) (v1 : Int32) (S : jM) : Option (Int32 × jM) := if jK v0 = 10 then if (jI S 101 v0) ≤ 0 then (f_X12_beginsUnary v0 S).bind (fun x50 => if x50 = 0 then (f_X12_wrong v0 S).bind (fun S59 => f_X12_unary_43 rc v0 v1 S59) else if v1 < (20 : Int32) then f_X12_unary_43 rc v0 v1 S else (jR S 96 v0).bind (fun r54 => if jA r54 13 (jI S 100 v0) = true then (f_X12_fail v0 (4 : Int32) (jAI S r54 (jI S 100 v0).toNatClampNeg) S).bind (fun S57 => f_X12_unary_43 rc v0 v1 S57) else none)) else some ((-1 : Int32), S) else none
set_option maxRecDepth 100000 in
set_option maxHeartbeats 4000000 in
theorem B_X12_unary_100 {p : Program} {l : Launch} {e : Env} {s : State} {m : MethodId} {args : Array Value} {below : List Frame} {meth : Method} {c : Code} {g : jG} {rc : Nat → Nat → Int32 → Int32 → jM → Option (Int32 × jM)} {kk : Nat} (hkk : 16 ≤ kk) (hrc : jrc_E l g kk rc) {rr : Int32} {SS : jM} (E : jEnv p s m args meth c cX12_unary "PensionHouseModel" (some .int) 4 g)  : ∀ (n : Nat) (v0 : Nat) (v1 : Int32) (v2 : Int32) (S : jM) (H : Heap) (locs : List Loc) (ls : Array Slot), f_X12_unary_100 rc n v0 v1 v2 S = some (rr, SS) → jAt g S s H locs → lv_has ls 4 [(0, .ref (g.2.2 + v0)), (1, .int v1), (2, .int v2)] → W p l e (jRm (kk + 1) 0 0) s m args below meth c H locs 0 0 (MQ below (jQi g rr SS) args s 0 0 (jA0 g)) (F0 m 100 ls []) := by
  obtain ⟨hx, hb, hml, -, hts, hown, hK, -, hstr⟩ := id E
  intro n
  induction n with
  | zero => intro v0 v1 v2 S H locs ls hf hM hl; rw [f_X12_unary_100] at hf; cases hf
  | succ n ih =>
    intro v0 v1 v2 S H locs ls hf hM hl
    rw [f_X12_unary_100] at hf
    refine lv_aload_n hx hb dX12_unary_100 rfl (lv_at hl 0 rfl) ?_
    refine lv_sipush (v := (191 : Int32)) hx hb dX12_unary_101 (by decide) ?_
    obtain ⟨hq3, hf⟩ := jif hf
    obtain ⟨x1, hc2, hf⟩ := jb hf
    refine jbackI hM (jrunV E hM ci_X12_is (C_X12_is hc2) lk_7_225 hq3 (by decide) rfl hl.1 rfl rfl (Nat.le_of_ble_eq_true rfl) ⟨by show 1 + 1 ≤ kk + 1; omega, by show 49 * (1 + 1) ≤ 49 * (kk + 1); omega⟩ ⟨Nat.le_refl _, Nat.le_refl _⟩ dX12_unary_104) (fun H locs hM => ?_)
    refine lv_if_eq (tgt := 168) hx hb dX12_unary_107 (by decide) (fun c4 => ?_) (fun c4 => ?_)
    · have hf := jt c4 hf
      refine lv_iload_n hx hb dX12_unary_168 rfl (lv_at hl 2 rfl) ?_
      exact jireti (jr2 hf) E hM dX12_unary_169
    · have hf := jf c4 hf
      refine lv_aload_n hx hb dX12_unary_110 rfl (lv_at hl 0 rfl) ?_
      obtain ⟨x5, S6, hc7, hf⟩ := jbd_e hf
      refine jbackI hM (jrunV E hM ci_X12_part (C_X12_part hc7) lk_8_11 hq3 (by decide) rfl hl.1 rfl rfl (Nat.le_of_ble_eq_true rfl) ⟨by show 2 + 1 ≤ kk + 1; omega, by show 49 * (2 + 1) ≤ 49 * (kk + 1); omega⟩ ⟨Nat.le_refl _, Nat.le_refl _⟩ dX12_unary_111) (fun H locs hM => ?_)
      refine lv_if_ne (tgt := 119) hx hb dX12_unary_114 (by decide) (fun c8 => ?_) (fun c8 => ?_)
      · have hf := jf c8 hf
        refine lv_aload_n hx hb dX12_unary_119 rfl (lv_at hl 0 rfl) ?_
        refine lv_bipush (v := (51 : Int32)) hx hb dX12_unary_120 (by decide) ?_
        obtain ⟨x9, S10, hc11, hf⟩ := jbd_e hf
        refine jbackI hM (jrunV E hM ci_X12_node (C_X12_node hc11) lk_8_15 hq3 (by decide) rfl hl.1 rfl rfl (Nat.le_of_ble_eq_true rfl) ⟨by show 1 + 1 ≤ kk + 1; omega, by show 49 * (1 + 1) ≤ 49 * (kk + 1); omega⟩ ⟨Nat.le_refl _, Nat.le_refl _⟩ dX12_unary_122) (fun H locs hM => ?_)
        refine lv_istore_n (lv' := [(3, .int x9), (0, .ref (g.2.2 + v0)), (1, .int v1), (2, .int v2)]) hx hb dX12_unary_125 rfl hl (by decide) rfl (fun ls hl => ?_)
        refine lv_aload_n hx hb dX12_unary_126 rfl (lv_at hl 1 rfl) ?_
        refine lv_dup hx hb dX12_unary_127 rfl ?_
        refine gt_100 E hM hq3 lk_6_14 dX12_unary_128 ?_
        refine lv_iconst (v := (1 : Int32)) hx hb dX12_unary_131 (by decide) ?_
        refine lv_iadd hx hb dX12_unary_132 ?_
        refine pt_100 E hM hq3 lk_6_14 dX12_unary_133 (fun H locs S12 eS12 hM => ?_)
        have hf := jlet_y eS12 hf
        refine lv_aload_n hx hb dX12_unary_136 rfl (lv_at hl 1 rfl) ?_
        refine gt_104 E hM hq3 lk_6_18 dX12_unary_137 ?_
        obtain ⟨r13, hr14, hf⟩ := jb hf
        rw [hr14]
        show W p l e _ s m args below meth c H locs 0 0 _ (F0 m _ ls (.ref (g.2.2 + r13) :: _))
        refine lv_iload_n hx hb dX12_unary_140 rfl (lv_at hl 0 rfl) ?_
        refine lv_iload_n hx hb dX12_unary_141 rfl (lv_at hl 3 rfl) ?_
        obtain ⟨ha15, hf⟩ := jif hf
        refine jiast E hM ha15 dX12_unary_142 (fun H locs S16 eS16 hM => ?_)
        have hf := jlet_y eS16 hf
        refine lv_aload_n hx hb dX12_unary_143 rfl (lv_at hl 1 rfl) ?_
        refine gt_105 E hM hq3 lk_6_19 dX12_unary_144 ?_
        obtain ⟨r17, hr18, hf⟩ := jb hf
        rw [hr18]
        show W p l e _ s m args below meth c H locs 0 0 _ (F0 m _ ls (.ref (g.2.2 + r17) :: _))
        refine lv_iload_n hx hb dX12_unary_147 rfl (lv_at hl 0 rfl) ?_
        refine lv_aload_n hx hb dX12_unary_148 rfl (lv_at hl 1 rfl) ?_
        refine lv_iload_n hx hb dX12_unary_149 rfl (lv_at hl 2 rfl) ?_
        refine lv_iconst (v := (1 : Int32)) hx hb dX12_unary_150 (by decide) ?_
        refine lv_iadd hx hb dX12_unary_151 ?_
        obtain ⟨x19, S20, hc21, hf⟩ := jbd_e hf
        refine jbackI hM (jrunV E hM ci_X12_expression (hrc.1 hc21) lk_7_233 hq3 (by decide) rfl hl.1 rfl rfl (Nat.le_of_ble_eq_true rfl) ⟨Nat.le_refl _, Nat.le_refl _⟩ ⟨Nat.le_refl _, Nat.le_refl _⟩ dX12_unary_152) (fun H locs hM => ?_)
        obtain ⟨ha22, hf⟩ := jif hf
        refine jiast E hM ha22 dX12_unary_155 (fun H locs S23 eS23 hM => ?_)
        have hf := jlet_y eS23 hf
        refine lv_aload_n hx hb dX12_unary_156 rfl (lv_at hl 1 rfl) ?_
        refine lv_sipush (v := (193 : Int32)) hx hb dX12_unary_157 (by decide) ?_
        obtain ⟨S24, hc25, hf⟩ := jb hf
        refine jbackV hM (jrunV E hM ci_X12_want (C_X12_want hc25) lk_7_221 hq3 (by decide) rfl hl.1 rfl rfl (Nat.le_of_ble_eq_true rfl) ⟨by show 3 + 1 ≤ kk + 1; omega, by show 49 * (3 + 1) ≤ 49 * (kk + 1); omega⟩ ⟨Nat.le_refl _, Nat.le_refl _⟩ dX12_unary_160) (fun H locs hM => ?_)
        refine lv_iload_n hx hb dX12_unary_163 rfl (lv_at hl 0 rfl) ?_
        refine lv_istore_n (lv' := [(2, .int x9), (3, .int x9), (0, .ref (g.2.2 + v0)), (1, .int v1)]) hx hb dX12_unary_164 rfl hl (by decide) rfl (fun ls hl => ?_)
        refine lv_goto (tgt := 100) hx hb dX12_unary_165 (by decide) ?_
        exact ih v0 v1 x9 S24 _ _ _ hf hM (lv_sub hl [2, 3, 0] rfl)
      · have hf := jt c8 hf
        refine lv_iconst (v := (-1 : Int32)) hx hb dX12_unary_117 (by decide) ?_
        exact jireti (jr2 hf) E hM dX12_unary_118
set_option maxRecDepth 100000 in
set_option maxHeartbeats 4000000 in
theorem B_X12_unary_43 {p : Program} {l : Launch} {e : Env} {s : State} {m : MethodId} {args : Array Value} {below : List Frame} {meth : Method} {c : Code} {g : jG} {rc : Nat → Nat → Int32 → Int32 → jM → Option (Int32 × jM)} {kk : Nat} (hkk : 16 ≤ kk) (hrc : jrc_E l g kk rc) {rr : Int32} {SS : jM} {v0 : Nat} {v1 : Int32} {S : jM} (E : jEnv p s m args meth c cX12_unary "PensionHouseModel" (some .int) 4 g)  {H : Heap} {locs : List Loc} {ls : Array Slot} (hf : f_X12_unary_43 rc v0 v1 S = some (rr, SS)) (hM : jAt g S s H locs) (hl : lv_has ls 4 [(0, .ref (g.2.2 + v0)), (1, .int v1)]) : W p l e (jRm (kk + 1) 0 0) s m args below meth c H locs 0 0 (MQ below (jQi g rr SS) args s 0 0 (jA0 g)) (F0 m 43 ls []) := by
  obtain ⟨hx, hb, hml, -, hts, hown, hK, -, hstr⟩ := id E
  unfold f_X12_unary_43 at hf
  refine lv_aload_n hx hb dX12_unary_43 rfl (lv_at hl 0 rfl) ?_
  refine lv_sipush (v := (145 : Int32)) hx hb dX12_unary_44 (by decide) ?_
  obtain ⟨hq28, hf⟩ := jif hf
  obtain ⟨x26, hc27, hf⟩ := jb hf
  refine jbackI hM (jrunV E hM ci_X12_is (C_X12_is hc27) lk_7_225 hq28 (by decide) rfl hl.1 rfl rfl (Nat.le_of_ble_eq_true rfl) ⟨by show 1 + 1 ≤ kk + 1; omega, by show 49 * (1 + 1) ≤ 49 * (kk + 1); omega⟩ ⟨Nat.le_refl _, Nat.le_refl _⟩ dX12_unary_47) (fun H locs hM => ?_)
  refine lv_if_eq (tgt := 94) hx hb dX12_unary_50 (by decide) (fun c29 => ?_) (fun c29 => ?_)
  · have hf := jt c29 hf
    refine lv_aload_n hx hb dX12_unary_94 rfl (lv_at hl 0 rfl) ?_
    refine lv_iload_n hx hb dX12_unary_95 rfl (lv_at hl 1 rfl) ?_
    obtain ⟨x30, S31, hc32, hf⟩ := jbd_e hf
    refine jbackI hM (jrunV E hM ci_X12_primary (hrc.2.2.2.2.2.2.1 hc32) lk_8_35 hq28 (by decide) rfl hl.1 rfl rfl (Nat.le_of_ble_eq_true rfl) ⟨Nat.le_refl _, Nat.le_refl _⟩ ⟨Nat.le_refl _, Nat.le_refl _⟩ dX12_unary_96) (fun H locs hM => ?_)
    refine lv_istore_n (lv' := [(2, .int x30), (0, .ref (g.2.2 + v0)), (1, .int v1)]) hx hb dX12_unary_99 rfl hl (by decide) rfl (fun ls hl => ?_)
    exact B_X12_unary_100 hkk hrc E  1100000 v0 v1 x30 S31 _ _ _ hf hM (lv_sub hl [1, 2, 0] rfl)
  · have hf := jf c29 hf
    refine lv_aload_n hx hb dX12_unary_53 rfl (lv_at hl 0 rfl) ?_
    obtain ⟨x33, S34, hc35, hf⟩ := jbd_e hf
    refine jbackI hM (jrunV E hM ci_X12_part (C_X12_part hc35) lk_8_11 hq28 (by decide) rfl hl.1 rfl rfl (Nat.le_of_ble_eq_true rfl) ⟨by show 2 + 1 ≤ kk + 1; omega, by show 49 * (2 + 1) ≤ 49 * (kk + 1); omega⟩ ⟨Nat.le_refl _, Nat.le_refl _⟩ dX12_unary_54) (fun H locs hM => ?_)
    refine lv_if_ne (tgt := 62) hx hb dX12_unary_57 (by decide) (fun c36 => ?_) (fun c36 => ?_)
    · have hf := jf c36 hf
      refine lv_aload_n hx hb dX12_unary_62 rfl (lv_at hl 0 rfl) ?_
      refine lv_bipush (v := (47 : Int32)) hx hb dX12_unary_63 (by decide) ?_
      obtain ⟨x37, S38, hc39, hf⟩ := jbd_e hf
      refine jbackI hM (jrunV E hM ci_X12_node (C_X12_node hc39) lk_8_15 hq28 (by decide) rfl hl.1 rfl rfl (Nat.le_of_ble_eq_true rfl) ⟨by show 1 + 1 ≤ kk + 1; omega, by show 49 * (1 + 1) ≤ 49 * (kk + 1); omega⟩ ⟨Nat.le_refl _, Nat.le_refl _⟩ dX12_unary_65) (fun H locs hM => ?_)
      refine lv_istore_n (lv' := [(2, .int x37), (0, .ref (g.2.2 + v0)), (1, .int v1)]) hx hb dX12_unary_68 rfl hl (by decide) rfl (fun ls hl => ?_)
      refine lv_aload_n hx hb dX12_unary_69 rfl (lv_at hl 1 rfl) ?_
      refine lv_dup hx hb dX12_unary_70 rfl ?_
      refine gt_100 E hM hq28 lk_6_14 dX12_unary_71 ?_
      refine lv_iconst (v := (1 : Int32)) hx hb dX12_unary_74 (by decide) ?_
      refine lv_iadd hx hb dX12_unary_75 ?_
      refine pt_100 E hM hq28 lk_6_14 dX12_unary_76 (fun H locs S40 eS40 hM => ?_)
      have hf := jlet_y eS40 hf
      refine lv_aload_n hx hb dX12_unary_79 rfl (lv_at hl 1 rfl) ?_
      refine gt_104 E hM hq28 lk_6_18 dX12_unary_80 ?_
      obtain ⟨r41, hr42, hf⟩ := jb hf
      rw [hr42]
      show W p l e _ s m args below meth c H locs 0 0 _ (F0 m _ ls (.ref (g.2.2 + r41) :: _))
      refine lv_iload_n hx hb dX12_unary_83 rfl (lv_at hl 0 rfl) ?_
      refine lv_aload_n hx hb dX12_unary_84 rfl (lv_at hl 1 rfl) ?_
      refine lv_iload_n hx hb dX12_unary_85 rfl (lv_at hl 2 rfl) ?_
      refine lv_iconst (v := (1 : Int32)) hx hb dX12_unary_86 (by decide) ?_
      refine lv_iadd hx hb dX12_unary_87 ?_
      obtain ⟨x43, S44, hc45, hf⟩ := jbd_e hf
      refine jbackI hM (jrunV E hM ci_X12_unary (hrc.2.2.2.2.2.1 hc45) lk_8_31 hq28 (by decide) rfl hl.1 rfl rfl (Nat.le_of_ble_eq_true rfl) ⟨Nat.le_refl _, Nat.le_refl _⟩ ⟨Nat.le_refl _, Nat.le_refl _⟩ dX12_unary_88) (fun H locs hM => ?_)
      obtain ⟨ha46, hf⟩ := jif hf
      refine jiast E hM ha46 dX12_unary_91 (fun H locs S47 eS47 hM => ?_)
      have hf := jlet_y eS47 hf
      refine lv_iload_n hx hb dX12_unary_92 rfl (lv_at hl 0 rfl) ?_
      exact jireti (jr2 hf) E hM dX12_unary_93
    · have hf := jt c36 hf
      refine lv_iconst (v := (-1 : Int32)) hx hb dX12_unary_60 (by decide) ?_
      exact jireti (jr2 hf) E hM dX12_unary_61
set_option maxRecDepth 100000 in
set_option maxHeartbeats 4000000 in
theorem B_X12_unary_0 {p : Program} {l : Launch} {e : Env} {s : State} {m : MethodId} {args : Array Value} {below : List Frame} {meth : Method} {c : Code} {g : jG} {rc : Nat → Nat → Int32 → Int32 → jM → Option (Int32 × jM)} {kk : Nat} (hkk : 16 ≤ kk) (hrc : jrc_E l g kk rc) {rr : Int32} {SS : jM} {v0 : Nat} {v1 : Int32} {S : jM} (E : jEnv p s m args meth c cX12_unary "PensionHouseModel" (some .int) 4 g)  {H : Heap} {locs : List Loc} {ls : Array Slot} (hf : f_X12_unary rc v0 v1 S = some (rr, SS)) (hM : jAt g S s H locs) (hl : lv_has ls 4 [(0, .ref (g.2.2 + v0)), (1, .int v1)]) : W p l e (jRm (kk + 1) 0 0) s m args below meth c H locs 0 0 (MQ below (jQi g rr SS) args s 0 0 (jA0 g)) (F0 m 0 ls []) := by
  obtain ⟨hx, hb, hml, -, hts, hown, hK, -, hstr⟩ := id E
  unfold f_X12_unary at hf
  refine lv_aload_n hx hb dX12_unary_0 rfl (lv_at hl 0 rfl) ?_
  obtain ⟨hq48, hf⟩ := jif hf
  refine gt_101 E hM hq48 lk_6_15 dX12_unary_1 ?_
  refine lv_if_le (tgt := 9) hx hb dX12_unary_4 (by decide) (fun c49 => ?_) (fun c49 => ?_)
  · have hf := jt c49 hf
    refine lv_aload_n hx hb dX12_unary_9 rfl (lv_at hl 0 rfl) ?_
    obtain ⟨x50, hc51, hf⟩ := jb hf
    refine jbackI hM (jrunV E hM ci_X12_beginsUnary (C_X12_beginsUnary hc51) lk_7_237 hq48 (by decide) rfl hl.1 rfl rfl (Nat.le_of_ble_eq_true rfl) ⟨by show 3 + 1 ≤ kk + 1; omega, by show 49 * (3 + 1) ≤ 49 * (kk + 1); omega⟩ ⟨Nat.le_refl _, Nat.le_refl _⟩ dX12_unary_10) (fun H locs hM => ?_)
    refine lv_if_ne (tgt := 23) hx hb dX12_unary_13 (by decide) (fun c52 => ?_) (fun c52 => ?_)
    · have hf := jf c52 hf
      refine lv_iload_n hx hb dX12_unary_23 rfl (lv_at hl 1 rfl) ?_
      refine lv_bipush (v := (20 : Int32)) hx hb dX12_unary_24 (by decide) ?_
      refine lv_icmp_lt (tgt := 43) hx hb dX12_unary_26 (by decide) (fun c53 => ?_) (fun c53 => ?_)
      · have hf := jt c53 hf
        exact B_X12_unary_43 hkk hrc E  hf hM (lv_sub hl [0, 1] rfl)
      · have hf := jf c53 hf
        refine lv_aload_n hx hb dX12_unary_29 rfl (lv_at hl 0 rfl) ?_
        refine lv_iconst (v := (4 : Int32)) hx hb dX12_unary_30 (by decide) ?_
        refine lv_aload_n hx hb dX12_unary_31 rfl (lv_at hl 0 rfl) ?_
        refine gt_96 E hM hq48 lk_6_10 dX12_unary_32 ?_
        obtain ⟨r54, hr55, hf⟩ := jb hf
        rw [hr55]
        show W p l e _ s m args below meth c H locs 0 0 _ (F0 m _ ls (.ref (g.2.2 + r54) :: _))
        refine lv_aload_n hx hb dX12_unary_35 rfl (lv_at hl 0 rfl) ?_
        refine gt_100 E hM hq48 lk_6_14 dX12_unary_36 ?_
        obtain ⟨ha56, hf⟩ := jif hf
        refine jiald E hM ha56 dX12_unary_39 ?_
        obtain ⟨S57, hc58, hf⟩ := jb hf
        refine jbackV hM (jrunV E hM ci_X12_fail (C_X12_fail hc58) lk_7_217 hq48 (by decide) rfl hl.1 rfl rfl (Nat.le_of_ble_eq_true rfl) ⟨by show 1 + 1 ≤ kk + 1; omega, by show 49 * (1 + 1) ≤ 49 * (kk + 1); omega⟩ ⟨Nat.le_refl _, Nat.le_refl _⟩ dX12_unary_40) (fun H locs hM => ?_)
        exact B_X12_unary_43 hkk hrc E  hf hM (lv_sub hl [0, 1] rfl)
    · have hf := jt c52 hf
      refine lv_aload_n hx hb dX12_unary_16 rfl (lv_at hl 0 rfl) ?_
      obtain ⟨S59, hc60, hf⟩ := jb hf
      refine jbackV hM (jrunV E hM ci_X12_wrong (C_X12_wrong hc60) lk_7_213 hq48 (by decide) rfl hl.1 rfl rfl (Nat.le_of_ble_eq_true rfl) ⟨by show 2 + 1 ≤ kk + 1; omega, by show 49 * (2 + 1) ≤ 49 * (kk + 1); omega⟩ ⟨Nat.le_refl _, Nat.le_refl _⟩ dX12_unary_17) (fun H locs hM => ?_)
      refine lv_goto (tgt := 43) hx hb dX12_unary_20 (by decide) ?_
      exact B_X12_unary_43 hkk hrc E  hf hM (lv_sub hl [0, 1] rfl)
  · have hf := jf c49 hf
    refine lv_iconst (v := (-1 : Int32)) hx hb dX12_unary_7 (by decide) ?_
    exact jireti (jr2 hf) E hM dX12_unary_8
set_option maxRecDepth 100000 in
theorem D_X12_unary {l : Launch} {g : jG} {rc : Nat → Nat → Int32 → Int32 → jM → Option (Int32 × jM)} {kk : Nat} (hkk : 16 ≤ kk) (hrc : jrc_E l g kk rc) {a0 : Nat} {a1 : Int32} {S : jM} {rr : Int32} {SS : jM} (hf : f_X12_unary rc a0 a1 S = some (rr, SS)) : jMet l g yX12_unary cX12_unary 4 (some .int) (kk + 1) 0 0 [.ref (g.2.2 + a0), .int a1] S (jQi g rr SS) := by
  refine jof (by decide +kernel) (Nat.le_of_ble_eq_true rfl) ?_
  intro p e s m below meth c E hM ls hl
  have hl : lv_has ls 4 [(0, .ref (g.2.2 + a0)),(1, .int a1)] := hl
  exact B_X12_unary_0 hkk hrc E hf hM hl
-- PensionHouseModel.primary
noncomputable def f_X12_primary_212 (rc : Nat → Nat → Int32 → Int32 → jM → Option (Int32 × jM)) (v0 : Nat) (v3 : Int32) (S : jM) : Option (Int32 × jM) := if jK v0 = 10 then (f_X12_want v0 (141 : Int32) S).bind (fun S1 => some (v3, S1)) else none
noncomputable def f_X12_primary_186 (rc : Nat → Nat → Int32 → Int32 → jM → Option (Int32 × jM)) (v0 : Nat) (v1 : Int32) (v3 : Int32) (v4 : Int32) (S : jM) : Option (Int32 × jM) := if v4 ≤ (2 : Int32) then f_X12_primary_212 rc v0 v3 S else if jK v0 = 10 then (f_X12_want v0 (144 : Int32) S).bind (fun S5 => (jR S5 106 v0).bind (fun r8 => jbd (rc 0 v0 (v1 + (1 : Int32)) 0 S5) (fun x10 S11 => if jA r8 13 v3 = true then jlet (jrI S11 r8 (upd (jAI S11 r8) (v3).toNatClampNeg x10)) (fun S14 => f_X12_primary_212 rc v0 v3 S14) else none))) else none
noncomputable def f_X12_primary (rc : Nat → Nat → Int32 → Int32 → jM → Option (Int32 × jM)) (v0 : Nat) (v1 : Int32) (S : jM) : Option (Int32 × jM) := if jK v0 = 10 then if (jI S 101 v0) ≤ 0 then (f_X12_now v0 S).bind (fun x17 => if x17 = (140 : Int32) then jlet (jsI S 100 v0 ((jI S 100 v0) + (1 : Int32))) (fun S73 => jbd (rc 0 v0 (v1 + (1 : Int32)) 0 S73) (fun x74 S75 => (f_X12_want v0 (141 : Int32) S75).bind (fun S77 => some (x74, S77)))) else jbd (f_X12_part v0 S) (fun x20 S21 => if x20 = 0 then some ((-1 : Int32), S21) else (f_X12_now v0 S21).bind (fun x24 => if x24 = (19 : Int32) then jbd (rc 7 v0 v1 0 S21) (fun x70 S71 => some (x70, S71)) else if x24 = (40 : Int32) then jbd (f_X12_named v0 S21) (fun x67 S68 => some (x67, S68)) else jbd (f_X12_node v0 x24 S21) (fun x28 S29 => (jR S29 107 v0).bind (fun r31 => (jR S29 97 v0).bind (fun r33 => if jA r33 14 (jI S29 100 v0) = true then if jA r31 14 x28 = true then jlet (jrL S29 r31 (vp_updL (jAL S29 r31) (x28).toNatClampNeg (jAL S29 r33 (jI S29 100 v0).toNatClampNeg))) (fun S37 => (jR S37 108 v0).bind (fun r38 => (jR S37 98 v0).bind (fun r40 => if jA r40 13 (jI S37 100 v0) = true then if jA r38 13 x28 = true then jlet (jrI S37 r38 (upd (jAI S37 r38) (x28).toNatClampNeg (jAI S37 r40 (jI S37 100 v0).toNatClampNeg))) (fun S44 => jlet (jsI S44 100 v0 ((jI S44 100 v0) + (1 : Int32))) (fun S45 => jlet (f_X12_arguments x24) (fun x46 => if x46 ≤ 0 then some (x28, S45) else (f_X12_want v0 (140 : Int32) S45).bind (fun S48 => (jR S48 104 v0).bind (fun r50 => jbd (rc 0 v0 (v1 + (1 : Int32)) 0 S48) (fun x52 S53 => if jA r50 13 x28 = true then jlet (jrI S53 r50 (upd (jAI S53 r50) (x28).toNatClampNeg x52)) (fun S56 => if x46 ≤ (1 : Int32) then f_X12_primary_186 rc v0 v1 x28 x46 S56 else (f_X12_want v0 (144 : Int32) S56).bind (fun S58 => (jR S58 105 v0).bind (fun r60 => jbd (rc 0 v0 (v1 + (1 : Int32)) 0 S58) (fun x62 S63 => if jA r60 13 x28 = true then jlet (jrI S63 r60 (upd (jAI S63 r60) (x28).toNatClampNeg x62)) (fun S66 => f_X12_primary_186 rc v0 v1 x28 x46 S66) else none)))) else none)))))) else none else none))) else none else none)))))) else some ((-1 : Int32), S) else none
set_option maxRecDepth 100000 in
set_option maxHeartbeats 4000000 in
theorem B_X12_primary_212 {p : Program} {l : Launch} {e : Env} {s : State} {m : MethodId} {args : Array Value} {below : List Frame} {meth : Method} {c : Code} {g : jG} {rc : Nat → Nat → Int32 → Int32 → jM → Option (Int32 × jM)} {kk : Nat} (hkk : 16 ≤ kk) (hrc : jrc_E l g kk rc) {rr : Int32} {SS : jM} {v0 : Nat} {v3 : Int32} {S : jM} (E : jEnv p s m args meth c cX12_primary "PensionHouseModel" (some .int) 5 g)  {H : Heap} {locs : List Loc} {ls : Array Slot} (hf : f_X12_primary_212 rc v0 v3 S = some (rr, SS)) (hM : jAt g S s H locs) (hl : lv_has ls 5 [(0, .ref (g.2.2 + v0)), (3, .int v3)]) : W p l e (jRm (kk + 1) 0 0) s m args below meth c H locs 0 0 (MQ below (jQi g rr SS) args s 0 0 (jA0 g)) (F0 m 212 ls []) := by
  obtain ⟨hx, hb, hml, -, hts, hown, hK, -, hstr⟩ := id E
  unfold f_X12_primary_212 at hf
  refine lv_aload_n hx hb dX12_primary_212 rfl (lv_at hl 0 rfl) ?_
  refine lv_sipush (v := (141 : Int32)) hx hb dX12_primary_213 (by decide) ?_
  obtain ⟨hq3, hf⟩ := jif hf
  obtain ⟨S1, hc2, hf⟩ := jb hf
  refine jbackV hM (jrunV E hM ci_X12_want (C_X12_want hc2) lk_7_221 hq3 (by decide) rfl hl.1 rfl rfl (Nat.le_of_ble_eq_true rfl) ⟨by show 3 + 1 ≤ kk + 1; omega, by show 49 * (3 + 1) ≤ 49 * (kk + 1); omega⟩ ⟨Nat.le_refl _, Nat.le_refl _⟩ dX12_primary_216) (fun H locs hM => ?_)
  refine lv_iload_n hx hb dX12_primary_219 rfl (lv_at hl 1 rfl) ?_
  exact jireti (jr2 hf) E hM dX12_primary_220
set_option maxRecDepth 100000 in
set_option maxHeartbeats 4000000 in
theorem B_X12_primary_186 {p : Program} {l : Launch} {e : Env} {s : State} {m : MethodId} {args : Array Value} {below : List Frame} {meth : Method} {c : Code} {g : jG} {rc : Nat → Nat → Int32 → Int32 → jM → Option (Int32 × jM)} {kk : Nat} (hkk : 16 ≤ kk) (hrc : jrc_E l g kk rc) {rr : Int32} {SS : jM} {v0 : Nat} {v1 : Int32} {v3 : Int32} {v4 : Int32} {S : jM} (E : jEnv p s m args meth c cX12_primary "PensionHouseModel" (some .int) 5 g)  {H : Heap} {locs : List Loc} {ls : Array Slot} (hf : f_X12_primary_186 rc v0 v1 v3 v4 S = some (rr, SS)) (hM : jAt g S s H locs) (hl : lv_has ls 5 [(0, .ref (g.2.2 + v0)), (1, .int v1), (3, .int v3), (4, .int v4)]) : W p l e (jRm (kk + 1) 0 0) s m args below meth c H locs 0 0 (MQ below (jQi g rr SS) args s 0 0 (jA0 g)) (F0 m 186 ls []) := by
  obtain ⟨hx, hb, hml, -, hts, hown, hK, -, hstr⟩ := id E
  unfold f_X12_primary_186 at hf
  refine lv_iload hx hb dX12_primary_186 (lv_at hl 3 rfl) ?_
  refine lv_iconst (v := (2 : Int32)) hx hb dX12_primary_188 (by decide) ?_
  refine lv_icmp_le (tgt := 212) hx hb dX12_primary_189 (by decide) (fun c4 => ?_) (fun c4 => ?_)
  · have hf := jt c4 hf
    exact B_X12_primary_212 hkk hrc E  hf hM (lv_sub hl [0, 2] rfl)
  · have hf := jf c4 hf
    refine lv_aload_n hx hb dX12_primary_192 rfl (lv_at hl 0 rfl) ?_
    refine lv_sipush (v := (144 : Int32)) hx hb dX12_primary_193 (by decide) ?_
    obtain ⟨hq7, hf⟩ := jif hf
    obtain ⟨S5, hc6, hf⟩ := jb hf
    refine jbackV hM (jrunV E hM ci_X12_want (C_X12_want hc6) lk_7_221 hq7 (by decide) rfl hl.1 rfl rfl (Nat.le_of_ble_eq_true rfl) ⟨by show 3 + 1 ≤ kk + 1; omega, by show 49 * (3 + 1) ≤ 49 * (kk + 1); omega⟩ ⟨Nat.le_refl _, Nat.le_refl _⟩ dX12_primary_196) (fun H locs hM => ?_)
    refine lv_aload_n hx hb dX12_primary_199 rfl (lv_at hl 0 rfl) ?_
    refine gt_106 E hM hq7 lk_6_20 dX12_primary_200 ?_
    obtain ⟨r8, hr9, hf⟩ := jb hf
    rw [hr9]
    show W p l e _ s m args below meth c H locs 0 0 _ (F0 m _ ls (.ref (g.2.2 + r8) :: _))
    refine lv_iload_n hx hb dX12_primary_203 rfl (lv_at hl 2 rfl) ?_
    refine lv_aload_n hx hb dX12_primary_204 rfl (lv_at hl 0 rfl) ?_
    refine lv_iload_n hx hb dX12_primary_205 rfl (lv_at hl 1 rfl) ?_
    refine lv_iconst (v := (1 : Int32)) hx hb dX12_primary_206 (by decide) ?_
    refine lv_iadd hx hb dX12_primary_207 ?_
    obtain ⟨x10, S11, hc12, hf⟩ := jbd_e hf
    refine jbackI hM (jrunV E hM ci_X12_expression (hrc.1 hc12) lk_7_233 hq7 (by decide) rfl hl.1 rfl rfl (Nat.le_of_ble_eq_true rfl) ⟨Nat.le_refl _, Nat.le_refl _⟩ ⟨Nat.le_refl _, Nat.le_refl _⟩ dX12_primary_208) (fun H locs hM => ?_)
    obtain ⟨ha13, hf⟩ := jif hf
    refine jiast E hM ha13 dX12_primary_211 (fun H locs S14 eS14 hM => ?_)
    have hf := jlet_y eS14 hf
    exact B_X12_primary_212 hkk hrc E  hf hM (lv_sub hl [0, 2] rfl)
set_option maxRecDepth 100000 in
set_option maxHeartbeats 4000000 in
theorem B_X12_primary_0 {p : Program} {l : Launch} {e : Env} {s : State} {m : MethodId} {args : Array Value} {below : List Frame} {meth : Method} {c : Code} {g : jG} {rc : Nat → Nat → Int32 → Int32 → jM → Option (Int32 × jM)} {kk : Nat} (hkk : 16 ≤ kk) (hrc : jrc_E l g kk rc) {rr : Int32} {SS : jM} {v0 : Nat} {v1 : Int32} {S : jM} (E : jEnv p s m args meth c cX12_primary "PensionHouseModel" (some .int) 5 g)  {H : Heap} {locs : List Loc} {ls : Array Slot} (hf : f_X12_primary rc v0 v1 S = some (rr, SS)) (hM : jAt g S s H locs) (hl : lv_has ls 5 [(0, .ref (g.2.2 + v0)), (1, .int v1)]) : W p l e (jRm (kk + 1) 0 0) s m args below meth c H locs 0 0 (MQ below (jQi g rr SS) args s 0 0 (jA0 g)) (F0 m 0 ls []) := by
  obtain ⟨hx, hb, hml, -, hts, hown, hK, -, hstr⟩ := id E
  unfold f_X12_primary at hf
  refine lv_aload_n hx hb dX12_primary_0 rfl (lv_at hl 0 rfl) ?_
  obtain ⟨hq15, hf⟩ := jif hf
  refine gt_101 E hM hq15 lk_6_15 dX12_primary_1 ?_
  refine lv_if_le (tgt := 9) hx hb dX12_primary_4 (by decide) (fun c16 => ?_) (fun c16 => ?_)
  · have hf := jt c16 hf
    refine lv_aload_n hx hb dX12_primary_9 rfl (lv_at hl 0 rfl) ?_
    obtain ⟨x17, hc18, hf⟩ := jb hf
    refine jbackI hM (jrunV E hM ci_X12_now (C_X12_now hc18) lk_7_209 hq15 (by decide) rfl hl.1 rfl rfl (Nat.le_of_ble_eq_true rfl) ⟨by show 1 + 1 ≤ kk + 1; omega, by show 49 * (1 + 1) ≤ 49 * (kk + 1); omega⟩ ⟨Nat.le_refl _, Nat.le_refl _⟩ dX12_primary_10) (fun H locs hM => ?_)
    refine lv_sipush (v := (140 : Int32)) hx hb dX12_primary_13 (by decide) ?_
    refine lv_icmp_ne (tgt := 46) hx hb dX12_primary_16 (by decide) (fun c19 => ?_) (fun c19 => ?_)
    · have hf := jf c19 hf
      refine lv_aload_n hx hb dX12_primary_46 rfl (lv_at hl 0 rfl) ?_
      obtain ⟨x20, S21, hc22, hf⟩ := jbd_e hf
      refine jbackI hM (jrunV E hM ci_X12_part (C_X12_part hc22) lk_8_11 hq15 (by decide) rfl hl.1 rfl rfl (Nat.le_of_ble_eq_true rfl) ⟨by show 2 + 1 ≤ kk + 1; omega, by show 49 * (2 + 1) ≤ 49 * (kk + 1); omega⟩ ⟨Nat.le_refl _, Nat.le_refl _⟩ dX12_primary_47) (fun H locs hM => ?_)
      refine lv_if_ne (tgt := 55) hx hb dX12_primary_50 (by decide) (fun c23 => ?_) (fun c23 => ?_)
      · have hf := jf c23 hf
        refine lv_aload_n hx hb dX12_primary_55 rfl (lv_at hl 0 rfl) ?_
        obtain ⟨x24, hc25, hf⟩ := jb hf
        refine jbackI hM (jrunV E hM ci_X12_now (C_X12_now hc25) lk_7_209 hq15 (by decide) rfl hl.1 rfl rfl (Nat.le_of_ble_eq_true rfl) ⟨by show 1 + 1 ≤ kk + 1; omega, by show 49 * (1 + 1) ≤ 49 * (kk + 1); omega⟩ ⟨Nat.le_refl _, Nat.le_refl _⟩ dX12_primary_56) (fun H locs hM => ?_)
        refine lv_istore_n (lv' := [(2, .int x24), (0, .ref (g.2.2 + v0)), (1, .int v1)]) hx hb dX12_primary_59 rfl hl (by decide) rfl (fun ls hl => ?_)
        refine lv_iload_n hx hb dX12_primary_60 rfl (lv_at hl 0 rfl) ?_
        refine lv_bipush (v := (19 : Int32)) hx hb dX12_primary_61 (by decide) ?_
        refine lv_icmp_ne (tgt := 72) hx hb dX12_primary_63 (by decide) (fun c26 => ?_) (fun c26 => ?_)
        · have hf := jf c26 hf
          refine lv_iload_n hx hb dX12_primary_72 rfl (lv_at hl 0 rfl) ?_
          refine lv_bipush (v := (40 : Int32)) hx hb dX12_primary_73 (by decide) ?_
          refine lv_icmp_ne (tgt := 83) hx hb dX12_primary_75 (by decide) (fun c27 => ?_) (fun c27 => ?_)
          · have hf := jf c27 hf
            refine lv_aload_n hx hb dX12_primary_83 rfl (lv_at hl 1 rfl) ?_
            refine lv_iload_n hx hb dX12_primary_84 rfl (lv_at hl 0 rfl) ?_
            obtain ⟨x28, S29, hc30, hf⟩ := jbd_e hf
            refine jbackI hM (jrunV E hM ci_X12_node (C_X12_node hc30) lk_8_15 hq15 (by decide) rfl hl.1 rfl rfl (Nat.le_of_ble_eq_true rfl) ⟨by show 1 + 1 ≤ kk + 1; omega, by show 49 * (1 + 1) ≤ 49 * (kk + 1); omega⟩ ⟨Nat.le_refl _, Nat.le_refl _⟩ dX12_primary_85) (fun H locs hM => ?_)
            refine lv_istore_n (lv' := [(3, .int x28), (2, .int x24), (0, .ref (g.2.2 + v0)), (1, .int v1)]) hx hb dX12_primary_88 rfl hl (by decide) rfl (fun ls hl => ?_)
            refine lv_aload_n hx hb dX12_primary_89 rfl (lv_at hl 2 rfl) ?_
            refine gt_107 E hM hq15 lk_6_21 dX12_primary_90 ?_
            obtain ⟨r31, hr32, hf⟩ := jb hf
            rw [hr32]
            show W p l e _ s m args below meth c H locs 0 0 _ (F0 m _ ls (.ref (g.2.2 + r31) :: _))
            refine lv_iload_n hx hb dX12_primary_93 rfl (lv_at hl 0 rfl) ?_
            refine lv_aload_n hx hb dX12_primary_94 rfl (lv_at hl 2 rfl) ?_
            refine gt_97 E hM hq15 lk_6_11 dX12_primary_95 ?_
            obtain ⟨r33, hr34, hf⟩ := jb hf
            rw [hr34]
            show W p l e _ s m args below meth c H locs 0 0 _ (F0 m _ ls (.ref (g.2.2 + r33) :: _))
            refine lv_aload_n hx hb dX12_primary_98 rfl (lv_at hl 2 rfl) ?_
            refine gt_100 E hM hq15 lk_6_14 dX12_primary_99 ?_
            obtain ⟨ha35, hf⟩ := jif hf
            refine jlald E hM ha35 dX12_primary_102 ?_
            obtain ⟨ha36, hf⟩ := jif hf
            refine jlast E hM ha36 dX12_primary_103 (fun H locs S37 eS37 hM => ?_)
            have hf := jlet_y eS37 hf
            refine lv_aload_n hx hb dX12_primary_104 rfl (lv_at hl 2 rfl) ?_
            refine gt_108 E hM hq15 lk_6_22 dX12_primary_105 ?_
            obtain ⟨r38, hr39, hf⟩ := jb hf
            rw [hr39]
            show W p l e _ s m args below meth c H locs 0 0 _ (F0 m _ ls (.ref (g.2.2 + r38) :: _))
            refine lv_iload_n hx hb dX12_primary_108 rfl (lv_at hl 0 rfl) ?_
            refine lv_aload_n hx hb dX12_primary_109 rfl (lv_at hl 2 rfl) ?_
            refine gt_98 E hM hq15 lk_6_12 dX12_primary_110 ?_
            obtain ⟨r40, hr41, hf⟩ := jb hf
            rw [hr41]
            show W p l e _ s m args below meth c H locs 0 0 _ (F0 m _ ls (.ref (g.2.2 + r40) :: _))
            refine lv_aload_n hx hb dX12_primary_113 rfl (lv_at hl 2 rfl) ?_
            refine gt_100 E hM hq15 lk_6_14 dX12_primary_114 ?_
            obtain ⟨ha42, hf⟩ := jif hf
            refine jiald E hM ha42 dX12_primary_117 ?_
            obtain ⟨ha43, hf⟩ := jif hf
            refine jiast E hM ha43 dX12_primary_118 (fun H locs S44 eS44 hM => ?_)
            have hf := jlet_y eS44 hf
            refine lv_aload_n hx hb dX12_primary_119 rfl (lv_at hl 2 rfl) ?_
            refine lv_dup hx hb dX12_primary_120 rfl ?_
            refine gt_100 E hM hq15 lk_6_14 dX12_primary_121 ?_
            refine lv_iconst (v := (1 : Int32)) hx hb dX12_primary_124 (by decide) ?_
            refine lv_iadd hx hb dX12_primary_125 ?_
            refine pt_100 E hM hq15 lk_6_14 dX12_primary_126 (fun H locs S45 eS45 hM => ?_)
            have hf := jlet_y eS45 hf
            refine lv_iload_n hx hb dX12_primary_129 rfl (lv_at hl 1 rfl) ?_
            refine jbackI hM (jrunS E hM ci_X12_arguments (C_X12_arguments rfl) lk_8_4 hl.1 rfl rfl (Nat.le_of_ble_eq_true rfl) ⟨by show 1 + 1 ≤ kk + 1; omega, by show 49 * (1 + 1) ≤ 49 * (kk + 1); omega⟩ ⟨Nat.le_refl _, Nat.le_refl _⟩ dX12_primary_130) (fun H locs hM => ?_)
            refine lv_topi (fun x46 ex46 => ?_)
            have hf := jlet_y ex46 hf
            refine lv_istore (lv' := [(4, .int x46), (3, .int x28), (2, .int x24), (0, .ref (g.2.2 + v0)), (1, .int v1)]) hx hb dX12_primary_133 hl (by decide) rfl (fun ls hl => ?_)
            refine lv_iload hx hb dX12_primary_135 (lv_at hl 0 rfl) ?_
            refine lv_if_le (tgt := 219) hx hb dX12_primary_137 (by decide) (fun c47 => ?_) (fun c47 => ?_)
            · have hf := jt c47 hf
              refine lv_iload_n hx hb dX12_primary_219 rfl (lv_at hl 1 rfl) ?_
              exact jireti (jr2 hf) E hM dX12_primary_220
            · have hf := jf c47 hf
              refine lv_aload_n hx hb dX12_primary_140 rfl (lv_at hl 3 rfl) ?_
              refine lv_sipush (v := (140 : Int32)) hx hb dX12_primary_141 (by decide) ?_
              obtain ⟨S48, hc49, hf⟩ := jb hf
              refine jbackV hM (jrunV E hM ci_X12_want (C_X12_want hc49) lk_7_221 hq15 (by decide) rfl hl.1 rfl rfl (Nat.le_of_ble_eq_true rfl) ⟨by show 3 + 1 ≤ kk + 1; omega, by show 49 * (3 + 1) ≤ 49 * (kk + 1); omega⟩ ⟨Nat.le_refl _, Nat.le_refl _⟩ dX12_primary_144) (fun H locs hM => ?_)
              refine lv_aload_n hx hb dX12_primary_147 rfl (lv_at hl 3 rfl) ?_
              refine gt_104 E hM hq15 lk_6_18 dX12_primary_148 ?_
              obtain ⟨r50, hr51, hf⟩ := jb hf
              rw [hr51]
              show W p l e _ s m args below meth c H locs 0 0 _ (F0 m _ ls (.ref (g.2.2 + r50) :: _))
              refine lv_iload_n hx hb dX12_primary_151 rfl (lv_at hl 1 rfl) ?_
              refine lv_aload_n hx hb dX12_primary_152 rfl (lv_at hl 3 rfl) ?_
              refine lv_iload_n hx hb dX12_primary_153 rfl (lv_at hl 4 rfl) ?_
              refine lv_iconst (v := (1 : Int32)) hx hb dX12_primary_154 (by decide) ?_
              refine lv_iadd hx hb dX12_primary_155 ?_
              obtain ⟨x52, S53, hc54, hf⟩ := jbd_e hf
              refine jbackI hM (jrunV E hM ci_X12_expression (hrc.1 hc54) lk_7_233 hq15 (by decide) rfl hl.1 rfl rfl (Nat.le_of_ble_eq_true rfl) ⟨Nat.le_refl _, Nat.le_refl _⟩ ⟨Nat.le_refl _, Nat.le_refl _⟩ dX12_primary_156) (fun H locs hM => ?_)
              obtain ⟨ha55, hf⟩ := jif hf
              refine jiast E hM ha55 dX12_primary_159 (fun H locs S56 eS56 hM => ?_)
              have hf := jlet_y eS56 hf
              refine lv_iload hx hb dX12_primary_160 (lv_at hl 0 rfl) ?_
              refine lv_iconst (v := (1 : Int32)) hx hb dX12_primary_162 (by decide) ?_
              refine lv_icmp_le (tgt := 186) hx hb dX12_primary_163 (by decide) (fun c57 => ?_) (fun c57 => ?_)
              · have hf := jt c57 hf
                exact B_X12_primary_186 hkk hrc E  hf hM (lv_sub hl [3, 4, 1, 0] rfl)
              · have hf := jf c57 hf
                refine lv_aload_n hx hb dX12_primary_166 rfl (lv_at hl 3 rfl) ?_
                refine lv_sipush (v := (144 : Int32)) hx hb dX12_primary_167 (by decide) ?_
                obtain ⟨S58, hc59, hf⟩ := jb hf
                refine jbackV hM (jrunV E hM ci_X12_want (C_X12_want hc59) lk_7_221 hq15 (by decide) rfl hl.1 rfl rfl (Nat.le_of_ble_eq_true rfl) ⟨by show 3 + 1 ≤ kk + 1; omega, by show 49 * (3 + 1) ≤ 49 * (kk + 1); omega⟩ ⟨Nat.le_refl _, Nat.le_refl _⟩ dX12_primary_170) (fun H locs hM => ?_)
                refine lv_aload_n hx hb dX12_primary_173 rfl (lv_at hl 3 rfl) ?_
                refine gt_105 E hM hq15 lk_6_19 dX12_primary_174 ?_
                obtain ⟨r60, hr61, hf⟩ := jb hf
                rw [hr61]
                show W p l e _ s m args below meth c H locs 0 0 _ (F0 m _ ls (.ref (g.2.2 + r60) :: _))
                refine lv_iload_n hx hb dX12_primary_177 rfl (lv_at hl 1 rfl) ?_
                refine lv_aload_n hx hb dX12_primary_178 rfl (lv_at hl 3 rfl) ?_
                refine lv_iload_n hx hb dX12_primary_179 rfl (lv_at hl 4 rfl) ?_
                refine lv_iconst (v := (1 : Int32)) hx hb dX12_primary_180 (by decide) ?_
                refine lv_iadd hx hb dX12_primary_181 ?_
                obtain ⟨x62, S63, hc64, hf⟩ := jbd_e hf
                refine jbackI hM (jrunV E hM ci_X12_expression (hrc.1 hc64) lk_7_233 hq15 (by decide) rfl hl.1 rfl rfl (Nat.le_of_ble_eq_true rfl) ⟨Nat.le_refl _, Nat.le_refl _⟩ ⟨Nat.le_refl _, Nat.le_refl _⟩ dX12_primary_182) (fun H locs hM => ?_)
                obtain ⟨ha65, hf⟩ := jif hf
                refine jiast E hM ha65 dX12_primary_185 (fun H locs S66 eS66 hM => ?_)
                have hf := jlet_y eS66 hf
                exact B_X12_primary_186 hkk hrc E  hf hM (lv_sub hl [3, 4, 1, 0] rfl)
          · have hf := jt c27 hf
            refine lv_aload_n hx hb dX12_primary_78 rfl (lv_at hl 1 rfl) ?_
            obtain ⟨x67, S68, hc69, hf⟩ := jbd_e hf
            refine jbackI hM (jrunV E hM ci_X12_named (C_X12_named hc69) lk_8_43 hq15 (by decide) rfl hl.1 rfl rfl (Nat.le_of_ble_eq_true rfl) ⟨by show 2 + 1 ≤ kk + 1; omega, by show 49 * (2 + 1) ≤ 49 * (kk + 1); omega⟩ ⟨Nat.le_refl _, Nat.le_refl _⟩ dX12_primary_79) (fun H locs hM => ?_)
            exact jireti (jr2 hf) E hM dX12_primary_82
        · have hf := jt c26 hf
          refine lv_aload_n hx hb dX12_primary_66 rfl (lv_at hl 1 rfl) ?_
          refine lv_iload_n hx hb dX12_primary_67 rfl (lv_at hl 2 rfl) ?_
          obtain ⟨x70, S71, hc72, hf⟩ := jbd_e hf
          refine jbackI hM (jrunV E hM ci_X12_sum (hrc.2.2.2.2.2.2.2 hc72) lk_8_39 hq15 (by decide) rfl hl.1 rfl rfl (Nat.le_of_ble_eq_true rfl) ⟨Nat.le_refl _, Nat.le_refl _⟩ ⟨Nat.le_refl _, Nat.le_refl _⟩ dX12_primary_68) (fun H locs hM => ?_)
          exact jireti (jr2 hf) E hM dX12_primary_71
      · have hf := jt c23 hf
        refine lv_iconst (v := (-1 : Int32)) hx hb dX12_primary_53 (by decide) ?_
        exact jireti (jr2 hf) E hM dX12_primary_54
    · have hf := jt c19 hf
      refine lv_aload_n hx hb dX12_primary_19 rfl (lv_at hl 0 rfl) ?_
      refine lv_dup hx hb dX12_primary_20 rfl ?_
      refine gt_100 E hM hq15 lk_6_14 dX12_primary_21 ?_
      refine lv_iconst (v := (1 : Int32)) hx hb dX12_primary_24 (by decide) ?_
      refine lv_iadd hx hb dX12_primary_25 ?_
      refine pt_100 E hM hq15 lk_6_14 dX12_primary_26 (fun H locs S73 eS73 hM => ?_)
      have hf := jlet_y eS73 hf
      refine lv_aload_n hx hb dX12_primary_29 rfl (lv_at hl 0 rfl) ?_
      refine lv_iload_n hx hb dX12_primary_30 rfl (lv_at hl 1 rfl) ?_
      refine lv_iconst (v := (1 : Int32)) hx hb dX12_primary_31 (by decide) ?_
      refine lv_iadd hx hb dX12_primary_32 ?_
      obtain ⟨x74, S75, hc76, hf⟩ := jbd_e hf
      refine jbackI hM (jrunV E hM ci_X12_expression (hrc.1 hc76) lk_7_233 hq15 (by decide) rfl hl.1 rfl rfl (Nat.le_of_ble_eq_true rfl) ⟨Nat.le_refl _, Nat.le_refl _⟩ ⟨Nat.le_refl _, Nat.le_refl _⟩ dX12_primary_33) (fun H locs hM => ?_)
      refine lv_istore_n (lv' := [(2, .int x74), (0, .ref (g.2.2 + v0)), (1, .int v1)]) hx hb dX12_primary_36 rfl hl (by decide) rfl (fun ls hl => ?_)
      refine lv_aload_n hx hb dX12_primary_37 rfl (lv_at hl 1 rfl) ?_
      refine lv_sipush (v := (141 : Int32)) hx hb dX12_primary_38 (by decide) ?_
      obtain ⟨S77, hc78, hf⟩ := jb hf
      refine jbackV hM (jrunV E hM ci_X12_want (C_X12_want hc78) lk_7_221 hq15 (by decide) rfl hl.1 rfl rfl (Nat.le_of_ble_eq_true rfl) ⟨by show 3 + 1 ≤ kk + 1; omega, by show 49 * (3 + 1) ≤ 49 * (kk + 1); omega⟩ ⟨Nat.le_refl _, Nat.le_refl _⟩ dX12_primary_41) (fun H locs hM => ?_)
      refine lv_iload_n hx hb dX12_primary_44 rfl (lv_at hl 0 rfl) ?_
      exact jireti (jr2 hf) E hM dX12_primary_45
  · have hf := jf c16 hf
    refine lv_iconst (v := (-1 : Int32)) hx hb dX12_primary_7 (by decide) ?_
    exact jireti (jr2 hf) E hM dX12_primary_8
set_option maxRecDepth 100000 in
theorem D_X12_primary {l : Launch} {g : jG} {rc : Nat → Nat → Int32 → Int32 → jM → Option (Int32 × jM)} {kk : Nat} (hkk : 16 ≤ kk) (hrc : jrc_E l g kk rc) {a0 : Nat} {a1 : Int32} {S : jM} {rr : Int32} {SS : jM} (hf : f_X12_primary rc a0 a1 S = some (rr, SS)) : jMet l g yX12_primary cX12_primary 5 (some .int) (kk + 1) 0 0 [.ref (g.2.2 + a0), .int a1] S (jQi g rr SS) := by
  refine jof (by decide +kernel) (Nat.le_of_ble_eq_true rfl) ?_
  intro p e s m below meth c E hM ls hl
  have hl : lv_has ls 5 [(0, .ref (g.2.2 + a0)),(1, .int a1)] := hl
  exact B_X12_primary_0 hkk hrc E hf hM hl
-- PensionHouseModel.sum
noncomputable def f_X12_sum (rc : Nat → Nat → Int32 → Int32 → jM → Option (Int32 × jM)) (v0 : Nat) (v1 : Int32) (S : jM) : Option (Int32 × jM) := if jK v0 = 10 then jbd (f_X12_node v0 (19 : Int32) S) (fun x1 S2 => jlet (jsI S2 100 v0 ((jI S2 100 v0) + (1 : Int32))) (fun S5 => (jR S5 97 v0).bind (fun r6 => if jA r6 14 (jI S5 100 v0) = true then jlet (jAL S5 r6 (jI S5 100 v0).toNatClampNeg) (fun x9 => (f_X12_want v0 (40 : Int32) S5).bind (fun S10 => (f_X12_want v0 (7 : Int32) S10).bind (fun S12 => (jR S12 104 v0).bind (fun r14 => jbd (rc 0 v0 (v1 + (1 : Int32)) 0 S12) (fun x16 S17 => if jA r14 13 x1 = true then jlet (jrI S17 r14 (upd (jAI S17 r14) (x1).toNatClampNeg x16)) (fun S20 => (f_X12_want v0 (21 : Int32) S20).bind (fun S21 => (jR S21 105 v0).bind (fun r23 => jbd (rc 0 v0 (v1 + (1 : Int32)) 0 S21) (fun x25 S26 => if jA r23 13 x1 = true then jlet (jrI S26 r23 (upd (jAI S26 r23) (x1).toNatClampNeg x25)) (fun S29 => (f_X12_want v0 (15 : Int32) S29).bind (fun S30 => if (jI S30 101 v0) = 0 then (jR S30 115 v0).bind (fun r33 => if jA r33 14 (jI S30 117 v0) = true then jlet (jrL S30 r33 (vp_updL (jAL S30 r33) (jI S30 117 v0).toNatClampNeg x9)) (fun S36 => (jR S36 116 v0).bind (fun r37 => if jA r37 13 (jI S36 117 v0) = true then jlet (jrI S36 r37 (upd (jAI S36 r37) (jI S36 117 v0).toNatClampNeg x1)) (fun S40 => jlet (jsI S40 117 v0 ((jI S40 117 v0) + (1 : Int32))) (fun S41 => (jR S41 106 v0).bind (fun r42 => jbd (rc 5 v0 (v1 + (1 : Int32)) 0 S41) (fun x44 S45 => if jA r42 13 x1 = true then jlet (jrI S45 r42 (upd (jAI S45 r42) (x1).toNatClampNeg x44)) (fun S48 => jlet (jsI S48 117 v0 ((jI S48 117 v0) - (1 : Int32))) (fun S49 => some (x1, S49))) else none)))) else none)) else none) else some (x1, S30))) else none)))) else none))))) else none))) else none
set_option maxRecDepth 100000 in
set_option maxHeartbeats 4000000 in
theorem B_X12_sum_0 {p : Program} {l : Launch} {e : Env} {s : State} {m : MethodId} {args : Array Value} {below : List Frame} {meth : Method} {c : Code} {g : jG} {rc : Nat → Nat → Int32 → Int32 → jM → Option (Int32 × jM)} {kk : Nat} (hkk : 16 ≤ kk) (hrc : jrc_E l g kk rc) {rr : Int32} {SS : jM} {v0 : Nat} {v1 : Int32} {S : jM} (E : jEnv p s m args meth c cX12_sum "PensionHouseModel" (some .int) 5 g)  {H : Heap} {locs : List Loc} {ls : Array Slot} (hf : f_X12_sum rc v0 v1 S = some (rr, SS)) (hM : jAt g S s H locs) (hl : lv_has ls 5 [(0, .ref (g.2.2 + v0)), (1, .int v1)]) : W p l e (jRm (kk + 1) 0 0) s m args below meth c H locs 0 0 (MQ below (jQi g rr SS) args s 0 0 (jA0 g)) (F0 m 0 ls []) := by
  obtain ⟨hx, hb, hml, -, hts, hown, hK, -, hstr⟩ := id E
  unfold f_X12_sum at hf
  refine lv_aload_n hx hb dX12_sum_0 rfl (lv_at hl 0 rfl) ?_
  refine lv_bipush (v := (19 : Int32)) hx hb dX12_sum_1 (by decide) ?_
  obtain ⟨hq4, hf⟩ := jif hf
  obtain ⟨x1, S2, hc3, hf⟩ := jbd_e hf
  refine jbackI hM (jrunV E hM ci_X12_node (C_X12_node hc3) lk_8_15 hq4 (by decide) rfl hl.1 rfl rfl (Nat.le_of_ble_eq_true rfl) ⟨by show 1 + 1 ≤ kk + 1; omega, by show 49 * (1 + 1) ≤ 49 * (kk + 1); omega⟩ ⟨Nat.le_refl _, Nat.le_refl _⟩ dX12_sum_3) (fun H locs hM => ?_)
  refine lv_istore_n (lv' := [(2, .int x1), (0, .ref (g.2.2 + v0)), (1, .int v1)]) hx hb dX12_sum_6 rfl hl (by decide) rfl (fun ls hl => ?_)
  refine lv_aload_n hx hb dX12_sum_7 rfl (lv_at hl 1 rfl) ?_
  refine lv_dup hx hb dX12_sum_8 rfl ?_
  refine gt_100 E hM hq4 lk_6_14 dX12_sum_9 ?_
  refine lv_iconst (v := (1 : Int32)) hx hb dX12_sum_12 (by decide) ?_
  refine lv_iadd hx hb dX12_sum_13 ?_
  refine pt_100 E hM hq4 lk_6_14 dX12_sum_14 (fun H locs S5 eS5 hM => ?_)
  have hf := jlet_y eS5 hf
  refine lv_aload_n hx hb dX12_sum_17 rfl (lv_at hl 1 rfl) ?_
  refine gt_97 E hM hq4 lk_6_11 dX12_sum_18 ?_
  obtain ⟨r6, hr7, hf⟩ := jb hf
  rw [hr7]
  show W p l e _ s m args below meth c H locs 0 0 _ (F0 m _ ls (.ref (g.2.2 + r6) :: _))
  refine lv_aload_n hx hb dX12_sum_21 rfl (lv_at hl 1 rfl) ?_
  refine gt_100 E hM hq4 lk_6_14 dX12_sum_22 ?_
  obtain ⟨ha8, hf⟩ := jif hf
  refine jlald E hM ha8 dX12_sum_25 ?_
  refine lv_topl (fun x9 ex9 => ?_)
  have hf := jlet_y ex9 hf
  refine lv_lstore_n (lv' := [(3, .long x9), (2, .int x1), (0, .ref (g.2.2 + v0)), (1, .int v1)]) hx hb dX12_sum_26 rfl hl (by decide) rfl (fun ls hl => ?_)
  refine lv_aload_n hx hb dX12_sum_27 rfl (lv_at hl 2 rfl) ?_
  refine lv_bipush (v := (40 : Int32)) hx hb dX12_sum_28 (by decide) ?_
  obtain ⟨S10, hc11, hf⟩ := jb hf
  refine jbackV hM (jrunV E hM ci_X12_want (C_X12_want hc11) lk_7_221 hq4 (by decide) rfl hl.1 rfl rfl (Nat.le_of_ble_eq_true rfl) ⟨by show 3 + 1 ≤ kk + 1; omega, by show 49 * (3 + 1) ≤ 49 * (kk + 1); omega⟩ ⟨Nat.le_refl _, Nat.le_refl _⟩ dX12_sum_30) (fun H locs hM => ?_)
  refine lv_aload_n hx hb dX12_sum_33 rfl (lv_at hl 2 rfl) ?_
  refine lv_bipush (v := (7 : Int32)) hx hb dX12_sum_34 (by decide) ?_
  obtain ⟨S12, hc13, hf⟩ := jb hf
  refine jbackV hM (jrunV E hM ci_X12_want (C_X12_want hc13) lk_7_221 hq4 (by decide) rfl hl.1 rfl rfl (Nat.le_of_ble_eq_true rfl) ⟨by show 3 + 1 ≤ kk + 1; omega, by show 49 * (3 + 1) ≤ 49 * (kk + 1); omega⟩ ⟨Nat.le_refl _, Nat.le_refl _⟩ dX12_sum_36) (fun H locs hM => ?_)
  refine lv_aload_n hx hb dX12_sum_39 rfl (lv_at hl 2 rfl) ?_
  refine gt_104 E hM hq4 lk_6_18 dX12_sum_40 ?_
  obtain ⟨r14, hr15, hf⟩ := jb hf
  rw [hr15]
  show W p l e _ s m args below meth c H locs 0 0 _ (F0 m _ ls (.ref (g.2.2 + r14) :: _))
  refine lv_iload_n hx hb dX12_sum_43 rfl (lv_at hl 1 rfl) ?_
  refine lv_aload_n hx hb dX12_sum_44 rfl (lv_at hl 2 rfl) ?_
  refine lv_iload_n hx hb dX12_sum_45 rfl (lv_at hl 3 rfl) ?_
  refine lv_iconst (v := (1 : Int32)) hx hb dX12_sum_46 (by decide) ?_
  refine lv_iadd hx hb dX12_sum_47 ?_
  obtain ⟨x16, S17, hc18, hf⟩ := jbd_e hf
  refine jbackI hM (jrunV E hM ci_X12_expression (hrc.1 hc18) lk_7_233 hq4 (by decide) rfl hl.1 rfl rfl (Nat.le_of_ble_eq_true rfl) ⟨Nat.le_refl _, Nat.le_refl _⟩ ⟨Nat.le_refl _, Nat.le_refl _⟩ dX12_sum_48) (fun H locs hM => ?_)
  obtain ⟨ha19, hf⟩ := jif hf
  refine jiast E hM ha19 dX12_sum_51 (fun H locs S20 eS20 hM => ?_)
  have hf := jlet_y eS20 hf
  refine lv_aload_n hx hb dX12_sum_52 rfl (lv_at hl 2 rfl) ?_
  refine lv_bipush (v := (21 : Int32)) hx hb dX12_sum_53 (by decide) ?_
  obtain ⟨S21, hc22, hf⟩ := jb hf
  refine jbackV hM (jrunV E hM ci_X12_want (C_X12_want hc22) lk_7_221 hq4 (by decide) rfl hl.1 rfl rfl (Nat.le_of_ble_eq_true rfl) ⟨by show 3 + 1 ≤ kk + 1; omega, by show 49 * (3 + 1) ≤ 49 * (kk + 1); omega⟩ ⟨Nat.le_refl _, Nat.le_refl _⟩ dX12_sum_55) (fun H locs hM => ?_)
  refine lv_aload_n hx hb dX12_sum_58 rfl (lv_at hl 2 rfl) ?_
  refine gt_105 E hM hq4 lk_6_19 dX12_sum_59 ?_
  obtain ⟨r23, hr24, hf⟩ := jb hf
  rw [hr24]
  show W p l e _ s m args below meth c H locs 0 0 _ (F0 m _ ls (.ref (g.2.2 + r23) :: _))
  refine lv_iload_n hx hb dX12_sum_62 rfl (lv_at hl 1 rfl) ?_
  refine lv_aload_n hx hb dX12_sum_63 rfl (lv_at hl 2 rfl) ?_
  refine lv_iload_n hx hb dX12_sum_64 rfl (lv_at hl 3 rfl) ?_
  refine lv_iconst (v := (1 : Int32)) hx hb dX12_sum_65 (by decide) ?_
  refine lv_iadd hx hb dX12_sum_66 ?_
  obtain ⟨x25, S26, hc27, hf⟩ := jbd_e hf
  refine jbackI hM (jrunV E hM ci_X12_expression (hrc.1 hc27) lk_7_233 hq4 (by decide) rfl hl.1 rfl rfl (Nat.le_of_ble_eq_true rfl) ⟨Nat.le_refl _, Nat.le_refl _⟩ ⟨Nat.le_refl _, Nat.le_refl _⟩ dX12_sum_67) (fun H locs hM => ?_)
  obtain ⟨ha28, hf⟩ := jif hf
  refine jiast E hM ha28 dX12_sum_70 (fun H locs S29 eS29 hM => ?_)
  have hf := jlet_y eS29 hf
  refine lv_aload_n hx hb dX12_sum_71 rfl (lv_at hl 2 rfl) ?_
  refine lv_bipush (v := (15 : Int32)) hx hb dX12_sum_72 (by decide) ?_
  obtain ⟨S30, hc31, hf⟩ := jb hf
  refine jbackV hM (jrunV E hM ci_X12_want (C_X12_want hc31) lk_7_221 hq4 (by decide) rfl hl.1 rfl rfl (Nat.le_of_ble_eq_true rfl) ⟨by show 3 + 1 ≤ kk + 1; omega, by show 49 * (3 + 1) ≤ 49 * (kk + 1); omega⟩ ⟨Nat.le_refl _, Nat.le_refl _⟩ dX12_sum_74) (fun H locs hM => ?_)
  refine lv_aload_n hx hb dX12_sum_77 rfl (lv_at hl 2 rfl) ?_
  refine gt_101 E hM hq4 lk_6_15 dX12_sum_78 ?_
  refine lv_if_ne (tgt := 137) hx hb dX12_sum_81 (by decide) (fun c32 => ?_) (fun c32 => ?_)
  · have hf := jf c32 hf
    refine lv_iload_n hx hb dX12_sum_137 rfl (lv_at hl 1 rfl) ?_
    exact jireti (jr2 hf) E hM dX12_sum_138
  · have hf := jt c32 hf
    refine lv_aload_n hx hb dX12_sum_84 rfl (lv_at hl 2 rfl) ?_
    refine gt_115 E hM hq4 lk_6_29 dX12_sum_85 ?_
    obtain ⟨r33, hr34, hf⟩ := jb hf
    rw [hr34]
    show W p l e _ s m args below meth c H locs 0 0 _ (F0 m _ ls (.ref (g.2.2 + r33) :: _))
    refine lv_aload_n hx hb dX12_sum_88 rfl (lv_at hl 2 rfl) ?_
    refine gt_117 E hM hq4 lk_6_31 dX12_sum_89 ?_
    refine lv_lload_n hx hb dX12_sum_92 rfl (lv_at hl 0 rfl) ?_
    obtain ⟨ha35, hf⟩ := jif hf
    refine jlast E hM ha35 dX12_sum_93 (fun H locs S36 eS36 hM => ?_)
    have hf := jlet_y eS36 hf
    refine lv_aload_n hx hb dX12_sum_94 rfl (lv_at hl 2 rfl) ?_
    refine gt_116 E hM hq4 lk_6_30 dX12_sum_95 ?_
    obtain ⟨r37, hr38, hf⟩ := jb hf
    rw [hr38]
    show W p l e _ s m args below meth c H locs 0 0 _ (F0 m _ ls (.ref (g.2.2 + r37) :: _))
    refine lv_aload_n hx hb dX12_sum_98 rfl (lv_at hl 2 rfl) ?_
    refine gt_117 E hM hq4 lk_6_31 dX12_sum_99 ?_
    refine lv_iload_n hx hb dX12_sum_102 rfl (lv_at hl 1 rfl) ?_
    obtain ⟨ha39, hf⟩ := jif hf
    refine jiast E hM ha39 dX12_sum_103 (fun H locs S40 eS40 hM => ?_)
    have hf := jlet_y eS40 hf
    refine lv_aload_n hx hb dX12_sum_104 rfl (lv_at hl 2 rfl) ?_
    refine lv_dup hx hb dX12_sum_105 rfl ?_
    refine gt_117 E hM hq4 lk_6_31 dX12_sum_106 ?_
    refine lv_iconst (v := (1 : Int32)) hx hb dX12_sum_109 (by decide) ?_
    refine lv_iadd hx hb dX12_sum_110 ?_
    refine pt_117 E hM hq4 lk_6_31 dX12_sum_111 (fun H locs S41 eS41 hM => ?_)
    have hf := jlet_y eS41 hf
    refine lv_aload_n hx hb dX12_sum_114 rfl (lv_at hl 2 rfl) ?_
    refine gt_106 E hM hq4 lk_6_20 dX12_sum_115 ?_
    obtain ⟨r42, hr43, hf⟩ := jb hf
    rw [hr43]
    show W p l e _ s m args below meth c H locs 0 0 _ (F0 m _ ls (.ref (g.2.2 + r42) :: _))
    refine lv_iload_n hx hb dX12_sum_118 rfl (lv_at hl 1 rfl) ?_
    refine lv_aload_n hx hb dX12_sum_119 rfl (lv_at hl 2 rfl) ?_
    refine lv_iload_n hx hb dX12_sum_120 rfl (lv_at hl 3 rfl) ?_
    refine lv_iconst (v := (1 : Int32)) hx hb dX12_sum_121 (by decide) ?_
    refine lv_iadd hx hb dX12_sum_122 ?_
    obtain ⟨x44, S45, hc46, hf⟩ := jbd_e hf
    refine jbackI hM (jrunV E hM ci_X12_unary (hrc.2.2.2.2.2.1 hc46) lk_8_31 hq4 (by decide) rfl hl.1 rfl rfl (Nat.le_of_ble_eq_true rfl) ⟨Nat.le_refl _, Nat.le_refl _⟩ ⟨Nat.le_refl _, Nat.le_refl _⟩ dX12_sum_123) (fun H locs hM => ?_)
    obtain ⟨ha47, hf⟩ := jif hf
    refine jiast E hM ha47 dX12_sum_126 (fun H locs S48 eS48 hM => ?_)
    have hf := jlet_y eS48 hf
    refine lv_aload_n hx hb dX12_sum_127 rfl (lv_at hl 2 rfl) ?_
    refine lv_dup hx hb dX12_sum_128 rfl ?_
    refine gt_117 E hM hq4 lk_6_31 dX12_sum_129 ?_
    refine lv_iconst (v := (1 : Int32)) hx hb dX12_sum_132 (by decide) ?_
    refine lv_isub hx hb dX12_sum_133 ?_
    refine pt_117 E hM hq4 lk_6_31 dX12_sum_134 (fun H locs S49 eS49 hM => ?_)
    have hf := jlet_y eS49 hf
    refine lv_iload_n hx hb dX12_sum_137 rfl (lv_at hl 1 rfl) ?_
    exact jireti (jr2 hf) E hM dX12_sum_138
set_option maxRecDepth 100000 in
theorem D_X12_sum {l : Launch} {g : jG} {rc : Nat → Nat → Int32 → Int32 → jM → Option (Int32 × jM)} {kk : Nat} (hkk : 16 ≤ kk) (hrc : jrc_E l g kk rc) {a0 : Nat} {a1 : Int32} {S : jM} {rr : Int32} {SS : jM} (hf : f_X12_sum rc a0 a1 S = some (rr, SS)) : jMet l g yX12_sum cX12_sum 5 (some .int) (kk + 1) 0 0 [.ref (g.2.2 + a0), .int a1] S (jQi g rr SS) := by
  refine jof (by decide +kernel) (Nat.le_of_ble_eq_true rfl) ?_
  intro p e s m below meth c E hM ls hl
  have hl : lv_has ls 5 [(0, .ref (g.2.2 + a0)),(1, .int a1)] := hl
  exact B_X12_sum_0 hkk hrc E hf hM hl
noncomputable def g_E : Nat → Nat → Nat → Int32 → Int32 → jM → Option (Int32 × jM)
  | 0, _, _, _, _, _ => none
  | d + 1, sel, t, a, b, S => if sel = 0 then f_X12_expression (g_E d) t a S else if sel = 1 then f_X12_ifElse (g_E d) t a S else if sel = 2 then f_X12_compared (g_E d) t a S else if sel = 3 then f_X12_added (g_E d) t a S else if sel = 4 then f_X12_multiplied (g_E d) t a S else if sel = 5 then f_X12_unary (g_E d) t a S else if sel = 6 then f_X12_primary (g_E d) t a S else if sel = 7 then f_X12_sum (g_E d) t a S else none
theorem jrcA_E {l : Launch} {g : jG} : ∀ d : Nat, jrc_E l g (16 + d) (g_E d) := by
  intro d
  induction d with
  | zero => unfold jrc_E; exact ⟨fun h => (by rw [g_E] at h; cases h), fun h => (by rw [g_E] at h; cases h), fun h => (by rw [g_E] at h; cases h), fun h => (by rw [g_E] at h; cases h), fun h => (by rw [g_E] at h; cases h), fun h => (by rw [g_E] at h; cases h), fun h => (by rw [g_E] at h; cases h), fun h => (by rw [g_E] at h; cases h)⟩
  | succ d ih =>
    unfold jrc_E; exact ⟨fun h => (by rw [g_E] at h; exact D_X12_expression (by omega) ih (jt rfl h)),
      fun h => (by rw [g_E] at h; have h := jf (by decide) h; exact D_X12_ifElse (by omega) ih (jt rfl h)),
      fun h => (by rw [g_E] at h; have h := jf (by decide) h; have h := jf (by decide) h; exact D_X12_compared (by omega) ih (jt rfl h)),
      fun h => (by rw [g_E] at h; have h := jf (by decide) h; have h := jf (by decide) h; have h := jf (by decide) h; exact D_X12_added (by omega) ih (jt rfl h)),
      fun h => (by rw [g_E] at h; have h := jf (by decide) h; have h := jf (by decide) h; have h := jf (by decide) h; have h := jf (by decide) h; exact D_X12_multiplied (by omega) ih (jt rfl h)),
      fun h => (by rw [g_E] at h; have h := jf (by decide) h; have h := jf (by decide) h; have h := jf (by decide) h; have h := jf (by decide) h; have h := jf (by decide) h; exact D_X12_unary (by omega) ih (jt rfl h)),
      fun h => (by rw [g_E] at h; have h := jf (by decide) h; have h := jf (by decide) h; have h := jf (by decide) h; have h := jf (by decide) h; have h := jf (by decide) h; have h := jf (by decide) h; exact D_X12_primary (by omega) ih (jt rfl h)),
      fun h => (by rw [g_E] at h; have h := jf (by decide) h; have h := jf (by decide) h; have h := jf (by decide) h; have h := jf (by decide) h; have h := jf (by decide) h; have h := jf (by decide) h; have h := jf (by decide) h; exact D_X12_sum (by omega) ih (jt rfl h))⟩
theorem C_X12_expression {l : Launch} {g : jG} {a0 : Nat} {a1 : Int32} {S : jM} {rr : Int32} {SS : jM} (hf : f_X12_expression (g_E 300) a0 a1 S = some (rr, SS)) : jMet l g yX12_expression cX12_expression 3 (some .int) 317 0 0 [.ref (g.2.2 + a0), .int a1] S (jQi g rr SS) := D_X12_expression (kk := 316) (by decide) (jrcA_E 300) hf
theorem C_X12_ifElse {l : Launch} {g : jG} {a0 : Nat} {a1 : Int32} {S : jM} {rr : Int32} {SS : jM} (hf : f_X12_ifElse (g_E 300) a0 a1 S = some (rr, SS)) : jMet l g yX12_ifElse cX12_ifElse 3 (some .int) 317 0 0 [.ref (g.2.2 + a0), .int a1] S (jQi g rr SS) := D_X12_ifElse (kk := 316) (by decide) (jrcA_E 300) hf
theorem C_X12_compared {l : Launch} {g : jG} {a0 : Nat} {a1 : Int32} {S : jM} {rr : Int32} {SS : jM} (hf : f_X12_compared (g_E 300) a0 a1 S = some (rr, SS)) : jMet l g yX12_compared cX12_compared 5 (some .int) 317 0 0 [.ref (g.2.2 + a0), .int a1] S (jQi g rr SS) := D_X12_compared (kk := 316) (by decide) (jrcA_E 300) hf
theorem C_X12_added {l : Launch} {g : jG} {a0 : Nat} {a1 : Int32} {S : jM} {rr : Int32} {SS : jM} (hf : f_X12_added (g_E 300) a0 a1 S = some (rr, SS)) : jMet l g yX12_added cX12_added 5 (some .int) 317 0 0 [.ref (g.2.2 + a0), .int a1] S (jQi g rr SS) := D_X12_added (kk := 316) (by decide) (jrcA_E 300) hf
theorem C_X12_multiplied {l : Launch} {g : jG} {a0 : Nat} {a1 : Int32} {S : jM} {rr : Int32} {SS : jM} (hf : f_X12_multiplied (g_E 300) a0 a1 S = some (rr, SS)) : jMet l g yX12_multiplied cX12_multiplied 5 (some .int) 317 0 0 [.ref (g.2.2 + a0), .int a1] S (jQi g rr SS) := D_X12_multiplied (kk := 316) (by decide) (jrcA_E 300) hf
theorem C_X12_unary {l : Launch} {g : jG} {a0 : Nat} {a1 : Int32} {S : jM} {rr : Int32} {SS : jM} (hf : f_X12_unary (g_E 300) a0 a1 S = some (rr, SS)) : jMet l g yX12_unary cX12_unary 4 (some .int) 317 0 0 [.ref (g.2.2 + a0), .int a1] S (jQi g rr SS) := D_X12_unary (kk := 316) (by decide) (jrcA_E 300) hf
theorem C_X12_primary {l : Launch} {g : jG} {a0 : Nat} {a1 : Int32} {S : jM} {rr : Int32} {SS : jM} (hf : f_X12_primary (g_E 300) a0 a1 S = some (rr, SS)) : jMet l g yX12_primary cX12_primary 5 (some .int) 317 0 0 [.ref (g.2.2 + a0), .int a1] S (jQi g rr SS) := D_X12_primary (kk := 316) (by decide) (jrcA_E 300) hf
theorem C_X12_sum {l : Launch} {g : jG} {a0 : Nat} {a1 : Int32} {S : jM} {rr : Int32} {SS : jM} (hf : f_X12_sum (g_E 300) a0 a1 S = some (rr, SS)) : jMet l g yX12_sum cX12_sum 5 (some .int) 317 0 0 [.ref (g.2.2 + a0), .int a1] S (jQi g rr SS) := D_X12_sum (kk := 316) (by decide) (jrcA_E 300) hf
