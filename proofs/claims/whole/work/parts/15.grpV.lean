def jrc_V (l : Launch) (g : jG) (kk : Nat) (rc : Nat → Nat → Int32 → Int32 → jM → Option (Int32 × jM)) : Prop := (∀ {t : Nat} {a b : Int32} {S : jM} {rr : Int32} {SS : jM}, rc 0 t a b S = some (rr, SS) → jMet l g yX12_workRule cX12_workRule 4 (some .int) kk 0 0 [.ref (g.2.2 + t), .int a] S (jQi g rr SS)) ∧ (∀ {t : Nat} {a b : Int32} {S : jM} {rr : Int32} {SS : jM}, rc 1 t a b S = some (rr, SS) → jMet l g yX12_workNode cX12_workNode 4 (some .int) kk 0 0 [.ref (g.2.2 + t), .int a] S (jQi g rr SS)) ∧ (∀ {t : Nat} {a b : Int32} {S : jM} {rr : Int32} {SS : jM}, rc 2 t a b S = some (rr, SS) → jMet l g yX12_workIf cX12_workIf 3 (some .int) kk 0 0 [.ref (g.2.2 + t), .int a] S (jQi g rr SS)) ∧ (∀ {t : Nat} {a b : Int32} {S : jM} {rr : Int32} {SS : jM}, rc 3 t a b S = some (rr, SS) → jMet l g yX12_workTry cX12_workTry 3 (some .int) kk 0 0 [.ref (g.2.2 + t), .int a] S (jQi g rr SS)) ∧ (∀ {t : Nat} {a b : Int32} {S : jM} {rr : Int32} {SS : jM}, rc 4 t a b S = some (rr, SS) → jMet l g yX12_workSum cX12_workSum 11 (some .int) kk 0 0 [.ref (g.2.2 + t), .int a] S (jQi g rr SS)) ∧ (∀ {t : Nat} {a b : Int32} {S : jM} {rr : Int32} {SS : jM}, rc 5 t a b S = some (rr, SS) → jMet l g yX12_workMore cX12_workMore 6 (some .int) kk 0 0 [.ref (g.2.2 + t), .int a, .int b] S (jQi g rr SS))
-- PensionHouseModel.workRule
noncomputable def f_X12_workRule_117 (rc : Nat → Nat → Int32 → Int32 → jM → Option (Int32 × jM)) (v0 : Nat) (v1 : Int32) (v2 : Int32) (v3 : Int32) (t0 : Nat) (t1 : Int32) (t2 : Int32) (S : jM) : Option (Int32 × jM) := if jA t0 13 t1 = true then jlet (jrI S t0 (upd (jAI S t0) (t1).toNatClampNeg t2)) (fun S2 => if jK v0 = 10 then (jR S2 131 v0).bind (fun r4 => if jA r4 13 v1 = true then jlet (jrI S2 r4 (upd (jAI S2 r4) (v1).toNatClampNeg (jI S2 127 v0))) (fun S7 => (jR S7 132 v0).bind (fun r8 => (jR S7 130 v0).bind (fun r10 => if jA r10 13 v1 = true then if jA r8 13 (jI S7 133 v0) = true then jlet (jrI S7 r8 (upd (jAI S7 r8) (jI S7 133 v0).toNatClampNeg (((100 : Int32) * v1) + (jAI S7 r10 (v1).toNatClampNeg)))) (fun S14 => jlet (jsI S14 133 v0 ((jI S14 133 v0) + (1 : Int32))) (fun S15 => jlet (jsI S15 122 v0 v2) (fun S16 => some (v3, S16)))) else none else none))) else none) else none) else none
noncomputable def f_X12_workRule_92 (rc : Nat → Nat → Int32 → Int32 → jM → Option (Int32 × jM)) (v0 : Nat) (v1 : Int32) (v2 : Int32) (v3 : Int32) (t0 : Nat) (t1 : Int32) (t2 : Int32) (S : jM) : Option (Int32 × jM) := if jA t0 13 t1 = true then jlet (jrI S t0 (upd (jAI S t0) (t1).toNatClampNeg t2)) (fun S18 => if jK v0 = 10 then (jR S18 129 v0).bind (fun r20 => if jA r20 13 v1 = true then jlet (jrI S18 r20 (upd (jAI S18 r20) (v1).toNatClampNeg v3)) (fun S23 => (jR S23 130 v0).bind (fun r24 => if 0 ≤ v3 then f_X12_workRule_117 rc v0 v1 v2 v3 r24 v1 (0 : Int32) S23 else f_X12_workRule_117 rc v0 v1 v2 v3 r24 v1 (jI S23 126 v0) S23)) else none) else none) else none
noncomputable def f_X12_workRule (rc : Nat → Nat → Int32 → Int32 → jM → Option (Int32 × jM)) (v0 : Nat) (v1 : Int32) (S : jM) : Option (Int32 × jM) := if jK v0 = 10 then (jR S 128 v0).bind (fun r28 => if jA r28 13 v1 = true then if (jAI S r28 (v1).toNatClampNeg) = (1 : Int32) then (jR S 129 v0).bind (fun r55 => if jA r55 13 v1 = true then some (jAI S r55 (v1).toNatClampNeg, S) else none) else (jR S 128 v0).bind (fun r32 => if jA r32 13 v1 = true then if (jAI S r32 (v1).toNatClampNeg) = (2 : Int32) then (jR S 130 v0).bind (fun r47 => if jA r47 13 v1 = true then jlet (jsI S 126 v0 (jAI S r47 (v1).toNatClampNeg)) (fun S50 => (jR S50 131 v0).bind (fun r51 => if jA r51 13 v1 = true then jlet (jsI S50 127 v0 (jAI S50 r51 (v1).toNatClampNeg)) (fun S54 => some ((-1 : Int32), S54)) else none)) else none) else jlet (jI S 122 v0) (fun x36 => jlet (jsI S 122 v0 v1) (fun S37 => (jR S37 112 v0).bind (fun r38 => if jA r38 13 (((24 : Int32) * (jI S37 118 v0)) + v1) = true then jbd (rc 1 v0 (jAI S37 r38 (((24 : Int32) * (jI S37 118 v0)) + v1).toNatClampNeg) 0 S37) (fun x41 S42 => (jR S42 128 v0).bind (fun r44 => if 0 ≤ x41 then f_X12_workRule_92 rc v0 v1 x36 x41 r44 v1 (1 : Int32) S42 else f_X12_workRule_92 rc v0 v1 x36 x41 r44 v1 (2 : Int32) S42)) else none))) else none) else none) else none
set_option maxRecDepth 100000 in
set_option maxHeartbeats 4000000 in
theorem B_X12_workRule_117 {p : Program} {l : Launch} {e : Env} {s : State} {m : MethodId} {args : Array Value} {below : List Frame} {meth : Method} {c : Code} {g : jG} {rc : Nat → Nat → Int32 → Int32 → jM → Option (Int32 × jM)} {kk : Nat} (hkk : 16 ≤ kk) (hrc : jrc_V l g kk rc) {rr : Int32} {SS : jM} {v0 : Nat} {v1 : Int32} {v2 : Int32} {v3 : Int32} {t0 : Nat} {t1 : Int32} {t2 : Int32} {S : jM} (E : jEnv p s m args meth c cX12_workRule "PensionHouseModel" (some .int) 4 g)  {H : Heap} {locs : List Loc} {ls : Array Slot} (hf : f_X12_workRule_117 rc v0 v1 v2 v3 t0 t1 t2 S = some (rr, SS)) (hM : jAt g S s H locs) (hl : lv_has ls 4 [(0, .ref (g.2.2 + v0)), (1, .int v1), (2, .int v2), (3, .int v3)]) : W p l e (jRm (kk + 1) 0 0) s m args below meth c H locs 0 0 (MQ below (jQi g rr SS) args s 0 0 (jA0 g)) (F0 m 117 ls [.int t2, .int t1, .ref (g.2.2 + t0)]) := by
  obtain ⟨hx, hb, hml, -, hts, hown, hK, -, hstr⟩ := id E
  unfold f_X12_workRule_117 at hf
  obtain ⟨ha1, hf⟩ := jif hf
  refine jiast E hM ha1 dX12_workRule_117 (fun H locs S2 eS2 hM => ?_)
  have hf := jlet_y eS2 hf
  refine lv_aload_n hx hb dX12_workRule_118 rfl (lv_at hl 0 rfl) ?_
  obtain ⟨hq3, hf⟩ := jif hf
  refine gt_131 E hM hq3 lk_6_45 dX12_workRule_119 ?_
  obtain ⟨r4, hr5, hf⟩ := jb hf
  rw [hr5]
  show W p l e _ s m args below meth c H locs 0 0 _ (F0 m _ ls (.ref (g.2.2 + r4) :: _))
  refine lv_iload_n hx hb dX12_workRule_122 rfl (lv_at hl 1 rfl) ?_
  refine lv_aload_n hx hb dX12_workRule_123 rfl (lv_at hl 0 rfl) ?_
  refine gt_127 E hM hq3 lk_6_41 dX12_workRule_124 ?_
  obtain ⟨ha6, hf⟩ := jif hf
  refine jiast E hM ha6 dX12_workRule_127 (fun H locs S7 eS7 hM => ?_)
  have hf := jlet_y eS7 hf
  refine lv_aload_n hx hb dX12_workRule_128 rfl (lv_at hl 0 rfl) ?_
  refine gt_132 E hM hq3 lk_6_46 dX12_workRule_129 ?_
  obtain ⟨r8, hr9, hf⟩ := jb hf
  rw [hr9]
  show W p l e _ s m args below meth c H locs 0 0 _ (F0 m _ ls (.ref (g.2.2 + r8) :: _))
  refine lv_aload_n hx hb dX12_workRule_132 rfl (lv_at hl 0 rfl) ?_
  refine gt_133 E hM hq3 lk_6_47 dX12_workRule_133 ?_
  refine lv_bipush (v := (100 : Int32)) hx hb dX12_workRule_136 (by decide) ?_
  refine lv_iload_n hx hb dX12_workRule_138 rfl (lv_at hl 1 rfl) ?_
  refine lv_imul hx hb dX12_workRule_139 ?_
  refine lv_aload_n hx hb dX12_workRule_140 rfl (lv_at hl 0 rfl) ?_
  refine gt_130 E hM hq3 lk_6_44 dX12_workRule_141 ?_
  obtain ⟨r10, hr11, hf⟩ := jb hf
  rw [hr11]
  show W p l e _ s m args below meth c H locs 0 0 _ (F0 m _ ls (.ref (g.2.2 + r10) :: _))
  refine lv_iload_n hx hb dX12_workRule_144 rfl (lv_at hl 1 rfl) ?_
  obtain ⟨ha12, hf⟩ := jif hf
  refine jiald E hM ha12 dX12_workRule_145 ?_
  refine lv_iadd hx hb dX12_workRule_146 ?_
  obtain ⟨ha13, hf⟩ := jif hf
  refine jiast E hM ha13 dX12_workRule_147 (fun H locs S14 eS14 hM => ?_)
  have hf := jlet_y eS14 hf
  refine lv_aload_n hx hb dX12_workRule_148 rfl (lv_at hl 0 rfl) ?_
  refine lv_dup hx hb dX12_workRule_149 rfl ?_
  refine gt_133 E hM hq3 lk_6_47 dX12_workRule_150 ?_
  refine lv_iconst (v := (1 : Int32)) hx hb dX12_workRule_153 (by decide) ?_
  refine lv_iadd hx hb dX12_workRule_154 ?_
  refine pt_133 E hM hq3 lk_6_47 dX12_workRule_155 (fun H locs S15 eS15 hM => ?_)
  have hf := jlet_y eS15 hf
  refine lv_aload_n hx hb dX12_workRule_158 rfl (lv_at hl 0 rfl) ?_
  refine lv_iload_n hx hb dX12_workRule_159 rfl (lv_at hl 2 rfl) ?_
  refine pt_122 E hM hq3 lk_6_36 dX12_workRule_160 (fun H locs S16 eS16 hM => ?_)
  have hf := jlet_y eS16 hf
  refine lv_iload_n hx hb dX12_workRule_163 rfl (lv_at hl 3 rfl) ?_
  exact jireti (jr2 hf) E hM dX12_workRule_164
set_option maxRecDepth 100000 in
set_option maxHeartbeats 4000000 in
theorem B_X12_workRule_92 {p : Program} {l : Launch} {e : Env} {s : State} {m : MethodId} {args : Array Value} {below : List Frame} {meth : Method} {c : Code} {g : jG} {rc : Nat → Nat → Int32 → Int32 → jM → Option (Int32 × jM)} {kk : Nat} (hkk : 16 ≤ kk) (hrc : jrc_V l g kk rc) {rr : Int32} {SS : jM} {v0 : Nat} {v1 : Int32} {v2 : Int32} {v3 : Int32} {t0 : Nat} {t1 : Int32} {t2 : Int32} {S : jM} (E : jEnv p s m args meth c cX12_workRule "PensionHouseModel" (some .int) 4 g)  {H : Heap} {locs : List Loc} {ls : Array Slot} (hf : f_X12_workRule_92 rc v0 v1 v2 v3 t0 t1 t2 S = some (rr, SS)) (hM : jAt g S s H locs) (hl : lv_has ls 4 [(0, .ref (g.2.2 + v0)), (1, .int v1), (2, .int v2), (3, .int v3)]) : W p l e (jRm (kk + 1) 0 0) s m args below meth c H locs 0 0 (MQ below (jQi g rr SS) args s 0 0 (jA0 g)) (F0 m 92 ls [.int t2, .int t1, .ref (g.2.2 + t0)]) := by
  obtain ⟨hx, hb, hml, -, hts, hown, hK, -, hstr⟩ := id E
  unfold f_X12_workRule_92 at hf
  obtain ⟨ha17, hf⟩ := jif hf
  refine jiast E hM ha17 dX12_workRule_92 (fun H locs S18 eS18 hM => ?_)
  have hf := jlet_y eS18 hf
  refine lv_aload_n hx hb dX12_workRule_93 rfl (lv_at hl 0 rfl) ?_
  obtain ⟨hq19, hf⟩ := jif hf
  refine gt_129 E hM hq19 lk_6_43 dX12_workRule_94 ?_
  obtain ⟨r20, hr21, hf⟩ := jb hf
  rw [hr21]
  show W p l e _ s m args below meth c H locs 0 0 _ (F0 m _ ls (.ref (g.2.2 + r20) :: _))
  refine lv_iload_n hx hb dX12_workRule_97 rfl (lv_at hl 1 rfl) ?_
  refine lv_iload_n hx hb dX12_workRule_98 rfl (lv_at hl 3 rfl) ?_
  obtain ⟨ha22, hf⟩ := jif hf
  refine jiast E hM ha22 dX12_workRule_99 (fun H locs S23 eS23 hM => ?_)
  have hf := jlet_y eS23 hf
  refine lv_aload_n hx hb dX12_workRule_100 rfl (lv_at hl 0 rfl) ?_
  refine gt_130 E hM hq19 lk_6_44 dX12_workRule_101 ?_
  obtain ⟨r24, hr25, hf⟩ := jb hf
  rw [hr25]
  show W p l e _ s m args below meth c H locs 0 0 _ (F0 m _ ls (.ref (g.2.2 + r24) :: _))
  refine lv_iload_n hx hb dX12_workRule_104 rfl (lv_at hl 1 rfl) ?_
  refine lv_iload_n hx hb dX12_workRule_105 rfl (lv_at hl 3 rfl) ?_
  refine lv_if_ge (tgt := 116) hx hb dX12_workRule_106 (by decide) (fun c26 => ?_) (fun c26 => ?_)
  · have hf := jt c26 hf
    refine lv_iconst (v := (0 : Int32)) hx hb dX12_workRule_116 (by decide) ?_
    exact B_X12_workRule_117 hkk hrc E  hf hM (lv_sub hl [0, 1, 2, 3] rfl)
  · have hf := jf c26 hf
    refine lv_aload_n hx hb dX12_workRule_109 rfl (lv_at hl 0 rfl) ?_
    refine gt_126 E hM hq19 lk_6_40 dX12_workRule_110 ?_
    refine lv_goto (tgt := 117) hx hb dX12_workRule_113 (by decide) ?_
    exact B_X12_workRule_117 hkk hrc E  hf hM (lv_sub hl [0, 1, 2, 3] rfl)
set_option maxRecDepth 100000 in
set_option maxHeartbeats 4000000 in
theorem B_X12_workRule_0 {p : Program} {l : Launch} {e : Env} {s : State} {m : MethodId} {args : Array Value} {below : List Frame} {meth : Method} {c : Code} {g : jG} {rc : Nat → Nat → Int32 → Int32 → jM → Option (Int32 × jM)} {kk : Nat} (hkk : 16 ≤ kk) (hrc : jrc_V l g kk rc) {rr : Int32} {SS : jM} {v0 : Nat} {v1 : Int32} {S : jM} (E : jEnv p s m args meth c cX12_workRule "PensionHouseModel" (some .int) 4 g)  {H : Heap} {locs : List Loc} {ls : Array Slot} (hf : f_X12_workRule rc v0 v1 S = some (rr, SS)) (hM : jAt g S s H locs) (hl : lv_has ls 4 [(0, .ref (g.2.2 + v0)), (1, .int v1)]) : W p l e (jRm (kk + 1) 0 0) s m args below meth c H locs 0 0 (MQ below (jQi g rr SS) args s 0 0 (jA0 g)) (F0 m 0 ls []) := by
  obtain ⟨hx, hb, hml, -, hts, hown, hK, -, hstr⟩ := id E
  unfold f_X12_workRule at hf
  refine lv_aload_n hx hb dX12_workRule_0 rfl (lv_at hl 0 rfl) ?_
  obtain ⟨hq27, hf⟩ := jif hf
  refine gt_128 E hM hq27 lk_6_42 dX12_workRule_1 ?_
  obtain ⟨r28, hr29, hf⟩ := jb hf
  rw [hr29]
  show W p l e _ s m args below meth c H locs 0 0 _ (F0 m _ ls (.ref (g.2.2 + r28) :: _))
  refine lv_iload_n hx hb dX12_workRule_4 rfl (lv_at hl 1 rfl) ?_
  obtain ⟨ha30, hf⟩ := jif hf
  refine jiald E hM ha30 dX12_workRule_5 ?_
  refine lv_iconst (v := (1 : Int32)) hx hb dX12_workRule_6 (by decide) ?_
  refine lv_icmp_ne (tgt := 17) hx hb dX12_workRule_7 (by decide) (fun c31 => ?_) (fun c31 => ?_)
  · have hf := jf c31 hf
    refine lv_aload_n hx hb dX12_workRule_17 rfl (lv_at hl 0 rfl) ?_
    refine gt_128 E hM hq27 lk_6_42 dX12_workRule_18 ?_
    obtain ⟨r32, hr33, hf⟩ := jb hf
    rw [hr33]
    show W p l e _ s m args below meth c H locs 0 0 _ (F0 m _ ls (.ref (g.2.2 + r32) :: _))
    refine lv_iload_n hx hb dX12_workRule_21 rfl (lv_at hl 1 rfl) ?_
    obtain ⟨ha34, hf⟩ := jif hf
    refine jiald E hM ha34 dX12_workRule_22 ?_
    refine lv_iconst (v := (2 : Int32)) hx hb dX12_workRule_23 (by decide) ?_
    refine lv_icmp_ne (tgt := 49) hx hb dX12_workRule_24 (by decide) (fun c35 => ?_) (fun c35 => ?_)
    · have hf := jf c35 hf
      refine lv_aload_n hx hb dX12_workRule_49 rfl (lv_at hl 0 rfl) ?_
      refine gt_122 E hM hq27 lk_6_36 dX12_workRule_50 ?_
      refine lv_topi (fun x36 ex36 => ?_)
      have hf := jlet_y ex36 hf
      refine lv_istore_n (lv' := [(2, .int x36), (0, .ref (g.2.2 + v0)), (1, .int v1)]) hx hb dX12_workRule_53 rfl hl (by decide) rfl (fun ls hl => ?_)
      refine lv_aload_n hx hb dX12_workRule_54 rfl (lv_at hl 1 rfl) ?_
      refine lv_iload_n hx hb dX12_workRule_55 rfl (lv_at hl 2 rfl) ?_
      refine pt_122 E hM hq27 lk_6_36 dX12_workRule_56 (fun H locs S37 eS37 hM => ?_)
      have hf := jlet_y eS37 hf
      refine lv_aload_n hx hb dX12_workRule_59 rfl (lv_at hl 1 rfl) ?_
      refine lv_aload_n hx hb dX12_workRule_60 rfl (lv_at hl 1 rfl) ?_
      refine gt_112 E hM hq27 lk_6_26 dX12_workRule_61 ?_
      obtain ⟨r38, hr39, hf⟩ := jb hf
      rw [hr39]
      show W p l e _ s m args below meth c H locs 0 0 _ (F0 m _ ls (.ref (g.2.2 + r38) :: _))
      refine lv_bipush (v := (24 : Int32)) hx hb dX12_workRule_64 (by decide) ?_
      refine lv_aload_n hx hb dX12_workRule_66 rfl (lv_at hl 1 rfl) ?_
      refine gt_118 E hM hq27 lk_6_32 dX12_workRule_67 ?_
      refine lv_imul hx hb dX12_workRule_70 ?_
      refine lv_iload_n hx hb dX12_workRule_71 rfl (lv_at hl 2 rfl) ?_
      refine lv_iadd hx hb dX12_workRule_72 ?_
      obtain ⟨ha40, hf⟩ := jif hf
      refine jiald E hM ha40 dX12_workRule_73 ?_
      obtain ⟨x41, S42, hc43, hf⟩ := jbd_e hf
      refine jbackI hM (jrunV E hM ci_X12_workNode (hrc.2.1 hc43) lk_8_79 hq27 (by decide) rfl hl.1 rfl rfl (Nat.le_of_ble_eq_true rfl) ⟨Nat.le_refl _, Nat.le_refl _⟩ ⟨Nat.le_refl _, Nat.le_refl _⟩ dX12_workRule_74) (fun H locs hM => ?_)
      refine lv_istore_n (lv' := [(3, .int x41), (2, .int x36), (0, .ref (g.2.2 + v0)), (1, .int v1)]) hx hb dX12_workRule_77 rfl hl (by decide) rfl (fun ls hl => ?_)
      refine lv_aload_n hx hb dX12_workRule_78 rfl (lv_at hl 2 rfl) ?_
      refine gt_128 E hM hq27 lk_6_42 dX12_workRule_79 ?_
      obtain ⟨r44, hr45, hf⟩ := jb hf
      rw [hr45]
      show W p l e _ s m args below meth c H locs 0 0 _ (F0 m _ ls (.ref (g.2.2 + r44) :: _))
      refine lv_iload_n hx hb dX12_workRule_82 rfl (lv_at hl 3 rfl) ?_
      refine lv_iload_n hx hb dX12_workRule_83 rfl (lv_at hl 0 rfl) ?_
      refine lv_if_ge (tgt := 91) hx hb dX12_workRule_84 (by decide) (fun c46 => ?_) (fun c46 => ?_)
      · have hf := jt c46 hf
        refine lv_iconst (v := (1 : Int32)) hx hb dX12_workRule_91 (by decide) ?_
        exact B_X12_workRule_92 hkk hrc E  hf hM (lv_sub hl [2, 3, 1, 0] rfl)
      · have hf := jf c46 hf
        refine lv_iconst (v := (2 : Int32)) hx hb dX12_workRule_87 (by decide) ?_
        refine lv_goto (tgt := 92) hx hb dX12_workRule_88 (by decide) ?_
        exact B_X12_workRule_92 hkk hrc E  hf hM (lv_sub hl [2, 3, 1, 0] rfl)
    · have hf := jt c35 hf
      refine lv_aload_n hx hb dX12_workRule_27 rfl (lv_at hl 0 rfl) ?_
      refine lv_aload_n hx hb dX12_workRule_28 rfl (lv_at hl 0 rfl) ?_
      refine gt_130 E hM hq27 lk_6_44 dX12_workRule_29 ?_
      obtain ⟨r47, hr48, hf⟩ := jb hf
      rw [hr48]
      show W p l e _ s m args below meth c H locs 0 0 _ (F0 m _ ls (.ref (g.2.2 + r47) :: _))
      refine lv_iload_n hx hb dX12_workRule_32 rfl (lv_at hl 1 rfl) ?_
      obtain ⟨ha49, hf⟩ := jif hf
      refine jiald E hM ha49 dX12_workRule_33 ?_
      refine pt_126 E hM hq27 lk_6_40 dX12_workRule_34 (fun H locs S50 eS50 hM => ?_)
      have hf := jlet_y eS50 hf
      refine lv_aload_n hx hb dX12_workRule_37 rfl (lv_at hl 0 rfl) ?_
      refine lv_aload_n hx hb dX12_workRule_38 rfl (lv_at hl 0 rfl) ?_
      refine gt_131 E hM hq27 lk_6_45 dX12_workRule_39 ?_
      obtain ⟨r51, hr52, hf⟩ := jb hf
      rw [hr52]
      show W p l e _ s m args below meth c H locs 0 0 _ (F0 m _ ls (.ref (g.2.2 + r51) :: _))
      refine lv_iload_n hx hb dX12_workRule_42 rfl (lv_at hl 1 rfl) ?_
      obtain ⟨ha53, hf⟩ := jif hf
      refine jiald E hM ha53 dX12_workRule_43 ?_
      refine pt_127 E hM hq27 lk_6_41 dX12_workRule_44 (fun H locs S54 eS54 hM => ?_)
      have hf := jlet_y eS54 hf
      refine lv_iconst (v := (-1 : Int32)) hx hb dX12_workRule_47 (by decide) ?_
      exact jireti (jr2 hf) E hM dX12_workRule_48
  · have hf := jt c31 hf
    refine lv_aload_n hx hb dX12_workRule_10 rfl (lv_at hl 0 rfl) ?_
    refine gt_129 E hM hq27 lk_6_43 dX12_workRule_11 ?_
    obtain ⟨r55, hr56, hf⟩ := jb hf
    rw [hr56]
    show W p l e _ s m args below meth c H locs 0 0 _ (F0 m _ ls (.ref (g.2.2 + r55) :: _))
    refine lv_iload_n hx hb dX12_workRule_14 rfl (lv_at hl 1 rfl) ?_
    obtain ⟨ha57, hf⟩ := jif hf
    refine jiald E hM ha57 dX12_workRule_15 ?_
    exact jireti (jr2 hf) E hM dX12_workRule_16
set_option maxRecDepth 100000 in
theorem D_X12_workRule {l : Launch} {g : jG} {rc : Nat → Nat → Int32 → Int32 → jM → Option (Int32 × jM)} {kk : Nat} (hkk : 16 ≤ kk) (hrc : jrc_V l g kk rc) {a0 : Nat} {a1 : Int32} {S : jM} {rr : Int32} {SS : jM} (hf : f_X12_workRule rc a0 a1 S = some (rr, SS)) : jMet l g yX12_workRule cX12_workRule 4 (some .int) (kk + 1) 0 0 [.ref (g.2.2 + a0), .int a1] S (jQi g rr SS) := by
  refine jof (by decide +kernel) (Nat.le_of_ble_eq_true rfl) ?_
  intro p e s m below meth c E hM ls hl
  have hl : lv_has ls 4 [(0, .ref (g.2.2 + a0)),(1, .int a1)] := hl
  exact B_X12_workRule_0 hkk hrc E hf hM hl
-- PensionHouseModel.workNode
noncomputable def f_X12_workNode_49 (rc : Nat → Nat → Int32 → Int32 → jM → Option (Int32 × jM)) (v0 : Nat) (v1 : Int32) (v2 : Int32) (t0 : Int32) (S : jM) : Option (Int32 × jM) := if jK v0 = 10 then jbd (f_X12_counted v0 t0 S) (fun x1 S2 => if x1 = 0 then some ((-1 : Int32), S2) else if v2 = (4 : Int32) then jbd (f_X12_ofWhole v0 ((jI S2 120 v0).toInt64) S2) (fun x6 S7 => some (x6, S7)) else if v2 = (8 : Int32) then jbd (rc 2 v0 v1 0 S2) (fun x10 S11 => some (x10, S11)) else if v2 = (19 : Int32) then jbd (rc 4 v0 v1 0 S2) (fun x14 S15 => some (x14, S15)) else if v2 = (22 : Int32) then jbd (rc 3 v0 v1 0 S2) (fun x18 S19 => some (x18, S19)) else if v2 = (41 : Int32) then (jR S2 107 v0).bind (fun r22 => if jA r22 14 v1 = true then jbd (f_X12_ofWhole v0 (jAL S2 r22 (v1).toNatClampNeg) S2) (fun x25 S26 => some (x25, S26)) else none) else if v2 = (42 : Int32) then (jR S2 107 v0).bind (fun r29 => if jA r29 14 v1 = true then (jR S2 108 v0).bind (fun r32 => if jA r32 13 v1 = true then (f_X12_decimal (jAL S2 r29 (v1).toNatClampNeg) (jAI S2 r32 (v1).toNatClampNeg)).bind (fun x35 => jbd (f_X12_ofReal v0 x35 S2) (fun x37 S38 => some (x37, S38))) else none) else none) else if v2 = (47 : Int32) then (jR S2 104 v0).bind (fun r41 => if jA r41 13 v1 = true then jbd (rc 1 v0 (jAI S2 r41 (v1).toNatClampNeg) 0 S2) (fun x44 S45 => jbd (f_X12_negative v0 x44 S45) (fun x47 S48 => some (x47, S48))) else none) else if v2 = (48 : Int32) then (jR S2 134 v0).bind (fun r51 => (jR S2 104 v0).bind (fun r53 => if jA r53 13 v1 = true then if jA r51 14 (jAI S2 r53 (v1).toNatClampNeg) = true then jbd (f_X12_ofWhole v0 (jAL S2 r51 (jAI S2 r53 (v1).toNatClampNeg).toNatClampNeg) S2) (fun x57 S58 => some (x57, S58)) else none else none)) else if v2 = (49 : Int32) then (jR S2 104 v0).bind (fun r61 => if jA r61 13 v1 = true then jbd (rc 0 v0 (jAI S2 r61 (v1).toNatClampNeg) 0 S2) (fun x64 S65 => some (x64, S65)) else none) else if v2 = (50 : Int32) then (jR S2 107 v0).bind (fun r68 => if jA r68 14 v1 = true then jbd (f_X12_workFact v0 (jAL S2 r68 (v1).toNatClampNeg) S2) (fun x71 S72 => some (x71, S72)) else none) else jbd (rc 5 v0 v1 v2 S2) (fun x75 S76 => some (x75, S76))) else none
noncomputable def f_X12_workNode_43 (rc : Nat → Nat → Int32 → Int32 → jM → Option (Int32 × jM)) (v0 : Nat) (v1 : Int32) (v2 : Int32) (S : jM) : Option (Int32 × jM) := f_X12_workNode_49 rc v0 v1 v2 (25 : Int32) S
noncomputable def f_X12_workNode (rc : Nat → Nat → Int32 → Int32 → jM → Option (Int32 × jM)) (v0 : Nat) (v1 : Int32) (S : jM) : Option (Int32 × jM) := if jK v0 = 10 then (jR S 103 v0).bind (fun r79 => if jA r79 13 v1 = true then jlet (jAI S r79 (v1).toNatClampNeg) (fun x82 => if x82 = (22 : Int32) then f_X12_workNode_49 rc v0 v1 x82 (150 : Int32) S else if x82 = (25 : Int32) then f_X12_workNode_43 rc v0 v1 x82 S else if x82 = (10 : Int32) then f_X12_workNode_43 rc v0 v1 x82 S else if x82 = (9 : Int32) then f_X12_workNode_43 rc v0 v1 x82 S else if x82 = (24 : Int32) then f_X12_workNode_43 rc v0 v1 x82 S else f_X12_workNode_49 rc v0 v1 x82 (1 : Int32) S) else none) else none
set_option maxRecDepth 100000 in
set_option maxHeartbeats 4000000 in
theorem B_X12_workNode_49 {p : Program} {l : Launch} {e : Env} {s : State} {m : MethodId} {args : Array Value} {below : List Frame} {meth : Method} {c : Code} {g : jG} {rc : Nat → Nat → Int32 → Int32 → jM → Option (Int32 × jM)} {kk : Nat} (hkk : 16 ≤ kk) (hrc : jrc_V l g kk rc) {rr : Int32} {SS : jM} {v0 : Nat} {v1 : Int32} {v2 : Int32} {t0 : Int32} {S : jM} (E : jEnv p s m args meth c cX12_workNode "PensionHouseModel" (some .int) 4 g)  {H : Heap} {locs : List Loc} {ls : Array Slot} (hf : f_X12_workNode_49 rc v0 v1 v2 t0 S = some (rr, SS)) (hM : jAt g S s H locs) (hl : lv_has ls 4 [(0, .ref (g.2.2 + v0)), (1, .int v1), (2, .int v2)]) : W p l e (jRm (kk + 1) 0 0) s m args below meth c H locs 0 0 (MQ below (jQi g rr SS) args s 0 0 (jA0 g)) (F0 m 49 ls [.int t0]) := by
  obtain ⟨hx, hb, hml, -, hts, hown, hK, -, hstr⟩ := id E
  unfold f_X12_workNode_49 at hf
  refine lv_istore_n (lv' := [(3, .int t0), (0, .ref (g.2.2 + v0)), (1, .int v1), (2, .int v2)]) hx hb dX12_workNode_49 rfl hl (by decide) rfl (fun ls hl => ?_)
  refine lv_aload_n hx hb dX12_workNode_50 rfl (lv_at hl 1 rfl) ?_
  refine lv_iload_n hx hb dX12_workNode_51 rfl (lv_at hl 0 rfl) ?_
  obtain ⟨hq4, hf⟩ := jif hf
  obtain ⟨x1, S2, hc3, hf⟩ := jbd_e hf
  refine jbackI hM (jrunV E hM ci_X12_counted (C_X12_counted hc3) lk_8_83 hq4 (by decide) rfl hl.1 rfl rfl (Nat.le_of_ble_eq_true rfl) ⟨by show 2 + 1 ≤ kk + 1; omega, by show 49 * (2 + 1) ≤ 49 * (kk + 1); omega⟩ ⟨Nat.le_refl _, Nat.le_refl _⟩ dX12_workNode_52) (fun H locs hM => ?_)
  refine lv_if_ne (tgt := 60) hx hb dX12_workNode_55 (by decide) (fun c5 => ?_) (fun c5 => ?_)
  · have hf := jf c5 hf
    refine lv_iload_n hx hb dX12_workNode_60 rfl (lv_at hl 3 rfl) ?_
    by_cases c9 : v2 = (4 : Int32)
    · have hf := jt c9 hf
      refine lv_lookup (off := 122) (tgt := 183) hx hb dX12_workNode_61 (by decide) (by rw [c9]; rfl) (by decide) ?_
      refine lv_aload_n hx hb dX12_workNode_183 rfl (lv_at hl 1 rfl) ?_
      refine lv_aload_n hx hb dX12_workNode_184 rfl (lv_at hl 1 rfl) ?_
      refine gt_120 E hM hq4 lk_6_34 dX12_workNode_185 ?_
      refine lv_i2l hx hb dX12_workNode_188 rfl ?_
      obtain ⟨x6, S7, hc8, hf⟩ := jbd_e hf
      refine jbackI hM (jrunV E hM ci_X12_ofWhole (C_X12_ofWhole hc8) lk_8_91 hq4 (by decide) rfl hl.1 rfl rfl (Nat.le_of_ble_eq_true rfl) ⟨by show 4 + 1 ≤ kk + 1; omega, by show 49 * (4 + 1) ≤ 49 * (kk + 1); omega⟩ ⟨Nat.le_refl _, Nat.le_refl _⟩ dX12_workNode_189) (fun H locs hM => ?_)
      exact jireti (jr2 hf) E hM dX12_workNode_192
    have hf := jf c9 hf
    by_cases c13 : v2 = (8 : Int32)
    · have hf := jt c13 hf
      refine lv_lookup (off := 185) (tgt := 246) hx hb dX12_workNode_61 (by decide) (by rw [c13]; rfl) (by decide) ?_
      refine lv_aload_n hx hb dX12_workNode_246 rfl (lv_at hl 1 rfl) ?_
      refine lv_iload_n hx hb dX12_workNode_247 rfl (lv_at hl 2 rfl) ?_
      obtain ⟨x10, S11, hc12, hf⟩ := jbd_e hf
      refine jbackI hM (jrunV E hM ci_X12_workIf (hrc.2.2.1 hc12) lk_8_118 hq4 (by decide) rfl hl.1 rfl rfl (Nat.le_of_ble_eq_true rfl) ⟨Nat.le_refl _, Nat.le_refl _⟩ ⟨Nat.le_refl _, Nat.le_refl _⟩ dX12_workNode_248) (fun H locs hM => ?_)
      exact jireti (jr2 hf) E hM dX12_workNode_251
    have hf := jf c13 hf
    by_cases c17 : v2 = (19 : Int32)
    · have hf := jt c17 hf
      refine lv_lookup (off := 197) (tgt := 258) hx hb dX12_workNode_61 (by decide) (by rw [c17]; rfl) (by decide) ?_
      refine lv_aload_n hx hb dX12_workNode_258 rfl (lv_at hl 1 rfl) ?_
      refine lv_iload_n hx hb dX12_workNode_259 rfl (lv_at hl 2 rfl) ?_
      obtain ⟨x14, S15, hc16, hf⟩ := jbd_e hf
      refine jbackI hM (jrunV E hM ci_X12_workSum (hrc.2.2.2.2.1 hc16) lk_8_126 hq4 (by decide) rfl hl.1 rfl rfl (Nat.le_of_ble_eq_true rfl) ⟨Nat.le_refl _, Nat.le_refl _⟩ ⟨Nat.le_refl _, Nat.le_refl _⟩ dX12_workNode_260) (fun H locs hM => ?_)
      exact jireti (jr2 hf) E hM dX12_workNode_263
    have hf := jf c17 hf
    by_cases c21 : v2 = (22 : Int32)
    · have hf := jt c21 hf
      refine lv_lookup (off := 191) (tgt := 252) hx hb dX12_workNode_61 (by decide) (by rw [c21]; rfl) (by decide) ?_
      refine lv_aload_n hx hb dX12_workNode_252 rfl (lv_at hl 1 rfl) ?_
      refine lv_iload_n hx hb dX12_workNode_253 rfl (lv_at hl 2 rfl) ?_
      obtain ⟨x18, S19, hc20, hf⟩ := jbd_e hf
      refine jbackI hM (jrunV E hM ci_X12_workTry (hrc.2.2.2.1 hc20) lk_8_122 hq4 (by decide) rfl hl.1 rfl rfl (Nat.le_of_ble_eq_true rfl) ⟨Nat.le_refl _, Nat.le_refl _⟩ ⟨Nat.le_refl _, Nat.le_refl _⟩ dX12_workNode_254) (fun H locs hM => ?_)
      exact jireti (jr2 hf) E hM dX12_workNode_257
    have hf := jf c21 hf
    by_cases c28 : v2 = (41 : Int32)
    · have hf := jt c28 hf
      refine lv_lookup (off := 91) (tgt := 152) hx hb dX12_workNode_61 (by decide) (by rw [c28]; rfl) (by decide) ?_
      refine lv_aload_n hx hb dX12_workNode_152 rfl (lv_at hl 1 rfl) ?_
      refine lv_aload_n hx hb dX12_workNode_153 rfl (lv_at hl 1 rfl) ?_
      refine gt_107 E hM hq4 lk_6_21 dX12_workNode_154 ?_
      obtain ⟨r22, hr23, hf⟩ := jb hf
      rw [hr23]
      show W p l e _ s m args below meth c H locs 0 0 _ (F0 m _ ls (.ref (g.2.2 + r22) :: _))
      refine lv_iload_n hx hb dX12_workNode_157 rfl (lv_at hl 2 rfl) ?_
      obtain ⟨ha24, hf⟩ := jif hf
      refine jlald E hM ha24 dX12_workNode_158 ?_
      obtain ⟨x25, S26, hc27, hf⟩ := jbd_e hf
      refine jbackI hM (jrunV E hM ci_X12_ofWhole (C_X12_ofWhole hc27) lk_8_91 hq4 (by decide) rfl hl.1 rfl rfl (Nat.le_of_ble_eq_true rfl) ⟨by show 4 + 1 ≤ kk + 1; omega, by show 49 * (4 + 1) ≤ 49 * (kk + 1); omega⟩ ⟨Nat.le_refl _, Nat.le_refl _⟩ dX12_workNode_159) (fun H locs hM => ?_)
      exact jireti (jr2 hf) E hM dX12_workNode_162
    have hf := jf c28 hf
    by_cases c40 : v2 = (42 : Int32)
    · have hf := jt c40 hf
      refine lv_lookup (off := 102) (tgt := 163) hx hb dX12_workNode_61 (by decide) (by rw [c40]; rfl) (by decide) ?_
      refine lv_aload_n hx hb dX12_workNode_163 rfl (lv_at hl 1 rfl) ?_
      refine lv_aload_n hx hb dX12_workNode_164 rfl (lv_at hl 1 rfl) ?_
      refine gt_107 E hM hq4 lk_6_21 dX12_workNode_165 ?_
      obtain ⟨r29, hr30, hf⟩ := jb hf
      rw [hr30]
      show W p l e _ s m args below meth c H locs 0 0 _ (F0 m _ ls (.ref (g.2.2 + r29) :: _))
      refine lv_iload_n hx hb dX12_workNode_168 rfl (lv_at hl 2 rfl) ?_
      obtain ⟨ha31, hf⟩ := jif hf
      refine jlald E hM ha31 dX12_workNode_169 ?_
      refine lv_aload_n hx hb dX12_workNode_170 rfl (lv_at hl 1 rfl) ?_
      refine gt_108 E hM hq4 lk_6_22 dX12_workNode_171 ?_
      obtain ⟨r32, hr33, hf⟩ := jb hf
      rw [hr33]
      show W p l e _ s m args below meth c H locs 0 0 _ (F0 m _ ls (.ref (g.2.2 + r32) :: _))
      refine lv_iload_n hx hb dX12_workNode_174 rfl (lv_at hl 2 rfl) ?_
      obtain ⟨ha34, hf⟩ := jif hf
      refine jiald E hM ha34 dX12_workNode_175 ?_
      obtain ⟨x35, hc36, hf⟩ := jb hf
      refine jbackD hM (jrunS E hM ci_X12_decimal (C_X12_decimal hc36) lk_8_99 hl.1 rfl rfl (Nat.le_of_ble_eq_true rfl) ⟨by show 1 + 1 ≤ kk + 1; omega, by show 49 * (1 + 1) ≤ 49 * (kk + 1); omega⟩ ⟨Nat.le_refl _, Nat.le_refl _⟩ dX12_workNode_176) (fun H locs hM => ?_)
      obtain ⟨x37, S38, hc39, hf⟩ := jbd_e hf
      refine jbackI hM (jrunV E hM ci_X12_ofReal (C_X12_ofReal hc39) lk_8_103 hq4 (by decide) rfl hl.1 rfl rfl (Nat.le_of_ble_eq_true rfl) ⟨by show 4 + 1 ≤ kk + 1; omega, by show 49 * (4 + 1) ≤ 49 * (kk + 1); omega⟩ ⟨Nat.le_refl _, Nat.le_refl _⟩ dX12_workNode_179) (fun H locs hM => ?_)
      exact jireti (jr2 hf) E hM dX12_workNode_182
    have hf := jf c40 hf
    by_cases c50 : v2 = (47 : Int32)
    · have hf := jt c50 hf
      refine lv_lookup (off := 170) (tgt := 231) hx hb dX12_workNode_61 (by decide) (by rw [c50]; rfl) (by decide) ?_
      refine lv_aload_n hx hb dX12_workNode_231 rfl (lv_at hl 1 rfl) ?_
      refine lv_aload_n hx hb dX12_workNode_232 rfl (lv_at hl 1 rfl) ?_
      refine lv_aload_n hx hb dX12_workNode_233 rfl (lv_at hl 1 rfl) ?_
      refine gt_104 E hM hq4 lk_6_18 dX12_workNode_234 ?_
      obtain ⟨r41, hr42, hf⟩ := jb hf
      rw [hr42]
      show W p l e _ s m args below meth c H locs 0 0 _ (F0 m _ ls (.ref (g.2.2 + r41) :: _))
      refine lv_iload_n hx hb dX12_workNode_237 rfl (lv_at hl 2 rfl) ?_
      obtain ⟨ha43, hf⟩ := jif hf
      refine jiald E hM ha43 dX12_workNode_238 ?_
      obtain ⟨x44, S45, hc46, hf⟩ := jbd_e hf
      refine jbackI hM (jrunV E hM ci_X12_workNode (hrc.2.1 hc46) lk_8_79 hq4 (by decide) rfl hl.1 rfl rfl (Nat.le_of_ble_eq_true rfl) ⟨Nat.le_refl _, Nat.le_refl _⟩ ⟨Nat.le_refl _, Nat.le_refl _⟩ dX12_workNode_239) (fun H locs hM => ?_)
      obtain ⟨x47, S48, hc49, hf⟩ := jbd_e hf
      refine jbackI hM (jrunV E hM ci_X12_negative (C_X12_negative hc49) lk_8_111 hq4 (by decide) rfl hl.1 rfl rfl (Nat.le_of_ble_eq_true rfl) ⟨by show 5 + 1 ≤ kk + 1; omega, by show 49 * (5 + 1) ≤ 49 * (kk + 1); omega⟩ ⟨Nat.le_refl _, Nat.le_refl _⟩ dX12_workNode_242) (fun H locs hM => ?_)
      exact jireti (jr2 hf) E hM dX12_workNode_245
    have hf := jf c50 hf
    by_cases c60 : v2 = (48 : Int32)
    · have hf := jt c60 hf
      refine lv_lookup (off := 132) (tgt := 193) hx hb dX12_workNode_61 (by decide) (by rw [c60]; rfl) (by decide) ?_
      refine lv_aload_n hx hb dX12_workNode_193 rfl (lv_at hl 1 rfl) ?_
      refine lv_aload_n hx hb dX12_workNode_194 rfl (lv_at hl 1 rfl) ?_
      refine gt_134 E hM hq4 lk_6_48 dX12_workNode_195 ?_
      obtain ⟨r51, hr52, hf⟩ := jb hf
      rw [hr52]
      show W p l e _ s m args below meth c H locs 0 0 _ (F0 m _ ls (.ref (g.2.2 + r51) :: _))
      refine lv_aload_n hx hb dX12_workNode_198 rfl (lv_at hl 1 rfl) ?_
      refine gt_104 E hM hq4 lk_6_18 dX12_workNode_199 ?_
      obtain ⟨r53, hr54, hf⟩ := jb hf
      rw [hr54]
      show W p l e _ s m args below meth c H locs 0 0 _ (F0 m _ ls (.ref (g.2.2 + r53) :: _))
      refine lv_iload_n hx hb dX12_workNode_202 rfl (lv_at hl 2 rfl) ?_
      obtain ⟨ha55, hf⟩ := jif hf
      refine jiald E hM ha55 dX12_workNode_203 ?_
      obtain ⟨ha56, hf⟩ := jif hf
      refine jlald E hM ha56 dX12_workNode_204 ?_
      obtain ⟨x57, S58, hc59, hf⟩ := jbd_e hf
      refine jbackI hM (jrunV E hM ci_X12_ofWhole (C_X12_ofWhole hc59) lk_8_91 hq4 (by decide) rfl hl.1 rfl rfl (Nat.le_of_ble_eq_true rfl) ⟨by show 4 + 1 ≤ kk + 1; omega, by show 49 * (4 + 1) ≤ 49 * (kk + 1); omega⟩ ⟨Nat.le_refl _, Nat.le_refl _⟩ dX12_workNode_205) (fun H locs hM => ?_)
      exact jireti (jr2 hf) E hM dX12_workNode_208
    have hf := jf c60 hf
    by_cases c67 : v2 = (49 : Int32)
    · have hf := jt c67 hf
      refine lv_lookup (off := 148) (tgt := 209) hx hb dX12_workNode_61 (by decide) (by rw [c67]; rfl) (by decide) ?_
      refine lv_aload_n hx hb dX12_workNode_209 rfl (lv_at hl 1 rfl) ?_
      refine lv_aload_n hx hb dX12_workNode_210 rfl (lv_at hl 1 rfl) ?_
      refine gt_104 E hM hq4 lk_6_18 dX12_workNode_211 ?_
      obtain ⟨r61, hr62, hf⟩ := jb hf
      rw [hr62]
      show W p l e _ s m args below meth c H locs 0 0 _ (F0 m _ ls (.ref (g.2.2 + r61) :: _))
      refine lv_iload_n hx hb dX12_workNode_214 rfl (lv_at hl 2 rfl) ?_
      obtain ⟨ha63, hf⟩ := jif hf
      refine jiald E hM ha63 dX12_workNode_215 ?_
      obtain ⟨x64, S65, hc66, hf⟩ := jbd_e hf
      refine jbackI hM (jrunV E hM ci_X12_workRule (hrc.1 hc66) lk_8_75 hq4 (by decide) rfl hl.1 rfl rfl (Nat.le_of_ble_eq_true rfl) ⟨Nat.le_refl _, Nat.le_refl _⟩ ⟨Nat.le_refl _, Nat.le_refl _⟩ dX12_workNode_216) (fun H locs hM => ?_)
      exact jireti (jr2 hf) E hM dX12_workNode_219
    have hf := jf c67 hf
    by_cases c74 : v2 = (50 : Int32)
    · have hf := jt c74 hf
      refine lv_lookup (off := 159) (tgt := 220) hx hb dX12_workNode_61 (by decide) (by rw [c74]; rfl) (by decide) ?_
      refine lv_aload_n hx hb dX12_workNode_220 rfl (lv_at hl 1 rfl) ?_
      refine lv_aload_n hx hb dX12_workNode_221 rfl (lv_at hl 1 rfl) ?_
      refine gt_107 E hM hq4 lk_6_21 dX12_workNode_222 ?_
      obtain ⟨r68, hr69, hf⟩ := jb hf
      rw [hr69]
      show W p l e _ s m args below meth c H locs 0 0 _ (F0 m _ ls (.ref (g.2.2 + r68) :: _))
      refine lv_iload_n hx hb dX12_workNode_225 rfl (lv_at hl 2 rfl) ?_
      obtain ⟨ha70, hf⟩ := jif hf
      refine jlald E hM ha70 dX12_workNode_226 ?_
      obtain ⟨x71, S72, hc73, hf⟩ := jbd_e hf
      refine jbackI hM (jrunV E hM ci_X12_workFact (C_X12_workFact hc73) lk_8_107 hq4 (by decide) rfl hl.1 rfl rfl (Nat.le_of_ble_eq_true rfl) ⟨by show 3 + 1 ≤ kk + 1; omega, by show 49 * (3 + 1) ≤ 49 * (kk + 1); omega⟩ ⟨Nat.le_refl _, Nat.le_refl _⟩ dX12_workNode_227) (fun H locs hM => ?_)
      exact jireti (jr2 hf) E hM dX12_workNode_230
    have hf := jf c74 hf
    refine jlookD (tgt := 264) hx hb dX12_workNode_61 (by decide) (by decide) (List.forall_mem_cons.mpr ⟨jne (k := 4) c9 rfl, List.forall_mem_cons.mpr ⟨jne (k := 8) c13 rfl, List.forall_mem_cons.mpr ⟨jne (k := 19) c17 rfl, List.forall_mem_cons.mpr ⟨jne (k := 22) c21 rfl, List.forall_mem_cons.mpr ⟨jne (k := 41) c28 rfl, List.forall_mem_cons.mpr ⟨jne (k := 42) c40 rfl, List.forall_mem_cons.mpr ⟨jne (k := 47) c50 rfl, List.forall_mem_cons.mpr ⟨jne (k := 48) c60 rfl, List.forall_mem_cons.mpr ⟨jne (k := 49) c67 rfl, List.forall_mem_cons.mpr ⟨jne (k := 50) c74 rfl, fun _ h => absurd h List.not_mem_nil⟩⟩⟩⟩⟩⟩⟩⟩⟩⟩) ?_
    refine lv_aload_n hx hb dX12_workNode_264 rfl (lv_at hl 1 rfl) ?_
    refine lv_iload_n hx hb dX12_workNode_265 rfl (lv_at hl 2 rfl) ?_
    refine lv_iload_n hx hb dX12_workNode_266 rfl (lv_at hl 3 rfl) ?_
    obtain ⟨x75, S76, hc77, hf⟩ := jbd_e hf
    refine jbackI hM (jrunV E hM ci_X12_workMore (hrc.2.2.2.2.2 hc77) lk_8_160 hq4 (by decide) rfl hl.1 rfl rfl (Nat.le_of_ble_eq_true rfl) ⟨Nat.le_refl _, Nat.le_refl _⟩ ⟨Nat.le_refl _, Nat.le_refl _⟩ dX12_workNode_267) (fun H locs hM => ?_)
    exact jireti (jr2 hf) E hM dX12_workNode_270
  · have hf := jt c5 hf
    refine lv_iconst (v := (-1 : Int32)) hx hb dX12_workNode_58 (by decide) ?_
    exact jireti (jr2 hf) E hM dX12_workNode_59
set_option maxRecDepth 100000 in
set_option maxHeartbeats 4000000 in
theorem B_X12_workNode_43 {p : Program} {l : Launch} {e : Env} {s : State} {m : MethodId} {args : Array Value} {below : List Frame} {meth : Method} {c : Code} {g : jG} {rc : Nat → Nat → Int32 → Int32 → jM → Option (Int32 × jM)} {kk : Nat} (hkk : 16 ≤ kk) (hrc : jrc_V l g kk rc) {rr : Int32} {SS : jM} {v0 : Nat} {v1 : Int32} {v2 : Int32} {S : jM} (E : jEnv p s m args meth c cX12_workNode "PensionHouseModel" (some .int) 4 g)  {H : Heap} {locs : List Loc} {ls : Array Slot} (hf : f_X12_workNode_43 rc v0 v1 v2 S = some (rr, SS)) (hM : jAt g S s H locs) (hl : lv_has ls 4 [(0, .ref (g.2.2 + v0)), (1, .int v1), (2, .int v2)]) : W p l e (jRm (kk + 1) 0 0) s m args below meth c H locs 0 0 (MQ below (jQi g rr SS) args s 0 0 (jA0 g)) (F0 m 43 ls []) := by
  obtain ⟨hx, hb, hml, -, hts, hown, hK, -, hstr⟩ := id E
  unfold f_X12_workNode_43 at hf
  refine lv_bipush (v := (25 : Int32)) hx hb dX12_workNode_43 (by decide) ?_
  refine lv_goto (tgt := 49) hx hb dX12_workNode_45 (by decide) ?_
  exact B_X12_workNode_49 hkk hrc E  hf hM (lv_sub hl [0, 1, 2] rfl)
set_option maxRecDepth 100000 in
set_option maxHeartbeats 4000000 in
theorem B_X12_workNode_0 {p : Program} {l : Launch} {e : Env} {s : State} {m : MethodId} {args : Array Value} {below : List Frame} {meth : Method} {c : Code} {g : jG} {rc : Nat → Nat → Int32 → Int32 → jM → Option (Int32 × jM)} {kk : Nat} (hkk : 16 ≤ kk) (hrc : jrc_V l g kk rc) {rr : Int32} {SS : jM} {v0 : Nat} {v1 : Int32} {S : jM} (E : jEnv p s m args meth c cX12_workNode "PensionHouseModel" (some .int) 4 g)  {H : Heap} {locs : List Loc} {ls : Array Slot} (hf : f_X12_workNode rc v0 v1 S = some (rr, SS)) (hM : jAt g S s H locs) (hl : lv_has ls 4 [(0, .ref (g.2.2 + v0)), (1, .int v1)]) : W p l e (jRm (kk + 1) 0 0) s m args below meth c H locs 0 0 (MQ below (jQi g rr SS) args s 0 0 (jA0 g)) (F0 m 0 ls []) := by
  obtain ⟨hx, hb, hml, -, hts, hown, hK, -, hstr⟩ := id E
  unfold f_X12_workNode at hf
  refine lv_aload_n hx hb dX12_workNode_0 rfl (lv_at hl 0 rfl) ?_
  obtain ⟨hq78, hf⟩ := jif hf
  refine gt_103 E hM hq78 lk_6_17 dX12_workNode_1 ?_
  obtain ⟨r79, hr80, hf⟩ := jb hf
  rw [hr80]
  show W p l e _ s m args below meth c H locs 0 0 _ (F0 m _ ls (.ref (g.2.2 + r79) :: _))
  refine lv_iload_n hx hb dX12_workNode_4 rfl (lv_at hl 1 rfl) ?_
  obtain ⟨ha81, hf⟩ := jif hf
  refine jiald E hM ha81 dX12_workNode_5 ?_
  refine lv_topi (fun x82 ex82 => ?_)
  have hf := jlet_y ex82 hf
  refine lv_istore_n (lv' := [(2, .int x82), (0, .ref (g.2.2 + v0)), (1, .int v1)]) hx hb dX12_workNode_6 rfl hl (by decide) rfl (fun ls hl => ?_)
  refine lv_iload_n hx hb dX12_workNode_7 rfl (lv_at hl 0 rfl) ?_
  refine lv_bipush (v := (22 : Int32)) hx hb dX12_workNode_8 (by decide) ?_
  refine lv_icmp_ne (tgt := 19) hx hb dX12_workNode_10 (by decide) (fun c83 => ?_) (fun c83 => ?_)
  · have hf := jf c83 hf
    refine lv_iload_n hx hb dX12_workNode_19 rfl (lv_at hl 0 rfl) ?_
    refine lv_bipush (v := (25 : Int32)) hx hb dX12_workNode_20 (by decide) ?_
    refine lv_icmp_eq (tgt := 43) hx hb dX12_workNode_22 (by decide) (fun c84 => ?_) (fun c84 => ?_)
    · have hf := jt c84 hf
      exact B_X12_workNode_43 hkk hrc E  hf hM (lv_sub hl [1, 2, 0] rfl)
    · have hf := jf c84 hf
      refine lv_iload_n hx hb dX12_workNode_25 rfl (lv_at hl 0 rfl) ?_
      refine lv_bipush (v := (10 : Int32)) hx hb dX12_workNode_26 (by decide) ?_
      refine lv_icmp_eq (tgt := 43) hx hb dX12_workNode_28 (by decide) (fun c85 => ?_) (fun c85 => ?_)
      · have hf := jt c85 hf
        exact B_X12_workNode_43 hkk hrc E  hf hM (lv_sub hl [1, 2, 0] rfl)
      · have hf := jf c85 hf
        refine lv_iload_n hx hb dX12_workNode_31 rfl (lv_at hl 0 rfl) ?_
        refine lv_bipush (v := (9 : Int32)) hx hb dX12_workNode_32 (by decide) ?_
        refine lv_icmp_eq (tgt := 43) hx hb dX12_workNode_34 (by decide) (fun c86 => ?_) (fun c86 => ?_)
        · have hf := jt c86 hf
          exact B_X12_workNode_43 hkk hrc E  hf hM (lv_sub hl [1, 2, 0] rfl)
        · have hf := jf c86 hf
          refine lv_iload_n hx hb dX12_workNode_37 rfl (lv_at hl 0 rfl) ?_
          refine lv_bipush (v := (24 : Int32)) hx hb dX12_workNode_38 (by decide) ?_
          refine lv_icmp_ne (tgt := 48) hx hb dX12_workNode_40 (by decide) (fun c87 => ?_) (fun c87 => ?_)
          · have hf := jf c87 hf
            refine lv_iconst (v := (1 : Int32)) hx hb dX12_workNode_48 (by decide) ?_
            exact B_X12_workNode_49 hkk hrc E  hf hM (lv_sub hl [1, 2, 0] rfl)
          · have hf := jt c87 hf
            exact B_X12_workNode_43 hkk hrc E  hf hM (lv_sub hl [1, 2, 0] rfl)
  · have hf := jt c83 hf
    refine lv_sipush (v := (150 : Int32)) hx hb dX12_workNode_13 (by decide) ?_
    refine lv_goto (tgt := 49) hx hb dX12_workNode_16 (by decide) ?_
    exact B_X12_workNode_49 hkk hrc E  hf hM (lv_sub hl [1, 2, 0] rfl)
set_option maxRecDepth 100000 in
theorem D_X12_workNode {l : Launch} {g : jG} {rc : Nat → Nat → Int32 → Int32 → jM → Option (Int32 × jM)} {kk : Nat} (hkk : 16 ≤ kk) (hrc : jrc_V l g kk rc) {a0 : Nat} {a1 : Int32} {S : jM} {rr : Int32} {SS : jM} (hf : f_X12_workNode rc a0 a1 S = some (rr, SS)) : jMet l g yX12_workNode cX12_workNode 4 (some .int) (kk + 1) 0 0 [.ref (g.2.2 + a0), .int a1] S (jQi g rr SS) := by
  refine jof (by decide +kernel) (Nat.le_of_ble_eq_true rfl) ?_
  intro p e s m below meth c E hM ls hl
  have hl : lv_has ls 4 [(0, .ref (g.2.2 + a0)),(1, .int a1)] := hl
  exact B_X12_workNode_0 hkk hrc E hf hM hl
-- PensionHouseModel.workIf
noncomputable def f_X12_workIf_62 (rc : Nat → Nat → Int32 → Int32 → jM → Option (Int32 × jM)) (t0 : Nat) (t1 : Int32) (S : jM) : Option (Int32 × jM) := if jK t0 = 10 then jbd (rc 1 t0 t1 0 S) (fun x1 S2 => some (x1, S2)) else none
noncomputable def f_X12_workIf (rc : Nat → Nat → Int32 → Int32 → jM → Option (Int32 × jM)) (v0 : Nat) (v1 : Int32) (S : jM) : Option (Int32 × jM) := if jK v0 = 10 then (jR S 104 v0).bind (fun r6 => if jA r6 13 v1 = true then jbd (rc 1 v0 (jAI S r6 (v1).toNatClampNeg) 0 S) (fun x9 S10 => if 0 ≤ x9 then (jR S10 88 v0).bind (fun r13 => if jA r13 13 x9 = true then if (jAI S10 r13 (x9).toNatClampNeg) = 0 then (jR S10 90 v0).bind (fun r17 => if jA r17 14 ((12 : Int32) * x9) = true then if (jAL S10 r17 ((12 : Int32) * x9).toNatClampNeg) = (0 : Int64) then (jR S10 106 v0).bind (fun r21 => if jA r21 13 v1 = true then f_X12_workIf_62 rc v0 (jAI S10 r21 (v1).toNatClampNeg) S10 else none) else (jR S10 105 v0).bind (fun r24 => if jA r24 13 v1 = true then f_X12_workIf_62 rc v0 (jAI S10 r24 (v1).toNatClampNeg) S10 else none) else none) else jbd (f_X12_failing v0 (2 : Int32) S10) (fun x27 S28 => some (x27, S28)) else none) else some (x9, S10)) else none) else none
set_option maxRecDepth 100000 in
set_option maxHeartbeats 4000000 in
theorem B_X12_workIf_62 {p : Program} {l : Launch} {e : Env} {s : State} {m : MethodId} {args : Array Value} {below : List Frame} {meth : Method} {c : Code} {g : jG} {rc : Nat → Nat → Int32 → Int32 → jM → Option (Int32 × jM)} {kk : Nat} (hkk : 16 ≤ kk) (hrc : jrc_V l g kk rc) {rr : Int32} {SS : jM} {t0 : Nat} {t1 : Int32} {S : jM} (E : jEnv p s m args meth c cX12_workIf "PensionHouseModel" (some .int) 3 g)  {H : Heap} {locs : List Loc} {ls : Array Slot} (hf : f_X12_workIf_62 rc t0 t1 S = some (rr, SS)) (hM : jAt g S s H locs) (hl : lv_has ls 3 []) : W p l e (jRm (kk + 1) 0 0) s m args below meth c H locs 0 0 (MQ below (jQi g rr SS) args s 0 0 (jA0 g)) (F0 m 62 ls [.int t1, .ref (g.2.2 + t0)]) := by
  obtain ⟨hx, hb, hml, -, hts, hown, hK, -, hstr⟩ := id E
  unfold f_X12_workIf_62 at hf
  obtain ⟨hq4, hf⟩ := jif hf
  obtain ⟨x1, S2, hc3, hf⟩ := jbd_e hf
  refine jbackI hM (jrunV E hM ci_X12_workNode (hrc.2.1 hc3) lk_8_79 hq4 (by decide) rfl hl.1 rfl rfl (Nat.le_of_ble_eq_true rfl) ⟨Nat.le_refl _, Nat.le_refl _⟩ ⟨Nat.le_refl _, Nat.le_refl _⟩ dX12_workIf_62) (fun H locs hM => ?_)
  exact jireti (jr2 hf) E hM dX12_workIf_65
set_option maxRecDepth 100000 in
set_option maxHeartbeats 4000000 in
theorem B_X12_workIf_0 {p : Program} {l : Launch} {e : Env} {s : State} {m : MethodId} {args : Array Value} {below : List Frame} {meth : Method} {c : Code} {g : jG} {rc : Nat → Nat → Int32 → Int32 → jM → Option (Int32 × jM)} {kk : Nat} (hkk : 16 ≤ kk) (hrc : jrc_V l g kk rc) {rr : Int32} {SS : jM} {v0 : Nat} {v1 : Int32} {S : jM} (E : jEnv p s m args meth c cX12_workIf "PensionHouseModel" (some .int) 3 g)  {H : Heap} {locs : List Loc} {ls : Array Slot} (hf : f_X12_workIf rc v0 v1 S = some (rr, SS)) (hM : jAt g S s H locs) (hl : lv_has ls 3 [(0, .ref (g.2.2 + v0)), (1, .int v1)]) : W p l e (jRm (kk + 1) 0 0) s m args below meth c H locs 0 0 (MQ below (jQi g rr SS) args s 0 0 (jA0 g)) (F0 m 0 ls []) := by
  obtain ⟨hx, hb, hml, -, hts, hown, hK, -, hstr⟩ := id E
  unfold f_X12_workIf at hf
  refine lv_aload_n hx hb dX12_workIf_0 rfl (lv_at hl 0 rfl) ?_
  refine lv_aload_n hx hb dX12_workIf_1 rfl (lv_at hl 0 rfl) ?_
  obtain ⟨hq5, hf⟩ := jif hf
  refine gt_104 E hM hq5 lk_6_18 dX12_workIf_2 ?_
  obtain ⟨r6, hr7, hf⟩ := jb hf
  rw [hr7]
  show W p l e _ s m args below meth c H locs 0 0 _ (F0 m _ ls (.ref (g.2.2 + r6) :: _))
  refine lv_iload_n hx hb dX12_workIf_5 rfl (lv_at hl 1 rfl) ?_
  obtain ⟨ha8, hf⟩ := jif hf
  refine jiald E hM ha8 dX12_workIf_6 ?_
  obtain ⟨x9, S10, hc11, hf⟩ := jbd_e hf
  refine jbackI hM (jrunV E hM ci_X12_workNode (hrc.2.1 hc11) lk_8_79 hq5 (by decide) rfl hl.1 rfl rfl (Nat.le_of_ble_eq_true rfl) ⟨Nat.le_refl _, Nat.le_refl _⟩ ⟨Nat.le_refl _, Nat.le_refl _⟩ dX12_workIf_7) (fun H locs hM => ?_)
  refine lv_istore_n (lv' := [(2, .int x9), (0, .ref (g.2.2 + v0)), (1, .int v1)]) hx hb dX12_workIf_10 rfl hl (by decide) rfl (fun ls hl => ?_)
  refine lv_iload_n hx hb dX12_workIf_11 rfl (lv_at hl 0 rfl) ?_
  refine lv_if_ge (tgt := 17) hx hb dX12_workIf_12 (by decide) (fun c12 => ?_) (fun c12 => ?_)
  · have hf := jt c12 hf
    refine lv_aload_n hx hb dX12_workIf_17 rfl (lv_at hl 1 rfl) ?_
    refine gt_88 E hM hq5 lk_6_2 dX12_workIf_18 ?_
    obtain ⟨r13, hr14, hf⟩ := jb hf
    rw [hr14]
    show W p l e _ s m args below meth c H locs 0 0 _ (F0 m _ ls (.ref (g.2.2 + r13) :: _))
    refine lv_iload_n hx hb dX12_workIf_21 rfl (lv_at hl 0 rfl) ?_
    obtain ⟨ha15, hf⟩ := jif hf
    refine jiald E hM ha15 dX12_workIf_22 ?_
    refine lv_if_eq (tgt := 32) hx hb dX12_workIf_23 (by decide) (fun c16 => ?_) (fun c16 => ?_)
    · have hf := jt c16 hf
      refine lv_aload_n hx hb dX12_workIf_32 rfl (lv_at hl 1 rfl) ?_
      refine lv_aload_n hx hb dX12_workIf_33 rfl (lv_at hl 1 rfl) ?_
      refine gt_90 E hM hq5 lk_6_4 dX12_workIf_34 ?_
      obtain ⟨r17, hr18, hf⟩ := jb hf
      rw [hr18]
      show W p l e _ s m args below meth c H locs 0 0 _ (F0 m _ ls (.ref (g.2.2 + r17) :: _))
      refine lv_bipush (v := (12 : Int32)) hx hb dX12_workIf_37 (by decide) ?_
      refine lv_iload_n hx hb dX12_workIf_39 rfl (lv_at hl 0 rfl) ?_
      refine lv_imul hx hb dX12_workIf_40 ?_
      obtain ⟨ha19, hf⟩ := jif hf
      refine jlald E hM ha19 dX12_workIf_41 ?_
      refine lv_lconst (v := (0 : Int64)) hx hb dX12_workIf_42 (by decide) ?_
      refine jl_eq (tgt := 56) hx hb dX12_workIf_43 dX12_workIf_44 (by decide) (fun c20 => ?_) (fun c20 => ?_)
      · have hf := jt c20 hf
        refine lv_aload_n hx hb dX12_workIf_56 rfl (lv_at hl 1 rfl) ?_
        refine gt_106 E hM hq5 lk_6_20 dX12_workIf_57 ?_
        obtain ⟨r21, hr22, hf⟩ := jb hf
        rw [hr22]
        show W p l e _ s m args below meth c H locs 0 0 _ (F0 m _ ls (.ref (g.2.2 + r21) :: _))
        refine lv_iload_n hx hb dX12_workIf_60 rfl (lv_at hl 2 rfl) ?_
        obtain ⟨ha23, hf⟩ := jif hf
        refine jiald E hM ha23 dX12_workIf_61 ?_
        exact B_X12_workIf_62 hkk hrc E  hf hM (lv_sub hl [] rfl)
      · have hf := jf c20 hf
        refine lv_aload_n hx hb dX12_workIf_47 rfl (lv_at hl 1 rfl) ?_
        refine gt_105 E hM hq5 lk_6_19 dX12_workIf_48 ?_
        obtain ⟨r24, hr25, hf⟩ := jb hf
        rw [hr25]
        show W p l e _ s m args below meth c H locs 0 0 _ (F0 m _ ls (.ref (g.2.2 + r24) :: _))
        refine lv_iload_n hx hb dX12_workIf_51 rfl (lv_at hl 2 rfl) ?_
        obtain ⟨ha26, hf⟩ := jif hf
        refine jiald E hM ha26 dX12_workIf_52 ?_
        refine lv_goto (tgt := 62) hx hb dX12_workIf_53 (by decide) ?_
        exact B_X12_workIf_62 hkk hrc E  hf hM (lv_sub hl [] rfl)
    · have hf := jf c16 hf
      refine lv_aload_n hx hb dX12_workIf_26 rfl (lv_at hl 1 rfl) ?_
      refine lv_iconst (v := (2 : Int32)) hx hb dX12_workIf_27 (by decide) ?_
      obtain ⟨x27, S28, hc29, hf⟩ := jbd_e hf
      refine jbackI hM (jrunV E hM ci_X12_failing (C_X12_failing hc29) lk_8_87 hq5 (by decide) rfl hl.1 rfl rfl (Nat.le_of_ble_eq_true rfl) ⟨by show 1 + 1 ≤ kk + 1; omega, by show 49 * (1 + 1) ≤ 49 * (kk + 1); omega⟩ ⟨Nat.le_refl _, Nat.le_refl _⟩ dX12_workIf_28) (fun H locs hM => ?_)
      exact jireti (jr2 hf) E hM dX12_workIf_31
  · have hf := jf c12 hf
    refine lv_iload_n hx hb dX12_workIf_15 rfl (lv_at hl 0 rfl) ?_
    exact jireti (jr2 hf) E hM dX12_workIf_16
set_option maxRecDepth 100000 in
theorem D_X12_workIf {l : Launch} {g : jG} {rc : Nat → Nat → Int32 → Int32 → jM → Option (Int32 × jM)} {kk : Nat} (hkk : 16 ≤ kk) (hrc : jrc_V l g kk rc) {a0 : Nat} {a1 : Int32} {S : jM} {rr : Int32} {SS : jM} (hf : f_X12_workIf rc a0 a1 S = some (rr, SS)) : jMet l g yX12_workIf cX12_workIf 3 (some .int) (kk + 1) 0 0 [.ref (g.2.2 + a0), .int a1] S (jQi g rr SS) := by
  refine jof (by decide +kernel) (Nat.le_of_ble_eq_true rfl) ?_
  intro p e s m below meth c E hM ls hl
  have hl : lv_has ls 3 [(0, .ref (g.2.2 + a0)),(1, .int a1)] := hl
  exact B_X12_workIf_0 hkk hrc E hf hM hl
-- PensionHouseModel.workTry
noncomputable def f_X12_workTry (rc : Nat → Nat → Int32 → Int32 → jM → Option (Int32 × jM)) (v0 : Nat) (v1 : Int32) (S : jM) : Option (Int32 × jM) := if jK v0 = 10 then (jR S 104 v0).bind (fun r2 => if jA r2 13 v1 = true then jbd (rc 1 v0 (jAI S r2 (v1).toNatClampNeg) 0 S) (fun x5 S6 => if 0 ≤ x5 then some (x5, S6) else if (jI S6 126 v0) = (7 : Int32) then some (x5, S6) else jlet (jsI S6 126 v0 (0 : Int32)) (fun S10 => jlet (jsI S10 127 v0 (-1 : Int32)) (fun S11 => jlet (jsI S11 125 v0 ((jI S11 125 v0) + (1 : Int32))) (fun S12 => (jR S12 105 v0).bind (fun r13 => if jA r13 13 v1 = true then jbd (rc 1 v0 (jAI S12 r13 (v1).toNatClampNeg) 0 S12) (fun x16 S17 => some (x16, S17)) else none))))) else none) else none
set_option maxRecDepth 100000 in
set_option maxHeartbeats 4000000 in
theorem B_X12_workTry_0 {p : Program} {l : Launch} {e : Env} {s : State} {m : MethodId} {args : Array Value} {below : List Frame} {meth : Method} {c : Code} {g : jG} {rc : Nat → Nat → Int32 → Int32 → jM → Option (Int32 × jM)} {kk : Nat} (hkk : 16 ≤ kk) (hrc : jrc_V l g kk rc) {rr : Int32} {SS : jM} {v0 : Nat} {v1 : Int32} {S : jM} (E : jEnv p s m args meth c cX12_workTry "PensionHouseModel" (some .int) 3 g)  {H : Heap} {locs : List Loc} {ls : Array Slot} (hf : f_X12_workTry rc v0 v1 S = some (rr, SS)) (hM : jAt g S s H locs) (hl : lv_has ls 3 [(0, .ref (g.2.2 + v0)), (1, .int v1)]) : W p l e (jRm (kk + 1) 0 0) s m args below meth c H locs 0 0 (MQ below (jQi g rr SS) args s 0 0 (jA0 g)) (F0 m 0 ls []) := by
  obtain ⟨hx, hb, hml, -, hts, hown, hK, -, hstr⟩ := id E
  unfold f_X12_workTry at hf
  refine lv_aload_n hx hb dX12_workTry_0 rfl (lv_at hl 0 rfl) ?_
  refine lv_aload_n hx hb dX12_workTry_1 rfl (lv_at hl 0 rfl) ?_
  obtain ⟨hq1, hf⟩ := jif hf
  refine gt_104 E hM hq1 lk_6_18 dX12_workTry_2 ?_
  obtain ⟨r2, hr3, hf⟩ := jb hf
  rw [hr3]
  show W p l e _ s m args below meth c H locs 0 0 _ (F0 m _ ls (.ref (g.2.2 + r2) :: _))
  refine lv_iload_n hx hb dX12_workTry_5 rfl (lv_at hl 1 rfl) ?_
  obtain ⟨ha4, hf⟩ := jif hf
  refine jiald E hM ha4 dX12_workTry_6 ?_
  obtain ⟨x5, S6, hc7, hf⟩ := jbd_e hf
  refine jbackI hM (jrunV E hM ci_X12_workNode (hrc.2.1 hc7) lk_8_79 hq1 (by decide) rfl hl.1 rfl rfl (Nat.le_of_ble_eq_true rfl) ⟨Nat.le_refl _, Nat.le_refl _⟩ ⟨Nat.le_refl _, Nat.le_refl _⟩ dX12_workTry_7) (fun H locs hM => ?_)
  refine lv_istore_n (lv' := [(2, .int x5), (0, .ref (g.2.2 + v0)), (1, .int v1)]) hx hb dX12_workTry_10 rfl hl (by decide) rfl (fun ls hl => ?_)
  refine lv_iload_n hx hb dX12_workTry_11 rfl (lv_at hl 0 rfl) ?_
  refine lv_if_ge (tgt := 24) hx hb dX12_workTry_12 (by decide) (fun c8 => ?_) (fun c8 => ?_)
  · have hf := jt c8 hf
    refine lv_iload_n hx hb dX12_workTry_24 rfl (lv_at hl 0 rfl) ?_
    exact jireti (jr2 hf) E hM dX12_workTry_25
  · have hf := jf c8 hf
    refine lv_aload_n hx hb dX12_workTry_15 rfl (lv_at hl 1 rfl) ?_
    refine gt_126 E hM hq1 lk_6_40 dX12_workTry_16 ?_
    refine lv_bipush (v := (7 : Int32)) hx hb dX12_workTry_19 (by decide) ?_
    refine lv_icmp_ne (tgt := 26) hx hb dX12_workTry_21 (by decide) (fun c9 => ?_) (fun c9 => ?_)
    · have hf := jf c9 hf
      refine lv_aload_n hx hb dX12_workTry_26 rfl (lv_at hl 1 rfl) ?_
      refine lv_iconst (v := (0 : Int32)) hx hb dX12_workTry_27 (by decide) ?_
      refine pt_126 E hM hq1 lk_6_40 dX12_workTry_28 (fun H locs S10 eS10 hM => ?_)
      have hf := jlet_y eS10 hf
      refine lv_aload_n hx hb dX12_workTry_31 rfl (lv_at hl 1 rfl) ?_
      refine lv_iconst (v := (-1 : Int32)) hx hb dX12_workTry_32 (by decide) ?_
      refine pt_127 E hM hq1 lk_6_41 dX12_workTry_33 (fun H locs S11 eS11 hM => ?_)
      have hf := jlet_y eS11 hf
      refine lv_aload_n hx hb dX12_workTry_36 rfl (lv_at hl 1 rfl) ?_
      refine lv_dup hx hb dX12_workTry_37 rfl ?_
      refine gt_125 E hM hq1 lk_6_39 dX12_workTry_38 ?_
      refine lv_iconst (v := (1 : Int32)) hx hb dX12_workTry_41 (by decide) ?_
      refine lv_iadd hx hb dX12_workTry_42 ?_
      refine pt_125 E hM hq1 lk_6_39 dX12_workTry_43 (fun H locs S12 eS12 hM => ?_)
      have hf := jlet_y eS12 hf
      refine lv_aload_n hx hb dX12_workTry_46 rfl (lv_at hl 1 rfl) ?_
      refine lv_aload_n hx hb dX12_workTry_47 rfl (lv_at hl 1 rfl) ?_
      refine gt_105 E hM hq1 lk_6_19 dX12_workTry_48 ?_
      obtain ⟨r13, hr14, hf⟩ := jb hf
      rw [hr14]
      show W p l e _ s m args below meth c H locs 0 0 _ (F0 m _ ls (.ref (g.2.2 + r13) :: _))
      refine lv_iload_n hx hb dX12_workTry_51 rfl (lv_at hl 2 rfl) ?_
      obtain ⟨ha15, hf⟩ := jif hf
      refine jiald E hM ha15 dX12_workTry_52 ?_
      obtain ⟨x16, S17, hc18, hf⟩ := jbd_e hf
      refine jbackI hM (jrunV E hM ci_X12_workNode (hrc.2.1 hc18) lk_8_79 hq1 (by decide) rfl hl.1 rfl rfl (Nat.le_of_ble_eq_true rfl) ⟨Nat.le_refl _, Nat.le_refl _⟩ ⟨Nat.le_refl _, Nat.le_refl _⟩ dX12_workTry_53) (fun H locs hM => ?_)
      exact jireti (jr2 hf) E hM dX12_workTry_56
    · have hf := jt c9 hf
      refine lv_iload_n hx hb dX12_workTry_24 rfl (lv_at hl 0 rfl) ?_
      exact jireti (jr2 hf) E hM dX12_workTry_25
set_option maxRecDepth 100000 in
theorem D_X12_workTry {l : Launch} {g : jG} {rc : Nat → Nat → Int32 → Int32 → jM → Option (Int32 × jM)} {kk : Nat} (hkk : 16 ≤ kk) (hrc : jrc_V l g kk rc) {a0 : Nat} {a1 : Int32} {S : jM} {rr : Int32} {SS : jM} (hf : f_X12_workTry rc a0 a1 S = some (rr, SS)) : jMet l g yX12_workTry cX12_workTry 3 (some .int) (kk + 1) 0 0 [.ref (g.2.2 + a0), .int a1] S (jQi g rr SS) := by
  refine jof (by decide +kernel) (Nat.le_of_ble_eq_true rfl) ?_
  intro p e s m below meth c E hM ls hl
  have hl : lv_has ls 3 [(0, .ref (g.2.2 + a0)),(1, .int a1)] := hl
  exact B_X12_workTry_0 hkk hrc E hf hM hl
-- PensionHouseModel.workSum
noncomputable def f_X12_workSum_186 (rc : Nat → Nat → Int32 → Int32 → jM → Option (Int32 × jM)) (k111 : Nat → Int32 → Int64 → Int32 → Int32 → Int64 → jM → Option (Int32 × jM)) (v0 : Nat) (v1 : Int32) (v4 : Int64) (v6 : Int32) (v8 : Int64) (t0 : Int32) (S : jM) : Option (Int32 × jM) := jlet (v8 + (1 : Int64)) (fun x1 => k111 v0 v1 v4 v6 t0 x1 S)
noncomputable def f_X12_workSum_185 (rc : Nat → Nat → Int32 → Int32 → jM → Option (Int32 × jM)) (k111 : Nat → Int32 → Int64 → Int32 → Int32 → Int64 → jM → Option (Int32 × jM)) (v0 : Nat) (v1 : Int32) (v4 : Int64) (v6 : Int32) (v8 : Int64) (S : jM) : Option (Int32 × jM) := f_X12_workSum_186 rc k111 v0 v1 v4 v6 v8 (0 : Int32) S
noncomputable def f_X12_workSum_166 (rc : Nat → Nat → Int32 → Int32 → jM → Option (Int32 × jM)) (k111 : Nat → Int32 → Int64 → Int32 → Int32 → Int64 → jM → Option (Int32 × jM)) (v0 : Nat) (v1 : Int32) (v4 : Int64) (v8 : Int64) (t0 : Int32) (S : jM) : Option (Int32 × jM) := if t0 < 0 then f_X12_workSum_185 rc k111 v0 v1 v4 t0 v8 S else if v4 ≤ v8 then f_X12_workSum_185 rc k111 v0 v1 v4 t0 v8 S else f_X12_workSum_186 rc k111 v0 v1 v4 t0 v8 (1 : Int32) S
noncomputable def f_X12_workSum_111 (rc : Nat → Nat → Int32 → Int32 → jM → Option (Int32 × jM)) : Nat → Nat → Int32 → Int64 → Int32 → Int32 → Int64 → jM → Option (Int32 × jM)
  | 0, _, _, _, _, _, _, _ => none
  | n + 1, v0, v1, v4, v6, v7, v8, S => if v7 = 0 then some (v6, S) else if jK v0 = 10 then jbd (f_X12_counted v0 (1 : Int32) S) (fun x5 S6 => if x5 = 0 then some ((-1 : Int32), S6) else (jR S6 134 v0).bind (fun r10 => if jA r10 14 v1 = true then jlet (jrL S6 r10 (vp_updL (jAL S6 r10) (v1).toNatClampNeg v8)) (fun S13 => (jR S13 106 v0).bind (fun r14 => if jA r14 13 v1 = true then jbd (rc 1 v0 (jAI S13 r14 (v1).toNatClampNeg) 0 S13) (fun x17 S18 => if 0 ≤ x17 then jbd (f_X12_arithmetic v0 (143 : Int32) v6 x17 S18) (fun x21 S22 => f_X12_workSum_166 rc (f_X12_workSum_111 rc n) v0 v1 v4 v8 x21 S22) else f_X12_workSum_166 rc (f_X12_workSum_111 rc n) v0 v1 v4 v8 (-1 : Int32) S18) else none)) else none)) else none
noncomputable def f_X12_workSum_98 (rc : Nat → Nat → Int32 → Int32 → jM → Option (Int32 × jM)) (v0 : Nat) (v1 : Int32) (v2 : Int32) (v4 : Int64) (v6 : Int32) (t0 : Int32) (S : jM) : Option (Int32 × jM) := if jK v0 = 10 then (jR S 90 v0).bind (fun r25 => if jA r25 14 ((12 : Int32) * v2) = true then jlet (jAL S r25 ((12 : Int32) * v2).toNatClampNeg) (fun x28 => f_X12_workSum_111 rc 1100000 v0 v1 v4 v6 t0 x28 S) else none) else none
noncomputable def f_X12_workSum_54 (rc : Nat → Nat → Int32 → Int32 → jM → Option (Int32 × jM)) (v0 : Nat) (S : jM) : Option (Int32 × jM) := if jK v0 = 10 then jbd (f_X12_failing v0 (2 : Int32) S) (fun x29 S30 => some (x29, S30)) else none
noncomputable def f_X12_workSum_29 (rc : Nat → Nat → Int32 → Int32 → jM → Option (Int32 × jM)) (v0 : Nat) (v1 : Int32) (v2 : Int32) (t0 : Int32) (S : jM) : Option (Int32 × jM) := if 0 ≤ t0 then if jK v0 = 10 then (jR S 88 v0).bind (fun r35 => if jA r35 13 v2 = true then if (jAI S r35 (v2).toNatClampNeg) = 0 then (jR S 88 v0).bind (fun r39 => if jA r39 13 t0 = true then if (jAI S r39 (t0).toNatClampNeg) = 0 then (jR S 90 v0).bind (fun r43 => if jA r43 14 ((12 : Int32) * t0) = true then jlet (jAL S r43 ((12 : Int32) * t0).toNatClampNeg) (fun x46 => jbd (f_X12_ofWhole v0 (0 : Int64) S) (fun x47 S48 => (jR S48 90 v0).bind (fun r50 => if jA r50 14 ((12 : Int32) * v2) = true then if x46 < (jAL S48 r50 ((12 : Int32) * v2).toNatClampNeg) then f_X12_workSum_98 rc v0 v1 v2 x46 x47 (0 : Int32) S48 else f_X12_workSum_98 rc v0 v1 v2 x46 x47 (1 : Int32) S48 else none))) else none) else f_X12_workSum_54 rc v0 S else none) else f_X12_workSum_54 rc v0 S else none) else none else some ((-1 : Int32), S)
noncomputable def f_X12_workSum (rc : Nat → Nat → Int32 → Int32 → jM → Option (Int32 × jM)) (v0 : Nat) (v1 : Int32) (S : jM) : Option (Int32 × jM) := if jK v0 = 10 then (jR S 104 v0).bind (fun r55 => if jA r55 13 v1 = true then jbd (rc 1 v0 (jAI S r55 (v1).toNatClampNeg) 0 S) (fun x58 S59 => if 0 ≤ x58 then (jR S59 105 v0).bind (fun r62 => if jA r62 13 v1 = true then jbd (rc 1 v0 (jAI S59 r62 (v1).toNatClampNeg) 0 S59) (fun x65 S66 => f_X12_workSum_29 rc v0 v1 x58 x65 S66) else none) else f_X12_workSum_29 rc v0 v1 x58 (-1 : Int32) S59) else none) else none
set_option maxRecDepth 100000 in
set_option maxHeartbeats 4000000 in
theorem B_X12_workSum_186 {p : Program} {l : Launch} {e : Env} {s : State} {m : MethodId} {args : Array Value} {below : List Frame} {meth : Method} {c : Code} {g : jG} {rc : Nat → Nat → Int32 → Int32 → jM → Option (Int32 × jM)} {kk : Nat} (hkk : 16 ≤ kk) (hrc : jrc_V l g kk rc) {rr : Int32} {SS : jM} {v0 : Nat} {v1 : Int32} {v4 : Int64} {v6 : Int32} {v8 : Int64} {t0 : Int32} {S : jM} {k111 : Nat → Int32 → Int64 → Int32 → Int32 → Int64 → jM → Option (Int32 × jM)} (E : jEnv p s m args meth c cX12_workSum "PensionHouseModel" (some .int) 11 g) (hk111 : ∀ (v0 : Nat) (v1 : Int32) (v4 : Int64) (v6 : Int32) (v7 : Int32) (v8 : Int64) (S : jM) (H : Heap) (locs : List Loc) (ls : Array Slot), k111 v0 v1 v4 v6 v7 v8 S = some (rr, SS) → jAt g S s H locs → lv_has ls 11 [(0, .ref (g.2.2 + v0)), (1, .int v1), (4, .long v4), (6, .int v6), (7, .int v7), (8, .long v8)] → W p l e (jRm (kk + 1) 0 0) s m args below meth c H locs 0 0 (MQ below (jQi g rr SS) args s 0 0 (jA0 g)) (F0 m 111 ls [])) {H : Heap} {locs : List Loc} {ls : Array Slot} (hf : f_X12_workSum_186 rc k111 v0 v1 v4 v6 v8 t0 S = some (rr, SS)) (hM : jAt g S s H locs) (hl : lv_has ls 11 [(0, .ref (g.2.2 + v0)), (1, .int v1), (4, .long v4), (6, .int v6), (8, .long v8)]) : W p l e (jRm (kk + 1) 0 0) s m args below meth c H locs 0 0 (MQ below (jQi g rr SS) args s 0 0 (jA0 g)) (F0 m 186 ls [.int t0]) := by
  obtain ⟨hx, hb, hml, -, hts, hown, hK, -, hstr⟩ := id E
  unfold f_X12_workSum_186 at hf
  refine lv_istore (lv' := [(7, .int t0), (0, .ref (g.2.2 + v0)), (1, .int v1), (4, .long v4), (6, .int v6), (8, .long v8)]) hx hb dX12_workSum_186 hl (by decide) rfl (fun ls hl => ?_)
  refine lv_lload hx hb dX12_workSum_188 (lv_at hl 5 rfl) ?_
  refine lv_lconst (v := (1 : Int64)) hx hb dX12_workSum_190 (by decide) ?_
  refine lv_ladd hx hb dX12_workSum_191 ?_
  refine lv_topl (fun x1 ex1 => ?_)
  have hf := jlet_y ex1 hf
  refine lv_lstore (lv' := [(8, .long x1), (7, .int t0), (0, .ref (g.2.2 + v0)), (1, .int v1), (4, .long v4), (6, .int v6)]) hx hb dX12_workSum_192 hl (by decide) rfl (fun ls hl => ?_)
  refine lv_goto (tgt := 111) hx hb dX12_workSum_194 (by decide) ?_
  exact hk111 v0 v1 v4 v6 t0 x1 S _ _ _ hf hM (lv_sub hl [2, 3, 4, 5, 1, 0] rfl)
set_option maxRecDepth 100000 in
set_option maxHeartbeats 4000000 in
theorem B_X12_workSum_185 {p : Program} {l : Launch} {e : Env} {s : State} {m : MethodId} {args : Array Value} {below : List Frame} {meth : Method} {c : Code} {g : jG} {rc : Nat → Nat → Int32 → Int32 → jM → Option (Int32 × jM)} {kk : Nat} (hkk : 16 ≤ kk) (hrc : jrc_V l g kk rc) {rr : Int32} {SS : jM} {v0 : Nat} {v1 : Int32} {v4 : Int64} {v6 : Int32} {v8 : Int64} {S : jM} {k111 : Nat → Int32 → Int64 → Int32 → Int32 → Int64 → jM → Option (Int32 × jM)} (E : jEnv p s m args meth c cX12_workSum "PensionHouseModel" (some .int) 11 g) (hk111 : ∀ (v0 : Nat) (v1 : Int32) (v4 : Int64) (v6 : Int32) (v7 : Int32) (v8 : Int64) (S : jM) (H : Heap) (locs : List Loc) (ls : Array Slot), k111 v0 v1 v4 v6 v7 v8 S = some (rr, SS) → jAt g S s H locs → lv_has ls 11 [(0, .ref (g.2.2 + v0)), (1, .int v1), (4, .long v4), (6, .int v6), (7, .int v7), (8, .long v8)] → W p l e (jRm (kk + 1) 0 0) s m args below meth c H locs 0 0 (MQ below (jQi g rr SS) args s 0 0 (jA0 g)) (F0 m 111 ls [])) {H : Heap} {locs : List Loc} {ls : Array Slot} (hf : f_X12_workSum_185 rc k111 v0 v1 v4 v6 v8 S = some (rr, SS)) (hM : jAt g S s H locs) (hl : lv_has ls 11 [(0, .ref (g.2.2 + v0)), (1, .int v1), (4, .long v4), (6, .int v6), (8, .long v8)]) : W p l e (jRm (kk + 1) 0 0) s m args below meth c H locs 0 0 (MQ below (jQi g rr SS) args s 0 0 (jA0 g)) (F0 m 185 ls []) := by
  obtain ⟨hx, hb, hml, -, hts, hown, hK, -, hstr⟩ := id E
  unfold f_X12_workSum_185 at hf
  refine lv_iconst (v := (0 : Int32)) hx hb dX12_workSum_185 (by decide) ?_
  exact B_X12_workSum_186 hkk hrc E hk111 hf hM (lv_sub hl [0, 1, 2, 3, 4] rfl)
set_option maxRecDepth 100000 in
set_option maxHeartbeats 4000000 in
theorem B_X12_workSum_166 {p : Program} {l : Launch} {e : Env} {s : State} {m : MethodId} {args : Array Value} {below : List Frame} {meth : Method} {c : Code} {g : jG} {rc : Nat → Nat → Int32 → Int32 → jM → Option (Int32 × jM)} {kk : Nat} (hkk : 16 ≤ kk) (hrc : jrc_V l g kk rc) {rr : Int32} {SS : jM} {v0 : Nat} {v1 : Int32} {v4 : Int64} {v8 : Int64} {t0 : Int32} {S : jM} {k111 : Nat → Int32 → Int64 → Int32 → Int32 → Int64 → jM → Option (Int32 × jM)} (E : jEnv p s m args meth c cX12_workSum "PensionHouseModel" (some .int) 11 g) (hk111 : ∀ (v0 : Nat) (v1 : Int32) (v4 : Int64) (v6 : Int32) (v7 : Int32) (v8 : Int64) (S : jM) (H : Heap) (locs : List Loc) (ls : Array Slot), k111 v0 v1 v4 v6 v7 v8 S = some (rr, SS) → jAt g S s H locs → lv_has ls 11 [(0, .ref (g.2.2 + v0)), (1, .int v1), (4, .long v4), (6, .int v6), (7, .int v7), (8, .long v8)] → W p l e (jRm (kk + 1) 0 0) s m args below meth c H locs 0 0 (MQ below (jQi g rr SS) args s 0 0 (jA0 g)) (F0 m 111 ls [])) {H : Heap} {locs : List Loc} {ls : Array Slot} (hf : f_X12_workSum_166 rc k111 v0 v1 v4 v8 t0 S = some (rr, SS)) (hM : jAt g S s H locs) (hl : lv_has ls 11 [(0, .ref (g.2.2 + v0)), (1, .int v1), (4, .long v4), (8, .long v8)]) : W p l e (jRm (kk + 1) 0 0) s m args below meth c H locs 0 0 (MQ below (jQi g rr SS) args s 0 0 (jA0 g)) (F0 m 166 ls [.int t0]) := by
  obtain ⟨hx, hb, hml, -, hts, hown, hK, -, hstr⟩ := id E
  unfold f_X12_workSum_166 at hf
  refine lv_istore (lv' := [(6, .int t0), (0, .ref (g.2.2 + v0)), (1, .int v1), (4, .long v4), (8, .long v8)]) hx hb dX12_workSum_166 hl (by decide) rfl (fun ls hl => ?_)
  refine lv_iload hx hb dX12_workSum_168 (lv_at hl 0 rfl) ?_
  refine lv_if_lt (tgt := 185) hx hb dX12_workSum_170 (by decide) (fun c2 => ?_) (fun c2 => ?_)
  · have hf := jt c2 hf
    exact B_X12_workSum_185 hkk hrc E hk111 hf hM (lv_sub hl [1, 2, 3, 0, 4] rfl)
  · have hf := jf c2 hf
    refine lv_lload hx hb dX12_workSum_173 (lv_at hl 4 rfl) ?_
    refine lv_lload hx hb dX12_workSum_175 (lv_at hl 3 rfl) ?_
    refine jl_ge (tgt := 185) hx hb dX12_workSum_177 dX12_workSum_178 (by decide) (fun c3 => ?_) (fun c3 => ?_)
    · have hf := jt c3 hf
      exact B_X12_workSum_185 hkk hrc E hk111 hf hM (lv_sub hl [1, 2, 3, 0, 4] rfl)
    · have hf := jf c3 hf
      refine lv_iconst (v := (1 : Int32)) hx hb dX12_workSum_181 (by decide) ?_
      refine lv_goto (tgt := 186) hx hb dX12_workSum_182 (by decide) ?_
      exact B_X12_workSum_186 hkk hrc E hk111 hf hM (lv_sub hl [1, 2, 3, 0, 4] rfl)
set_option maxRecDepth 100000 in
set_option maxHeartbeats 4000000 in
theorem B_X12_workSum_111 {p : Program} {l : Launch} {e : Env} {s : State} {m : MethodId} {args : Array Value} {below : List Frame} {meth : Method} {c : Code} {g : jG} {rc : Nat → Nat → Int32 → Int32 → jM → Option (Int32 × jM)} {kk : Nat} (hkk : 16 ≤ kk) (hrc : jrc_V l g kk rc) {rr : Int32} {SS : jM} (E : jEnv p s m args meth c cX12_workSum "PensionHouseModel" (some .int) 11 g)  : ∀ (n : Nat) (v0 : Nat) (v1 : Int32) (v4 : Int64) (v6 : Int32) (v7 : Int32) (v8 : Int64) (S : jM) (H : Heap) (locs : List Loc) (ls : Array Slot), f_X12_workSum_111 rc n v0 v1 v4 v6 v7 v8 S = some (rr, SS) → jAt g S s H locs → lv_has ls 11 [(0, .ref (g.2.2 + v0)), (1, .int v1), (4, .long v4), (6, .int v6), (7, .int v7), (8, .long v8)] → W p l e (jRm (kk + 1) 0 0) s m args below meth c H locs 0 0 (MQ below (jQi g rr SS) args s 0 0 (jA0 g)) (F0 m 111 ls []) := by
  obtain ⟨hx, hb, hml, -, hts, hown, hK, -, hstr⟩ := id E
  intro n
  induction n with
  | zero => intro v0 v1 v4 v6 v7 v8 S H locs ls hf hM hl; rw [f_X12_workSum_111] at hf; cases hf
  | succ n ih =>
    intro v0 v1 v4 v6 v7 v8 S H locs ls hf hM hl
    rw [f_X12_workSum_111] at hf
    refine lv_iload hx hb dX12_workSum_111 (lv_at hl 4 rfl) ?_
    refine lv_if_eq (tgt := 197) hx hb dX12_workSum_113 (by decide) (fun c4 => ?_) (fun c4 => ?_)
    · have hf := jt c4 hf
      refine lv_iload hx hb dX12_workSum_197 (lv_at hl 3 rfl) ?_
      exact jireti (jr2 hf) E hM dX12_workSum_199
    · have hf := jf c4 hf
      refine lv_aload_n hx hb dX12_workSum_116 rfl (lv_at hl 0 rfl) ?_
      refine lv_iconst (v := (1 : Int32)) hx hb dX12_workSum_117 (by decide) ?_
      obtain ⟨hq8, hf⟩ := jif hf
      obtain ⟨x5, S6, hc7, hf⟩ := jbd_e hf
      refine jbackI hM (jrunV E hM ci_X12_counted (C_X12_counted hc7) lk_8_83 hq8 (by decide) rfl hl.1 rfl rfl (Nat.le_of_ble_eq_true rfl) ⟨by show 2 + 1 ≤ kk + 1; omega, by show 49 * (2 + 1) ≤ 49 * (kk + 1); omega⟩ ⟨Nat.le_refl _, Nat.le_refl _⟩ dX12_workSum_118) (fun H locs hM => ?_)
      refine lv_if_ne (tgt := 126) hx hb dX12_workSum_121 (by decide) (fun c9 => ?_) (fun c9 => ?_)
      · have hf := jf c9 hf
        refine lv_aload_n hx hb dX12_workSum_126 rfl (lv_at hl 0 rfl) ?_
        refine gt_134 E hM hq8 lk_6_48 dX12_workSum_127 ?_
        obtain ⟨r10, hr11, hf⟩ := jb hf
        rw [hr11]
        show W p l e _ s m args below meth c H locs 0 0 _ (F0 m _ ls (.ref (g.2.2 + r10) :: _))
        refine lv_iload_n hx hb dX12_workSum_130 rfl (lv_at hl 1 rfl) ?_
        refine lv_lload hx hb dX12_workSum_131 (lv_at hl 5 rfl) ?_
        obtain ⟨ha12, hf⟩ := jif hf
        refine jlast E hM ha12 dX12_workSum_133 (fun H locs S13 eS13 hM => ?_)
        have hf := jlet_y eS13 hf
        refine lv_aload_n hx hb dX12_workSum_134 rfl (lv_at hl 0 rfl) ?_
        refine lv_aload_n hx hb dX12_workSum_135 rfl (lv_at hl 0 rfl) ?_
        refine gt_106 E hM hq8 lk_6_20 dX12_workSum_136 ?_
        obtain ⟨r14, hr15, hf⟩ := jb hf
        rw [hr15]
        show W p l e _ s m args below meth c H locs 0 0 _ (F0 m _ ls (.ref (g.2.2 + r14) :: _))
        refine lv_iload_n hx hb dX12_workSum_139 rfl (lv_at hl 1 rfl) ?_
        obtain ⟨ha16, hf⟩ := jif hf
        refine jiald E hM ha16 dX12_workSum_140 ?_
        obtain ⟨x17, S18, hc19, hf⟩ := jbd_e hf
        refine jbackI hM (jrunV E hM ci_X12_workNode (hrc.2.1 hc19) lk_8_79 hq8 (by decide) rfl hl.1 rfl rfl (Nat.le_of_ble_eq_true rfl) ⟨Nat.le_refl _, Nat.le_refl _⟩ ⟨Nat.le_refl _, Nat.le_refl _⟩ dX12_workSum_141) (fun H locs hM => ?_)
        refine lv_istore (lv' := [(10, .int x17), (0, .ref (g.2.2 + v0)), (1, .int v1), (4, .long v4), (6, .int v6), (7, .int v7), (8, .long v8)]) hx hb dX12_workSum_144 hl (by decide) rfl (fun ls hl => ?_)
        refine lv_iload hx hb dX12_workSum_146 (lv_at hl 0 rfl) ?_
        refine lv_if_ge (tgt := 155) hx hb dX12_workSum_148 (by decide) (fun c20 => ?_) (fun c20 => ?_)
        · have hf := jt c20 hf
          refine lv_aload_n hx hb dX12_workSum_155 rfl (lv_at hl 1 rfl) ?_
          refine lv_sipush (v := (143 : Int32)) hx hb dX12_workSum_156 (by decide) ?_
          refine lv_iload hx hb dX12_workSum_159 (lv_at hl 4 rfl) ?_
          refine lv_iload hx hb dX12_workSum_161 (lv_at hl 0 rfl) ?_
          obtain ⟨x21, S22, hc23, hf⟩ := jbd_e hf
          refine jbackI hM (jrunV E hM ci_X12_arithmetic (C_X12_arithmetic hc23) lk_8_130 hq8 (by decide) rfl hl.1 rfl rfl (Nat.le_of_ble_eq_true rfl) ⟨by show 6 + 1 ≤ kk + 1; omega, by show 49 * (6 + 1) ≤ 49 * (kk + 1); omega⟩ ⟨Nat.le_refl _, Nat.le_refl _⟩ dX12_workSum_163) (fun H locs hM => ?_)
          exact B_X12_workSum_166 hkk hrc E ih hf hM (lv_sub hl [1, 2, 3, 6] rfl)
        · have hf := jf c20 hf
          refine lv_iconst (v := (-1 : Int32)) hx hb dX12_workSum_151 (by decide) ?_
          refine lv_goto (tgt := 166) hx hb dX12_workSum_152 (by decide) ?_
          exact B_X12_workSum_166 hkk hrc E ih hf hM (lv_sub hl [1, 2, 3, 6] rfl)
      · have hf := jt c9 hf
        refine lv_iconst (v := (-1 : Int32)) hx hb dX12_workSum_124 (by decide) ?_
        exact jireti (jr2 hf) E hM dX12_workSum_125
set_option maxRecDepth 100000 in
set_option maxHeartbeats 4000000 in
theorem B_X12_workSum_98 {p : Program} {l : Launch} {e : Env} {s : State} {m : MethodId} {args : Array Value} {below : List Frame} {meth : Method} {c : Code} {g : jG} {rc : Nat → Nat → Int32 → Int32 → jM → Option (Int32 × jM)} {kk : Nat} (hkk : 16 ≤ kk) (hrc : jrc_V l g kk rc) {rr : Int32} {SS : jM} {v0 : Nat} {v1 : Int32} {v2 : Int32} {v4 : Int64} {v6 : Int32} {t0 : Int32} {S : jM} (E : jEnv p s m args meth c cX12_workSum "PensionHouseModel" (some .int) 11 g)  {H : Heap} {locs : List Loc} {ls : Array Slot} (hf : f_X12_workSum_98 rc v0 v1 v2 v4 v6 t0 S = some (rr, SS)) (hM : jAt g S s H locs) (hl : lv_has ls 11 [(0, .ref (g.2.2 + v0)), (1, .int v1), (2, .int v2), (4, .long v4), (6, .int v6)]) : W p l e (jRm (kk + 1) 0 0) s m args below meth c H locs 0 0 (MQ below (jQi g rr SS) args s 0 0 (jA0 g)) (F0 m 98 ls [.int t0]) := by
  obtain ⟨hx, hb, hml, -, hts, hown, hK, -, hstr⟩ := id E
  unfold f_X12_workSum_98 at hf
  refine lv_istore (lv' := [(7, .int t0), (0, .ref (g.2.2 + v0)), (1, .int v1), (2, .int v2), (4, .long v4), (6, .int v6)]) hx hb dX12_workSum_98 hl (by decide) rfl (fun ls hl => ?_)
  refine lv_aload_n hx hb dX12_workSum_100 rfl (lv_at hl 1 rfl) ?_
  obtain ⟨hq24, hf⟩ := jif hf
  refine gt_90 E hM hq24 lk_6_4 dX12_workSum_101 ?_
  obtain ⟨r25, hr26, hf⟩ := jb hf
  rw [hr26]
  show W p l e _ s m args below meth c H locs 0 0 _ (F0 m _ ls (.ref (g.2.2 + r25) :: _))
  refine lv_bipush (v := (12 : Int32)) hx hb dX12_workSum_104 (by decide) ?_
  refine lv_iload_n hx hb dX12_workSum_106 rfl (lv_at hl 3 rfl) ?_
  refine lv_imul hx hb dX12_workSum_107 ?_
  obtain ⟨ha27, hf⟩ := jif hf
  refine jlald E hM ha27 dX12_workSum_108 ?_
  refine lv_topl (fun x28 ex28 => ?_)
  have hf := jlet_y ex28 hf
  refine lv_lstore (lv' := [(8, .long x28), (7, .int t0), (0, .ref (g.2.2 + v0)), (1, .int v1), (2, .int v2), (4, .long v4), (6, .int v6)]) hx hb dX12_workSum_109 hl (by decide) rfl (fun ls hl => ?_)
  exact B_X12_workSum_111 hkk hrc E  1100000 v0 v1 v4 v6 t0 x28 S _ _ _ hf hM (lv_sub hl [2, 3, 5, 6, 1, 0] rfl)
set_option maxRecDepth 100000 in
set_option maxHeartbeats 4000000 in
theorem B_X12_workSum_54 {p : Program} {l : Launch} {e : Env} {s : State} {m : MethodId} {args : Array Value} {below : List Frame} {meth : Method} {c : Code} {g : jG} {rc : Nat → Nat → Int32 → Int32 → jM → Option (Int32 × jM)} {kk : Nat} (hkk : 16 ≤ kk) (hrc : jrc_V l g kk rc) {rr : Int32} {SS : jM} {v0 : Nat} {S : jM} (E : jEnv p s m args meth c cX12_workSum "PensionHouseModel" (some .int) 11 g)  {H : Heap} {locs : List Loc} {ls : Array Slot} (hf : f_X12_workSum_54 rc v0 S = some (rr, SS)) (hM : jAt g S s H locs) (hl : lv_has ls 11 [(0, .ref (g.2.2 + v0))]) : W p l e (jRm (kk + 1) 0 0) s m args below meth c H locs 0 0 (MQ below (jQi g rr SS) args s 0 0 (jA0 g)) (F0 m 54 ls []) := by
  obtain ⟨hx, hb, hml, -, hts, hown, hK, -, hstr⟩ := id E
  unfold f_X12_workSum_54 at hf
  refine lv_aload_n hx hb dX12_workSum_54 rfl (lv_at hl 0 rfl) ?_
  refine lv_iconst (v := (2 : Int32)) hx hb dX12_workSum_55 (by decide) ?_
  obtain ⟨hq32, hf⟩ := jif hf
  obtain ⟨x29, S30, hc31, hf⟩ := jbd_e hf
  refine jbackI hM (jrunV E hM ci_X12_failing (C_X12_failing hc31) lk_8_87 hq32 (by decide) rfl hl.1 rfl rfl (Nat.le_of_ble_eq_true rfl) ⟨by show 1 + 1 ≤ kk + 1; omega, by show 49 * (1 + 1) ≤ 49 * (kk + 1); omega⟩ ⟨Nat.le_refl _, Nat.le_refl _⟩ dX12_workSum_56) (fun H locs hM => ?_)
  exact jireti (jr2 hf) E hM dX12_workSum_59
set_option maxRecDepth 100000 in
set_option maxHeartbeats 4000000 in
theorem B_X12_workSum_29 {p : Program} {l : Launch} {e : Env} {s : State} {m : MethodId} {args : Array Value} {below : List Frame} {meth : Method} {c : Code} {g : jG} {rc : Nat → Nat → Int32 → Int32 → jM → Option (Int32 × jM)} {kk : Nat} (hkk : 16 ≤ kk) (hrc : jrc_V l g kk rc) {rr : Int32} {SS : jM} {v0 : Nat} {v1 : Int32} {v2 : Int32} {t0 : Int32} {S : jM} (E : jEnv p s m args meth c cX12_workSum "PensionHouseModel" (some .int) 11 g)  {H : Heap} {locs : List Loc} {ls : Array Slot} (hf : f_X12_workSum_29 rc v0 v1 v2 t0 S = some (rr, SS)) (hM : jAt g S s H locs) (hl : lv_has ls 11 [(0, .ref (g.2.2 + v0)), (1, .int v1), (2, .int v2)]) : W p l e (jRm (kk + 1) 0 0) s m args below meth c H locs 0 0 (MQ below (jQi g rr SS) args s 0 0 (jA0 g)) (F0 m 29 ls [.int t0]) := by
  obtain ⟨hx, hb, hml, -, hts, hown, hK, -, hstr⟩ := id E
  unfold f_X12_workSum_29 at hf
  refine lv_istore_n (lv' := [(3, .int t0), (0, .ref (g.2.2 + v0)), (1, .int v1), (2, .int v2)]) hx hb dX12_workSum_29 rfl hl (by decide) rfl (fun ls hl => ?_)
  refine lv_iload_n hx hb dX12_workSum_30 rfl (lv_at hl 0 rfl) ?_
  refine lv_if_ge (tgt := 36) hx hb dX12_workSum_31 (by decide) (fun c33 => ?_) (fun c33 => ?_)
  · have hf := jt c33 hf
    refine lv_aload_n hx hb dX12_workSum_36 rfl (lv_at hl 1 rfl) ?_
    obtain ⟨hq34, hf⟩ := jif hf
    refine gt_88 E hM hq34 lk_6_2 dX12_workSum_37 ?_
    obtain ⟨r35, hr36, hf⟩ := jb hf
    rw [hr36]
    show W p l e _ s m args below meth c H locs 0 0 _ (F0 m _ ls (.ref (g.2.2 + r35) :: _))
    refine lv_iload_n hx hb dX12_workSum_40 rfl (lv_at hl 3 rfl) ?_
    obtain ⟨ha37, hf⟩ := jif hf
    refine jiald E hM ha37 dX12_workSum_41 ?_
    refine lv_if_ne (tgt := 54) hx hb dX12_workSum_42 (by decide) (fun c38 => ?_) (fun c38 => ?_)
    · have hf := jf c38 hf
      exact B_X12_workSum_54 hkk hrc E  hf hM (lv_sub hl [1] rfl)
    · have hf := jt c38 hf
      refine lv_aload_n hx hb dX12_workSum_45 rfl (lv_at hl 1 rfl) ?_
      refine gt_88 E hM hq34 lk_6_2 dX12_workSum_46 ?_
      obtain ⟨r39, hr40, hf⟩ := jb hf
      rw [hr40]
      show W p l e _ s m args below meth c H locs 0 0 _ (F0 m _ ls (.ref (g.2.2 + r39) :: _))
      refine lv_iload_n hx hb dX12_workSum_49 rfl (lv_at hl 0 rfl) ?_
      obtain ⟨ha41, hf⟩ := jif hf
      refine jiald E hM ha41 dX12_workSum_50 ?_
      refine lv_if_eq (tgt := 60) hx hb dX12_workSum_51 (by decide) (fun c42 => ?_) (fun c42 => ?_)
      · have hf := jt c42 hf
        refine lv_aload_n hx hb dX12_workSum_60 rfl (lv_at hl 1 rfl) ?_
        refine gt_90 E hM hq34 lk_6_4 dX12_workSum_61 ?_
        obtain ⟨r43, hr44, hf⟩ := jb hf
        rw [hr44]
        show W p l e _ s m args below meth c H locs 0 0 _ (F0 m _ ls (.ref (g.2.2 + r43) :: _))
        refine lv_bipush (v := (12 : Int32)) hx hb dX12_workSum_64 (by decide) ?_
        refine lv_iload_n hx hb dX12_workSum_66 rfl (lv_at hl 0 rfl) ?_
        refine lv_imul hx hb dX12_workSum_67 ?_
        obtain ⟨ha45, hf⟩ := jif hf
        refine jlald E hM ha45 dX12_workSum_68 ?_
        refine lv_topl (fun x46 ex46 => ?_)
        have hf := jlet_y ex46 hf
        refine lv_lstore (lv' := [(4, .long x46), (3, .int t0), (0, .ref (g.2.2 + v0)), (1, .int v1), (2, .int v2)]) hx hb dX12_workSum_69 hl (by decide) rfl (fun ls hl => ?_)
        refine lv_aload_n hx hb dX12_workSum_71 rfl (lv_at hl 2 rfl) ?_
        refine lv_lconst (v := (0 : Int64)) hx hb dX12_workSum_72 (by decide) ?_
        obtain ⟨x47, S48, hc49, hf⟩ := jbd_e hf
        refine jbackI hM (jrunV E hM ci_X12_ofWhole (C_X12_ofWhole hc49) lk_8_91 hq34 (by decide) rfl hl.1 rfl rfl (Nat.le_of_ble_eq_true rfl) ⟨by show 4 + 1 ≤ kk + 1; omega, by show 49 * (4 + 1) ≤ 49 * (kk + 1); omega⟩ ⟨Nat.le_refl _, Nat.le_refl _⟩ dX12_workSum_73) (fun H locs hM => ?_)
        refine lv_istore (lv' := [(6, .int x47), (4, .long x46), (3, .int t0), (0, .ref (g.2.2 + v0)), (1, .int v1), (2, .int v2)]) hx hb dX12_workSum_76 hl (by decide) rfl (fun ls hl => ?_)
        refine lv_aload_n hx hb dX12_workSum_78 rfl (lv_at hl 3 rfl) ?_
        refine gt_90 E hM hq34 lk_6_4 dX12_workSum_79 ?_
        obtain ⟨r50, hr51, hf⟩ := jb hf
        rw [hr51]
        show W p l e _ s m args below meth c H locs 0 0 _ (F0 m _ ls (.ref (g.2.2 + r50) :: _))
        refine lv_bipush (v := (12 : Int32)) hx hb dX12_workSum_82 (by decide) ?_
        refine lv_iload_n hx hb dX12_workSum_84 rfl (lv_at hl 5 rfl) ?_
        refine lv_imul hx hb dX12_workSum_85 ?_
        obtain ⟨ha52, hf⟩ := jif hf
        refine jlald E hM ha52 dX12_workSum_86 ?_
        refine lv_lload hx hb dX12_workSum_87 (lv_at hl 1 rfl) ?_
        refine jl_gt (tgt := 97) hx hb dX12_workSum_89 dX12_workSum_90 (by decide) (fun c53 => ?_) (fun c53 => ?_)
        · have hf := jt c53 hf
          refine lv_iconst (v := (0 : Int32)) hx hb dX12_workSum_97 (by decide) ?_
          exact B_X12_workSum_98 hkk hrc E  hf hM (lv_sub hl [3, 4, 5, 1, 0] rfl)
        · have hf := jf c53 hf
          refine lv_iconst (v := (1 : Int32)) hx hb dX12_workSum_93 (by decide) ?_
          refine lv_goto (tgt := 98) hx hb dX12_workSum_94 (by decide) ?_
          exact B_X12_workSum_98 hkk hrc E  hf hM (lv_sub hl [3, 4, 5, 1, 0] rfl)
      · have hf := jf c42 hf
        exact B_X12_workSum_54 hkk hrc E  hf hM (lv_sub hl [1] rfl)
  · have hf := jf c33 hf
    refine lv_iconst (v := (-1 : Int32)) hx hb dX12_workSum_34 (by decide) ?_
    exact jireti (jr2 hf) E hM dX12_workSum_35
set_option maxRecDepth 100000 in
set_option maxHeartbeats 4000000 in
theorem B_X12_workSum_0 {p : Program} {l : Launch} {e : Env} {s : State} {m : MethodId} {args : Array Value} {below : List Frame} {meth : Method} {c : Code} {g : jG} {rc : Nat → Nat → Int32 → Int32 → jM → Option (Int32 × jM)} {kk : Nat} (hkk : 16 ≤ kk) (hrc : jrc_V l g kk rc) {rr : Int32} {SS : jM} {v0 : Nat} {v1 : Int32} {S : jM} (E : jEnv p s m args meth c cX12_workSum "PensionHouseModel" (some .int) 11 g)  {H : Heap} {locs : List Loc} {ls : Array Slot} (hf : f_X12_workSum rc v0 v1 S = some (rr, SS)) (hM : jAt g S s H locs) (hl : lv_has ls 11 [(0, .ref (g.2.2 + v0)), (1, .int v1)]) : W p l e (jRm (kk + 1) 0 0) s m args below meth c H locs 0 0 (MQ below (jQi g rr SS) args s 0 0 (jA0 g)) (F0 m 0 ls []) := by
  obtain ⟨hx, hb, hml, -, hts, hown, hK, -, hstr⟩ := id E
  unfold f_X12_workSum at hf
  refine lv_aload_n hx hb dX12_workSum_0 rfl (lv_at hl 0 rfl) ?_
  refine lv_aload_n hx hb dX12_workSum_1 rfl (lv_at hl 0 rfl) ?_
  obtain ⟨hq54, hf⟩ := jif hf
  refine gt_104 E hM hq54 lk_6_18 dX12_workSum_2 ?_
  obtain ⟨r55, hr56, hf⟩ := jb hf
  rw [hr56]
  show W p l e _ s m args below meth c H locs 0 0 _ (F0 m _ ls (.ref (g.2.2 + r55) :: _))
  refine lv_iload_n hx hb dX12_workSum_5 rfl (lv_at hl 1 rfl) ?_
  obtain ⟨ha57, hf⟩ := jif hf
  refine jiald E hM ha57 dX12_workSum_6 ?_
  obtain ⟨x58, S59, hc60, hf⟩ := jbd_e hf
  refine jbackI hM (jrunV E hM ci_X12_workNode (hrc.2.1 hc60) lk_8_79 hq54 (by decide) rfl hl.1 rfl rfl (Nat.le_of_ble_eq_true rfl) ⟨Nat.le_refl _, Nat.le_refl _⟩ ⟨Nat.le_refl _, Nat.le_refl _⟩ dX12_workSum_7) (fun H locs hM => ?_)
  refine lv_istore_n (lv' := [(2, .int x58), (0, .ref (g.2.2 + v0)), (1, .int v1)]) hx hb dX12_workSum_10 rfl hl (by decide) rfl (fun ls hl => ?_)
  refine lv_iload_n hx hb dX12_workSum_11 rfl (lv_at hl 0 rfl) ?_
  refine lv_if_ge (tgt := 19) hx hb dX12_workSum_12 (by decide) (fun c61 => ?_) (fun c61 => ?_)
  · have hf := jt c61 hf
    refine lv_aload_n hx hb dX12_workSum_19 rfl (lv_at hl 1 rfl) ?_
    refine lv_aload_n hx hb dX12_workSum_20 rfl (lv_at hl 1 rfl) ?_
    refine gt_105 E hM hq54 lk_6_19 dX12_workSum_21 ?_
    obtain ⟨r62, hr63, hf⟩ := jb hf
    rw [hr63]
    show W p l e _ s m args below meth c H locs 0 0 _ (F0 m _ ls (.ref (g.2.2 + r62) :: _))
    refine lv_iload_n hx hb dX12_workSum_24 rfl (lv_at hl 2 rfl) ?_
    obtain ⟨ha64, hf⟩ := jif hf
    refine jiald E hM ha64 dX12_workSum_25 ?_
    obtain ⟨x65, S66, hc67, hf⟩ := jbd_e hf
    refine jbackI hM (jrunV E hM ci_X12_workNode (hrc.2.1 hc67) lk_8_79 hq54 (by decide) rfl hl.1 rfl rfl (Nat.le_of_ble_eq_true rfl) ⟨Nat.le_refl _, Nat.le_refl _⟩ ⟨Nat.le_refl _, Nat.le_refl _⟩ dX12_workSum_26) (fun H locs hM => ?_)
    exact B_X12_workSum_29 hkk hrc E  hf hM (lv_sub hl [1, 2, 0] rfl)
  · have hf := jf c61 hf
    refine lv_iconst (v := (-1 : Int32)) hx hb dX12_workSum_15 (by decide) ?_
    refine lv_goto (tgt := 29) hx hb dX12_workSum_16 (by decide) ?_
    exact B_X12_workSum_29 hkk hrc E  hf hM (lv_sub hl [1, 2, 0] rfl)
set_option maxRecDepth 100000 in
theorem D_X12_workSum {l : Launch} {g : jG} {rc : Nat → Nat → Int32 → Int32 → jM → Option (Int32 × jM)} {kk : Nat} (hkk : 16 ≤ kk) (hrc : jrc_V l g kk rc) {a0 : Nat} {a1 : Int32} {S : jM} {rr : Int32} {SS : jM} (hf : f_X12_workSum rc a0 a1 S = some (rr, SS)) : jMet l g yX12_workSum cX12_workSum 11 (some .int) (kk + 1) 0 0 [.ref (g.2.2 + a0), .int a1] S (jQi g rr SS) := by
  refine jof (by decide +kernel) (Nat.le_of_ble_eq_true rfl) ?_
  intro p e s m below meth c E hM ls hl
  have hl : lv_has ls 11 [(0, .ref (g.2.2 + a0)),(1, .int a1)] := hl
  exact B_X12_workSum_0 hkk hrc E hf hM hl
-- PensionHouseModel.workMore
noncomputable def f_X12_workMore_106 (rc : Nat → Nat → Int32 → Int32 → jM → Option (Int32 × jM)) (v0 : Nat) (v2 : Int32) (v3 : Int32) (v4 : Int32) (v5 : Int32) (S : jM) : Option (Int32 × jM) := if v2 = (1 : Int32) then if jK v0 = 10 then jbd (f_X12_best v0 v3 v4 S) (fun x1 S2 => some (x1, S2)) else none else if v2 = (9 : Int32) then if jK v0 = 10 then jbd (f_X12_join v0 v3 v4 S) (fun x6 S7 => some (x6, S7)) else none else if v2 = (10 : Int32) then if jK v0 = 10 then jbd (f_X12_last v0 v3 v4 S) (fun x11 S12 => some (x11, S12)) else none else if v2 = (12 : Int32) then if jK v0 = 10 then jbd (f_X12_extreme v0 v2 v3 v4 S) (fun x16 S17 => some (x16, S17)) else none else if v2 = (13 : Int32) then if jK v0 = 10 then jbd (f_X12_extreme v0 v2 v3 v4 S) (fun x21 S22 => some (x21, S22)) else none else if v2 = (24 : Int32) then if jK v0 = 10 then jbd (f_X12_with v0 v3 v4 v5 S) (fun x26 S27 => some (x26, S27)) else none else if v2 = (45 : Int32) then if jK v0 = 10 then jbd (f_X12_compare v0 v2 v3 v4 S) (fun x31 S32 => some (x31, S32)) else none else if v2 = (46 : Int32) then if jK v0 = 10 then jbd (f_X12_compare v0 v2 v3 v4 S) (fun x36 S37 => some (x36, S37)) else none else if v2 = (51 : Int32) then if jK v0 = 10 then jbd (f_X12_item v0 v3 v4 S) (fun x41 S42 => some (x41, S42)) else none else if v2 = (137 : Int32) then if jK v0 = 10 then jbd (f_X12_arithmetic v0 v2 v3 v4 S) (fun x46 S47 => some (x46, S47)) else none else if v2 = (142 : Int32) then if jK v0 = 10 then jbd (f_X12_arithmetic v0 v2 v3 v4 S) (fun x51 S52 => some (x51, S52)) else none else if v2 = (143 : Int32) then if jK v0 = 10 then jbd (f_X12_arithmetic v0 v2 v3 v4 S) (fun x56 S57 => some (x56, S57)) else none else if v2 = (145 : Int32) then if jK v0 = 10 then jbd (f_X12_arithmetic v0 v2 v3 v4 S) (fun x61 S62 => some (x61, S62)) else none else if v2 = (147 : Int32) then if jK v0 = 10 then jbd (f_X12_arithmetic v0 v2 v3 v4 S) (fun x66 S67 => some (x66, S67)) else none else if v2 = (160 : Int32) then if jK v0 = 10 then jbd (f_X12_compare v0 v2 v3 v4 S) (fun x71 S72 => some (x71, S72)) else none else if v2 = (161 : Int32) then if jK v0 = 10 then jbd (f_X12_compare v0 v2 v3 v4 S) (fun x76 S77 => some (x76, S77)) else none else if jK v0 = 10 then jbd (f_X12_function v0 v2 v3 S) (fun x81 S82 => some (x81, S82)) else none
noncomputable def f_X12_workMore_90 (rc : Nat → Nat → Int32 → Int32 → jM → Option (Int32 × jM)) (v0 : Nat) (v1 : Int32) (v2 : Int32) (v3 : Int32) (v4 : Int32) (v5 : Int32) (S : jM) : Option (Int32 × jM) := if jK v0 = 10 then (jR S 106 v0).bind (fun r86 => if jA r86 13 v1 = true then if (jAI S r86 (v1).toNatClampNeg) < 0 then f_X12_workMore_106 rc v0 v2 v3 v4 v5 S else if 0 ≤ v5 then f_X12_workMore_106 rc v0 v2 v3 v4 v5 S else some ((-1 : Int32), S) else none) else none
noncomputable def f_X12_workMore_72 (rc : Nat → Nat → Int32 → Int32 → jM → Option (Int32 × jM)) (v0 : Nat) (v1 : Int32) (v2 : Int32) (v3 : Int32) (v4 : Int32) (v5 : Int32) (S : jM) : Option (Int32 × jM) := if v3 < 0 then some ((-1 : Int32), S) else if jK v0 = 10 then (jR S 105 v0).bind (fun r93 => if jA r93 13 v1 = true then if (jAI S r93 (v1).toNatClampNeg) < 0 then f_X12_workMore_90 rc v0 v1 v2 v3 v4 v5 S else if v4 < 0 then some ((-1 : Int32), S) else f_X12_workMore_90 rc v0 v1 v2 v3 v4 v5 S else none) else none
noncomputable def f_X12_workMore_42 (rc : Nat → Nat → Int32 → Int32 → jM → Option (Int32 × jM)) (v0 : Nat) (v1 : Int32) (v2 : Int32) (v3 : Int32) (v4 : Int32) (v5 : Int32) (S : jM) : Option (Int32 × jM) := if v3 < 0 then f_X12_workMore_72 rc v0 v1 v2 v3 v4 v5 S else if v4 < 0 then f_X12_workMore_72 rc v0 v1 v2 v3 v4 v5 S else if jK v0 = 10 then (jR S 106 v0).bind (fun r101 => if jA r101 13 v1 = true then if (jAI S r101 (v1).toNatClampNeg) < 0 then f_X12_workMore_72 rc v0 v1 v2 v3 v4 v5 S else (jR S 106 v0).bind (fun r105 => if jA r105 13 v1 = true then jbd (rc 1 v0 (jAI S r105 (v1).toNatClampNeg) 0 S) (fun x108 S109 => f_X12_workMore_72 rc v0 v1 v2 v3 v4 x108 S109) else none) else none) else none
noncomputable def f_X12_workMore (rc : Nat → Nat → Int32 → Int32 → jM → Option (Int32 × jM)) (v0 : Nat) (v1 : Int32) (v2 : Int32) (S : jM) : Option (Int32 × jM) := if jK v0 = 10 then (jR S 104 v0).bind (fun r112 => if jA r112 13 v1 = true then jbd (rc 1 v0 (jAI S r112 (v1).toNatClampNeg) 0 S) (fun x115 S116 => if x115 < 0 then f_X12_workMore_42 rc v0 v1 v2 x115 (-1 : Int32) (-1 : Int32) S116 else (jR S116 105 v0).bind (fun r119 => if jA r119 13 v1 = true then if (jAI S116 r119 (v1).toNatClampNeg) < 0 then f_X12_workMore_42 rc v0 v1 v2 x115 (-1 : Int32) (-1 : Int32) S116 else (jR S116 105 v0).bind (fun r123 => if jA r123 13 v1 = true then jbd (rc 1 v0 (jAI S116 r123 (v1).toNatClampNeg) 0 S116) (fun x126 S127 => f_X12_workMore_42 rc v0 v1 v2 x115 x126 (-1 : Int32) S127) else none) else none)) else none) else none
set_option maxRecDepth 100000 in
set_option maxHeartbeats 4000000 in
theorem B_X12_workMore_106 {p : Program} {l : Launch} {e : Env} {s : State} {m : MethodId} {args : Array Value} {below : List Frame} {meth : Method} {c : Code} {g : jG} {rc : Nat → Nat → Int32 → Int32 → jM → Option (Int32 × jM)} {kk : Nat} (hkk : 16 ≤ kk) (hrc : jrc_V l g kk rc) {rr : Int32} {SS : jM} {v0 : Nat} {v2 : Int32} {v3 : Int32} {v4 : Int32} {v5 : Int32} {S : jM} (E : jEnv p s m args meth c cX12_workMore "PensionHouseModel" (some .int) 6 g)  {H : Heap} {locs : List Loc} {ls : Array Slot} (hf : f_X12_workMore_106 rc v0 v2 v3 v4 v5 S = some (rr, SS)) (hM : jAt g S s H locs) (hl : lv_has ls 6 [(0, .ref (g.2.2 + v0)), (2, .int v2), (3, .int v3), (4, .int v4), (5, .int v5)]) : W p l e (jRm (kk + 1) 0 0) s m args below meth c H locs 0 0 (MQ below (jQi g rr SS) args s 0 0 (jA0 g)) (F0 m 106 ls []) := by
  obtain ⟨hx, hb, hml, -, hts, hown, hK, -, hstr⟩ := id E
  unfold f_X12_workMore_106 at hf
  refine lv_iload_n hx hb dX12_workMore_106 rfl (lv_at hl 1 rfl) ?_
  by_cases c5 : v2 = (1 : Int32)
  · have hf := jt c5 hf
    refine lv_lookup (off := 198) (tgt := 305) hx hb dX12_workMore_107 (by decide) (by rw [c5]; rfl) (by decide) ?_
    refine lv_aload_n hx hb dX12_workMore_305 rfl (lv_at hl 0 rfl) ?_
    refine lv_iload_n hx hb dX12_workMore_306 rfl (lv_at hl 2 rfl) ?_
    refine lv_iload hx hb dX12_workMore_307 (lv_at hl 3 rfl) ?_
    obtain ⟨hq4, hf⟩ := jif hf
    obtain ⟨x1, S2, hc3, hf⟩ := jbd_e hf
    refine jbackI hM (jrunV E hM ci_X12_best (C_X12_best hc3) lk_8_198 hq4 (by decide) rfl hl.1 rfl rfl (Nat.le_of_ble_eq_true rfl) ⟨by show 5 + 1 ≤ kk + 1; omega, by show 49 * (5 + 1) ≤ 49 * (kk + 1); omega⟩ ⟨Nat.le_refl _, Nat.le_refl _⟩ dX12_workMore_309) (fun H locs hM => ?_)
    exact jireti (jr2 hf) E hM dX12_workMore_312
  have hf := jf c5 hf
  by_cases c10 : v2 = (9 : Int32)
  · have hf := jt c10 hf
    refine lv_lookup (off := 180) (tgt := 287) hx hb dX12_workMore_107 (by decide) (by rw [c10]; rfl) (by decide) ?_
    refine lv_aload_n hx hb dX12_workMore_287 rfl (lv_at hl 0 rfl) ?_
    refine lv_iload_n hx hb dX12_workMore_288 rfl (lv_at hl 2 rfl) ?_
    refine lv_iload hx hb dX12_workMore_289 (lv_at hl 3 rfl) ?_
    obtain ⟨hq9, hf⟩ := jif hf
    obtain ⟨x6, S7, hc8, hf⟩ := jbd_e hf
    refine jbackI hM (jrunV E hM ci_X12_join (C_X12_join hc8) lk_8_190 hq9 (by decide) rfl hl.1 rfl rfl (Nat.le_of_ble_eq_true rfl) ⟨by show 4 + 1 ≤ kk + 1; omega, by show 49 * (4 + 1) ≤ 49 * (kk + 1); omega⟩ ⟨Nat.le_refl _, Nat.le_refl _⟩ dX12_workMore_291) (fun H locs hM => ?_)
    exact jireti (jr2 hf) E hM dX12_workMore_294
  have hf := jf c10 hf
  by_cases c15 : v2 = (10 : Int32)
  · have hf := jt c15 hf
    refine lv_lookup (off := 172) (tgt := 279) hx hb dX12_workMore_107 (by decide) (by rw [c15]; rfl) (by decide) ?_
    refine lv_aload_n hx hb dX12_workMore_279 rfl (lv_at hl 0 rfl) ?_
    refine lv_iload_n hx hb dX12_workMore_280 rfl (lv_at hl 2 rfl) ?_
    refine lv_iload hx hb dX12_workMore_281 (lv_at hl 3 rfl) ?_
    obtain ⟨hq14, hf⟩ := jif hf
    obtain ⟨x11, S12, hc13, hf⟩ := jbd_e hf
    refine jbackI hM (jrunV E hM ci_X12_last (C_X12_last hc13) lk_8_182 hq14 (by decide) rfl hl.1 rfl rfl (Nat.le_of_ble_eq_true rfl) ⟨by show 4 + 1 ≤ kk + 1; omega, by show 49 * (4 + 1) ≤ 49 * (kk + 1); omega⟩ ⟨Nat.le_refl _, Nat.le_refl _⟩ dX12_workMore_283) (fun H locs hM => ?_)
    exact jireti (jr2 hf) E hM dX12_workMore_286
  have hf := jf c15 hf
  by_cases c20 : v2 = (12 : Int32)
  · have hf := jt c20 hf
    refine lv_lookup (off := 163) (tgt := 270) hx hb dX12_workMore_107 (by decide) (by rw [c20]; rfl) (by decide) ?_
    refine lv_aload_n hx hb dX12_workMore_270 rfl (lv_at hl 0 rfl) ?_
    refine lv_iload_n hx hb dX12_workMore_271 rfl (lv_at hl 1 rfl) ?_
    refine lv_iload_n hx hb dX12_workMore_272 rfl (lv_at hl 2 rfl) ?_
    refine lv_iload hx hb dX12_workMore_273 (lv_at hl 3 rfl) ?_
    obtain ⟨hq19, hf⟩ := jif hf
    obtain ⟨x16, S17, hc18, hf⟩ := jbd_e hf
    refine jbackI hM (jrunV E hM ci_X12_extreme (C_X12_extreme hc18) lk_8_172 hq19 (by decide) rfl hl.1 rfl rfl (Nat.le_of_ble_eq_true rfl) ⟨by show 5 + 1 ≤ kk + 1; omega, by show 49 * (5 + 1) ≤ 49 * (kk + 1); omega⟩ ⟨Nat.le_refl _, Nat.le_refl _⟩ dX12_workMore_275) (fun H locs hM => ?_)
    exact jireti (jr2 hf) E hM dX12_workMore_278
  have hf := jf c20 hf
  by_cases c25 : v2 = (13 : Int32)
  · have hf := jt c25 hf
    refine lv_lookup (off := 163) (tgt := 270) hx hb dX12_workMore_107 (by decide) (by rw [c25]; rfl) (by decide) ?_
    refine lv_aload_n hx hb dX12_workMore_270 rfl (lv_at hl 0 rfl) ?_
    refine lv_iload_n hx hb dX12_workMore_271 rfl (lv_at hl 1 rfl) ?_
    refine lv_iload_n hx hb dX12_workMore_272 rfl (lv_at hl 2 rfl) ?_
    refine lv_iload hx hb dX12_workMore_273 (lv_at hl 3 rfl) ?_
    obtain ⟨hq24, hf⟩ := jif hf
    obtain ⟨x21, S22, hc23, hf⟩ := jbd_e hf
    refine jbackI hM (jrunV E hM ci_X12_extreme (C_X12_extreme hc23) lk_8_172 hq24 (by decide) rfl hl.1 rfl rfl (Nat.le_of_ble_eq_true rfl) ⟨by show 5 + 1 ≤ kk + 1; omega, by show 49 * (5 + 1) ≤ 49 * (kk + 1); omega⟩ ⟨Nat.le_refl _, Nat.le_refl _⟩ dX12_workMore_275) (fun H locs hM => ?_)
    exact jireti (jr2 hf) E hM dX12_workMore_278
  have hf := jf c25 hf
  by_cases c30 : v2 = (24 : Int32)
  · have hf := jt c30 hf
    refine lv_lookup (off := 188) (tgt := 295) hx hb dX12_workMore_107 (by decide) (by rw [c30]; rfl) (by decide) ?_
    refine lv_aload_n hx hb dX12_workMore_295 rfl (lv_at hl 0 rfl) ?_
    refine lv_iload_n hx hb dX12_workMore_296 rfl (lv_at hl 2 rfl) ?_
    refine lv_iload hx hb dX12_workMore_297 (lv_at hl 3 rfl) ?_
    refine lv_iload hx hb dX12_workMore_299 (lv_at hl 4 rfl) ?_
    obtain ⟨hq29, hf⟩ := jif hf
    obtain ⟨x26, S27, hc28, hf⟩ := jbd_e hf
    refine jbackI hM (jrunV E hM ci_X12_with (C_X12_with hc28) lk_8_194 hq29 (by decide) rfl hl.1 rfl rfl (Nat.le_of_ble_eq_true rfl) ⟨by show 4 + 1 ≤ kk + 1; omega, by show 49 * (4 + 1) ≤ 49 * (kk + 1); omega⟩ ⟨Nat.le_refl _, Nat.le_refl _⟩ dX12_workMore_301) (fun H locs hM => ?_)
    exact jireti (jr2 hf) E hM dX12_workMore_304
  have hf := jf c30 hf
  by_cases c35 : v2 = (45 : Int32)
  · have hf := jt c35 hf
    refine lv_lookup (off := 146) (tgt := 253) hx hb dX12_workMore_107 (by decide) (by rw [c35]; rfl) (by decide) ?_
    refine lv_aload_n hx hb dX12_workMore_253 rfl (lv_at hl 0 rfl) ?_
    refine lv_iload_n hx hb dX12_workMore_254 rfl (lv_at hl 1 rfl) ?_
    refine lv_iload_n hx hb dX12_workMore_255 rfl (lv_at hl 2 rfl) ?_
    refine lv_iload hx hb dX12_workMore_256 (lv_at hl 3 rfl) ?_
    obtain ⟨hq34, hf⟩ := jif hf
    obtain ⟨x31, S32, hc33, hf⟩ := jbd_e hf
    refine jbackI hM (jrunV E hM ci_X12_compare (C_X12_compare hc33) lk_8_164 hq34 (by decide) rfl hl.1 rfl rfl (Nat.le_of_ble_eq_true rfl) ⟨by show 5 + 1 ≤ kk + 1; omega, by show 49 * (5 + 1) ≤ 49 * (kk + 1); omega⟩ ⟨Nat.le_refl _, Nat.le_refl _⟩ dX12_workMore_258) (fun H locs hM => ?_)
    exact jireti (jr2 hf) E hM dX12_workMore_261
  have hf := jf c35 hf
  by_cases c40 : v2 = (46 : Int32)
  · have hf := jt c40 hf
    refine lv_lookup (off := 146) (tgt := 253) hx hb dX12_workMore_107 (by decide) (by rw [c40]; rfl) (by decide) ?_
    refine lv_aload_n hx hb dX12_workMore_253 rfl (lv_at hl 0 rfl) ?_
    refine lv_iload_n hx hb dX12_workMore_254 rfl (lv_at hl 1 rfl) ?_
    refine lv_iload_n hx hb dX12_workMore_255 rfl (lv_at hl 2 rfl) ?_
    refine lv_iload hx hb dX12_workMore_256 (lv_at hl 3 rfl) ?_
    obtain ⟨hq39, hf⟩ := jif hf
    obtain ⟨x36, S37, hc38, hf⟩ := jbd_e hf
    refine jbackI hM (jrunV E hM ci_X12_compare (C_X12_compare hc38) lk_8_164 hq39 (by decide) rfl hl.1 rfl rfl (Nat.le_of_ble_eq_true rfl) ⟨by show 5 + 1 ≤ kk + 1; omega, by show 49 * (5 + 1) ≤ 49 * (kk + 1); omega⟩ ⟨Nat.le_refl _, Nat.le_refl _⟩ dX12_workMore_258) (fun H locs hM => ?_)
    exact jireti (jr2 hf) E hM dX12_workMore_261
  have hf := jf c40 hf
  by_cases c45 : v2 = (51 : Int32)
  · have hf := jt c45 hf
    refine lv_lookup (off := 155) (tgt := 262) hx hb dX12_workMore_107 (by decide) (by rw [c45]; rfl) (by decide) ?_
    refine lv_aload_n hx hb dX12_workMore_262 rfl (lv_at hl 0 rfl) ?_
    refine lv_iload_n hx hb dX12_workMore_263 rfl (lv_at hl 2 rfl) ?_
    refine lv_iload hx hb dX12_workMore_264 (lv_at hl 3 rfl) ?_
    obtain ⟨hq44, hf⟩ := jif hf
    obtain ⟨x41, S42, hc43, hf⟩ := jbd_e hf
    refine jbackI hM (jrunV E hM ci_X12_item (C_X12_item hc43) lk_8_168 hq44 (by decide) rfl hl.1 rfl rfl (Nat.le_of_ble_eq_true rfl) ⟨by show 5 + 1 ≤ kk + 1; omega, by show 49 * (5 + 1) ≤ 49 * (kk + 1); omega⟩ ⟨Nat.le_refl _, Nat.le_refl _⟩ dX12_workMore_266) (fun H locs hM => ?_)
    exact jireti (jr2 hf) E hM dX12_workMore_269
  have hf := jf c45 hf
  by_cases c50 : v2 = (137 : Int32)
  · have hf := jt c50 hf
    refine lv_lookup (off := 137) (tgt := 244) hx hb dX12_workMore_107 (by decide) (by rw [c50]; rfl) (by decide) ?_
    refine lv_aload_n hx hb dX12_workMore_244 rfl (lv_at hl 0 rfl) ?_
    refine lv_iload_n hx hb dX12_workMore_245 rfl (lv_at hl 1 rfl) ?_
    refine lv_iload_n hx hb dX12_workMore_246 rfl (lv_at hl 2 rfl) ?_
    refine lv_iload hx hb dX12_workMore_247 (lv_at hl 3 rfl) ?_
    obtain ⟨hq49, hf⟩ := jif hf
    obtain ⟨x46, S47, hc48, hf⟩ := jbd_e hf
    refine jbackI hM (jrunV E hM ci_X12_arithmetic (C_X12_arithmetic hc48) lk_8_130 hq49 (by decide) rfl hl.1 rfl rfl (Nat.le_of_ble_eq_true rfl) ⟨by show 6 + 1 ≤ kk + 1; omega, by show 49 * (6 + 1) ≤ 49 * (kk + 1); omega⟩ ⟨Nat.le_refl _, Nat.le_refl _⟩ dX12_workMore_249) (fun H locs hM => ?_)
    exact jireti (jr2 hf) E hM dX12_workMore_252
  have hf := jf c50 hf
  by_cases c55 : v2 = (142 : Int32)
  · have hf := jt c55 hf
    refine lv_lookup (off := 137) (tgt := 244) hx hb dX12_workMore_107 (by decide) (by rw [c55]; rfl) (by decide) ?_
    refine lv_aload_n hx hb dX12_workMore_244 rfl (lv_at hl 0 rfl) ?_
    refine lv_iload_n hx hb dX12_workMore_245 rfl (lv_at hl 1 rfl) ?_
    refine lv_iload_n hx hb dX12_workMore_246 rfl (lv_at hl 2 rfl) ?_
    refine lv_iload hx hb dX12_workMore_247 (lv_at hl 3 rfl) ?_
    obtain ⟨hq54, hf⟩ := jif hf
    obtain ⟨x51, S52, hc53, hf⟩ := jbd_e hf
    refine jbackI hM (jrunV E hM ci_X12_arithmetic (C_X12_arithmetic hc53) lk_8_130 hq54 (by decide) rfl hl.1 rfl rfl (Nat.le_of_ble_eq_true rfl) ⟨by show 6 + 1 ≤ kk + 1; omega, by show 49 * (6 + 1) ≤ 49 * (kk + 1); omega⟩ ⟨Nat.le_refl _, Nat.le_refl _⟩ dX12_workMore_249) (fun H locs hM => ?_)
    exact jireti (jr2 hf) E hM dX12_workMore_252
  have hf := jf c55 hf
  by_cases c60 : v2 = (143 : Int32)
  · have hf := jt c60 hf
    refine lv_lookup (off := 137) (tgt := 244) hx hb dX12_workMore_107 (by decide) (by rw [c60]; rfl) (by decide) ?_
    refine lv_aload_n hx hb dX12_workMore_244 rfl (lv_at hl 0 rfl) ?_
    refine lv_iload_n hx hb dX12_workMore_245 rfl (lv_at hl 1 rfl) ?_
    refine lv_iload_n hx hb dX12_workMore_246 rfl (lv_at hl 2 rfl) ?_
    refine lv_iload hx hb dX12_workMore_247 (lv_at hl 3 rfl) ?_
    obtain ⟨hq59, hf⟩ := jif hf
    obtain ⟨x56, S57, hc58, hf⟩ := jbd_e hf
    refine jbackI hM (jrunV E hM ci_X12_arithmetic (C_X12_arithmetic hc58) lk_8_130 hq59 (by decide) rfl hl.1 rfl rfl (Nat.le_of_ble_eq_true rfl) ⟨by show 6 + 1 ≤ kk + 1; omega, by show 49 * (6 + 1) ≤ 49 * (kk + 1); omega⟩ ⟨Nat.le_refl _, Nat.le_refl _⟩ dX12_workMore_249) (fun H locs hM => ?_)
    exact jireti (jr2 hf) E hM dX12_workMore_252
  have hf := jf c60 hf
  by_cases c65 : v2 = (145 : Int32)
  · have hf := jt c65 hf
    refine lv_lookup (off := 137) (tgt := 244) hx hb dX12_workMore_107 (by decide) (by rw [c65]; rfl) (by decide) ?_
    refine lv_aload_n hx hb dX12_workMore_244 rfl (lv_at hl 0 rfl) ?_
    refine lv_iload_n hx hb dX12_workMore_245 rfl (lv_at hl 1 rfl) ?_
    refine lv_iload_n hx hb dX12_workMore_246 rfl (lv_at hl 2 rfl) ?_
    refine lv_iload hx hb dX12_workMore_247 (lv_at hl 3 rfl) ?_
    obtain ⟨hq64, hf⟩ := jif hf
    obtain ⟨x61, S62, hc63, hf⟩ := jbd_e hf
    refine jbackI hM (jrunV E hM ci_X12_arithmetic (C_X12_arithmetic hc63) lk_8_130 hq64 (by decide) rfl hl.1 rfl rfl (Nat.le_of_ble_eq_true rfl) ⟨by show 6 + 1 ≤ kk + 1; omega, by show 49 * (6 + 1) ≤ 49 * (kk + 1); omega⟩ ⟨Nat.le_refl _, Nat.le_refl _⟩ dX12_workMore_249) (fun H locs hM => ?_)
    exact jireti (jr2 hf) E hM dX12_workMore_252
  have hf := jf c65 hf
  by_cases c70 : v2 = (147 : Int32)
  · have hf := jt c70 hf
    refine lv_lookup (off := 137) (tgt := 244) hx hb dX12_workMore_107 (by decide) (by rw [c70]; rfl) (by decide) ?_
    refine lv_aload_n hx hb dX12_workMore_244 rfl (lv_at hl 0 rfl) ?_
    refine lv_iload_n hx hb dX12_workMore_245 rfl (lv_at hl 1 rfl) ?_
    refine lv_iload_n hx hb dX12_workMore_246 rfl (lv_at hl 2 rfl) ?_
    refine lv_iload hx hb dX12_workMore_247 (lv_at hl 3 rfl) ?_
    obtain ⟨hq69, hf⟩ := jif hf
    obtain ⟨x66, S67, hc68, hf⟩ := jbd_e hf
    refine jbackI hM (jrunV E hM ci_X12_arithmetic (C_X12_arithmetic hc68) lk_8_130 hq69 (by decide) rfl hl.1 rfl rfl (Nat.le_of_ble_eq_true rfl) ⟨by show 6 + 1 ≤ kk + 1; omega, by show 49 * (6 + 1) ≤ 49 * (kk + 1); omega⟩ ⟨Nat.le_refl _, Nat.le_refl _⟩ dX12_workMore_249) (fun H locs hM => ?_)
    exact jireti (jr2 hf) E hM dX12_workMore_252
  have hf := jf c70 hf
  by_cases c75 : v2 = (160 : Int32)
  · have hf := jt c75 hf
    refine lv_lookup (off := 146) (tgt := 253) hx hb dX12_workMore_107 (by decide) (by rw [c75]; rfl) (by decide) ?_
    refine lv_aload_n hx hb dX12_workMore_253 rfl (lv_at hl 0 rfl) ?_
    refine lv_iload_n hx hb dX12_workMore_254 rfl (lv_at hl 1 rfl) ?_
    refine lv_iload_n hx hb dX12_workMore_255 rfl (lv_at hl 2 rfl) ?_
    refine lv_iload hx hb dX12_workMore_256 (lv_at hl 3 rfl) ?_
    obtain ⟨hq74, hf⟩ := jif hf
    obtain ⟨x71, S72, hc73, hf⟩ := jbd_e hf
    refine jbackI hM (jrunV E hM ci_X12_compare (C_X12_compare hc73) lk_8_164 hq74 (by decide) rfl hl.1 rfl rfl (Nat.le_of_ble_eq_true rfl) ⟨by show 5 + 1 ≤ kk + 1; omega, by show 49 * (5 + 1) ≤ 49 * (kk + 1); omega⟩ ⟨Nat.le_refl _, Nat.le_refl _⟩ dX12_workMore_258) (fun H locs hM => ?_)
    exact jireti (jr2 hf) E hM dX12_workMore_261
  have hf := jf c75 hf
  by_cases c80 : v2 = (161 : Int32)
  · have hf := jt c80 hf
    refine lv_lookup (off := 146) (tgt := 253) hx hb dX12_workMore_107 (by decide) (by rw [c80]; rfl) (by decide) ?_
    refine lv_aload_n hx hb dX12_workMore_253 rfl (lv_at hl 0 rfl) ?_
    refine lv_iload_n hx hb dX12_workMore_254 rfl (lv_at hl 1 rfl) ?_
    refine lv_iload_n hx hb dX12_workMore_255 rfl (lv_at hl 2 rfl) ?_
    refine lv_iload hx hb dX12_workMore_256 (lv_at hl 3 rfl) ?_
    obtain ⟨hq79, hf⟩ := jif hf
    obtain ⟨x76, S77, hc78, hf⟩ := jbd_e hf
    refine jbackI hM (jrunV E hM ci_X12_compare (C_X12_compare hc78) lk_8_164 hq79 (by decide) rfl hl.1 rfl rfl (Nat.le_of_ble_eq_true rfl) ⟨by show 5 + 1 ≤ kk + 1; omega, by show 49 * (5 + 1) ≤ 49 * (kk + 1); omega⟩ ⟨Nat.le_refl _, Nat.le_refl _⟩ dX12_workMore_258) (fun H locs hM => ?_)
    exact jireti (jr2 hf) E hM dX12_workMore_261
  have hf := jf c80 hf
  refine jlookD (tgt := 313) hx hb dX12_workMore_107 (by decide) (by decide) (List.forall_mem_cons.mpr ⟨jne (k := 1) c5 rfl, List.forall_mem_cons.mpr ⟨jne (k := 9) c10 rfl, List.forall_mem_cons.mpr ⟨jne (k := 10) c15 rfl, List.forall_mem_cons.mpr ⟨jne (k := 12) c20 rfl, List.forall_mem_cons.mpr ⟨jne (k := 13) c25 rfl, List.forall_mem_cons.mpr ⟨jne (k := 24) c30 rfl, List.forall_mem_cons.mpr ⟨jne (k := 45) c35 rfl, List.forall_mem_cons.mpr ⟨jne (k := 46) c40 rfl, List.forall_mem_cons.mpr ⟨jne (k := 51) c45 rfl, List.forall_mem_cons.mpr ⟨jne (k := 137) c50 rfl, List.forall_mem_cons.mpr ⟨jne (k := 142) c55 rfl, List.forall_mem_cons.mpr ⟨jne (k := 143) c60 rfl, List.forall_mem_cons.mpr ⟨jne (k := 145) c65 rfl, List.forall_mem_cons.mpr ⟨jne (k := 147) c70 rfl, List.forall_mem_cons.mpr ⟨jne (k := 160) c75 rfl, List.forall_mem_cons.mpr ⟨jne (k := 161) c80 rfl, fun _ h => absurd h List.not_mem_nil⟩⟩⟩⟩⟩⟩⟩⟩⟩⟩⟩⟩⟩⟩⟩⟩) ?_
  refine lv_aload_n hx hb dX12_workMore_313 rfl (lv_at hl 0 rfl) ?_
  refine lv_iload_n hx hb dX12_workMore_314 rfl (lv_at hl 1 rfl) ?_
  refine lv_iload_n hx hb dX12_workMore_315 rfl (lv_at hl 2 rfl) ?_
  obtain ⟨hq84, hf⟩ := jif hf
  obtain ⟨x81, S82, hc83, hf⟩ := jbd_e hf
  refine jbackI hM (jrunV E hM ci_X12_function (C_X12_function hc83) lk_8_202 hq84 (by decide) rfl hl.1 rfl rfl (Nat.le_of_ble_eq_true rfl) ⟨by show 5 + 1 ≤ kk + 1; omega, by show 49 * (5 + 1) ≤ 49 * (kk + 1); omega⟩ ⟨Nat.le_refl _, Nat.le_refl _⟩ dX12_workMore_316) (fun H locs hM => ?_)
  exact jireti (jr2 hf) E hM dX12_workMore_319
set_option maxRecDepth 100000 in
set_option maxHeartbeats 4000000 in
theorem B_X12_workMore_90 {p : Program} {l : Launch} {e : Env} {s : State} {m : MethodId} {args : Array Value} {below : List Frame} {meth : Method} {c : Code} {g : jG} {rc : Nat → Nat → Int32 → Int32 → jM → Option (Int32 × jM)} {kk : Nat} (hkk : 16 ≤ kk) (hrc : jrc_V l g kk rc) {rr : Int32} {SS : jM} {v0 : Nat} {v1 : Int32} {v2 : Int32} {v3 : Int32} {v4 : Int32} {v5 : Int32} {S : jM} (E : jEnv p s m args meth c cX12_workMore "PensionHouseModel" (some .int) 6 g)  {H : Heap} {locs : List Loc} {ls : Array Slot} (hf : f_X12_workMore_90 rc v0 v1 v2 v3 v4 v5 S = some (rr, SS)) (hM : jAt g S s H locs) (hl : lv_has ls 6 [(0, .ref (g.2.2 + v0)), (1, .int v1), (2, .int v2), (3, .int v3), (4, .int v4), (5, .int v5)]) : W p l e (jRm (kk + 1) 0 0) s m args below meth c H locs 0 0 (MQ below (jQi g rr SS) args s 0 0 (jA0 g)) (F0 m 90 ls []) := by
  obtain ⟨hx, hb, hml, -, hts, hown, hK, -, hstr⟩ := id E
  unfold f_X12_workMore_90 at hf
  refine lv_aload_n hx hb dX12_workMore_90 rfl (lv_at hl 0 rfl) ?_
  obtain ⟨hq85, hf⟩ := jif hf
  refine gt_106 E hM hq85 lk_6_20 dX12_workMore_91 ?_
  obtain ⟨r86, hr87, hf⟩ := jb hf
  rw [hr87]
  show W p l e _ s m args below meth c H locs 0 0 _ (F0 m _ ls (.ref (g.2.2 + r86) :: _))
  refine lv_iload_n hx hb dX12_workMore_94 rfl (lv_at hl 1 rfl) ?_
  obtain ⟨ha88, hf⟩ := jif hf
  refine jiald E hM ha88 dX12_workMore_95 ?_
  refine lv_if_lt (tgt := 106) hx hb dX12_workMore_96 (by decide) (fun c89 => ?_) (fun c89 => ?_)
  · have hf := jt c89 hf
    exact B_X12_workMore_106 hkk hrc E  hf hM (lv_sub hl [0, 2, 3, 4, 5] rfl)
  · have hf := jf c89 hf
    refine lv_iload hx hb dX12_workMore_99 (lv_at hl 5 rfl) ?_
    refine lv_if_ge (tgt := 106) hx hb dX12_workMore_101 (by decide) (fun c90 => ?_) (fun c90 => ?_)
    · have hf := jt c90 hf
      exact B_X12_workMore_106 hkk hrc E  hf hM (lv_sub hl [0, 2, 3, 4, 5] rfl)
    · have hf := jf c90 hf
      refine lv_iconst (v := (-1 : Int32)) hx hb dX12_workMore_104 (by decide) ?_
      exact jireti (jr2 hf) E hM dX12_workMore_105
set_option maxRecDepth 100000 in
set_option maxHeartbeats 4000000 in
theorem B_X12_workMore_72 {p : Program} {l : Launch} {e : Env} {s : State} {m : MethodId} {args : Array Value} {below : List Frame} {meth : Method} {c : Code} {g : jG} {rc : Nat → Nat → Int32 → Int32 → jM → Option (Int32 × jM)} {kk : Nat} (hkk : 16 ≤ kk) (hrc : jrc_V l g kk rc) {rr : Int32} {SS : jM} {v0 : Nat} {v1 : Int32} {v2 : Int32} {v3 : Int32} {v4 : Int32} {v5 : Int32} {S : jM} (E : jEnv p s m args meth c cX12_workMore "PensionHouseModel" (some .int) 6 g)  {H : Heap} {locs : List Loc} {ls : Array Slot} (hf : f_X12_workMore_72 rc v0 v1 v2 v3 v4 v5 S = some (rr, SS)) (hM : jAt g S s H locs) (hl : lv_has ls 6 [(0, .ref (g.2.2 + v0)), (1, .int v1), (2, .int v2), (3, .int v3), (4, .int v4), (5, .int v5)]) : W p l e (jRm (kk + 1) 0 0) s m args below meth c H locs 0 0 (MQ below (jQi g rr SS) args s 0 0 (jA0 g)) (F0 m 72 ls []) := by
  obtain ⟨hx, hb, hml, -, hts, hown, hK, -, hstr⟩ := id E
  unfold f_X12_workMore_72 at hf
  refine lv_iload_n hx hb dX12_workMore_72 rfl (lv_at hl 3 rfl) ?_
  refine lv_if_lt (tgt := 104) hx hb dX12_workMore_73 (by decide) (fun c91 => ?_) (fun c91 => ?_)
  · have hf := jt c91 hf
    refine lv_iconst (v := (-1 : Int32)) hx hb dX12_workMore_104 (by decide) ?_
    exact jireti (jr2 hf) E hM dX12_workMore_105
  · have hf := jf c91 hf
    refine lv_aload_n hx hb dX12_workMore_76 rfl (lv_at hl 0 rfl) ?_
    obtain ⟨hq92, hf⟩ := jif hf
    refine gt_105 E hM hq92 lk_6_19 dX12_workMore_77 ?_
    obtain ⟨r93, hr94, hf⟩ := jb hf
    rw [hr94]
    show W p l e _ s m args below meth c H locs 0 0 _ (F0 m _ ls (.ref (g.2.2 + r93) :: _))
    refine lv_iload_n hx hb dX12_workMore_80 rfl (lv_at hl 1 rfl) ?_
    obtain ⟨ha95, hf⟩ := jif hf
    refine jiald E hM ha95 dX12_workMore_81 ?_
    refine lv_if_lt (tgt := 90) hx hb dX12_workMore_82 (by decide) (fun c96 => ?_) (fun c96 => ?_)
    · have hf := jt c96 hf
      exact B_X12_workMore_90 hkk hrc E  hf hM (lv_sub hl [0, 1, 2, 3, 4, 5] rfl)
    · have hf := jf c96 hf
      refine lv_iload hx hb dX12_workMore_85 (lv_at hl 4 rfl) ?_
      refine lv_if_lt (tgt := 104) hx hb dX12_workMore_87 (by decide) (fun c97 => ?_) (fun c97 => ?_)
      · have hf := jt c97 hf
        refine lv_iconst (v := (-1 : Int32)) hx hb dX12_workMore_104 (by decide) ?_
        exact jireti (jr2 hf) E hM dX12_workMore_105
      · have hf := jf c97 hf
        exact B_X12_workMore_90 hkk hrc E  hf hM (lv_sub hl [0, 1, 2, 3, 4, 5] rfl)
set_option maxRecDepth 100000 in
set_option maxHeartbeats 4000000 in
theorem B_X12_workMore_42 {p : Program} {l : Launch} {e : Env} {s : State} {m : MethodId} {args : Array Value} {below : List Frame} {meth : Method} {c : Code} {g : jG} {rc : Nat → Nat → Int32 → Int32 → jM → Option (Int32 × jM)} {kk : Nat} (hkk : 16 ≤ kk) (hrc : jrc_V l g kk rc) {rr : Int32} {SS : jM} {v0 : Nat} {v1 : Int32} {v2 : Int32} {v3 : Int32} {v4 : Int32} {v5 : Int32} {S : jM} (E : jEnv p s m args meth c cX12_workMore "PensionHouseModel" (some .int) 6 g)  {H : Heap} {locs : List Loc} {ls : Array Slot} (hf : f_X12_workMore_42 rc v0 v1 v2 v3 v4 v5 S = some (rr, SS)) (hM : jAt g S s H locs) (hl : lv_has ls 6 [(0, .ref (g.2.2 + v0)), (1, .int v1), (2, .int v2), (3, .int v3), (4, .int v4), (5, .int v5)]) : W p l e (jRm (kk + 1) 0 0) s m args below meth c H locs 0 0 (MQ below (jQi g rr SS) args s 0 0 (jA0 g)) (F0 m 42 ls []) := by
  obtain ⟨hx, hb, hml, -, hts, hown, hK, -, hstr⟩ := id E
  unfold f_X12_workMore_42 at hf
  refine lv_iload_n hx hb dX12_workMore_42 rfl (lv_at hl 3 rfl) ?_
  refine lv_if_lt (tgt := 72) hx hb dX12_workMore_43 (by decide) (fun c98 => ?_) (fun c98 => ?_)
  · have hf := jt c98 hf
    exact B_X12_workMore_72 hkk hrc E  hf hM (lv_sub hl [0, 1, 2, 3, 4, 5] rfl)
  · have hf := jf c98 hf
    refine lv_iload hx hb dX12_workMore_46 (lv_at hl 4 rfl) ?_
    refine lv_if_lt (tgt := 72) hx hb dX12_workMore_48 (by decide) (fun c99 => ?_) (fun c99 => ?_)
    · have hf := jt c99 hf
      exact B_X12_workMore_72 hkk hrc E  hf hM (lv_sub hl [0, 1, 2, 3, 4, 5] rfl)
    · have hf := jf c99 hf
      refine lv_aload_n hx hb dX12_workMore_51 rfl (lv_at hl 0 rfl) ?_
      obtain ⟨hq100, hf⟩ := jif hf
      refine gt_106 E hM hq100 lk_6_20 dX12_workMore_52 ?_
      obtain ⟨r101, hr102, hf⟩ := jb hf
      rw [hr102]
      show W p l e _ s m args below meth c H locs 0 0 _ (F0 m _ ls (.ref (g.2.2 + r101) :: _))
      refine lv_iload_n hx hb dX12_workMore_55 rfl (lv_at hl 1 rfl) ?_
      obtain ⟨ha103, hf⟩ := jif hf
      refine jiald E hM ha103 dX12_workMore_56 ?_
      refine lv_if_lt (tgt := 72) hx hb dX12_workMore_57 (by decide) (fun c104 => ?_) (fun c104 => ?_)
      · have hf := jt c104 hf
        exact B_X12_workMore_72 hkk hrc E  hf hM (lv_sub hl [0, 1, 2, 3, 4, 5] rfl)
      · have hf := jf c104 hf
        refine lv_aload_n hx hb dX12_workMore_60 rfl (lv_at hl 0 rfl) ?_
        refine lv_aload_n hx hb dX12_workMore_61 rfl (lv_at hl 0 rfl) ?_
        refine gt_106 E hM hq100 lk_6_20 dX12_workMore_62 ?_
        obtain ⟨r105, hr106, hf⟩ := jb hf
        rw [hr106]
        show W p l e _ s m args below meth c H locs 0 0 _ (F0 m _ ls (.ref (g.2.2 + r105) :: _))
        refine lv_iload_n hx hb dX12_workMore_65 rfl (lv_at hl 1 rfl) ?_
        obtain ⟨ha107, hf⟩ := jif hf
        refine jiald E hM ha107 dX12_workMore_66 ?_
        obtain ⟨x108, S109, hc110, hf⟩ := jbd_e hf
        refine jbackI hM (jrunV E hM ci_X12_workNode (hrc.2.1 hc110) lk_8_79 hq100 (by decide) rfl hl.1 rfl rfl (Nat.le_of_ble_eq_true rfl) ⟨Nat.le_refl _, Nat.le_refl _⟩ ⟨Nat.le_refl _, Nat.le_refl _⟩ dX12_workMore_67) (fun H locs hM => ?_)
        refine lv_istore (lv' := [(5, .int x108), (0, .ref (g.2.2 + v0)), (1, .int v1), (2, .int v2), (3, .int v3), (4, .int v4)]) hx hb dX12_workMore_70 hl (by decide) rfl (fun ls hl => ?_)
        exact B_X12_workMore_72 hkk hrc E  hf hM (lv_sub hl [1, 2, 3, 4, 5, 0] rfl)
set_option maxRecDepth 100000 in
set_option maxHeartbeats 4000000 in
theorem B_X12_workMore_0 {p : Program} {l : Launch} {e : Env} {s : State} {m : MethodId} {args : Array Value} {below : List Frame} {meth : Method} {c : Code} {g : jG} {rc : Nat → Nat → Int32 → Int32 → jM → Option (Int32 × jM)} {kk : Nat} (hkk : 16 ≤ kk) (hrc : jrc_V l g kk rc) {rr : Int32} {SS : jM} {v0 : Nat} {v1 : Int32} {v2 : Int32} {S : jM} (E : jEnv p s m args meth c cX12_workMore "PensionHouseModel" (some .int) 6 g)  {H : Heap} {locs : List Loc} {ls : Array Slot} (hf : f_X12_workMore rc v0 v1 v2 S = some (rr, SS)) (hM : jAt g S s H locs) (hl : lv_has ls 6 [(0, .ref (g.2.2 + v0)), (1, .int v1), (2, .int v2)]) : W p l e (jRm (kk + 1) 0 0) s m args below meth c H locs 0 0 (MQ below (jQi g rr SS) args s 0 0 (jA0 g)) (F0 m 0 ls []) := by
  obtain ⟨hx, hb, hml, -, hts, hown, hK, -, hstr⟩ := id E
  unfold f_X12_workMore at hf
  refine lv_aload_n hx hb dX12_workMore_0 rfl (lv_at hl 0 rfl) ?_
  refine lv_aload_n hx hb dX12_workMore_1 rfl (lv_at hl 0 rfl) ?_
  obtain ⟨hq111, hf⟩ := jif hf
  refine gt_104 E hM hq111 lk_6_18 dX12_workMore_2 ?_
  obtain ⟨r112, hr113, hf⟩ := jb hf
  rw [hr113]
  show W p l e _ s m args below meth c H locs 0 0 _ (F0 m _ ls (.ref (g.2.2 + r112) :: _))
  refine lv_iload_n hx hb dX12_workMore_5 rfl (lv_at hl 1 rfl) ?_
  obtain ⟨ha114, hf⟩ := jif hf
  refine jiald E hM ha114 dX12_workMore_6 ?_
  obtain ⟨x115, S116, hc117, hf⟩ := jbd_e hf
  refine jbackI hM (jrunV E hM ci_X12_workNode (hrc.2.1 hc117) lk_8_79 hq111 (by decide) rfl hl.1 rfl rfl (Nat.le_of_ble_eq_true rfl) ⟨Nat.le_refl _, Nat.le_refl _⟩ ⟨Nat.le_refl _, Nat.le_refl _⟩ dX12_workMore_7) (fun H locs hM => ?_)
  refine lv_istore_n (lv' := [(3, .int x115), (0, .ref (g.2.2 + v0)), (1, .int v1), (2, .int v2)]) hx hb dX12_workMore_10 rfl hl (by decide) rfl (fun ls hl => ?_)
  refine lv_iconst (v := (-1 : Int32)) hx hb dX12_workMore_11 (by decide) ?_
  refine lv_istore (lv' := [(4, .int (-1 : Int32)), (3, .int x115), (0, .ref (g.2.2 + v0)), (1, .int v1), (2, .int v2)]) hx hb dX12_workMore_12 hl (by decide) rfl (fun ls hl => ?_)
  refine lv_iconst (v := (-1 : Int32)) hx hb dX12_workMore_14 (by decide) ?_
  refine lv_istore (lv' := [(5, .int (-1 : Int32)), (4, .int (-1 : Int32)), (3, .int x115), (0, .ref (g.2.2 + v0)), (1, .int v1), (2, .int v2)]) hx hb dX12_workMore_15 hl (by decide) rfl (fun ls hl => ?_)
  refine lv_iload_n hx hb dX12_workMore_17 rfl (lv_at hl 2 rfl) ?_
  refine lv_if_lt (tgt := 42) hx hb dX12_workMore_18 (by decide) (fun c118 => ?_) (fun c118 => ?_)
  · have hf := jt c118 hf
    exact B_X12_workMore_42 hkk hrc E  hf hM (lv_sub hl [3, 4, 5, 2, 1, 0] rfl)
  · have hf := jf c118 hf
    refine lv_aload_n hx hb dX12_workMore_21 rfl (lv_at hl 3 rfl) ?_
    refine gt_105 E hM hq111 lk_6_19 dX12_workMore_22 ?_
    obtain ⟨r119, hr120, hf⟩ := jb hf
    rw [hr120]
    show W p l e _ s m args below meth c H locs 0 0 _ (F0 m _ ls (.ref (g.2.2 + r119) :: _))
    refine lv_iload_n hx hb dX12_workMore_25 rfl (lv_at hl 4 rfl) ?_
    obtain ⟨ha121, hf⟩ := jif hf
    refine jiald E hM ha121 dX12_workMore_26 ?_
    refine lv_if_lt (tgt := 42) hx hb dX12_workMore_27 (by decide) (fun c122 => ?_) (fun c122 => ?_)
    · have hf := jt c122 hf
      exact B_X12_workMore_42 hkk hrc E  hf hM (lv_sub hl [3, 4, 5, 2, 1, 0] rfl)
    · have hf := jf c122 hf
      refine lv_aload_n hx hb dX12_workMore_30 rfl (lv_at hl 3 rfl) ?_
      refine lv_aload_n hx hb dX12_workMore_31 rfl (lv_at hl 3 rfl) ?_
      refine gt_105 E hM hq111 lk_6_19 dX12_workMore_32 ?_
      obtain ⟨r123, hr124, hf⟩ := jb hf
      rw [hr124]
      show W p l e _ s m args below meth c H locs 0 0 _ (F0 m _ ls (.ref (g.2.2 + r123) :: _))
      refine lv_iload_n hx hb dX12_workMore_35 rfl (lv_at hl 4 rfl) ?_
      obtain ⟨ha125, hf⟩ := jif hf
      refine jiald E hM ha125 dX12_workMore_36 ?_
      obtain ⟨x126, S127, hc128, hf⟩ := jbd_e hf
      refine jbackI hM (jrunV E hM ci_X12_workNode (hrc.2.1 hc128) lk_8_79 hq111 (by decide) rfl hl.1 rfl rfl (Nat.le_of_ble_eq_true rfl) ⟨Nat.le_refl _, Nat.le_refl _⟩ ⟨Nat.le_refl _, Nat.le_refl _⟩ dX12_workMore_37) (fun H locs hM => ?_)
      refine lv_istore (lv' := [(4, .int x126), (5, .int (-1 : Int32)), (3, .int x115), (0, .ref (g.2.2 + v0)), (1, .int v1), (2, .int v2)]) hx hb dX12_workMore_40 hl (by decide) rfl (fun ls hl => ?_)
      exact B_X12_workMore_42 hkk hrc E  hf hM (lv_sub hl [3, 4, 5, 2, 0, 1] rfl)
set_option maxRecDepth 100000 in
theorem D_X12_workMore {l : Launch} {g : jG} {rc : Nat → Nat → Int32 → Int32 → jM → Option (Int32 × jM)} {kk : Nat} (hkk : 16 ≤ kk) (hrc : jrc_V l g kk rc) {a0 : Nat} {a1 : Int32} {a2 : Int32} {S : jM} {rr : Int32} {SS : jM} (hf : f_X12_workMore rc a0 a1 a2 S = some (rr, SS)) : jMet l g yX12_workMore cX12_workMore 6 (some .int) (kk + 1) 0 0 [.ref (g.2.2 + a0), .int a1, .int a2] S (jQi g rr SS) := by
  refine jof (by decide +kernel) (Nat.le_of_ble_eq_true rfl) ?_
  intro p e s m below meth c E hM ls hl
  have hl : lv_has ls 6 [(0, .ref (g.2.2 + a0)),(1, .int a1),(2, .int a2)] := hl
  exact B_X12_workMore_0 hkk hrc E hf hM hl
noncomputable def g_V : Nat → Nat → Nat → Int32 → Int32 → jM → Option (Int32 × jM)
  | 0, _, _, _, _, _ => none
  | d + 1, sel, t, a, b, S => if sel = 0 then f_X12_workRule (g_V d) t a S else if sel = 1 then f_X12_workNode (g_V d) t a S else if sel = 2 then f_X12_workIf (g_V d) t a S else if sel = 3 then f_X12_workTry (g_V d) t a S else if sel = 4 then f_X12_workSum (g_V d) t a S else if sel = 5 then f_X12_workMore (g_V d) t a b S else none
theorem jrcA_V {l : Launch} {g : jG} : ∀ d : Nat, jrc_V l g (16 + d) (g_V d) := by
  intro d
  induction d with
  | zero => unfold jrc_V; exact ⟨fun h => (by rw [g_V] at h; cases h), fun h => (by rw [g_V] at h; cases h), fun h => (by rw [g_V] at h; cases h), fun h => (by rw [g_V] at h; cases h), fun h => (by rw [g_V] at h; cases h), fun h => (by rw [g_V] at h; cases h)⟩
  | succ d ih =>
    unfold jrc_V; exact ⟨fun h => (by rw [g_V] at h; exact D_X12_workRule (by omega) ih (jt rfl h)),
      fun h => (by rw [g_V] at h; have h := jf (by decide) h; exact D_X12_workNode (by omega) ih (jt rfl h)),
      fun h => (by rw [g_V] at h; have h := jf (by decide) h; have h := jf (by decide) h; exact D_X12_workIf (by omega) ih (jt rfl h)),
      fun h => (by rw [g_V] at h; have h := jf (by decide) h; have h := jf (by decide) h; have h := jf (by decide) h; exact D_X12_workTry (by omega) ih (jt rfl h)),
      fun h => (by rw [g_V] at h; have h := jf (by decide) h; have h := jf (by decide) h; have h := jf (by decide) h; have h := jf (by decide) h; exact D_X12_workSum (by omega) ih (jt rfl h)),
      fun h => (by rw [g_V] at h; have h := jf (by decide) h; have h := jf (by decide) h; have h := jf (by decide) h; have h := jf (by decide) h; have h := jf (by decide) h; exact D_X12_workMore (by omega) ih (jt rfl h))⟩
theorem C_X12_workRule {l : Launch} {g : jG} {a0 : Nat} {a1 : Int32} {S : jM} {rr : Int32} {SS : jM} (hf : f_X12_workRule (g_V 1000) a0 a1 S = some (rr, SS)) : jMet l g yX12_workRule cX12_workRule 4 (some .int) 1017 0 0 [.ref (g.2.2 + a0), .int a1] S (jQi g rr SS) := D_X12_workRule (kk := 1016) (by decide) (jrcA_V 1000) hf
theorem C_X12_workNode {l : Launch} {g : jG} {a0 : Nat} {a1 : Int32} {S : jM} {rr : Int32} {SS : jM} (hf : f_X12_workNode (g_V 1000) a0 a1 S = some (rr, SS)) : jMet l g yX12_workNode cX12_workNode 4 (some .int) 1017 0 0 [.ref (g.2.2 + a0), .int a1] S (jQi g rr SS) := D_X12_workNode (kk := 1016) (by decide) (jrcA_V 1000) hf
theorem C_X12_workIf {l : Launch} {g : jG} {a0 : Nat} {a1 : Int32} {S : jM} {rr : Int32} {SS : jM} (hf : f_X12_workIf (g_V 1000) a0 a1 S = some (rr, SS)) : jMet l g yX12_workIf cX12_workIf 3 (some .int) 1017 0 0 [.ref (g.2.2 + a0), .int a1] S (jQi g rr SS) := D_X12_workIf (kk := 1016) (by decide) (jrcA_V 1000) hf
theorem C_X12_workTry {l : Launch} {g : jG} {a0 : Nat} {a1 : Int32} {S : jM} {rr : Int32} {SS : jM} (hf : f_X12_workTry (g_V 1000) a0 a1 S = some (rr, SS)) : jMet l g yX12_workTry cX12_workTry 3 (some .int) 1017 0 0 [.ref (g.2.2 + a0), .int a1] S (jQi g rr SS) := D_X12_workTry (kk := 1016) (by decide) (jrcA_V 1000) hf
theorem C_X12_workSum {l : Launch} {g : jG} {a0 : Nat} {a1 : Int32} {S : jM} {rr : Int32} {SS : jM} (hf : f_X12_workSum (g_V 1000) a0 a1 S = some (rr, SS)) : jMet l g yX12_workSum cX12_workSum 11 (some .int) 1017 0 0 [.ref (g.2.2 + a0), .int a1] S (jQi g rr SS) := D_X12_workSum (kk := 1016) (by decide) (jrcA_V 1000) hf
theorem C_X12_workMore {l : Launch} {g : jG} {a0 : Nat} {a1 : Int32} {a2 : Int32} {S : jM} {rr : Int32} {SS : jM} (hf : f_X12_workMore (g_V 1000) a0 a1 a2 S = some (rr, SS)) : jMet l g yX12_workMore cX12_workMore 6 (some .int) 1017 0 0 [.ref (g.2.2 + a0), .int a1, .int a2] S (jQi g rr SS) := D_X12_workMore (kk := 1016) (by decide) (jrcA_V 1000) hf
