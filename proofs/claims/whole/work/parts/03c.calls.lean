section JCALLS
variable {p : Program} {l : Launch} {e : Env} {R : Room} {s : State} {m : MethodId} {args : Array Value} {below : List Frame} {meth : Method} {c : Code} {H : Heap} {locs : List Loc} {cells slots : Nat} {Q : State → Prop}
variable {cc : ByteArray} {own : String} {ret : Option FieldType} {maxL : Nat} {g : jG} {S S' : jM} {pc : Nat} {ls : Array Slot} {rest st : List Value} {a : Nat}
/-- a contract, from its body -/
theorem jof {y : MethodName} {k : Nat} {as : List Value} {Q : Array Value → State → Outcome → State → Prop} (hy : plainName y.cls = true) (hlen : (lg_sl as).length ≤ maxL)
    (body : ∀ (p : Program) (e : Env) (s : State) (m : MethodId) (below : List Frame) (meth : Method) (c : Code), jEnv p s m as.toArray meth c cc y.cls ret maxL g → jAt g S s s.heap [] → ∀ ls : Array Slot, lv_has ls maxL (lv_args 0 as) → W p l e (jRm k 0 0) s m as.toArray below meth c s.heap [] 0 0 (MQ below Q as.toArray s 0 0 (jA0 g)) (F0 m 0 ls [])) : jMet l g y cc maxL ret k 0 0 as S Q := by
  refine Met.ofW (cc := cc) (maxL := maxL) (ret := ret) hy rfl ?_
  intro p e s m args below meth c s₁ B hml hv
  obtain ⟨rfl, hP, hK, hn, hstr⟩ := hv
  have hts := atoms_spec (ws := Cond.code y cc maxL ret :: jw) B.pre
  have hl := lv_entry as (n := maxL) hlen
  rw [lg_entry_eq]
  exact body p e s m below meth c ⟨B.exec, B.bytes, hml, B.returns, fun w hw => hts w (List.mem_cons_of_mem _ hw), findClass_of_methodNamed B.named, hK, B.notSynchronized, hstr⟩ ⟨hP, va_S.rf, hn⟩ _ hl
theorem jireti {v rr : Int32} {SS : jM} (hv : v = rr ∧ S = SS) (E : jEnv p s m args meth c cc own (some .int) maxL g) (hM : jAt g S s H locs) (hdg : decode cc pc = .ok (.ireturn, 1)) : W p l e R s m args below meth c H locs cells slots (MQ below (jQi g rr SS) args s cells slots (jA0 g)) (F0 m pc ls [.int v]) :=
  by obtain ⟨rfl, rfl⟩ := hv; exact W.iret E.1 E.2.1 E.2.2.2.1 (fun t ht _ => ⟨⟨v, (), rfl, rfl, ⟨by rw [ht]; exact hM.1, hM.2.2⟩⟩, hM.2.1.F ht⟩) hM.2.1.2.2 hdg E.2.2.2.2.2.2.2.1
theorem jiretz {v rr : Int32} {SS : jM} (hv : v = rr ∧ S = SS) (E : jEnv p s m args meth c cc own (some .boolean) maxL g) (hM : jAt g S s H locs) (hz : jZ v = true) (hdg : decode cc pc = .ok (.ireturn, 1)) : W p l e R s m args below meth c H locs cells slots (MQ below (jQi g rr SS) args s cells slots (jA0 g)) (F0 m pc ls [.int v]) :=
  by obtain ⟨rfl, rfl⟩ := hv; exact W.zret (ty := .boolean) E.1 E.2.1 E.2.2.2.1 (by simp only [jZ, Bool.or_eq_true, decide_eq_true_eq] at hz; rcases hz with rfl | rfl <;> rfl) (fun t ht _ => ⟨⟨v, (), rfl, rfl, ⟨by rw [ht]; exact hM.1, hM.2.2⟩⟩, hM.2.1.F ht⟩) hM.2.1.2.2 hdg E.2.2.2.2.2.2.2.1
theorem jiretn {v rr : Int32} {SS : jM} {ty : FieldType} (hv : v = rr ∧ S = SS) (E : jEnv p s m args meth c cc own (some ty) maxL g) (hM : jAt g S s H locs) (hn : narrow ty (.int v) = .int v) (hdg : decode cc pc = .ok (.ireturn, 1)) : W p l e R s m args below meth c H locs cells slots (MQ below (jQi g rr SS) args s cells slots (jA0 g)) (F0 m pc ls [.int v]) := by
  obtain ⟨rfl, rfl⟩ := hv
  exact W.zret (ty := ty) E.1 E.2.1 E.2.2.2.1 hn (fun t ht _ => ⟨⟨v, (), rfl, rfl, ⟨by rw [ht]; exact hM.1, hM.2.2⟩⟩, hM.2.1.F ht⟩) hM.2.1.2.2 hdg E.2.2.2.2.2.2.2.1
theorem jlret {v rr : Int64} {SS : jM} (hv : v = rr ∧ S = SS) (E : jEnv p s m args meth c cc own (some .long) maxL g) (hM : jAt g S s H locs) (hdg : decode cc pc = .ok (.lreturn, 1)) : W p l e R s m args below meth c H locs cells slots (MQ below (jQl g rr SS) args s cells slots (jA0 g)) (F0 m pc ls [.long v]) :=
  by obtain ⟨rfl, rfl⟩ := hv; exact W.lret E.1 E.2.1 E.2.2.2.1 (fun t ht _ => ⟨⟨v, (), rfl, rfl, ⟨by rw [ht]; exact hM.1, hM.2.2⟩⟩, hM.2.1.F ht⟩) hM.2.1.2.2 hdg E.2.2.2.2.2.2.2.1
theorem jdret {v rr : UInt64} {SS : jM} (hv : v = rr ∧ S = SS) (E : jEnv p s m args meth c cc own (some .double) maxL g) (hM : jAt g S s H locs) (hdg : decode cc pc = .ok (.dreturn, 1)) : W p l e R s m args below meth c H locs cells slots (MQ below (jQd g rr SS) args s cells slots (jA0 g)) (F0 m pc ls [.double v]) :=
  by obtain ⟨rfl, rfl⟩ := hv; exact W.dret E.1 E.2.1 E.2.2.2.1 (fun t ht _ => ⟨⟨v, (), rfl, rfl, ⟨by rw [ht]; exact hM.1, hM.2.2⟩⟩, hM.2.1.F ht⟩) hM.2.1.2.2 hdg E.2.2.2.2.2.2.2.1
theorem jvret {SS : jM} (hv : S = SS) (E : jEnv p s m args meth c cc own none maxL g) (hM : jAt g S s H locs) (hdg : decode cc pc = .ok (.return_, 1)) : W p l e R s m args below meth c H locs cells slots (MQ below (jQv g SS) args s cells slots (jA0 g)) (F0 m pc ls []) :=
  hv ▸ W.vret E.1 E.2.1 E.2.2.2.1 (fun t ht _ => ⟨⟨(), rfl, trivial, ⟨by rw [ht]; exact hM.1, hM.2.2⟩⟩, hM.2.1.F ht⟩) hM.2.1.2.2 hdg E.2.2.2.2.2.2.2.1
theorem jaret {v rr : Option Nat} {SS : jM} (hv : v = rr ∧ S = SS) {C : String} (E : jEnv p s m args meth c cc own (some (.object C)) maxL g) (hM : jAt g S s H locs) (hdg : decode cc pc = .ok (.areturn, 1)) : W p l e R s m args below meth c H locs cells slots (MQ below (jQq g rr SS) args s cells slots (jA0 g)) (F0 m pc ls [jo g v]) :=
  by obtain ⟨rfl, rfl⟩ := hv; exact W.aret E.1 E.2.1 E.2.2.2.1 (.inl ⟨_, rfl⟩) (by cases v with | none => exact .inl rfl | some a => exact .inr ⟨_, rfl⟩) (fun t ht _ => ⟨⟨v.map (g.2.2 + ·), (), rfl, rfl, ⟨by rw [ht]; exact hM.1, hM.2.2⟩⟩, hM.2.1.F ht⟩) hM.2.1.2.2 hdg E.2.2.2.2.2.2.2.1
/-- what a call asks of its callee, once a method -/
def jCV (y : MethodName) (yc : ByteArray) (yL : Nat) (yr : Option FieldType) (n : Nat) : Prop := Cond.instanceMethod y ∈ jw ∧ Cond.selects y.cls y y ∈ jw ∧ Cond.initialized y.cls ∈ jw ∧ Cond.code y yc yL yr ∈ jw ∧ (y.cls ≠ "java/lang/invoke/MethodHandle" ∧ y.cls ≠ "java/lang/invoke/VarHandle" ∧ (parseMethodDescriptor y.desc).map (fun d => d.parameters.length) = some n) ∧ yL ≤ 30
def jCS (y : MethodName) (yc : ByteArray) (yL : Nat) (yr : Option FieldType) (n : Nat) : Prop := Cond.static y ∈ jw ∧ Cond.initialized y.cls ∈ jw ∧ Cond.code y yc yL yr ∈ jw ∧ (y.cls ≠ "java/lang/invoke/MethodHandle" ∧ y.cls ≠ "java/lang/invoke/VarHandle" ∧ (parseMethodDescriptor y.desc).map (fun d => d.parameters.length) = some n) ∧ yL ≤ 30
theorem jgoodV {y : MethodName} {yc : ByteArray} {yL n idx : Nat} {yr : Option FieldType} (hC : jCV y yc yL yr n) (hl : Cond.methodLink own idx y ∈ jw) : GoodIn jw (wsV own idx y.cls y (Cond.code y yc yL yr :: jw)) := by
  have ok : ∀ w ∈ jw, w ∈ jw ∧ ((w.onTables && w.keeps) = true ∨ ∃ ty, w = .arrayClass ty) := fun w h => ⟨h, good_of_word (jw_good h)⟩
  intro w hw
  rcases List.mem_append.mp hw with hw | hw
  · simp only [List.mem_cons, List.not_mem_nil, or_false] at hw
    rcases hw with rfl | rfl | rfl | rfl
    · exact ok _ hl
    · exact ok _ hC.1
    · exact ok _ hC.2.1
    · exact ok _ hC.2.2.1
  · rcases List.mem_cons.mp hw with rfl | hw
    · exact ok _ hC.2.2.2.1
    · exact ok _ hw
theorem jgoodS {y : MethodName} {yc : ByteArray} {yL n idx : Nat} {yr : Option FieldType} (hC : jCS y yc yL yr n) (hl : Cond.methodLink own idx y ∈ jw) : GoodIn jw (va_wsS own idx y (Cond.code y yc yL yr :: jw)) := by
  have ok : ∀ w ∈ jw, w ∈ jw ∧ ((w.onTables && w.keeps) = true ∨ ∃ ty, w = .arrayClass ty) := fun w h => ⟨h, good_of_word (jw_good h)⟩
  intro w hw
  rcases List.mem_append.mp hw with hw | hw
  · simp only [List.mem_cons, List.not_mem_nil, or_false] at hw
    rcases hw with rfl | rfl | rfl
    · exact ok _ hl
    · exact ok _ hC.1
    · exact ok _ hC.2.1
  · rcases List.mem_cons.mp hw with rfl | hw
    · exact ok _ hC.2.2.1
    · exact ok _ hw
theorem jblind : FrameBlind (va_Pc (rest) (jPre g S)) := fun _ U g' mk q => ⟨q.1, q.2.1, va_K.moved (u := U) (U := U.calling g' mk _) (Vm.Alike.refl U.vm) q.2.2.1, q.2.2.2.1, jStr_calling q.2.2.2.2⟩
theorem jrunV (E : jEnv p s m args meth c cc own ret maxL g) (hM : jAt g S s H locs) {y : MethodName} {yc : ByteArray} {yL k n idx b : Nat} {yr : Option FieldType} {As : List Value} {Qc : Array Value → State → Outcome → State → Prop} {kd N : Nat} {T : u_T}
    (hC : jCV y yc yL yr n) (hm : jMet l g y yc yL yr k 0 0 (.ref (g.2.2 + b) :: As) S Qc) (hl : Cond.methodLink own idx y ∈ jw) (hkb : jK b = kd) (hk11 : kd < 11) (hcl : vwCl[kd]? = some (y.cls, T, N)) (hls : ls.size = maxL) (hn : As.length = n) (hst : st = As.reverse ++ .ref (g.2.2 + b) :: rest) (hW : (rest.map fun v => v.category).sum ≤ 8)
    (hR : k + 1 ≤ R.frames ∧ 49 * (k + 1) ≤ R.locals) (hcs : cells ≤ R.cells ∧ slots ≤ R.slots) (hdg : decode cc pc = .ok (.invokevirtual idx, 3)) : va_Run p l e R s m args below meth c H locs cells slots 0 0 (F0 m pc ls st) rest (Qc (.ref (g.2.2 + b) :: As).toArray) (jA0 g) := by
  obtain ⟨hx, hb, hml, -, hts, hown, hK, -⟩ := id E
  have hy := hC.2.2.2.2.1
  have hL := hC.2.2.2.2.2
  exact va_runV (C := y.cls) (n := n) ⟨hx, hb, hml, hown, hts⟩ hm (cwV n hts (jgoodV hC hl) rfl rfl rfl ⟨rfl, hy.1, hy.2.1, hy.2.2⟩ ⟨hR.1, by show 8 + (yL + 11) + 49 * k ≤ R.locals; omega⟩) ⟨jblind, va_recv hK hM.1 hcl (jW_obj hM.2.2 hkb hk11), fun U hU hW => ⟨rfl, by show va_P _ _ _ U.heap; rw [hU]; exact hM.1, va_K.moved hW.alike hK, hM.2.2, jStr_go E.2.2.2.2.2.2.2.2 hM.2.1 hU hW⟩⟩ rfl hn (by rw [← hls]) hst (lv_room hW) hdg ⟨hcs.1, hcs.2⟩
theorem jrunS (E : jEnv p s m args meth c cc own ret maxL g) (hM : jAt g S s H locs) {y : MethodName} {yc : ByteArray} {yL k n idx : Nat} {yr : Option FieldType} {As : List Value} {Qc : Array Value → State → Outcome → State → Prop}
    (hC : jCS y yc yL yr n) (hm : jMet l g y yc yL yr k 0 0 As S Qc) (hl : Cond.methodLink own idx y ∈ jw) (hls : ls.size = maxL) (hn : As.length = n) (hst : st = As.reverse ++ rest) (hW : (rest.map fun v => v.category).sum ≤ 8)
    (hR : k + 1 ≤ R.frames ∧ 49 * (k + 1) ≤ R.locals) (hcs : cells ≤ R.cells ∧ slots ≤ R.slots) (hdg : decode cc pc = .ok (.invokestatic idx, 3)) : va_Run p l e R s m args below meth c H locs cells slots 0 0 (F0 m pc ls st) rest (Qc As.toArray) (jA0 g) := by
  obtain ⟨hx, hb, hml, -, hts, hown, hK, -⟩ := id E
  have hy := hC.2.2.2.1
  have hL := hC.2.2.2.2
  exact va_runS (n := n) ⟨hx, hb, hml, hown, hts⟩ hm (va_cwS n hts (jgoodS hC hl) rfl rfl rfl hy ⟨hR.1, by show 8 + (yL + 11) + 49 * k ≤ R.locals; omega⟩) ⟨jblind, fun U hU hW => ⟨rfl, by show va_P _ _ _ U.heap; rw [hU]; exact hM.1, va_K.moved hW.alike hK, hM.2.2, jStr_go E.2.2.2.2.2.2.2.2 hM.2.1 hU hW⟩⟩ rfl hn (by rw [← hls]) hst (lv_room hW) hdg ⟨hcs.1, hcs.2⟩
theorem jbackI (hM : jAt g S s H locs) {r : Int32} {aa : Array Value} (hr : va_Run p l e R s m args below meth c H locs cells slots 0 0 (F0 m pc ls st) rest (jQi g r S' aa) (jA0 g))
    (kk : ∀ (H : Heap) (locs : List Loc), jAt g S' s H locs → W p l e R s m args below meth c H locs cells slots Q (F0 m (pc + 3) ls (.int r :: rest))) : W p l e R s m args below meth c H locs cells slots Q (F0 m pc ls st) :=
  va_calli hr hM.2.1 (fun _ _ h => h) (fun _ h => h) (fun r1 _ t H1 locs1 ht _ hp hB _ _ hS => by
    subst hp
    obtain ⟨hB, hn⟩ := hB
    rw [ht] at hB
    exact kk H1 locs1 ⟨hB, hS, hn⟩)
theorem jbackL (hM : jAt g S s H locs) {r : Int64} {aa : Array Value} (hr : va_Run p l e R s m args below meth c H locs cells slots 0 0 (F0 m pc ls st) rest (jQl g r S' aa) (jA0 g))
    (kk : ∀ (H : Heap) (locs : List Loc), jAt g S' s H locs → W p l e R s m args below meth c H locs cells slots Q (F0 m (pc + 3) ls (.long r :: rest))) : W p l e R s m args below meth c H locs cells slots Q (F0 m pc ls st) :=
  va_calll hr hM.2.1 (fun _ _ h => h) (fun _ h => h) (fun r1 _ t H1 locs1 ht _ hp hB _ _ hS => by
    subst hp
    obtain ⟨hB, hn⟩ := hB
    rw [ht] at hB
    exact kk H1 locs1 ⟨hB, hS, hn⟩)
theorem jbackD (hM : jAt g S s H locs) {r : UInt64} {aa : Array Value} (hr : va_Run p l e R s m args below meth c H locs cells slots 0 0 (F0 m pc ls st) rest (jQd g r S' aa) (jA0 g))
    (kk : ∀ (H : Heap) (locs : List Loc), jAt g S' s H locs → W p l e R s m args below meth c H locs cells slots Q (F0 m (pc + 3) ls (.double r :: rest))) : W p l e R s m args below meth c H locs cells slots Q (F0 m pc ls st) :=
  va_calld hr hM.2.1 (fun _ _ h => h) (fun _ h => h) (fun r1 _ t H1 locs1 ht _ hp hB _ _ hS => by
    subst hp
    obtain ⟨hB, hn⟩ := hB
    rw [ht] at hB
    exact kk H1 locs1 ⟨hB, hS, hn⟩)
theorem jbackV (hM : jAt g S s H locs) {aa : Array Value} (hr : va_Run p l e R s m args below meth c H locs cells slots 0 0 (F0 m pc ls st) rest (jQv g S' aa) (jA0 g))
    (kk : ∀ (H : Heap) (locs : List Loc), jAt g S' s H locs → W p l e R s m args below meth c H locs cells slots Q (F0 m (pc + 3) ls rest)) : W p l e R s m args below meth c H locs cells slots Q (F0 m pc ls st) :=
  va_callv hr hM.2.1 (fun _ _ h => h) (fun _ h => h) (fun _ t H1 locs1 ht _ _ hB _ _ hS => by
    obtain ⟨hB, hn⟩ := hB
    rw [ht] at hB
    exact kk H1 locs1 ⟨hB, hS, hn⟩)
theorem jbackQ (hM : jAt g S s H locs) {r : Option Nat} {aa : Array Value} (hr : va_Run p l e R s m args below meth c H locs cells slots 0 0 (F0 m pc ls st) rest (jQq g r S' aa) (jA0 g))
    (kk : ∀ (H : Heap) (locs : List Loc), jAt g S' s H locs → W p l e R s m args below meth c H locs cells slots Q (F0 m (pc + 3) ls (jo g r :: rest))) : W p l e R s m args below meth c H locs cells slots Q (F0 m pc ls st) :=
  va_callq hr hM.2.1 (fun _ _ h => h) (fun _ h => h) (fun r1 _ t H1 locs1 ht _ hp hB _ _ hS => by
    subst hp
    obtain ⟨hB, hn⟩ := hB
    rw [ht] at hB
    exact kk H1 locs1 ⟨hB, hS, hn⟩)
theorem jrunVS (E : jEnv p s m args meth c cc own ret maxL g) (hM : jAt g S s H locs) {y : MethodName} {yc : ByteArray} {yL k n idx b : Nat} {yr : Option FieldType} {As : List Value} {Qc : Array Value → State → Outcome → State → Prop}
    (hC : jCV y yc yL yr n) (hm : jMet l g y yc yL yr k 0 0 (.ref (g.2.1 (100 + b)) :: As) S Qc) (hl : Cond.methodLink own idx y ∈ jw) (hkb : b < 2) (hcl : y.cls = "java/lang/String") (hls : ls.size = maxL) (hn : As.length = n) (hst : st = As.reverse ++ .ref (g.2.1 (100 + b)) :: rest) (hW : (rest.map fun v => v.category).sum ≤ 8)
    (hR : k + 1 ≤ R.frames ∧ 49 * (k + 1) ≤ R.locals) (hcs : cells ≤ R.cells ∧ slots ≤ R.slots) (hdg : decode cc pc = .ok (.invokevirtual idx, 3)) : va_Run p l e R s m args below meth c H locs cells slots 0 0 (F0 m pc ls st) rest (Qc (.ref (g.2.1 (100 + b)) :: As).toArray) (jA0 g) := by
  obtain ⟨hx, hb, hml, -, hts, hown, hK, -, hstr⟩ := id E
  have hy := hC.2.2.2.2.1
  have hL := hC.2.2.2.2.2
  exact va_runV (C := y.cls) (n := n) ⟨hx, hb, hml, hown, hts⟩ hm (cwV n hts (jgoodV hC hl) rfl rfl rfl ⟨rfl, hy.1, hy.2.1, hy.2.2⟩ ⟨hR.1, by show 8 + (yL + 11) + 49 * k ≤ R.locals; omega⟩) ⟨jblind, by rw [hcl]; exact vk_recv (adK := fun i => g.2.1 (100 + i)) (i := b) hstr.1 hkb hM.2.1, fun U hU hW => ⟨rfl, by show va_P _ _ _ U.heap; rw [hU]; exact hM.1, va_K.moved hW.alike hK, hM.2.2, jStr_go hstr hM.2.1 hU hW⟩⟩ rfl hn (by rw [← hls]) hst (lv_room hW) hdg ⟨hcs.1, hcs.2⟩
/-- lcmp and the branch behind it -/
theorem jlc_lt {x y : Int64} : lg_cmp x y < 0 ↔ x < y := by
  unfold lg_cmp
  simp only [gt_iff_lt, Int64.lt_iff_toInt_lt, ← Int64.toInt_inj]
  by_cases h1 : y.toInt < x.toInt
  · simp only [h1, if_true]; exact ⟨fun h => absurd h (by decide), fun h => by omega⟩
  · by_cases h2 : x.toInt = y.toInt
    · rw [if_neg h1, if_pos h2]; exact ⟨fun h => absurd h (by decide), fun h => by omega⟩
    · simp only [h1, h2, if_false]; exact ⟨fun _ => by omega, fun _ => by decide⟩
theorem jlc_eq {x y : Int64} : lg_cmp x y = 0 ↔ x = y := by
  unfold lg_cmp
  simp only [gt_iff_lt, Int64.lt_iff_toInt_lt, ← Int64.toInt_inj]
  by_cases h1 : y.toInt < x.toInt
  · simp only [h1, if_true]; exact ⟨fun h => absurd h (by decide), fun h => by omega⟩
  · by_cases h2 : x.toInt = y.toInt
    · rw [if_neg h1, if_pos h2]; exact ⟨fun _ => h2, fun _ => rfl⟩
    · simp only [h1, h2, if_false]; exact ⟨fun h => absurd h (by decide), fun h => h.elim⟩
theorem jlc_gt {x y : Int64} : 0 < lg_cmp x y ↔ y < x := by
  unfold lg_cmp
  simp only [gt_iff_lt, Int64.lt_iff_toInt_lt, ← Int64.toInt_inj]
  by_cases h1 : y.toInt < x.toInt
  · simp only [h1, if_true]; exact ⟨fun _ => trivial, fun _ => by decide⟩
  · by_cases h2 : x.toInt = y.toInt
    · rw [if_neg h1, if_pos h2]; exact ⟨fun h => absurd h (by decide), fun h => by omega⟩
    · simp only [h1, h2, if_false]; exact ⟨fun h => absurd h (by decide), fun h => h.elim⟩
theorem jlc_le {x y : Int64} : lg_cmp x y ≤ 0 ↔ x ≤ y := by
  have h1 := @jlc_gt x y
  rw [Int64.le_iff_toInt_le, ← Int.not_lt, ← Int64.lt_iff_toInt_lt, ← h1, Int32.lt_iff_toInt_lt, Int32.le_iff_toInt_le]
  omega
section
theorem jl_lt (hx : p.tables.exec = Jvm.exec) (hb : c.code = cc) {x y : Int64} {off : Int} {tgt : Nat} (d1 : decode cc pc = .ok (.lcmp, 1)) (d2 : decode cc (pc + 1) = .ok (.ifCond .lt off, 3)) (ht : ((pc + 1 : Nat) : Int) + off = (tgt : Int)) (kt : x < y → W p l e R s m args below meth c H locs cells slots Q (F0 m tgt ls rest)) (kf : ¬ x < y → W p l e R s m args below meth c H locs cells slots Q (F0 m (pc + 1 + 3) ls rest)) : W p l e R s m args below meth c H locs cells slots Q (F0 m pc ls (.long y :: .long x :: rest)) :=
  W.lcmp hx hb d1 (lv_if_lt hx hb d2 ht (fun h => kt ((jlc_lt).mp h)) (fun h => kf (fun q => h ((jlc_lt).mpr q))))
theorem jl_ge (hx : p.tables.exec = Jvm.exec) (hb : c.code = cc) {x y : Int64} {off : Int} {tgt : Nat} (d1 : decode cc pc = .ok (.lcmp, 1)) (d2 : decode cc (pc + 1) = .ok (.ifCond .ge off, 3)) (ht : ((pc + 1 : Nat) : Int) + off = (tgt : Int)) (kt : y ≤ x → W p l e R s m args below meth c H locs cells slots Q (F0 m tgt ls rest)) (kf : ¬ y ≤ x → W p l e R s m args below meth c H locs cells slots Q (F0 m (pc + 1 + 3) ls rest)) : W p l e R s m args below meth c H locs cells slots Q (F0 m pc ls (.long y :: .long x :: rest)) :=
  W.lcmp hx hb d1 (lv_if_ge hx hb d2 ht (fun h => kt ((lg_cmp_ge x y).mp h)) (fun h => kf (fun q => h ((lg_cmp_ge x y).mpr q))))
theorem jl_gt (hx : p.tables.exec = Jvm.exec) (hb : c.code = cc) {x y : Int64} {off : Int} {tgt : Nat} (d1 : decode cc pc = .ok (.lcmp, 1)) (d2 : decode cc (pc + 1) = .ok (.ifCond .gt off, 3)) (ht : ((pc + 1 : Nat) : Int) + off = (tgt : Int)) (kt : y < x → W p l e R s m args below meth c H locs cells slots Q (F0 m tgt ls rest)) (kf : ¬ y < x → W p l e R s m args below meth c H locs cells slots Q (F0 m (pc + 1 + 3) ls rest)) : W p l e R s m args below meth c H locs cells slots Q (F0 m pc ls (.long y :: .long x :: rest)) :=
  W.lcmp hx hb d1 (lv_if_gt hx hb d2 ht (fun h => kt ((jlc_gt).mp h)) (fun h => kf (fun q => h ((jlc_gt).mpr q))))
theorem jl_le (hx : p.tables.exec = Jvm.exec) (hb : c.code = cc) {x y : Int64} {off : Int} {tgt : Nat} (d1 : decode cc pc = .ok (.lcmp, 1)) (d2 : decode cc (pc + 1) = .ok (.ifCond .le off, 3)) (ht : ((pc + 1 : Nat) : Int) + off = (tgt : Int)) (kt : x ≤ y → W p l e R s m args below meth c H locs cells slots Q (F0 m tgt ls rest)) (kf : ¬ x ≤ y → W p l e R s m args below meth c H locs cells slots Q (F0 m (pc + 1 + 3) ls rest)) : W p l e R s m args below meth c H locs cells slots Q (F0 m pc ls (.long y :: .long x :: rest)) :=
  W.lcmp hx hb d1 (lv_if_le hx hb d2 ht (fun h => kt ((jlc_le).mp h)) (fun h => kf (fun q => h ((jlc_le).mpr q))))
theorem jl_eq (hx : p.tables.exec = Jvm.exec) (hb : c.code = cc) {x y : Int64} {off : Int} {tgt : Nat} (d1 : decode cc pc = .ok (.lcmp, 1)) (d2 : decode cc (pc + 1) = .ok (.ifCond .eq off, 3)) (ht : ((pc + 1 : Nat) : Int) + off = (tgt : Int)) (kt : x = y → W p l e R s m args below meth c H locs cells slots Q (F0 m tgt ls rest)) (kf : ¬ x = y → W p l e R s m args below meth c H locs cells slots Q (F0 m (pc + 1 + 3) ls rest)) : W p l e R s m args below meth c H locs cells slots Q (F0 m pc ls (.long y :: .long x :: rest)) :=
  W.lcmp hx hb d1 (lv_if_eq hx hb d2 ht (fun h => kt ((jlc_eq).mp h)) (fun h => kf (fun q => h ((jlc_eq).mpr q))))
theorem jl_ne (hx : p.tables.exec = Jvm.exec) (hb : c.code = cc) {x y : Int64} {off : Int} {tgt : Nat} (d1 : decode cc pc = .ok (.lcmp, 1)) (d2 : decode cc (pc + 1) = .ok (.ifCond .ne off, 3)) (ht : ((pc + 1 : Nat) : Int) + off = (tgt : Int)) (kt : ¬ x = y → W p l e R s m args below meth c H locs cells slots Q (F0 m tgt ls rest)) (kf : x = y → W p l e R s m args below meth c H locs cells slots Q (F0 m (pc + 1 + 3) ls rest)) : W p l e R s m args below meth c H locs cells slots Q (F0 m pc ls (.long y :: .long x :: rest)) :=
  W.lcmp hx hb d1 (lv_if_ne hx hb d2 ht (fun h => kt (fun q => h (jlc_eq.mpr q))) (fun h => kf (jlc_eq.mp h)))
end
theorem jaload {k : Fin 4} {i : Nat} {r : Option Nat} (hx : p.tables.exec = Jvm.exec) (hb : c.code = cc) (hdg : decode cc pc = .ok (.aload_n k, 1)) (hi : (k : Nat) = i) (hl : ls[i]? = some (.val (jo g r))) (kk : W p l e R s m args below meth c H locs cells slots Q (F0 m (pc + 1) ls (jo g r :: rest))) : W p l e R s m args below meth c H locs cells slots Q (F0 m pc ls rest) := by
  cases r with
  | none => exact lv_aload_nN hx hb hdg hi hl kk
  | some a => exact lv_aload_n hx hb hdg hi hl kk
theorem jaloadw {i : Nat} {r : Option Nat} (hx : p.tables.exec = Jvm.exec) (hb : c.code = cc) (hdg : decode cc pc = .ok (.aload i, 2)) (hl : ls[i]? = some (.val (jo g r))) (kk : W p l e R s m args below meth c H locs cells slots Q (F0 m (pc + 2) ls (jo g r :: rest))) : W p l e R s m args below meth c H locs cells slots Q (F0 m pc ls rest) := by
  cases r with
  | none => exact lv_aloadN hx hb hdg hl kk
  | some a => exact lv_aload hx hb hdg hl kk
theorem jastore {k : Fin 4} {i nL : Nat} {r : Option Nat} {lv lv' : List (Nat × Value)} (hx : p.tables.exec = Jvm.exec) (hb : c.code = cc) (hdg : decode cc pc = .ok (.astore_n k, 1)) (hi : (k : Nat) = i) (h : lv_has ls nL lv) (hn : i < nL) (hl : (i, jo g r) :: lv.filter (fun q => !(q.1 == i) && !(q.1 + 1 == i && q.2.category == 2)) = lv') (kk : ∀ ls' : Array Slot, lv_has ls' nL lv' → W p l e R s m args below meth c H locs cells slots Q (F0 m (pc + 1) ls' rest)) : W p l e R s m args below meth c H locs cells slots Q (F0 m pc ls (jo g r :: rest)) := by
  cases r with
  | none => exact lv_astore_nN hx hb hdg hi h hn hl kk
  | some a => exact lv_astore_n hx hb hdg hi h hn hl kk
theorem jastorew {i nL : Nat} {r : Option Nat} {lv lv' : List (Nat × Value)} (hx : p.tables.exec = Jvm.exec) (hb : c.code = cc) (hdg : decode cc pc = .ok (.astore i, 2)) (h : lv_has ls nL lv) (hn : i < nL) (hl : (i, jo g r) :: lv.filter (fun q => !(q.1 == i) && !(q.1 + 1 == i && q.2.category == 2)) = lv') (kk : ∀ ls' : Array Slot, lv_has ls' nL lv' → W p l e R s m args below meth c H locs cells slots Q (F0 m (pc + 2) ls' rest)) : W p l e R s m args below meth c H locs cells slots Q (F0 m pc ls (jo g r :: rest)) := by
  cases r with
  | none => exact lv_astoreN hx hb hdg h hn hl kk
  | some a => exact lv_astore hx hb hdg h hn hl kk
theorem jifnull {r : Option Nat} {off : Int} {tgt : Nat} (hx : p.tables.exec = Jvm.exec) (hb : c.code = cc) (hdg : decode cc pc = .ok (.ifnull off, 3)) (ht : (pc : Int) + off = (tgt : Int)) (kt : r.isNone = true → W p l e R s m args below meth c H locs cells slots Q (F0 m tgt ls rest)) (kf : ¬ r.isNone = true → W p l e R s m args below meth c H locs cells slots Q (F0 m (pc + 3) ls rest)) : W p l e R s m args below meth c H locs cells slots Q (F0 m pc ls (jo g r :: rest)) := by
  cases r with
  | none => exact lv_ifnullN hx hb hdg ht (kt rfl)
  | some a => exact lv_ifnull hx hb hdg (kf (by simp))
theorem jifnonnull {r : Option Nat} {off : Int} {tgt : Nat} (hx : p.tables.exec = Jvm.exec) (hb : c.code = cc) (hdg : decode cc pc = .ok (.ifnonnull off, 3)) (ht : (pc : Int) + off = (tgt : Int)) (kt : ¬ r.isNone = true → W p l e R s m args below meth c H locs cells slots Q (F0 m tgt ls rest)) (kf : r.isNone = true → W p l e R s m args below meth c H locs cells slots Q (F0 m (pc + 3) ls rest)) : W p l e R s m args below meth c H locs cells slots Q (F0 m pc ls (jo g r :: rest)) := by
  cases r with
  | none => exact lv_ifnonnullN hx hb hdg (kf rfl)
  | some a => exact lv_ifnonnull hx hb hdg ht (kt (by simp))
end JCALLS
