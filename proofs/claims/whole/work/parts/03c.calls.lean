section JCALLS
variable {p : Program} {l : Launch} {e : Env} {R : Room} {s : State} {m : MethodId} {args : Array Value} {below : List Frame} {meth : Method} {c : Code} {H : Heap} {locs : List Loc} {cells slots : Nat} {Q : State → Prop}
variable {cc : ByteArray} {own : String} {ret : Option FieldType} {maxL : Nat} {g : jG} {S S' : jM} {pc : Nat} {ls : Array Slot} {rest st : List Value} {a : Nat}
/-- a contract, from its body -/
theorem jof {y : MethodName} {k : Nat} {as : List Value} {Q : Array Value → State → Outcome → State → Prop} (hy : plainName y.cls = true) (hlen : (lg_sl as).length ≤ maxL)
    (body : ∀ (p : Program) (e : Env) (s : State) (m : MethodId) (below : List Frame) (meth : Method) (c : Code), jEnv p s m as.toArray meth c cc y.cls ret maxL g → jAt g S s s.heap [] → ∀ ls : Array Slot, lv_has ls maxL (lv_args 0 as) → W p l e (jRm k 0 0) s m as.toArray below meth c s.heap [] 0 0 (MQ below Q as.toArray s 0 0 (jA0 g)) (F0 m 0 ls [])) : jMet l g y cc maxL ret k 0 0 as S Q := by
  refine Met.ofW (cc := cc) (maxL := maxL) (ret := ret) hy rfl ?_
  intro p e s m args below meth c s₁ B hml hv
  obtain ⟨rfl, hP, hK⟩ := hv
  have hts := atoms_spec (ws := Cond.code y cc maxL ret :: jw) B.pre
  have hl := lv_entry as (n := maxL) hlen
  rw [lg_entry_eq]
  exact body p e s m below meth c ⟨B.exec, B.bytes, hml, B.returns, fun w hw => hts w (List.mem_cons_of_mem _ hw), findClass_of_methodNamed B.named, hK, B.notSynchronized⟩ ⟨hP, va_S.rf⟩ _ hl
theorem jireti {v : Int32} (E : jEnv p s m args meth c cc own (some .int) maxL g) (hM : jAt g S s H locs) (hdg : decode cc pc = .ok (.ireturn, 1)) : W p l e R s m args below meth c H locs cells slots (MQ below (jQi g v S) args s cells slots (jA0 g)) (F0 m pc ls [.int v]) :=
  W.iret E.1 E.2.1 E.2.2.2.1 (fun t ht _ => ⟨⟨v, (), rfl, rfl, by show va_P _ _ _ t.heap; rw [ht]; exact hM.1⟩, hM.2.F ht⟩) hM.2.2.2 hdg E.2.2.2.2.2.2.2
theorem jiretz {v : Int32} (E : jEnv p s m args meth c cc own (some .boolean) maxL g) (hM : jAt g S s H locs) (hz : jZ v = true) (hdg : decode cc pc = .ok (.ireturn, 1)) : W p l e R s m args below meth c H locs cells slots (MQ below (jQi g v S) args s cells slots (jA0 g)) (F0 m pc ls [.int v]) :=
  W.zret (ty := .boolean) E.1 E.2.1 E.2.2.2.1 (by simp only [jZ, Bool.or_eq_true, decide_eq_true_eq] at hz; rcases hz with rfl | rfl <;> rfl) (fun t ht _ => ⟨⟨v, (), rfl, rfl, by show va_P _ _ _ t.heap; rw [ht]; exact hM.1⟩, hM.2.F ht⟩) hM.2.2.2 hdg E.2.2.2.2.2.2.2
theorem jlret {v : Int64} (E : jEnv p s m args meth c cc own (some .long) maxL g) (hM : jAt g S s H locs) (hdg : decode cc pc = .ok (.lreturn, 1)) : W p l e R s m args below meth c H locs cells slots (MQ below (jQl g v S) args s cells slots (jA0 g)) (F0 m pc ls [.long v]) :=
  W.lret E.1 E.2.1 E.2.2.2.1 (fun t ht _ => ⟨⟨v, (), rfl, rfl, by show va_P _ _ _ t.heap; rw [ht]; exact hM.1⟩, hM.2.F ht⟩) hM.2.2.2 hdg E.2.2.2.2.2.2.2
theorem jdret {v : UInt64} (E : jEnv p s m args meth c cc own (some .double) maxL g) (hM : jAt g S s H locs) (hdg : decode cc pc = .ok (.dreturn, 1)) : W p l e R s m args below meth c H locs cells slots (MQ below (jQd g v S) args s cells slots (jA0 g)) (F0 m pc ls [.double v]) :=
  W.dret E.1 E.2.1 E.2.2.2.1 (fun t ht _ => ⟨⟨v, (), rfl, rfl, by show va_P _ _ _ t.heap; rw [ht]; exact hM.1⟩, hM.2.F ht⟩) hM.2.2.2 hdg E.2.2.2.2.2.2.2
theorem jvret (E : jEnv p s m args meth c cc own none maxL g) (hM : jAt g S s H locs) (hdg : decode cc pc = .ok (.return_, 1)) : W p l e R s m args below meth c H locs cells slots (MQ below (jQv g S) args s cells slots (jA0 g)) (F0 m pc ls []) :=
  W.vret E.1 E.2.1 E.2.2.2.1 (fun t ht _ => ⟨⟨(), rfl, trivial, by show va_P _ _ _ t.heap; rw [ht]; exact hM.1⟩, hM.2.F ht⟩) hM.2.2.2 hdg E.2.2.2.2.2.2.2
theorem jaret {v : Option Nat} {C : String} (E : jEnv p s m args meth c cc own (some (.object C)) maxL g) (hM : jAt g S s H locs) (hdg : decode cc pc = .ok (.areturn, 1)) : W p l e R s m args below meth c H locs cells slots (MQ below (jQq g v S) args s cells slots (jA0 g)) (F0 m pc ls [jo g v]) :=
  W.aret E.1 E.2.1 E.2.2.2.1 (.inl ⟨_, rfl⟩) (by cases v with | none => exact .inl rfl | some a => exact .inr ⟨_, rfl⟩) (fun t ht _ => ⟨⟨v.map (g.2.2 + ·), (), rfl, rfl, by show va_P _ _ _ t.heap; rw [ht]; exact hM.1⟩, hM.2.F ht⟩) hM.2.2.2 hdg E.2.2.2.2.2.2.2
/-- what a call asks of its callee, once a method -/
def jCV (y : MethodName) (yc : ByteArray) (yL : Nat) (yr : Option FieldType) (n : Nat) : Prop := Cond.instanceMethod y ∈ jw ∧ Cond.selects y.cls y y ∈ jw ∧ Cond.initialized y.cls ∈ jw ∧ Cond.code y yc yL yr ∈ jw ∧ (y.cls ≠ "java/lang/invoke/MethodHandle" ∧ y.cls ≠ "java/lang/invoke/VarHandle" ∧ (parseMethodDescriptor y.desc).map (fun d => d.parameters.length) = some n) ∧ yL ≤ 22
def jCS (y : MethodName) (yc : ByteArray) (yL : Nat) (yr : Option FieldType) (n : Nat) : Prop := Cond.static y ∈ jw ∧ Cond.initialized y.cls ∈ jw ∧ Cond.code y yc yL yr ∈ jw ∧ (y.cls ≠ "java/lang/invoke/MethodHandle" ∧ y.cls ≠ "java/lang/invoke/VarHandle" ∧ (parseMethodDescriptor y.desc).map (fun d => d.parameters.length) = some n) ∧ yL ≤ 22
theorem jgoodV {y : MethodName} {yc : ByteArray} {yL n idx : Nat} {yr : Option FieldType} (hC : jCV y yc yL yr n) (hl : Cond.methodLink own idx y ∈ jw) : GoodIn jw (wsV own idx y.cls y (Cond.code y yc yL yr :: jw)) := by
  have ok : ∀ w ∈ jw, w ∈ jw ∧ ((w.onTables && w.keeps) = true ∨ ∃ ty, w = .arrayClass ty) := fun w h => ⟨h, good_of_word (jw_good h)⟩
  intro w hw
  rcases List.mem_append.mp hw with hw | hw
  · simp only [List.mem_cons, List.not_mem_nil, or_false] at hw
    rcases hw with rfl | rfl | rfl | rfl
    · exact ok _ hl
    · exact ok _ hC.1
    · exact ok _ hC.2.1
    · exact ok _ hC.2.2.1
  · rcases List.mem_cons.mp hw with rfl | hw
    · exact ok _ hC.2.2.2.1
    · exact ok _ hw
theorem jgoodS {y : MethodName} {yc : ByteArray} {yL n idx : Nat} {yr : Option FieldType} (hC : jCS y yc yL yr n) (hl : Cond.methodLink own idx y ∈ jw) : GoodIn jw (va_wsS own idx y (Cond.code y yc yL yr :: jw)) := by
  have ok : ∀ w ∈ jw, w ∈ jw ∧ ((w.onTables && w.keeps) = true ∨ ∃ ty, w = .arrayClass ty) := fun w h => ⟨h, good_of_word (jw_good h)⟩
  intro w hw
  rcases List.mem_append.mp hw with hw | hw
  · simp only [List.mem_cons, List.not_mem_nil, or_false] at hw
    rcases hw with rfl | rfl | rfl
    · exact ok _ hl
    · exact ok _ hC.1
    · exact ok _ hC.2.1
  · rcases List.mem_cons.mp hw with rfl | hw
    · exact ok _ hC.2.2.1
    · exact ok _ hw
theorem jblind : FrameBlind (va_Pc (rest) (jPre g S)) := fun _ U g' mk q => ⟨q.1, q.2.1, va_K.moved (u := U) (U := U.calling g' mk _) (Vm.Alike.refl U.vm) q.2.2⟩
theorem jrunV (E : jEnv p s m args meth c cc own ret maxL g) (hM : jAt g S s H locs) {y : MethodName} {yc : ByteArray} {yL k n idx b : Nat} {yr : Option FieldType} {As : List Value} {Qc : Array Value → State → Outcome → State → Prop} {kd N : Nat} {T : u_T}
    (hC : jCV y yc yL yr n) (hm : jMet l g y yc yL yr k 0 0 (.ref (g.2.2 + b) :: As) S Qc) (hl : Cond.methodLink own idx y ∈ jw) (hkb : jK S b = kd) (hk11 : kd < 11) (hcl : vwCl[kd]? = some (y.cls, T, N)) (hls : ls.size = maxL) (hn : As.length = n) (hst : st = As.reverse ++ .ref (g.2.2 + b) :: rest) (hW : (rest.map fun v => v.category).sum ≤ 8)
    (hR : k + 1 ≤ R.frames ∧ 41 * (k + 1) ≤ R.locals) (hcs : cells ≤ R.cells ∧ slots ≤ R.slots) (hdg : decode cc pc = .ok (.invokevirtual idx, 3)) : va_Run p l e R s m args below meth c H locs cells slots 0 0 (F0 m pc ls st) rest (Qc (.ref (g.2.2 + b) :: As).toArray) (jA0 g) := by
  obtain ⟨hx, hb, hml, -, hts, hown, hK, -⟩ := id E
  have hy := hC.2.2.2.2.1
  have hL := hC.2.2.2.2.2
  exact va_runV (C := y.cls) (n := n) ⟨hx, hb, hml, hown, hts⟩ hm (cwV n hts (jgoodV hC hl) rfl rfl rfl ⟨rfl, hy.1, hy.2.1, hy.2.2⟩ ⟨hR.1, by show 8 + (yL + 11) + 41 * k ≤ R.locals; omega⟩) ⟨jblind, va_recv hK hM.1 hcl (jW_obj hkb hk11), fun U hU hW => ⟨rfl, by show va_P _ _ _ U.heap; rw [hU]; exact hM.1, va_K.moved hW.alike hK⟩⟩ rfl hn (by rw [← hls]) hst (lv_room hW) hdg ⟨hcs.1, hcs.2⟩
theorem jrunS (E : jEnv p s m args meth c cc own ret maxL g) (hM : jAt g S s H locs) {y : MethodName} {yc : ByteArray} {yL k n idx : Nat} {yr : Option FieldType} {As : List Value} {Qc : Array Value → State → Outcome → State → Prop}
    (hC : jCS y yc yL yr n) (hm : jMet l g y yc yL yr k 0 0 As S Qc) (hl : Cond.methodLink own idx y ∈ jw) (hls : ls.size = maxL) (hn : As.length = n) (hst : st = As.reverse ++ rest) (hW : (rest.map fun v => v.category).sum ≤ 8)
    (hR : k + 1 ≤ R.frames ∧ 41 * (k + 1) ≤ R.locals) (hcs : cells ≤ R.cells ∧ slots ≤ R.slots) (hdg : decode cc pc = .ok (.invokestatic idx, 3)) : va_Run p l e R s m args below meth c H locs cells slots 0 0 (F0 m pc ls st) rest (Qc As.toArray) (jA0 g) := by
  obtain ⟨hx, hb, hml, -, hts, hown, hK, -⟩ := id E
  have hy := hC.2.2.2.1
  have hL := hC.2.2.2.2
  exact va_runS (n := n) ⟨hx, hb, hml, hown, hts⟩ hm (va_cwS n hts (jgoodS hC hl) rfl rfl rfl hy ⟨hR.1, by show 8 + (yL + 11) + 41 * k ≤ R.locals; omega⟩) ⟨jblind, fun U hU hW => ⟨rfl, by show va_P _ _ _ U.heap; rw [hU]; exact hM.1, va_K.moved hW.alike hK⟩⟩ rfl hn (by rw [← hls]) hst (lv_room hW) hdg ⟨hcs.1, hcs.2⟩
theorem jbackI (hM : jAt g S s H locs) {r : Int32} {aa : Array Value} (hr : va_Run p l e R s m args below meth c H locs cells slots 0 0 (F0 m pc ls st) rest (jQi g r S' aa) (jA0 g))
    (kk : ∀ (H : Heap) (locs : List Loc), jAt g S' s H locs → W p l e R s m args below meth c H locs cells slots Q (F0 m (pc + 3) ls (.int r :: rest))) : W p l e R s m args below meth c H locs cells slots Q (F0 m pc ls st) :=
  va_calli hr hM.2 (fun _ _ h => h) (fun _ h => h) (fun r1 _ t H1 locs1 ht _ hp hB _ _ hS => by
    subst hp
    have hB : va_P _ _ _ t.heap := hB
    rw [ht] at hB
    exact kk H1 locs1 ⟨hB, hS⟩)
theorem jbackL (hM : jAt g S s H locs) {r : Int64} {aa : Array Value} (hr : va_Run p l e R s m args below meth c H locs cells slots 0 0 (F0 m pc ls st) rest (jQl g r S' aa) (jA0 g))
    (kk : ∀ (H : Heap) (locs : List Loc), jAt g S' s H locs → W p l e R s m args below meth c H locs cells slots Q (F0 m (pc + 3) ls (.long r :: rest))) : W p l e R s m args below meth c H locs cells slots Q (F0 m pc ls st) :=
  va_calll hr hM.2 (fun _ _ h => h) (fun _ h => h) (fun r1 _ t H1 locs1 ht _ hp hB _ _ hS => by
    subst hp
    have hB : va_P _ _ _ t.heap := hB
    rw [ht] at hB
    exact kk H1 locs1 ⟨hB, hS⟩)
theorem jbackD (hM : jAt g S s H locs) {r : UInt64} {aa : Array Value} (hr : va_Run p l e R s m args below meth c H locs cells slots 0 0 (F0 m pc ls st) rest (jQd g r S' aa) (jA0 g))
    (kk : ∀ (H : Heap) (locs : List Loc), jAt g S' s H locs → W p l e R s m args below meth c H locs cells slots Q (F0 m (pc + 3) ls (.double r :: rest))) : W p l e R s m args below meth c H locs cells slots Q (F0 m pc ls st) :=
  va_calld hr hM.2 (fun _ _ h => h) (fun _ h => h) (fun r1 _ t H1 locs1 ht _ hp hB _ _ hS => by
    subst hp
    have hB : va_P _ _ _ t.heap := hB
    rw [ht] at hB
    exact kk H1 locs1 ⟨hB, hS⟩)
theorem jbackV (hM : jAt g S s H locs) {aa : Array Value} (hr : va_Run p l e R s m args below meth c H locs cells slots 0 0 (F0 m pc ls st) rest (jQv g S' aa) (jA0 g))
    (kk : ∀ (H : Heap) (locs : List Loc), jAt g S' s H locs → W p l e R s m args below meth c H locs cells slots Q (F0 m (pc + 3) ls rest)) : W p l e R s m args below meth c H locs cells slots Q (F0 m pc ls st) :=
  va_callv hr hM.2 (fun _ _ h => h) (fun _ h => h) (fun _ t H1 locs1 ht _ _ hB _ _ hS => by
    have hB : va_P _ _ _ t.heap := hB
    rw [ht] at hB
    exact kk H1 locs1 ⟨hB, hS⟩)
theorem jbackQ (hM : jAt g S s H locs) {r : Option Nat} {aa : Array Value} (hr : va_Run p l e R s m args below meth c H locs cells slots 0 0 (F0 m pc ls st) rest (jQq g r S' aa) (jA0 g))
    (kk : ∀ (H : Heap) (locs : List Loc), jAt g S' s H locs → W p l e R s m args below meth c H locs cells slots Q (F0 m (pc + 3) ls (jo g r :: rest))) : W p l e R s m args below meth c H locs cells slots Q (F0 m pc ls st) :=
  va_callq hr hM.2 (fun _ _ h => h) (fun _ h => h) (fun r1 _ t H1 locs1 ht _ hp hB _ _ hS => by
    subst hp
    have hB : va_P _ _ _ t.heap := hB
    rw [ht] at hB
    exact kk H1 locs1 ⟨hB, hS⟩)
/-- lcmp and the branch behind it -/
theorem jlc {x y : Int64} : (lg_cmp x y < 0 ↔ x < y) ∧ (lg_cmp x y = 0 ↔ x = y) ∧ (0 < lg_cmp x y ↔ y < x) := by
  unfold lg_cmp
  sorry
end JCALLS
