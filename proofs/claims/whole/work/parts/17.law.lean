/-! THE CLAIM OUT OF ONE WALK OF THE LAW'S BODY. Your part is whole_start (and what it stands on); all else here is the same for every law, but numbers. -/
def R_law : String := "PensionHouseLaw"
def lw_P (b : Addr) (xs : List Int32) (args : Array Value) (s : State) : Prop := args = #[.ref b] ∧ s.IntsAt b xs ∧ xs.length ≤ 2560 ∧ (Jvm.Cond.and given_1 narrow_1).before args s = true
/-- what a walk over the start with the record d0 says of its end, said of the start itself -/
theorem lw_closed {s t : State} {o : Outcome} {d0 : Drawn} {L : List Loc} {k n : Nat} (hd0 : s.drawn.sameBut d0 lw_cs) (hv : ∃ v, o = .returned v) (hW : (s.setDrawn d0).WarmedH t.vm) (hs : (s.setDrawn d0).sameButNew ({ t with vm := s.vm } : State) L k n) : State.butDraws s t lw_cs (fun t1 => Framed s o t1 L k n) := by
  have h2 : t.drawn = d0 := congrArg State.drawn hs.1
  refine ⟨⟨hv, hW, State.sameButNew.setDrawn hs s.drawn⟩, ?_, by decide⟩
  rw [h2]
  exact hd0
def lw_Q (_ : Array Value) (s : State) (o : Outcome) (t : State) : Prop := o = .returned (some (.int 1)) ∧ State.butDraws s t lw_cs (fun t1 => Framed s o t1 [] 600000 7302250)
def lw_Z (below : List Frame) (a : Array Value) (s : State) : State → Prop := fun t => ∃ o, t.status = .running ∧ Ended t below o ∧ lw_Q a s o t
/-- the law's own end, with 1 on the stack, nothing written that was there before, its room as the claim has it; d0: the record of draws at this point (at the entry s.drawn: begin with 'refine W.base ?_' and 'have hd0 := Drawn.sameBut.refl s.drawn lw_cs') -/
theorem lw_ret {p : Program} {l : Launch} {e : Env} {s : State} {m : MethodId} {below : List Frame} {meth : Method} {c : Code} {b : Nat} {d0 : Drawn} (hd0 : s.drawn.sameBut d0 lw_cs) (hx : p.tables.exec = Jvm.exec) (hb : c.code = code) (hr : meth.sig.returnType = ret) (hlocks : meth.locks = false) {pc : Nat} {H : Heap} {ls : Array Slot} (hdg : decode code pc = .ok (.ireturn, 1)) : W p l e room_1 (s.setDrawn d0) m #[Value.ref b] below meth c H [] 600000 7302250 (lw_Z below #[Value.ref b] s) (F0 m pc ls [.int 1]) := by
  intro T hT X
  obtain ⟨fs, hret, hrun, hended, hW, hframe⟩ := X.leave (v := some (.int 1)) (hlocks := hlocks) (fun h => by rw [hr] at h; cases h)
  have hmeth' : T.vm.method? m = some meth := X.method'
  refine ⟨T.setFrames fs, ?_, .returned (some (.int 1)), hrun, hended, rfl, lw_closed hd0 ⟨_, rfl⟩ hW hframe⟩
  jvm_step X.here [X.here.top, hx, hb, hdg, hmeth', hr, ret, narrow_b1]
  (try refine ⟨rfl, ?_⟩); (try refine ⟨rfl, ?_⟩)
  first | (intro acts; rw [hret _ acts rfl rfl rfl]) | rw [hret _ _ rfl rfl rfl]
  exact Steps.refl _
/-- what holds at the law's entry: the machine, the code, the tables' words (any of lw_tbl by 'hts w (by decide +kernel)'), the script of L ints xs at the cell b, what the Statement gives of the start (any of its parts by flat_of_before) -/
def lw_At (p : Program) (s : State) (m : MethodId) (meth : Method) (c : Code) (b L : Nat) (xs : Nat → Int32) : Prop :=
  p.tables.exec = Jvm.exec ∧ c.code = code ∧ meth.sig.returnType = ret ∧ c.maxLocals = 4 ∧ s.vm.findClass R_law = some m.cls ∧ (∀ w ∈ lw_tbl, w.before #[Value.ref b] s = true) ∧ va_X b L xs s s.heap ∧ b < s.heap.size ∧ meth.locks = false ∧ (Jvm.Cond.and given_1 narrow_1).before #[Value.ref b] s = true
theorem jlawret {p : Program} {l : Launch} {e : Env} {s : State} {m : MethodId} {below : List Frame} {meth : Method} {c : Code} {H : Heap} {locs : List Loc} {b : Nat} {g : jG} {S SS : jM} {pc : Nat} {ls : Array Slot} (_ : S = SS) (hB : g.2.2 = s.heap.size) (E : jEnv p s m #[Value.ref b] meth c cL_law "PensionHouseLaw" (some .boolean) 4 g) (hM : jAt g S s H locs) (hdg : decode cL_law pc = .ok (.ireturn, 1)) : W p l e room_1 s m #[Value.ref b] below meth c H locs 2451 196021 (lw_Z below #[Value.ref b] s) (F0 m pc ls [.int 1]) := by
  refine va_forget (fun q hq => by have h := hM.2.1.2.2 q hq; rw [← hB]; exact h) ?_
  refine W.widen (Nat.le_of_ble_eq_true rfl : 2451 ≤ 600000) (Nat.le_of_ble_eq_true rfl : 196021 ≤ 7302250) ?_
  refine W.base ?_
  exact lw_ret (Drawn.sameBut.refl s.drawn lw_cs) E.1 E.2.1 E.2.2.2.1 E.2.2.2.2.2.2.2.1 hdg
noncomputable def f_L_law_1184 (L : Nat) (xs : Nat → Int32) (k18 : Nat → Nat → Int32 → jM → Option jM) (v1 : Nat) (v2 : Nat) (v3 : Int32) (S : jM) : Option jM := jlet (v3 + (5 : Int32)) (fun x1 => k18 v1 v2 x1 S)
noncomputable def f_L_law_317 (L : Nat) (xs : Nat → Int32) (k18 : Nat → Nat → Int32 → jM → Option jM) (v1 : Nat) (v2 : Nat) (v3 : Int32) (t0 : Int32) (t1 : Nat) (t2 : Int32) (S : jM) : Option jM := if jin (v3 + (2 : Int32)) L = true then if jK t1 = 10 then jbd (f_X12_person t1 t2 (xs (v3 + (2 : Int32)).toNatClampNeg) S) (fun x3 S4 => if t0 = x3 then f_L_law_1184 L xs k18 v1 v2 v3 S4 else none) else none else none
noncomputable def f_L_law_295 (L : Nat) (xs : Nat → Int32) (k18 : Nat → Nat → Int32 → jM → Option jM) (v1 : Nat) (v2 : Nat) (v3 : Int32) (t0 : Nat) (t1 : Int32) (S : jM) : Option jM := if jin (v3 + (2 : Int32)) L = true then if jK t0 = 9 then jbd (f_X11_person t0 t1 (xs (v3 + (2 : Int32)).toNatClampNeg) S) (fun x9 S10 => if jin (v3 + (1 : Int32)) L = true then if (xs (v3 + (1 : Int32)).toNatClampNeg) = 0 then f_L_law_317 L xs k18 v1 v2 v3 x9 v2 (0 : Int32) S10 else f_L_law_317 L xs k18 v1 v2 v3 x9 v2 (1 : Int32) S10 else none) else none else none
noncomputable def f_L_law_18 (L : Nat) (xs : Nat → Int32) : Nat → Nat → Nat → Int32 → jM → Option jM
  | 0, _, _, _, _ => none
  | n + 1, v1, v2, v3, S => if ((Int32.ofNat L) - (5 : Int32)) < v3 then some S else if jin v3 L = true then jlet ((xs (v3).toNatClampNeg) &&& (31 : Int32)) (fun x17 => if x17 = (0 : Int32) then if jin (v3 + (1 : Int32)) L = true then if jin (v3 + (2 : Int32)) L = true then if jin (v3 + (3 : Int32)) L = true then if jK v1 = 9 then jbd (f_X11_feed v1 ((((xs (v3 + (1 : Int32)).toNatClampNeg).toInt64) <<< ((32 : Int32).toInt64 &&& 63)) ||| (((xs (v3 + (2 : Int32)).toNatClampNeg).toInt64) &&& (4294967295 : Int64))) (xs (v3 + (3 : Int32)).toNatClampNeg) S) (fun x21 S22 => if jin (v3 + (1 : Int32)) L = true then if jin (v3 + (2 : Int32)) L = true then if jin (v3 + (3 : Int32)) L = true then if jK v2 = 10 then jbd (f_X12_feed v2 ((((xs (v3 + (1 : Int32)).toNatClampNeg).toInt64) <<< ((32 : Int32).toInt64 &&& 63)) ||| (((xs (v3 + (2 : Int32)).toNatClampNeg).toInt64) &&& (4294967295 : Int64))) (xs (v3 + (3 : Int32)).toNatClampNeg) S22) (fun x28 S29 => if x21 = x28 then f_L_law_1184 L xs (f_L_law_18 L xs n) v1 v2 v3 S29 else none) else none else none else none else none) else none else none else none else none else if x17 = (1 : Int32) then if jin (v3 + (1 : Int32)) L = true then if jK v1 = 9 then jbd (f_X11_cut v1 (xs (v3 + (1 : Int32)).toNatClampNeg) S) (fun x35 S36 => if jin (v3 + (1 : Int32)) L = true then if jK v2 = 10 then jbd (f_X12_cut v2 (xs (v3 + (1 : Int32)).toNatClampNeg) S36) (fun x40 S41 => if x35 = x40 then f_L_law_1184 L xs (f_L_law_18 L xs n) v1 v2 v3 S41 else none) else none else none) else none else none else if x17 = (2 : Int32) then if jin (v3 + (1 : Int32)) L = true then if jK v1 = 9 then jbd (f_X11_clock v1 (xs (v3 + (1 : Int32)).toNatClampNeg) S) (fun x47 S48 => if jin (v3 + (1 : Int32)) L = true then if jK v2 = 10 then jbd (f_X12_clock v2 (xs (v3 + (1 : Int32)).toNatClampNeg) S48) (fun x52 S53 => if x47 = x52 then f_L_law_1184 L xs (f_L_law_18 L xs n) v1 v2 v3 S53 else none) else none else none) else none else none else if x17 = (3 : Int32) then if jin (v3 + (1 : Int32)) L = true then if (xs (v3 + (1 : Int32)).toNatClampNeg) = 0 then f_L_law_295 L xs (f_L_law_18 L xs n) v1 v2 v3 v1 (0 : Int32) S else f_L_law_295 L xs (f_L_law_18 L xs n) v1 v2 v3 v1 (1 : Int32) S else none else if x17 = (4 : Int32) then if jin (v3 + (1 : Int32)) L = true then if jin (v3 + (2 : Int32)) L = true then if jK v1 = 9 then jbd (f_X11_desk v1 (xs (v3 + (1 : Int32)).toNatClampNeg) (xs (v3 + (2 : Int32)).toNatClampNeg) S) (fun x63 S64 => if jin (v3 + (1 : Int32)) L = true then if jin (v3 + (2 : Int32)) L = true then if jK v2 = 10 then jbd (f_X12_desk v2 (xs (v3 + (1 : Int32)).toNatClampNeg) (xs (v3 + (2 : Int32)).toNatClampNeg) S64) (fun x69 S70 => if x63 = x69 then f_L_law_1184 L xs (f_L_law_18 L xs n) v1 v2 v3 S70 else none) else none else none else none) else none else none else none else if x17 = (5 : Int32) then if jin (v3 + (1 : Int32)) L = true then if jin (v3 + (2 : Int32)) L = true then if jin (v3 + (3 : Int32)) L = true then if jK v1 = 9 then jbd (f_X11_write v1 (xs (v3 + (1 : Int32)).toNatClampNeg) ((((xs (v3 + (2 : Int32)).toNatClampNeg).toInt64) <<< ((32 : Int32).toInt64 &&& 63)) ||| (((xs (v3 + (3 : Int32)).toNatClampNeg).toInt64) &&& (4294967295 : Int64))) S) (fun x78 S79 => if jin (v3 + (1 : Int32)) L = true then if jin (v3 + (2 : Int32)) L = true then if jin (v3 + (3 : Int32)) L = true then if jK v2 = 10 then jbd (f_X12_write v2 (xs (v3 + (1 : Int32)).toNatClampNeg) ((((xs (v3 + (2 : Int32)).toNatClampNeg).toInt64) <<< ((32 : Int32).toInt64 &&& 63)) ||| (((xs (v3 + (3 : Int32)).toNatClampNeg).toInt64) &&& (4294967295 : Int64))) S79) (fun x85 S86 => if x78 = x85 then f_L_law_1184 L xs (f_L_law_18 L xs n) v1 v2 v3 S86 else none) else none else none else none else none) else none else none else none else none else if x17 = (6 : Int32) then if jin (v3 + (1 : Int32)) L = true then if jin (v3 + (2 : Int32)) L = true then if jK v1 = 9 then jbd (f_X11_seat v1 (xs (v3 + (1 : Int32)).toNatClampNeg) (xs (v3 + (2 : Int32)).toNatClampNeg) S) (fun x93 S94 => if jin (v3 + (1 : Int32)) L = true then if jin (v3 + (2 : Int32)) L = true then if jK v2 = 10 then jbd (f_X12_seat v2 (xs (v3 + (1 : Int32)).toNatClampNeg) (xs (v3 + (2 : Int32)).toNatClampNeg) S94) (fun x99 S100 => if x93 = x99 then f_L_law_1184 L xs (f_L_law_18 L xs n) v1 v2 v3 S100 else none) else none else none else none) else none else none else none else if x17 = (7 : Int32) then if jK v1 = 9 then (f_X11_sort v1 S).bind (fun x105 => if jK v2 = 10 then (f_X12_sort v2 S).bind (fun x108 => if x105 = x108 then f_L_law_1184 L xs (f_L_law_18 L xs n) v1 v2 v3 S else none) else none) else none else if x17 = (8 : Int32) then if jK v1 = 9 then (f_X11_length v1 S).bind (fun x113 => if jK v2 = 10 then (f_X12_length v2 S).bind (fun x116 => if x113 = x116 then f_L_law_1184 L xs (f_L_law_18 L xs n) v1 v2 v3 S else none) else none) else none else if x17 = (9 : Int32) then if jin (v3 + (1 : Int32)) L = true then if jK v1 = 9 then (f_X11_read v1 (xs (v3 + (1 : Int32)).toNatClampNeg) S).bind (fun x122 => if jin (v3 + (1 : Int32)) L = true then if jK v2 = 10 then (f_X12_read v2 (xs (v3 + (1 : Int32)).toNatClampNeg) S).bind (fun x126 => if x122 = x126 then f_L_law_1184 L xs (f_L_law_18 L xs n) v1 v2 v3 S else none) else none else none) else none else none else if x17 = (10 : Int32) then if jin (v3 + (1 : Int32)) L = true then if jin (v3 + (2 : Int32)) L = true then if jin (v3 + (3 : Int32)) L = true then if jK v1 = 9 then jbd (f_X11_fact v1 (xs (v3 + (1 : Int32)).toNatClampNeg) (xs (v3 + (2 : Int32)).toNatClampNeg) (xs (v3 + (3 : Int32)).toNatClampNeg) S) (fun x134 S135 => if jin (v3 + (1 : Int32)) L = true then if jin (v3 + (2 : Int32)) L = true then if jin (v3 + (3 : Int32)) L = true then if jK v2 = 10 then jbd (f_X12_fact v2 (xs (v3 + (1 : Int32)).toNatClampNeg) (xs (v3 + (2 : Int32)).toNatClampNeg) (xs (v3 + (3 : Int32)).toNatClampNeg) S135) (fun x141 S142 => if x134 = x141 then f_L_law_1184 L xs (f_L_law_18 L xs n) v1 v2 v3 S142 else none) else none else none else none else none) else none else none else none else none else if x17 = (11 : Int32) then if jin (v3 + (1 : Int32)) L = true then if jK v1 = 9 then jbd (f_X11_annul v1 (xs (v3 + (1 : Int32)).toNatClampNeg) S) (fun x148 S149 => if jin (v3 + (1 : Int32)) L = true then if jK v2 = 10 then jbd (f_X12_annul v2 (xs (v3 + (1 : Int32)).toNatClampNeg) S149) (fun x153 S154 => if x148 = x153 then f_L_law_1184 L xs (f_L_law_18 L xs n) v1 v2 v3 S154 else none) else none else none) else none else none else if x17 = (12 : Int32) then if jin (v3 + (1 : Int32)) L = true then if jin (v3 + (2 : Int32)) L = true then if jin (v3 + (3 : Int32)) L = true then if jK v1 = 9 then jbd (f_X11_known v1 (xs (v3 + (1 : Int32)).toNatClampNeg) (xs (v3 + (2 : Int32)).toNatClampNeg) (xs (v3 + (3 : Int32)).toNatClampNeg) S) (fun x162 S163 => if jin (v3 + (1 : Int32)) L = true then if jin (v3 + (2 : Int32)) L = true then if jin (v3 + (3 : Int32)) L = true then if jK v2 = 10 then jbd (f_X12_known v2 (xs (v3 + (1 : Int32)).toNatClampNeg) (xs (v3 + (2 : Int32)).toNatClampNeg) (xs (v3 + (3 : Int32)).toNatClampNeg) S163) (fun x169 S170 => if x162 = x169 then f_L_law_1184 L xs (f_L_law_18 L xs n) v1 v2 v3 S170 else none) else none else none else none else none) else none else none else none else none else if x17 = (13 : Int32) then if jin (v3 + (1 : Int32)) L = true then if jin (v3 + (2 : Int32)) L = true then if jK v1 = 9 then jbd (f_X11_edition v1 (xs (v3 + (1 : Int32)).toNatClampNeg) (xs (v3 + (2 : Int32)).toNatClampNeg) S) (fun x177 S178 => if jin (v3 + (1 : Int32)) L = true then if jin (v3 + (2 : Int32)) L = true then if jK v2 = 10 then jbd (f_X12_edition v2 (xs (v3 + (1 : Int32)).toNatClampNeg) (xs (v3 + (2 : Int32)).toNatClampNeg) S178) (fun x183 S184 => if x177 = x183 then f_L_law_1184 L xs (f_L_law_18 L xs n) v1 v2 v3 S184 else none) else none else none else none) else none else none else none else if x17 = (14 : Int32) then if jK v1 = 9 then (f_X11_fault v1 S).bind (fun x189 => if jK v2 = 10 then (f_X12_fault v2 S).bind (fun x192 => if x189 = x192 then f_L_law_1184 L xs (f_L_law_18 L xs n) v1 v2 v3 S else none) else none) else none else if x17 = (15 : Int32) then if jin (v3 + (1 : Int32)) L = true then if jin (v3 + (2 : Int32)) L = true then if jK v1 = 9 then (f_X11_inForce v1 (xs (v3 + (1 : Int32)).toNatClampNeg) (xs (v3 + (2 : Int32)).toNatClampNeg) S).bind (fun x199 => if jin (v3 + (1 : Int32)) L = true then if jin (v3 + (2 : Int32)) L = true then if jK v2 = 10 then (f_X12_inForce v2 (xs (v3 + (1 : Int32)).toNatClampNeg) (xs (v3 + (2 : Int32)).toNatClampNeg) S).bind (fun x204 => if x199 = x204 then f_L_law_1184 L xs (f_L_law_18 L xs n) v1 v2 v3 S else none) else none else none else none) else none else none else none else if x17 = (16 : Int32) then if jin (v3 + (1 : Int32)) L = true then if jin (v3 + (2 : Int32)) L = true then if jin (v3 + (3 : Int32)) L = true then if jin (v3 + (4 : Int32)) L = true then if jK v1 = 9 then jbd (f_X11_figure v1 (xs (v3 + (1 : Int32)).toNatClampNeg) (xs (v3 + (2 : Int32)).toNatClampNeg) (xs (v3 + (3 : Int32)).toNatClampNeg) (xs (v3 + (4 : Int32)).toNatClampNeg) S) (fun x213 S214 => if jin (v3 + (1 : Int32)) L = true then if jin (v3 + (2 : Int32)) L = true then if jin (v3 + (3 : Int32)) L = true then if jin (v3 + (4 : Int32)) L = true then if jK v2 = 10 then jbd (f_X12_figure v2 (xs (v3 + (1 : Int32)).toNatClampNeg) (xs (v3 + (2 : Int32)).toNatClampNeg) (xs (v3 + (3 : Int32)).toNatClampNeg) (xs (v3 + (4 : Int32)).toNatClampNeg) S214) (fun x221 S222 => if x213 = x221 then f_L_law_1184 L xs (f_L_law_18 L xs n) v1 v2 v3 S222 else none) else none else none else none else none else none) else none else none else none else none else none else if x17 = (17 : Int32) then if jin (v3 + (1 : Int32)) L = true then if jK v1 = 9 then (f_X11_told v1 (xs (v3 + (1 : Int32)).toNatClampNeg) S).bind (fun x228 => if jin (v3 + (1 : Int32)) L = true then if jK v2 = 10 then (f_X12_told v2 (xs (v3 + (1 : Int32)).toNatClampNeg) S).bind (fun x232 => if x228 = x232 then f_L_law_1184 L xs (f_L_law_18 L xs n) v1 v2 v3 S else none) else none else none) else none else none else if x17 = (18 : Int32) then if jin (v3 + (1 : Int32)) L = true then if jK v1 = 9 then jbd (f_X11_step v1 (xs (v3 + (1 : Int32)).toNatClampNeg) S) (fun x238 S239 => if jin (v3 + (1 : Int32)) L = true then if jK v2 = 10 then jbd (f_X12_step v2 (xs (v3 + (1 : Int32)).toNatClampNeg) S239) (fun x243 S244 => if x238 = x243 then f_L_law_1184 L xs (f_L_law_18 L xs n) v1 v2 v3 S244 else none) else none else none) else none else none else if x17 = (19 : Int32) then if jin (v3 + (1 : Int32)) L = true then if jin (v3 + (2 : Int32)) L = true then if jin (v3 + (3 : Int32)) L = true then if jK v1 = 9 then jbd (f_X11_trial v1 (xs (v3 + (1 : Int32)).toNatClampNeg) (xs (v3 + (2 : Int32)).toNatClampNeg) (xs (v3 + (3 : Int32)).toNatClampNeg) S) (fun x252 S253 => if jin (v3 + (1 : Int32)) L = true then if jin (v3 + (2 : Int32)) L = true then if jin (v3 + (3 : Int32)) L = true then if jK v2 = 10 then jbd (f_X12_trial v2 (xs (v3 + (1 : Int32)).toNatClampNeg) (xs (v3 + (2 : Int32)).toNatClampNeg) (xs (v3 + (3 : Int32)).toNatClampNeg) S253) (fun x259 S260 => if x252 = x259 then f_L_law_1184 L xs (f_L_law_18 L xs n) v1 v2 v3 S260 else none) else none else none else none else none) else none else none else none else none else if x17 = (20 : Int32) then if jin (v3 + (1 : Int32)) L = true then if jin (v3 + (2 : Int32)) L = true then if jin (v3 + (3 : Int32)) L = true then if jK v1 = 9 then jbd (f_X11_award v1 (xs (v3 + (1 : Int32)).toNatClampNeg) (xs (v3 + (2 : Int32)).toNatClampNeg) (xs (v3 + (3 : Int32)).toNatClampNeg) S) (fun x268 S269 => if jin (v3 + (1 : Int32)) L = true then if jin (v3 + (2 : Int32)) L = true then if jin (v3 + (3 : Int32)) L = true then if jK v2 = 10 then jbd (f_X12_award v2 (xs (v3 + (1 : Int32)).toNatClampNeg) (xs (v3 + (2 : Int32)).toNatClampNeg) (xs (v3 + (3 : Int32)).toNatClampNeg) S269) (fun x275 S276 => if x268 = x275 then f_L_law_1184 L xs (f_L_law_18 L xs n) v1 v2 v3 S276 else none) else none else none else none else none) else none else none else none else none else if x17 = (21 : Int32) then if jin (v3 + (1 : Int32)) L = true then if jin (v3 + (2 : Int32)) L = true then if jin (v3 + (3 : Int32)) L = true then if jK v1 = 9 then jbd (f_X11_due v1 (xs (v3 + (1 : Int32)).toNatClampNeg) (xs (v3 + (2 : Int32)).toNatClampNeg) (xs (v3 + (3 : Int32)).toNatClampNeg) S) (fun x284 S285 => if jin (v3 + (1 : Int32)) L = true then if jin (v3 + (2 : Int32)) L = true then if jin (v3 + (3 : Int32)) L = true then if jK v2 = 10 then jbd (f_X12_due v2 (xs (v3 + (1 : Int32)).toNatClampNeg) (xs (v3 + (2 : Int32)).toNatClampNeg) (xs (v3 + (3 : Int32)).toNatClampNeg) S285) (fun x291 S292 => if x284 = x291 then f_L_law_1184 L xs (f_L_law_18 L xs n) v1 v2 v3 S292 else none) else none else none else none else none) else none else none else none else none else if x17 = (22 : Int32) then if jin (v3 + (1 : Int32)) L = true then if jin (v3 + (2 : Int32)) L = true then if jin (v3 + (3 : Int32)) L = true then if jK v1 = 9 then jbd (f_X11_deduct v1 (xs (v3 + (1 : Int32)).toNatClampNeg) (xs (v3 + (2 : Int32)).toNatClampNeg) (xs (v3 + (3 : Int32)).toNatClampNeg) S) (fun x300 S301 => if jin (v3 + (1 : Int32)) L = true then if jin (v3 + (2 : Int32)) L = true then if jin (v3 + (3 : Int32)) L = true then if jK v2 = 10 then jbd (f_X12_deduct v2 (xs (v3 + (1 : Int32)).toNatClampNeg) (xs (v3 + (2 : Int32)).toNatClampNeg) (xs (v3 + (3 : Int32)).toNatClampNeg) S301) (fun x307 S308 => if x300 = x307 then f_L_law_1184 L xs (f_L_law_18 L xs n) v1 v2 v3 S308 else none) else none else none else none else none) else none else none else none else none else if x17 = (23 : Int32) then if jin (v3 + (1 : Int32)) L = true then if jK v1 = 9 then jbd (f_X11_share v1 (xs (v3 + (1 : Int32)).toNatClampNeg) S) (fun x314 S315 => if jin (v3 + (1 : Int32)) L = true then if jK v2 = 10 then jbd (f_X12_share v2 (xs (v3 + (1 : Int32)).toNatClampNeg) S315) (fun x319 S320 => if x314 = x319 then f_L_law_1184 L xs (f_L_law_18 L xs n) v1 v2 v3 S320 else none) else none else none) else none else none else if x17 = (24 : Int32) then if jin (v3 + (1 : Int32)) L = true then if jK v1 = 9 then jbd (f_X11_run v1 (xs (v3 + (1 : Int32)).toNatClampNeg) S) (fun x326 S327 => if jin (v3 + (1 : Int32)) L = true then if jK v2 = 10 then jbd (f_X12_run v2 (xs (v3 + (1 : Int32)).toNatClampNeg) S327) (fun x331 S332 => if x326 = x331 then f_L_law_1184 L xs (f_L_law_18 L xs n) v1 v2 v3 S332 else none) else none else none) else none else none else if x17 = (25 : Int32) then if jin (v3 + (1 : Int32)) L = true then if jK v1 = 9 then jbd (f_X11_advance v1 (xs (v3 + (1 : Int32)).toNatClampNeg) S) (fun x338 S339 => if jin (v3 + (1 : Int32)) L = true then if jK v2 = 10 then jbd (f_X12_advance v2 (xs (v3 + (1 : Int32)).toNatClampNeg) S339) (fun x343 S344 => if x338 = x343 then f_L_law_1184 L xs (f_L_law_18 L xs n) v1 v2 v3 S344 else none) else none else none) else none else none else if x17 = (26 : Int32) then if jin (v3 + (1 : Int32)) L = true then if jin (v3 + (2 : Int32)) L = true then if jK v1 = 9 then (f_X11_payment v1 (xs (v3 + (1 : Int32)).toNatClampNeg) (xs (v3 + (2 : Int32)).toNatClampNeg) S).bind (fun x351 => if jin (v3 + (1 : Int32)) L = true then if jin (v3 + (2 : Int32)) L = true then if jK v2 = 10 then (f_X12_payment v2 (xs (v3 + (1 : Int32)).toNatClampNeg) (xs (v3 + (2 : Int32)).toNatClampNeg) S).bind (fun x356 => if x351 = x356 then f_L_law_1184 L xs (f_L_law_18 L xs n) v1 v2 v3 S else none) else none else none else none) else none else none else none else if x17 = (27 : Int32) then if jin (v3 + (1 : Int32)) L = true then if jin (v3 + (2 : Int32)) L = true then if jK v1 = 9 then (f_X11_taken v1 (xs (v3 + (1 : Int32)).toNatClampNeg) (xs (v3 + (2 : Int32)).toNatClampNeg) S).bind (fun x363 => if jin (v3 + (1 : Int32)) L = true then if jin (v3 + (2 : Int32)) L = true then if jK v2 = 10 then (f_X12_taken v2 (xs (v3 + (1 : Int32)).toNatClampNeg) (xs (v3 + (2 : Int32)).toNatClampNeg) S).bind (fun x368 => if x363 = x368 then f_L_law_1184 L xs (f_L_law_18 L xs n) v1 v2 v3 S else none) else none else none else none) else none else none else none else if x17 = (28 : Int32) then if jin (v3 + (1 : Int32)) L = true then if jK v1 = 9 then jbd (f_X11_returned v1 (xs (v3 + (1 : Int32)).toNatClampNeg) S) (fun x374 S375 => if jin (v3 + (1 : Int32)) L = true then if jK v2 = 10 then jbd (f_X12_returned v2 (xs (v3 + (1 : Int32)).toNatClampNeg) S375) (fun x379 S380 => if x374 = x379 then f_L_law_1184 L xs (f_L_law_18 L xs n) v1 v2 v3 S380 else none) else none else none) else none else none else if x17 = (29 : Int32) then if jin (v3 + (1 : Int32)) L = true then if jin (v3 + (2 : Int32)) L = true then if jK v1 = 9 then jbd (f_X11_balance v1 (xs (v3 + (1 : Int32)).toNatClampNeg) (xs (v3 + (2 : Int32)).toNatClampNeg) S) (fun x387 S388 => if jin (v3 + (1 : Int32)) L = true then if jin (v3 + (2 : Int32)) L = true then if jK v2 = 10 then jbd (f_X12_balance v2 (xs (v3 + (1 : Int32)).toNatClampNeg) (xs (v3 + (2 : Int32)).toNatClampNeg) S388) (fun x393 S394 => if x387 = x393 then f_L_law_1184 L xs (f_L_law_18 L xs n) v1 v2 v3 S394 else none) else none else none else none) else none else none else none else if x17 = (30 : Int32) then if jin (v3 + (1 : Int32)) L = true then if jK v1 = 9 then (f_X11_count v1 (xs (v3 + (1 : Int32)).toNatClampNeg) S).bind (fun x400 => if jin (v3 + (1 : Int32)) L = true then if jK v2 = 10 then (f_X12_count v2 (xs (v3 + (1 : Int32)).toNatClampNeg) S).bind (fun x404 => if x400 = x404 then f_L_law_1184 L xs (f_L_law_18 L xs n) v1 v2 v3 S else none) else none else none) else none else none else f_L_law_1184 L xs (f_L_law_18 L xs n) v1 v2 v3 S) else none
set_option maxRecDepth 100000 in
set_option maxHeartbeats 4000000 in
theorem B_L_law_1184 {p : Program} {l : Launch} {e : Env} {s : State} {m : MethodId} {below : List Frame} {meth : Method} {c : Code} {g : jG} {b L : Nat} {xs : Nat → Int32} (hX : va_X b L xs s s.heap) (hbl : b < s.heap.size) (hbA : ¬ jA0 g b) (hB : g.2.2 = s.heap.size) {SS : jM} {v1 : Nat} {v2 : Nat} {v3 : Int32} {S : jM} {k18 : Nat → Nat → Int32 → jM → Option jM} (E : jEnv p s m #[Value.ref b] meth c cL_law "PensionHouseLaw" (some .boolean) 4 g) (hk18 : ∀ (v1 : Nat) (v2 : Nat) (v3 : Int32) (S : jM) (H : Heap) (locs : List Loc) (ls : Array Slot), k18 v1 v2 v3 S = some SS → jAt g S s H locs → lv_has ls 4 [(0, .ref b), (1, .ref (g.2.2 + v1)), (2, .ref (g.2.2 + v2)), (3, .int v3)] → W p l e room_1 s m #[Value.ref b] below meth c H locs 2451 196021 (lw_Z below #[Value.ref b] s) (F0 m 18 ls [])) {H : Heap} {locs : List Loc} {ls : Array Slot} (hf : f_L_law_1184 L xs k18 v1 v2 v3 S = some SS) (hM : jAt g S s H locs) (hl : lv_has ls 4 [(0, .ref b), (1, .ref (g.2.2 + v1)), (2, .ref (g.2.2 + v2)), (3, .int v3)]) : W p l e room_1 s m #[Value.ref b] below meth c H locs 2451 196021 (lw_Z below #[Value.ref b] s) (F0 m 1184 ls []) := by
  obtain ⟨hx, hb, hml, -, hts, hown, hK, -, hstr⟩ := id E
  unfold f_L_law_1184 at hf
  obtain ⟨x1, ex1⟩ : ∃ z, z = v3 + (5 : Int32) := ⟨_, rfl⟩
  have hf := jlet_y ex1 hf
  refine lv_iinc (v := x1) (lv' := [(3, .int x1), (0, .ref b), (1, .ref (g.2.2 + v1)), (2, .ref (g.2.2 + v2))]) hx hb dL_law_1184 hl (k := 3) rfl (by rw [ex1]; rfl) (by decide) rfl (fun ls hl => ?_)
  refine lv_goto (tgt := 18) hx hb dL_law_1187 (by decide) ?_
  exact hk18 v1 v2 x1 S _ _ _ hf hM (lv_sub hl [1, 2, 3, 0] rfl)
set_option maxRecDepth 100000 in
set_option maxHeartbeats 4000000 in
theorem B_L_law_317 {p : Program} {l : Launch} {e : Env} {s : State} {m : MethodId} {below : List Frame} {meth : Method} {c : Code} {g : jG} {b L : Nat} {xs : Nat → Int32} (hX : va_X b L xs s s.heap) (hbl : b < s.heap.size) (hbA : ¬ jA0 g b) (hB : g.2.2 = s.heap.size) {SS : jM} {v1 : Nat} {v2 : Nat} {v3 : Int32} {t0 : Int32} {t1 : Nat} {t2 : Int32} {S : jM} {k18 : Nat → Nat → Int32 → jM → Option jM} (E : jEnv p s m #[Value.ref b] meth c cL_law "PensionHouseLaw" (some .boolean) 4 g) (hk18 : ∀ (v1 : Nat) (v2 : Nat) (v3 : Int32) (S : jM) (H : Heap) (locs : List Loc) (ls : Array Slot), k18 v1 v2 v3 S = some SS → jAt g S s H locs → lv_has ls 4 [(0, .ref b), (1, .ref (g.2.2 + v1)), (2, .ref (g.2.2 + v2)), (3, .int v3)] → W p l e room_1 s m #[Value.ref b] below meth c H locs 2451 196021 (lw_Z below #[Value.ref b] s) (F0 m 18 ls [])) {H : Heap} {locs : List Loc} {ls : Array Slot} (hf : f_L_law_317 L xs k18 v1 v2 v3 t0 t1 t2 S = some SS) (hM : jAt g S s H locs) (hl : lv_has ls 4 [(0, .ref b), (1, .ref (g.2.2 + v1)), (2, .ref (g.2.2 + v2)), (3, .int v3)]) : W p l e room_1 s m #[Value.ref b] below meth c H locs 2451 196021 (lw_Z below #[Value.ref b] s) (F0 m 317 ls [.int t2, .ref (g.2.2 + t1), .int t0]) := by
  obtain ⟨hx, hb, hml, -, hts, hown, hK, -, hstr⟩ := id E
  unfold f_L_law_317 at hf
  refine lv_aload_n hx hb dL_law_317 rfl (lv_at hl 0 rfl) ?_
  refine lv_iload_n hx hb dL_law_318 rfl (lv_at hl 3 rfl) ?_
  refine lv_iconst (v := (2 : Int32)) hx hb dL_law_319 (by decide) ?_
  refine lv_iadd hx hb dL_law_320 ?_
  obtain ⟨ha2, hf⟩ := jif hf
  refine va_sld hx hb hX hbl hbA hM.2.1 (jin_in ha2) dL_law_321 ?_
  obtain ⟨hq6, hf⟩ := jif hf
  obtain ⟨x3, S4, hc5, hf⟩ := jbd_e hf
  refine jbackI hM (jrunV E hM ci_X12_person (C_X12_person hc5) lk_7_48 hq6 (by decide) rfl hl.1 rfl rfl (Nat.le_of_ble_eq_true rfl) ⟨Nat.le_of_ble_eq_true rfl, Nat.le_of_ble_eq_true rfl⟩ ⟨Nat.le_of_ble_eq_true rfl, Nat.le_of_ble_eq_true rfl⟩ dL_law_322) (fun H locs hM => ?_)
  refine lv_icmp_eq (tgt := 1184) hx hb dL_law_325 (by decide) (fun c7 => ?_) (fun c7 => ?_)
  · have hf := jt c7 hf
    exact B_L_law_1184 hX hbl hbA hB E hk18 hf hM (lv_sub hl [0, 1, 2, 3] rfl)
  · have hf := jf c7 hf
    refine lv_iconst (v := (0 : Int32)) hx hb dL_law_328 (by decide) ?_
    cases hf
set_option maxRecDepth 100000 in
set_option maxHeartbeats 4000000 in
theorem B_L_law_295 {p : Program} {l : Launch} {e : Env} {s : State} {m : MethodId} {below : List Frame} {meth : Method} {c : Code} {g : jG} {b L : Nat} {xs : Nat → Int32} (hX : va_X b L xs s s.heap) (hbl : b < s.heap.size) (hbA : ¬ jA0 g b) (hB : g.2.2 = s.heap.size) {SS : jM} {v1 : Nat} {v2 : Nat} {v3 : Int32} {t0 : Nat} {t1 : Int32} {S : jM} {k18 : Nat → Nat → Int32 → jM → Option jM} (E : jEnv p s m #[Value.ref b] meth c cL_law "PensionHouseLaw" (some .boolean) 4 g) (hk18 : ∀ (v1 : Nat) (v2 : Nat) (v3 : Int32) (S : jM) (H : Heap) (locs : List Loc) (ls : Array Slot), k18 v1 v2 v3 S = some SS → jAt g S s H locs → lv_has ls 4 [(0, .ref b), (1, .ref (g.2.2 + v1)), (2, .ref (g.2.2 + v2)), (3, .int v3)] → W p l e room_1 s m #[Value.ref b] below meth c H locs 2451 196021 (lw_Z below #[Value.ref b] s) (F0 m 18 ls [])) {H : Heap} {locs : List Loc} {ls : Array Slot} (hf : f_L_law_295 L xs k18 v1 v2 v3 t0 t1 S = some SS) (hM : jAt g S s H locs) (hl : lv_has ls 4 [(0, .ref b), (1, .ref (g.2.2 + v1)), (2, .ref (g.2.2 + v2)), (3, .int v3)]) : W p l e room_1 s m #[Value.ref b] below meth c H locs 2451 196021 (lw_Z below #[Value.ref b] s) (F0 m 295 ls [.int t1, .ref (g.2.2 + t0)]) := by
  obtain ⟨hx, hb, hml, -, hts, hown, hK, -, hstr⟩ := id E
  unfold f_L_law_295 at hf
  refine lv_aload_n hx hb dL_law_295 rfl (lv_at hl 0 rfl) ?_
  refine lv_iload_n hx hb dL_law_296 rfl (lv_at hl 3 rfl) ?_
  refine lv_iconst (v := (2 : Int32)) hx hb dL_law_297 (by decide) ?_
  refine lv_iadd hx hb dL_law_298 ?_
  obtain ⟨ha8, hf⟩ := jif hf
  refine va_sld hx hb hX hbl hbA hM.2.1 (jin_in ha8) dL_law_299 ?_
  obtain ⟨hq12, hf⟩ := jif hf
  obtain ⟨x9, S10, hc11, hf⟩ := jbd_e hf
  refine jbackI hM (jrunV E hM ci_X11_person (C_X11_person hc11) lk_2_214 hq12 (by decide) rfl hl.1 rfl rfl (Nat.le_of_ble_eq_true rfl) ⟨Nat.le_of_ble_eq_true rfl, Nat.le_of_ble_eq_true rfl⟩ ⟨Nat.le_of_ble_eq_true rfl, Nat.le_of_ble_eq_true rfl⟩ dL_law_300) (fun H locs hM => ?_)
  refine lv_aload_n hx hb dL_law_303 rfl (lv_at hl 2 rfl) ?_
  refine lv_aload_n hx hb dL_law_304 rfl (lv_at hl 0 rfl) ?_
  refine lv_iload_n hx hb dL_law_305 rfl (lv_at hl 3 rfl) ?_
  refine lv_iconst (v := (1 : Int32)) hx hb dL_law_306 (by decide) ?_
  refine lv_iadd hx hb dL_law_307 ?_
  obtain ⟨ha13, hf⟩ := jif hf
  refine va_sld hx hb hX hbl hbA hM.2.1 (jin_in ha13) dL_law_308 ?_
  refine lv_if_eq (tgt := 316) hx hb dL_law_309 (by decide) (fun c14 => ?_) (fun c14 => ?_)
  · have hf := jt c14 hf
    refine lv_iconst (v := (0 : Int32)) hx hb dL_law_316 (by decide) ?_
    exact B_L_law_317 hX hbl hbA hB E hk18 hf hM (lv_sub hl [0, 1, 2, 3] rfl)
  · have hf := jf c14 hf
    refine lv_iconst (v := (1 : Int32)) hx hb dL_law_312 (by decide) ?_
    refine lv_goto (tgt := 317) hx hb dL_law_313 (by decide) ?_
    exact B_L_law_317 hX hbl hbA hB E hk18 hf hM (lv_sub hl [0, 1, 2, 3] rfl)
set_option maxRecDepth 100000 in
set_option maxHeartbeats 4000000 in
theorem B_L_law_18 {p : Program} {l : Launch} {e : Env} {s : State} {m : MethodId} {below : List Frame} {meth : Method} {c : Code} {g : jG} {b L : Nat} {xs : Nat → Int32} (hX : va_X b L xs s s.heap) (hbl : b < s.heap.size) (hbA : ¬ jA0 g b) (hB : g.2.2 = s.heap.size) {SS : jM} (E : jEnv p s m #[Value.ref b] meth c cL_law "PensionHouseLaw" (some .boolean) 4 g)  : ∀ (n : Nat) (v1 : Nat) (v2 : Nat) (v3 : Int32) (S : jM) (H : Heap) (locs : List Loc) (ls : Array Slot), f_L_law_18 L xs n v1 v2 v3 S = some SS → jAt g S s H locs → lv_has ls 4 [(0, .ref b), (1, .ref (g.2.2 + v1)), (2, .ref (g.2.2 + v2)), (3, .int v3)] → W p l e room_1 s m #[Value.ref b] below meth c H locs 2451 196021 (lw_Z below #[Value.ref b] s) (F0 m 18 ls []) := by
  obtain ⟨hx, hb, hml, -, hts, hown, hK, -, hstr⟩ := id E
  intro n
  induction n with
  | zero => intro v1 v2 v3 S H locs ls hf hM hl; rw [f_L_law_18] at hf; cases hf
  | succ n ih =>
    intro v1 v2 v3 S H locs ls hf hM hl
    rw [f_L_law_18] at hf
    refine lv_iload_n hx hb dL_law_18 rfl (lv_at hl 3 rfl) ?_
    refine lv_aload_n hx hb dL_law_19 rfl (lv_at hl 0 rfl) ?_
    refine va_slen hx hb hX hbl hbA hM.2.1 dL_law_20 ?_
    refine lv_iconst (v := (5 : Int32)) hx hb dL_law_21 (by decide) ?_
    refine lv_isub hx hb dL_law_22 ?_
    refine lv_icmp_gt (tgt := 1190) hx hb dL_law_23 (by decide) (fun c15 => ?_) (fun c15 => ?_)
    · have hf := jt c15 hf
      refine lv_iconst (v := (1 : Int32)) hx hb dL_law_1190 (by decide) ?_
      exact jlawret (jrv hf) hB E hM dL_law_1191
    · have hf := jf c15 hf
      refine lv_aload_n hx hb dL_law_26 rfl (lv_at hl 0 rfl) ?_
      refine lv_iload_n hx hb dL_law_27 rfl (lv_at hl 3 rfl) ?_
      obtain ⟨ha16, hf⟩ := jif hf
      refine va_sld hx hb hX hbl hbA hM.2.1 (jin_in ha16) dL_law_28 ?_
      refine lv_bipush (v := (31 : Int32)) hx hb dL_law_29 (by decide) ?_
      refine lv_iand hx hb dL_law_31 ?_
      refine lv_topi (fun x17 ex17 => ?_)
      have hf := jlet_y ex17 hf
      by_cases c33 : x17 = (0 : Int32)
      · have hf := jt c33 hf
        refine lv_tableIn (off := 140) (tgt := 172) hx hb dL_law_32 (by rw [c33]; decide) (by rw [c33]; decide) (by rw [c33]; rfl) (by decide) ?_
        refine lv_aload_n hx hb dL_law_172 rfl (lv_at hl 1 rfl) ?_
        refine lv_aload_n hx hb dL_law_173 rfl (lv_at hl 0 rfl) ?_
        refine lv_iload_n hx hb dL_law_174 rfl (lv_at hl 3 rfl) ?_
        refine lv_iconst (v := (1 : Int32)) hx hb dL_law_175 (by decide) ?_
        refine lv_iadd hx hb dL_law_176 ?_
        obtain ⟨ha18, hf⟩ := jif hf
        refine va_sld hx hb hX hbl hbA hM.2.1 (jin_in ha18) dL_law_177 ?_
        refine lv_i2l hx hb dL_law_178 rfl ?_
        refine lv_bipush (v := (32 : Int32)) hx hb dL_law_179 (by decide) ?_
        refine lv_lshl hx hb dL_law_181 rfl ?_
        refine lv_aload_n hx hb dL_law_182 rfl (lv_at hl 0 rfl) ?_
        refine lv_iload_n hx hb dL_law_183 rfl (lv_at hl 3 rfl) ?_
        refine lv_iconst (v := (2 : Int32)) hx hb dL_law_184 (by decide) ?_
        refine lv_iadd hx hb dL_law_185 ?_
        obtain ⟨ha19, hf⟩ := jif hf
        refine va_sld hx hb hX hbl hbA hM.2.1 (jin_in ha19) dL_law_186 ?_
        refine lv_i2l hx hb dL_law_187 rfl ?_
        refine lv_ldc2 (v := (4294967295 : Int64)) hx hb hown (hts _ lk_9_60) dL_law_188 ?_
        refine lv_land hx hb dL_law_191 ?_
        refine lv_lor hx hb dL_law_192 ?_
        refine lv_aload_n hx hb dL_law_193 rfl (lv_at hl 0 rfl) ?_
        refine lv_iload_n hx hb dL_law_194 rfl (lv_at hl 3 rfl) ?_
        refine lv_iconst (v := (3 : Int32)) hx hb dL_law_195 (by decide) ?_
        refine lv_iadd hx hb dL_law_196 ?_
        obtain ⟨ha20, hf⟩ := jif hf
        refine va_sld hx hb hX hbl hbA hM.2.1 (jin_in ha20) dL_law_197 ?_
        obtain ⟨hq24, hf⟩ := jif hf
        obtain ⟨x21, S22, hc23, hf⟩ := jbd_e hf
        refine jbackI hM (jrunV E hM ci_X11_feed (C_X11_feed hc23) lk_2_195 hq24 (by decide) rfl hl.1 rfl rfl (Nat.le_of_ble_eq_true rfl) ⟨Nat.le_of_ble_eq_true rfl, Nat.le_of_ble_eq_true rfl⟩ ⟨Nat.le_of_ble_eq_true rfl, Nat.le_of_ble_eq_true rfl⟩ dL_law_198) (fun H locs hM => ?_)
        refine lv_aload_n hx hb dL_law_201 rfl (lv_at hl 2 rfl) ?_
        refine lv_aload_n hx hb dL_law_202 rfl (lv_at hl 0 rfl) ?_
        refine lv_iload_n hx hb dL_law_203 rfl (lv_at hl 3 rfl) ?_
        refine lv_iconst (v := (1 : Int32)) hx hb dL_law_204 (by decide) ?_
        refine lv_iadd hx hb dL_law_205 ?_
        obtain ⟨ha25, hf⟩ := jif hf
        refine va_sld hx hb hX hbl hbA hM.2.1 (jin_in ha25) dL_law_206 ?_
        refine lv_i2l hx hb dL_law_207 rfl ?_
        refine lv_bipush (v := (32 : Int32)) hx hb dL_law_208 (by decide) ?_
        refine lv_lshl hx hb dL_law_210 rfl ?_
        refine lv_aload_n hx hb dL_law_211 rfl (lv_at hl 0 rfl) ?_
        refine lv_iload_n hx hb dL_law_212 rfl (lv_at hl 3 rfl) ?_
        refine lv_iconst (v := (2 : Int32)) hx hb dL_law_213 (by decide) ?_
        refine lv_iadd hx hb dL_law_214 ?_
        obtain ⟨ha26, hf⟩ := jif hf
        refine va_sld hx hb hX hbl hbA hM.2.1 (jin_in ha26) dL_law_215 ?_
        refine lv_i2l hx hb dL_law_216 rfl ?_
        refine lv_ldc2 (v := (4294967295 : Int64)) hx hb hown (hts _ lk_9_60) dL_law_217 ?_
        refine lv_land hx hb dL_law_220 ?_
        refine lv_lor hx hb dL_law_221 ?_
        refine lv_aload_n hx hb dL_law_222 rfl (lv_at hl 0 rfl) ?_
        refine lv_iload_n hx hb dL_law_223 rfl (lv_at hl 3 rfl) ?_
        refine lv_iconst (v := (3 : Int32)) hx hb dL_law_224 (by decide) ?_
        refine lv_iadd hx hb dL_law_225 ?_
        obtain ⟨ha27, hf⟩ := jif hf
        refine va_sld hx hb hX hbl hbA hM.2.1 (jin_in ha27) dL_law_226 ?_
        obtain ⟨hq31, hf⟩ := jif hf
        obtain ⟨x28, S29, hc30, hf⟩ := jbd_e hf
        refine jbackI hM (jrunV E hM ci_X12_feed (C_X12_feed hc30) lk_7_31 hq31 (by decide) rfl hl.1 rfl rfl (Nat.le_of_ble_eq_true rfl) ⟨Nat.le_of_ble_eq_true rfl, Nat.le_of_ble_eq_true rfl⟩ ⟨Nat.le_of_ble_eq_true rfl, Nat.le_of_ble_eq_true rfl⟩ dL_law_227) (fun H locs hM => ?_)
        refine lv_icmp_eq (tgt := 1184) hx hb dL_law_230 (by decide) (fun c32 => ?_) (fun c32 => ?_)
        · have hf := jt c32 hf
          exact B_L_law_1184 hX hbl hbA hB E ih hf hM (lv_sub hl [0, 1, 2, 3] rfl)
        · have hf := jf c32 hf
          refine lv_iconst (v := (0 : Int32)) hx hb dL_law_233 (by decide) ?_
          cases hf
      have hf := jf c33 hf
      by_cases c45 : x17 = (1 : Int32)
      · have hf := jt c45 hf
        refine lv_tableIn (off := 203) (tgt := 235) hx hb dL_law_32 (by rw [c45]; decide) (by rw [c45]; decide) (by rw [c45]; rfl) (by decide) ?_
        refine lv_aload_n hx hb dL_law_235 rfl (lv_at hl 1 rfl) ?_
        refine lv_aload_n hx hb dL_law_236 rfl (lv_at hl 0 rfl) ?_
        refine lv_iload_n hx hb dL_law_237 rfl (lv_at hl 3 rfl) ?_
        refine lv_iconst (v := (1 : Int32)) hx hb dL_law_238 (by decide) ?_
        refine lv_iadd hx hb dL_law_239 ?_
        obtain ⟨ha34, hf⟩ := jif hf
        refine va_sld hx hb hX hbl hbA hM.2.1 (jin_in ha34) dL_law_240 ?_
        obtain ⟨hq38, hf⟩ := jif hf
        obtain ⟨x35, S36, hc37, hf⟩ := jbd_e hf
        refine jbackI hM (jrunV E hM ci_X11_cut (C_X11_cut hc37) lk_2_203 hq38 (by decide) rfl hl.1 rfl rfl (Nat.le_of_ble_eq_true rfl) ⟨Nat.le_of_ble_eq_true rfl, Nat.le_of_ble_eq_true rfl⟩ ⟨Nat.le_of_ble_eq_true rfl, Nat.le_of_ble_eq_true rfl⟩ dL_law_241) (fun H locs hM => ?_)
        refine lv_aload_n hx hb dL_law_244 rfl (lv_at hl 2 rfl) ?_
        refine lv_aload_n hx hb dL_law_245 rfl (lv_at hl 0 rfl) ?_
        refine lv_iload_n hx hb dL_law_246 rfl (lv_at hl 3 rfl) ?_
        refine lv_iconst (v := (1 : Int32)) hx hb dL_law_247 (by decide) ?_
        refine lv_iadd hx hb dL_law_248 ?_
        obtain ⟨ha39, hf⟩ := jif hf
        refine va_sld hx hb hX hbl hbA hM.2.1 (jin_in ha39) dL_law_249 ?_
        obtain ⟨hq43, hf⟩ := jif hf
        obtain ⟨x40, S41, hc42, hf⟩ := jbd_e hf
        refine jbackI hM (jrunV E hM ci_X12_cut (C_X12_cut hc42) lk_7_39 hq43 (by decide) rfl hl.1 rfl rfl (Nat.le_of_ble_eq_true rfl) ⟨Nat.le_of_ble_eq_true rfl, Nat.le_of_ble_eq_true rfl⟩ ⟨Nat.le_of_ble_eq_true rfl, Nat.le_of_ble_eq_true rfl⟩ dL_law_250) (fun H locs hM => ?_)
        refine lv_icmp_eq (tgt := 1184) hx hb dL_law_253 (by decide) (fun c44 => ?_) (fun c44 => ?_)
        · have hf := jt c44 hf
          exact B_L_law_1184 hX hbl hbA hB E ih hf hM (lv_sub hl [0, 1, 2, 3] rfl)
        · have hf := jf c44 hf
          refine lv_iconst (v := (0 : Int32)) hx hb dL_law_256 (by decide) ?_
          cases hf
      have hf := jf c45 hf
      by_cases c57 : x17 = (2 : Int32)
      · have hf := jt c57 hf
        refine lv_tableIn (off := 226) (tgt := 258) hx hb dL_law_32 (by rw [c57]; decide) (by rw [c57]; decide) (by rw [c57]; rfl) (by decide) ?_
        refine lv_aload_n hx hb dL_law_258 rfl (lv_at hl 1 rfl) ?_
        refine lv_aload_n hx hb dL_law_259 rfl (lv_at hl 0 rfl) ?_
        refine lv_iload_n hx hb dL_law_260 rfl (lv_at hl 3 rfl) ?_
        refine lv_iconst (v := (1 : Int32)) hx hb dL_law_261 (by decide) ?_
        refine lv_iadd hx hb dL_law_262 ?_
        obtain ⟨ha46, hf⟩ := jif hf
        refine va_sld hx hb hX hbl hbA hM.2.1 (jin_in ha46) dL_law_263 ?_
        obtain ⟨hq50, hf⟩ := jif hf
        obtain ⟨x47, S48, hc49, hf⟩ := jbd_e hf
        refine jbackI hM (jrunV E hM ci_X11_clock (C_X11_clock hc49) lk_2_207 hq50 (by decide) rfl hl.1 rfl rfl (Nat.le_of_ble_eq_true rfl) ⟨Nat.le_of_ble_eq_true rfl, Nat.le_of_ble_eq_true rfl⟩ ⟨Nat.le_of_ble_eq_true rfl, Nat.le_of_ble_eq_true rfl⟩ dL_law_264) (fun H locs hM => ?_)
        refine lv_aload_n hx hb dL_law_267 rfl (lv_at hl 2 rfl) ?_
        refine lv_aload_n hx hb dL_law_268 rfl (lv_at hl 0 rfl) ?_
        refine lv_iload_n hx hb dL_law_269 rfl (lv_at hl 3 rfl) ?_
        refine lv_iconst (v := (1 : Int32)) hx hb dL_law_270 (by decide) ?_
        refine lv_iadd hx hb dL_law_271 ?_
        obtain ⟨ha51, hf⟩ := jif hf
        refine va_sld hx hb hX hbl hbA hM.2.1 (jin_in ha51) dL_law_272 ?_
        obtain ⟨hq55, hf⟩ := jif hf
        obtain ⟨x52, S53, hc54, hf⟩ := jbd_e hf
        refine jbackI hM (jrunV E hM ci_X12_clock (C_X12_clock hc54) lk_7_43 hq55 (by decide) rfl hl.1 rfl rfl (Nat.le_of_ble_eq_true rfl) ⟨Nat.le_of_ble_eq_true rfl, Nat.le_of_ble_eq_true rfl⟩ ⟨Nat.le_of_ble_eq_true rfl, Nat.le_of_ble_eq_true rfl⟩ dL_law_273) (fun H locs hM => ?_)
        refine lv_icmp_eq (tgt := 1184) hx hb dL_law_276 (by decide) (fun c56 => ?_) (fun c56 => ?_)
        · have hf := jt c56 hf
          exact B_L_law_1184 hX hbl hbA hB E ih hf hM (lv_sub hl [0, 1, 2, 3] rfl)
        · have hf := jf c56 hf
          refine lv_iconst (v := (0 : Int32)) hx hb dL_law_279 (by decide) ?_
          cases hf
      have hf := jf c57 hf
      by_cases c60 : x17 = (3 : Int32)
      · have hf := jt c60 hf
        refine lv_tableIn (off := 249) (tgt := 281) hx hb dL_law_32 (by rw [c60]; decide) (by rw [c60]; decide) (by rw [c60]; rfl) (by decide) ?_
        refine lv_aload_n hx hb dL_law_281 rfl (lv_at hl 1 rfl) ?_
        refine lv_aload_n hx hb dL_law_282 rfl (lv_at hl 0 rfl) ?_
        refine lv_iload_n hx hb dL_law_283 rfl (lv_at hl 3 rfl) ?_
        refine lv_iconst (v := (1 : Int32)) hx hb dL_law_284 (by decide) ?_
        refine lv_iadd hx hb dL_law_285 ?_
        obtain ⟨ha58, hf⟩ := jif hf
        refine va_sld hx hb hX hbl hbA hM.2.1 (jin_in ha58) dL_law_286 ?_
        refine lv_if_eq (tgt := 294) hx hb dL_law_287 (by decide) (fun c59 => ?_) (fun c59 => ?_)
        · have hf := jt c59 hf
          refine lv_iconst (v := (0 : Int32)) hx hb dL_law_294 (by decide) ?_
          exact B_L_law_295 hX hbl hbA hB E ih hf hM (lv_sub hl [0, 1, 2, 3] rfl)
        · have hf := jf c59 hf
          refine lv_iconst (v := (1 : Int32)) hx hb dL_law_290 (by decide) ?_
          refine lv_goto (tgt := 295) hx hb dL_law_291 (by decide) ?_
          exact B_L_law_295 hX hbl hbA hB E ih hf hM (lv_sub hl [0, 1, 2, 3] rfl)
      have hf := jf c60 hf
      by_cases c74 : x17 = (4 : Int32)
      · have hf := jt c74 hf
        refine lv_tableIn (off := 298) (tgt := 330) hx hb dL_law_32 (by rw [c74]; decide) (by rw [c74]; decide) (by rw [c74]; rfl) (by decide) ?_
        refine lv_aload_n hx hb dL_law_330 rfl (lv_at hl 1 rfl) ?_
        refine lv_aload_n hx hb dL_law_331 rfl (lv_at hl 0 rfl) ?_
        refine lv_iload_n hx hb dL_law_332 rfl (lv_at hl 3 rfl) ?_
        refine lv_iconst (v := (1 : Int32)) hx hb dL_law_333 (by decide) ?_
        refine lv_iadd hx hb dL_law_334 ?_
        obtain ⟨ha61, hf⟩ := jif hf
        refine va_sld hx hb hX hbl hbA hM.2.1 (jin_in ha61) dL_law_335 ?_
        refine lv_aload_n hx hb dL_law_336 rfl (lv_at hl 0 rfl) ?_
        refine lv_iload_n hx hb dL_law_337 rfl (lv_at hl 3 rfl) ?_
        refine lv_iconst (v := (2 : Int32)) hx hb dL_law_338 (by decide) ?_
        refine lv_iadd hx hb dL_law_339 ?_
        obtain ⟨ha62, hf⟩ := jif hf
        refine va_sld hx hb hX hbl hbA hM.2.1 (jin_in ha62) dL_law_340 ?_
        obtain ⟨hq66, hf⟩ := jif hf
        obtain ⟨x63, S64, hc65, hf⟩ := jbd_e hf
        refine jbackI hM (jrunV E hM ci_X11_desk (C_X11_desk hc65) lk_2_223 hq66 (by decide) rfl hl.1 rfl rfl (Nat.le_of_ble_eq_true rfl) ⟨Nat.le_of_ble_eq_true rfl, Nat.le_of_ble_eq_true rfl⟩ ⟨Nat.le_of_ble_eq_true rfl, Nat.le_of_ble_eq_true rfl⟩ dL_law_341) (fun H locs hM => ?_)
        refine lv_aload_n hx hb dL_law_344 rfl (lv_at hl 2 rfl) ?_
        refine lv_aload_n hx hb dL_law_345 rfl (lv_at hl 0 rfl) ?_
        refine lv_iload_n hx hb dL_law_346 rfl (lv_at hl 3 rfl) ?_
        refine lv_iconst (v := (1 : Int32)) hx hb dL_law_347 (by decide) ?_
        refine lv_iadd hx hb dL_law_348 ?_
        obtain ⟨ha67, hf⟩ := jif hf
        refine va_sld hx hb hX hbl hbA hM.2.1 (jin_in ha67) dL_law_349 ?_
        refine lv_aload_n hx hb dL_law_350 rfl (lv_at hl 0 rfl) ?_
        refine lv_iload_n hx hb dL_law_351 rfl (lv_at hl 3 rfl) ?_
        refine lv_iconst (v := (2 : Int32)) hx hb dL_law_352 (by decide) ?_
        refine lv_iadd hx hb dL_law_353 ?_
        obtain ⟨ha68, hf⟩ := jif hf
        refine va_sld hx hb hX hbl hbA hM.2.1 (jin_in ha68) dL_law_354 ?_
        obtain ⟨hq72, hf⟩ := jif hf
        obtain ⟨x69, S70, hc71, hf⟩ := jbd_e hf
        refine jbackI hM (jrunV E hM ci_X12_desk (C_X12_desk hc71) lk_7_53 hq72 (by decide) rfl hl.1 rfl rfl (Nat.le_of_ble_eq_true rfl) ⟨Nat.le_of_ble_eq_true rfl, Nat.le_of_ble_eq_true rfl⟩ ⟨Nat.le_of_ble_eq_true rfl, Nat.le_of_ble_eq_true rfl⟩ dL_law_355) (fun H locs hM => ?_)
        refine lv_icmp_eq (tgt := 1184) hx hb dL_law_358 (by decide) (fun c73 => ?_) (fun c73 => ?_)
        · have hf := jt c73 hf
          exact B_L_law_1184 hX hbl hbA hB E ih hf hM (lv_sub hl [0, 1, 2, 3] rfl)
        · have hf := jf c73 hf
          refine lv_iconst (v := (0 : Int32)) hx hb dL_law_361 (by decide) ?_
          cases hf
      have hf := jf c74 hf
      by_cases c90 : x17 = (5 : Int32)
      · have hf := jt c90 hf
        refine lv_tableIn (off := 331) (tgt := 363) hx hb dL_law_32 (by rw [c90]; decide) (by rw [c90]; decide) (by rw [c90]; rfl) (by decide) ?_
        refine lv_aload_n hx hb dL_law_363 rfl (lv_at hl 1 rfl) ?_
        refine lv_aload_n hx hb dL_law_364 rfl (lv_at hl 0 rfl) ?_
        refine lv_iload_n hx hb dL_law_365 rfl (lv_at hl 3 rfl) ?_
        refine lv_iconst (v := (1 : Int32)) hx hb dL_law_366 (by decide) ?_
        refine lv_iadd hx hb dL_law_367 ?_
        obtain ⟨ha75, hf⟩ := jif hf
        refine va_sld hx hb hX hbl hbA hM.2.1 (jin_in ha75) dL_law_368 ?_
        refine lv_aload_n hx hb dL_law_369 rfl (lv_at hl 0 rfl) ?_
        refine lv_iload_n hx hb dL_law_370 rfl (lv_at hl 3 rfl) ?_
        refine lv_iconst (v := (2 : Int32)) hx hb dL_law_371 (by decide) ?_
        refine lv_iadd hx hb dL_law_372 ?_
        obtain ⟨ha76, hf⟩ := jif hf
        refine va_sld hx hb hX hbl hbA hM.2.1 (jin_in ha76) dL_law_373 ?_
        refine lv_i2l hx hb dL_law_374 rfl ?_
        refine lv_bipush (v := (32 : Int32)) hx hb dL_law_375 (by decide) ?_
        refine lv_lshl hx hb dL_law_377 rfl ?_
        refine lv_aload_n hx hb dL_law_378 rfl (lv_at hl 0 rfl) ?_
        refine lv_iload_n hx hb dL_law_379 rfl (lv_at hl 3 rfl) ?_
        refine lv_iconst (v := (3 : Int32)) hx hb dL_law_380 (by decide) ?_
        refine lv_iadd hx hb dL_law_381 ?_
        obtain ⟨ha77, hf⟩ := jif hf
        refine va_sld hx hb hX hbl hbA hM.2.1 (jin_in ha77) dL_law_382 ?_
        refine lv_i2l hx hb dL_law_383 rfl ?_
        refine lv_ldc2 (v := (4294967295 : Int64)) hx hb hown (hts _ lk_9_60) dL_law_384 ?_
        refine lv_land hx hb dL_law_387 ?_
        refine lv_lor hx hb dL_law_388 ?_
        obtain ⟨hq81, hf⟩ := jif hf
        obtain ⟨x78, S79, hc80, hf⟩ := jbd_e hf
        refine jbackI hM (jrunV E hM ci_X11_write (C_X11_write hc80) lk_2_239 hq81 (by decide) rfl hl.1 rfl rfl (Nat.le_of_ble_eq_true rfl) ⟨Nat.le_of_ble_eq_true rfl, Nat.le_of_ble_eq_true rfl⟩ ⟨Nat.le_of_ble_eq_true rfl, Nat.le_of_ble_eq_true rfl⟩ dL_law_389) (fun H locs hM => ?_)
        refine lv_aload_n hx hb dL_law_392 rfl (lv_at hl 2 rfl) ?_
        refine lv_aload_n hx hb dL_law_393 rfl (lv_at hl 0 rfl) ?_
        refine lv_iload_n hx hb dL_law_394 rfl (lv_at hl 3 rfl) ?_
        refine lv_iconst (v := (1 : Int32)) hx hb dL_law_395 (by decide) ?_
        refine lv_iadd hx hb dL_law_396 ?_
        obtain ⟨ha82, hf⟩ := jif hf
        refine va_sld hx hb hX hbl hbA hM.2.1 (jin_in ha82) dL_law_397 ?_
        refine lv_aload_n hx hb dL_law_398 rfl (lv_at hl 0 rfl) ?_
        refine lv_iload_n hx hb dL_law_399 rfl (lv_at hl 3 rfl) ?_
        refine lv_iconst (v := (2 : Int32)) hx hb dL_law_400 (by decide) ?_
        refine lv_iadd hx hb dL_law_401 ?_
        obtain ⟨ha83, hf⟩ := jif hf
        refine va_sld hx hb hX hbl hbA hM.2.1 (jin_in ha83) dL_law_402 ?_
        refine lv_i2l hx hb dL_law_403 rfl ?_
        refine lv_bipush (v := (32 : Int32)) hx hb dL_law_404 (by decide) ?_
        refine lv_lshl hx hb dL_law_406 rfl ?_
        refine lv_aload_n hx hb dL_law_407 rfl (lv_at hl 0 rfl) ?_
        refine lv_iload_n hx hb dL_law_408 rfl (lv_at hl 3 rfl) ?_
        refine lv_iconst (v := (3 : Int32)) hx hb dL_law_409 (by decide) ?_
        refine lv_iadd hx hb dL_law_410 ?_
        obtain ⟨ha84, hf⟩ := jif hf
        refine va_sld hx hb hX hbl hbA hM.2.1 (jin_in ha84) dL_law_411 ?_
        refine lv_i2l hx hb dL_law_412 rfl ?_
        refine lv_ldc2 (v := (4294967295 : Int64)) hx hb hown (hts _ lk_9_60) dL_law_413 ?_
        refine lv_land hx hb dL_law_416 ?_
        refine lv_lor hx hb dL_law_417 ?_
        obtain ⟨hq88, hf⟩ := jif hf
        obtain ⟨x85, S86, hc87, hf⟩ := jbd_e hf
        refine jbackI hM (jrunV E hM ci_X12_write (C_X12_write hc87) lk_7_67 hq88 (by decide) rfl hl.1 rfl rfl (Nat.le_of_ble_eq_true rfl) ⟨Nat.le_of_ble_eq_true rfl, Nat.le_of_ble_eq_true rfl⟩ ⟨Nat.le_of_ble_eq_true rfl, Nat.le_of_ble_eq_true rfl⟩ dL_law_418) (fun H locs hM => ?_)
        refine lv_icmp_eq (tgt := 1184) hx hb dL_law_421 (by decide) (fun c89 => ?_) (fun c89 => ?_)
        · have hf := jt c89 hf
          exact B_L_law_1184 hX hbl hbA hB E ih hf hM (lv_sub hl [0, 1, 2, 3] rfl)
        · have hf := jf c89 hf
          refine lv_iconst (v := (0 : Int32)) hx hb dL_law_424 (by decide) ?_
          cases hf
      have hf := jf c90 hf
      by_cases c104 : x17 = (6 : Int32)
      · have hf := jt c104 hf
        refine lv_tableIn (off := 394) (tgt := 426) hx hb dL_law_32 (by rw [c104]; decide) (by rw [c104]; decide) (by rw [c104]; rfl) (by decide) ?_
        refine lv_aload_n hx hb dL_law_426 rfl (lv_at hl 1 rfl) ?_
        refine lv_aload_n hx hb dL_law_427 rfl (lv_at hl 0 rfl) ?_
        refine lv_iload_n hx hb dL_law_428 rfl (lv_at hl 3 rfl) ?_
        refine lv_iconst (v := (1 : Int32)) hx hb dL_law_429 (by decide) ?_
        refine lv_iadd hx hb dL_law_430 ?_
        obtain ⟨ha91, hf⟩ := jif hf
        refine va_sld hx hb hX hbl hbA hM.2.1 (jin_in ha91) dL_law_431 ?_
        refine lv_aload_n hx hb dL_law_432 rfl (lv_at hl 0 rfl) ?_
        refine lv_iload_n hx hb dL_law_433 rfl (lv_at hl 3 rfl) ?_
        refine lv_iconst (v := (2 : Int32)) hx hb dL_law_434 (by decide) ?_
        refine lv_iadd hx hb dL_law_435 ?_
        obtain ⟨ha92, hf⟩ := jif hf
        refine va_sld hx hb hX hbl hbA hM.2.1 (jin_in ha92) dL_law_436 ?_
        obtain ⟨hq96, hf⟩ := jif hf
        obtain ⟨x93, S94, hc95, hf⟩ := jbd_e hf
        refine jbackI hM (jrunV E hM ci_X11_seat (C_X11_seat hc95) lk_3_26 hq96 (by decide) rfl hl.1 rfl rfl (Nat.le_of_ble_eq_true rfl) ⟨Nat.le_of_ble_eq_true rfl, Nat.le_of_ble_eq_true rfl⟩ ⟨Nat.le_of_ble_eq_true rfl, Nat.le_of_ble_eq_true rfl⟩ dL_law_437) (fun H locs hM => ?_)
        refine lv_aload_n hx hb dL_law_440 rfl (lv_at hl 2 rfl) ?_
        refine lv_aload_n hx hb dL_law_441 rfl (lv_at hl 0 rfl) ?_
        refine lv_iload_n hx hb dL_law_442 rfl (lv_at hl 3 rfl) ?_
        refine lv_iconst (v := (1 : Int32)) hx hb dL_law_443 (by decide) ?_
        refine lv_iadd hx hb dL_law_444 ?_
        obtain ⟨ha97, hf⟩ := jif hf
        refine va_sld hx hb hX hbl hbA hM.2.1 (jin_in ha97) dL_law_445 ?_
        refine lv_aload_n hx hb dL_law_446 rfl (lv_at hl 0 rfl) ?_
        refine lv_iload_n hx hb dL_law_447 rfl (lv_at hl 3 rfl) ?_
        refine lv_iconst (v := (2 : Int32)) hx hb dL_law_448 (by decide) ?_
        refine lv_iadd hx hb dL_law_449 ?_
        obtain ⟨ha98, hf⟩ := jif hf
        refine va_sld hx hb hX hbl hbA hM.2.1 (jin_in ha98) dL_law_450 ?_
        obtain ⟨hq102, hf⟩ := jif hf
        obtain ⟨x99, S100, hc101, hf⟩ := jbd_e hf
        refine jbackI hM (jrunV E hM ci_X12_seat (C_X12_seat hc101) lk_7_84 hq102 (by decide) rfl hl.1 rfl rfl (Nat.le_of_ble_eq_true rfl) ⟨Nat.le_of_ble_eq_true rfl, Nat.le_of_ble_eq_true rfl⟩ ⟨Nat.le_of_ble_eq_true rfl, Nat.le_of_ble_eq_true rfl⟩ dL_law_451) (fun H locs hM => ?_)
        refine lv_icmp_eq (tgt := 1184) hx hb dL_law_454 (by decide) (fun c103 => ?_) (fun c103 => ?_)
        · have hf := jt c103 hf
          exact B_L_law_1184 hX hbl hbA hB E ih hf hM (lv_sub hl [0, 1, 2, 3] rfl)
        · have hf := jf c103 hf
          refine lv_iconst (v := (0 : Int32)) hx hb dL_law_457 (by decide) ?_
          cases hf
      have hf := jf c104 hf
      by_cases c112 : x17 = (7 : Int32)
      · have hf := jt c112 hf
        refine lv_tableIn (off := 427) (tgt := 459) hx hb dL_law_32 (by rw [c112]; decide) (by rw [c112]; decide) (by rw [c112]; rfl) (by decide) ?_
        refine lv_aload_n hx hb dL_law_459 rfl (lv_at hl 1 rfl) ?_
        obtain ⟨hq107, hf⟩ := jif hf
        obtain ⟨x105, hc106, hf⟩ := jb hf
        refine jbackI hM (jrunV E hM ci_X11_sort (C_X11_sort hc106) lk_3_43 hq107 (by decide) rfl hl.1 rfl rfl (Nat.le_of_ble_eq_true rfl) ⟨Nat.le_of_ble_eq_true rfl, Nat.le_of_ble_eq_true rfl⟩ ⟨Nat.le_of_ble_eq_true rfl, Nat.le_of_ble_eq_true rfl⟩ dL_law_460) (fun H locs hM => ?_)
        refine lv_aload_n hx hb dL_law_463 rfl (lv_at hl 2 rfl) ?_
        obtain ⟨hq110, hf⟩ := jif hf
        obtain ⟨x108, hc109, hf⟩ := jb hf
        refine jbackI hM (jrunV E hM ci_X12_sort (C_X12_sort hc109) lk_7_92 hq110 (by decide) rfl hl.1 rfl rfl (Nat.le_of_ble_eq_true rfl) ⟨Nat.le_of_ble_eq_true rfl, Nat.le_of_ble_eq_true rfl⟩ ⟨Nat.le_of_ble_eq_true rfl, Nat.le_of_ble_eq_true rfl⟩ dL_law_464) (fun H locs hM => ?_)
        refine lv_icmp_eq (tgt := 1184) hx hb dL_law_467 (by decide) (fun c111 => ?_) (fun c111 => ?_)
        · have hf := jt c111 hf
          exact B_L_law_1184 hX hbl hbA hB E ih hf hM (lv_sub hl [0, 1, 2, 3] rfl)
        · have hf := jf c111 hf
          refine lv_iconst (v := (0 : Int32)) hx hb dL_law_470 (by decide) ?_
          cases hf
      have hf := jf c112 hf
      by_cases c120 : x17 = (8 : Int32)
      · have hf := jt c120 hf
        refine lv_tableIn (off := 440) (tgt := 472) hx hb dL_law_32 (by rw [c120]; decide) (by rw [c120]; decide) (by rw [c120]; rfl) (by decide) ?_
        refine lv_aload_n hx hb dL_law_472 rfl (lv_at hl 1 rfl) ?_
        obtain ⟨hq115, hf⟩ := jif hf
        obtain ⟨x113, hc114, hf⟩ := jb hf
        refine jbackI hM (jrunV E hM ci_X11_length (C_X11_length hc114) lk_3_47 hq115 (by decide) rfl hl.1 rfl rfl (Nat.le_of_ble_eq_true rfl) ⟨Nat.le_of_ble_eq_true rfl, Nat.le_of_ble_eq_true rfl⟩ ⟨Nat.le_of_ble_eq_true rfl, Nat.le_of_ble_eq_true rfl⟩ dL_law_473) (fun H locs hM => ?_)
        refine lv_aload_n hx hb dL_law_476 rfl (lv_at hl 2 rfl) ?_
        obtain ⟨hq118, hf⟩ := jif hf
        obtain ⟨x116, hc117, hf⟩ := jb hf
        refine jbackI hM (jrunV E hM ci_X12_length (C_X12_length hc117) lk_7_96 hq118 (by decide) rfl hl.1 rfl rfl (Nat.le_of_ble_eq_true rfl) ⟨Nat.le_of_ble_eq_true rfl, Nat.le_of_ble_eq_true rfl⟩ ⟨Nat.le_of_ble_eq_true rfl, Nat.le_of_ble_eq_true rfl⟩ dL_law_477) (fun H locs hM => ?_)
        refine lv_icmp_eq (tgt := 1184) hx hb dL_law_480 (by decide) (fun c119 => ?_) (fun c119 => ?_)
        · have hf := jt c119 hf
          exact B_L_law_1184 hX hbl hbA hB E ih hf hM (lv_sub hl [0, 1, 2, 3] rfl)
        · have hf := jf c119 hf
          refine lv_iconst (v := (0 : Int32)) hx hb dL_law_483 (by decide) ?_
          cases hf
      have hf := jf c120 hf
      by_cases c130 : x17 = (9 : Int32)
      · have hf := jt c130 hf
        refine lv_tableIn (off := 453) (tgt := 485) hx hb dL_law_32 (by rw [c130]; decide) (by rw [c130]; decide) (by rw [c130]; rfl) (by decide) ?_
        refine lv_aload_n hx hb dL_law_485 rfl (lv_at hl 1 rfl) ?_
        refine lv_aload_n hx hb dL_law_486 rfl (lv_at hl 0 rfl) ?_
        refine lv_iload_n hx hb dL_law_487 rfl (lv_at hl 3 rfl) ?_
        refine lv_iconst (v := (1 : Int32)) hx hb dL_law_488 (by decide) ?_
        refine lv_iadd hx hb dL_law_489 ?_
        obtain ⟨ha121, hf⟩ := jif hf
        refine va_sld hx hb hX hbl hbA hM.2.1 (jin_in ha121) dL_law_490 ?_
        obtain ⟨hq124, hf⟩ := jif hf
        obtain ⟨x122, hc123, hf⟩ := jb hf
        refine jbackL hM (jrunV E hM ci_X11_read (C_X11_read hc123) lk_3_51 hq124 (by decide) rfl hl.1 rfl rfl (Nat.le_of_ble_eq_true rfl) ⟨Nat.le_of_ble_eq_true rfl, Nat.le_of_ble_eq_true rfl⟩ ⟨Nat.le_of_ble_eq_true rfl, Nat.le_of_ble_eq_true rfl⟩ dL_law_491) (fun H locs hM => ?_)
        refine lv_aload_n hx hb dL_law_494 rfl (lv_at hl 2 rfl) ?_
        refine lv_aload_n hx hb dL_law_495 rfl (lv_at hl 0 rfl) ?_
        refine lv_iload_n hx hb dL_law_496 rfl (lv_at hl 3 rfl) ?_
        refine lv_iconst (v := (1 : Int32)) hx hb dL_law_497 (by decide) ?_
        refine lv_iadd hx hb dL_law_498 ?_
        obtain ⟨ha125, hf⟩ := jif hf
        refine va_sld hx hb hX hbl hbA hM.2.1 (jin_in ha125) dL_law_499 ?_
        obtain ⟨hq128, hf⟩ := jif hf
        obtain ⟨x126, hc127, hf⟩ := jb hf
        refine jbackL hM (jrunV E hM ci_X12_read (C_X12_read hc127) lk_7_103 hq128 (by decide) rfl hl.1 rfl rfl (Nat.le_of_ble_eq_true rfl) ⟨Nat.le_of_ble_eq_true rfl, Nat.le_of_ble_eq_true rfl⟩ ⟨Nat.le_of_ble_eq_true rfl, Nat.le_of_ble_eq_true rfl⟩ dL_law_500) (fun H locs hM => ?_)
        refine jl_eq (tgt := 1184) hx hb dL_law_503 dL_law_504 (by decide) (fun c129 => ?_) (fun c129 => ?_)
        · have hf := jt c129 hf
          exact B_L_law_1184 hX hbl hbA hB E ih hf hM (lv_sub hl [0, 1, 2, 3] rfl)
        · have hf := jf c129 hf
          refine lv_iconst (v := (0 : Int32)) hx hb dL_law_507 (by decide) ?_
          cases hf
      have hf := jf c130 hf
      by_cases c146 : x17 = (10 : Int32)
      · have hf := jt c146 hf
        refine lv_tableIn (off := 477) (tgt := 509) hx hb dL_law_32 (by rw [c146]; decide) (by rw [c146]; decide) (by rw [c146]; rfl) (by decide) ?_
        refine lv_aload_n hx hb dL_law_509 rfl (lv_at hl 1 rfl) ?_
        refine lv_aload_n hx hb dL_law_510 rfl (lv_at hl 0 rfl) ?_
        refine lv_iload_n hx hb dL_law_511 rfl (lv_at hl 3 rfl) ?_
        refine lv_iconst (v := (1 : Int32)) hx hb dL_law_512 (by decide) ?_
        refine lv_iadd hx hb dL_law_513 ?_
        obtain ⟨ha131, hf⟩ := jif hf
        refine va_sld hx hb hX hbl hbA hM.2.1 (jin_in ha131) dL_law_514 ?_
        refine lv_aload_n hx hb dL_law_515 rfl (lv_at hl 0 rfl) ?_
        refine lv_iload_n hx hb dL_law_516 rfl (lv_at hl 3 rfl) ?_
        refine lv_iconst (v := (2 : Int32)) hx hb dL_law_517 (by decide) ?_
        refine lv_iadd hx hb dL_law_518 ?_
        obtain ⟨ha132, hf⟩ := jif hf
        refine va_sld hx hb hX hbl hbA hM.2.1 (jin_in ha132) dL_law_519 ?_
        refine lv_aload_n hx hb dL_law_520 rfl (lv_at hl 0 rfl) ?_
        refine lv_iload_n hx hb dL_law_521 rfl (lv_at hl 3 rfl) ?_
        refine lv_iconst (v := (3 : Int32)) hx hb dL_law_522 (by decide) ?_
        refine lv_iadd hx hb dL_law_523 ?_
        obtain ⟨ha133, hf⟩ := jif hf
        refine va_sld hx hb hX hbl hbA hM.2.1 (jin_in ha133) dL_law_524 ?_
        obtain ⟨hq137, hf⟩ := jif hf
        obtain ⟨x134, S135, hc136, hf⟩ := jbd_e hf
        refine jbackI hM (jrunV E hM ci_X11_fact (C_X11_fact hc136) lk_3_59 hq137 (by decide) rfl hl.1 rfl rfl (Nat.le_of_ble_eq_true rfl) ⟨Nat.le_of_ble_eq_true rfl, Nat.le_of_ble_eq_true rfl⟩ ⟨Nat.le_of_ble_eq_true rfl, Nat.le_of_ble_eq_true rfl⟩ dL_law_525) (fun H locs hM => ?_)
        refine lv_aload_n hx hb dL_law_528 rfl (lv_at hl 2 rfl) ?_
        refine lv_aload_n hx hb dL_law_529 rfl (lv_at hl 0 rfl) ?_
        refine lv_iload_n hx hb dL_law_530 rfl (lv_at hl 3 rfl) ?_
        refine lv_iconst (v := (1 : Int32)) hx hb dL_law_531 (by decide) ?_
        refine lv_iadd hx hb dL_law_532 ?_
        obtain ⟨ha138, hf⟩ := jif hf
        refine va_sld hx hb hX hbl hbA hM.2.1 (jin_in ha138) dL_law_533 ?_
        refine lv_aload_n hx hb dL_law_534 rfl (lv_at hl 0 rfl) ?_
        refine lv_iload_n hx hb dL_law_535 rfl (lv_at hl 3 rfl) ?_
        refine lv_iconst (v := (2 : Int32)) hx hb dL_law_536 (by decide) ?_
        refine lv_iadd hx hb dL_law_537 ?_
        obtain ⟨ha139, hf⟩ := jif hf
        refine va_sld hx hb hX hbl hbA hM.2.1 (jin_in ha139) dL_law_538 ?_
        refine lv_aload_n hx hb dL_law_539 rfl (lv_at hl 0 rfl) ?_
        refine lv_iload_n hx hb dL_law_540 rfl (lv_at hl 3 rfl) ?_
        refine lv_iconst (v := (3 : Int32)) hx hb dL_law_541 (by decide) ?_
        refine lv_iadd hx hb dL_law_542 ?_
        obtain ⟨ha140, hf⟩ := jif hf
        refine va_sld hx hb hX hbl hbA hM.2.1 (jin_in ha140) dL_law_543 ?_
        obtain ⟨hq144, hf⟩ := jif hf
        obtain ⟨x141, S142, hc143, hf⟩ := jbd_e hf
        refine jbackI hM (jrunV E hM ci_X12_fact (C_X12_fact hc143) lk_7_116 hq144 (by decide) rfl hl.1 rfl rfl (Nat.le_of_ble_eq_true rfl) ⟨Nat.le_of_ble_eq_true rfl, Nat.le_of_ble_eq_true rfl⟩ ⟨Nat.le_of_ble_eq_true rfl, Nat.le_of_ble_eq_true rfl⟩ dL_law_544) (fun H locs hM => ?_)
        refine lv_icmp_eq (tgt := 1184) hx hb dL_law_547 (by decide) (fun c145 => ?_) (fun c145 => ?_)
        · have hf := jt c145 hf
          exact B_L_law_1184 hX hbl hbA hB E ih hf hM (lv_sub hl [0, 1, 2, 3] rfl)
        · have hf := jf c145 hf
          refine lv_iconst (v := (0 : Int32)) hx hb dL_law_550 (by decide) ?_
          cases hf
      have hf := jf c146 hf
      by_cases c158 : x17 = (11 : Int32)
      · have hf := jt c158 hf
        refine lv_tableIn (off := 520) (tgt := 552) hx hb dL_law_32 (by rw [c158]; decide) (by rw [c158]; decide) (by rw [c158]; rfl) (by decide) ?_
        refine lv_aload_n hx hb dL_law_552 rfl (lv_at hl 1 rfl) ?_
        refine lv_aload_n hx hb dL_law_553 rfl (lv_at hl 0 rfl) ?_
        refine lv_iload_n hx hb dL_law_554 rfl (lv_at hl 3 rfl) ?_
        refine lv_iconst (v := (1 : Int32)) hx hb dL_law_555 (by decide) ?_
        refine lv_iadd hx hb dL_law_556 ?_
        obtain ⟨ha147, hf⟩ := jif hf
        refine va_sld hx hb hX hbl hbA hM.2.1 (jin_in ha147) dL_law_557 ?_
        obtain ⟨hq151, hf⟩ := jif hf
        obtain ⟨x148, S149, hc150, hf⟩ := jbd_e hf
        refine jbackI hM (jrunV E hM ci_X11_annul (C_X11_annul hc150) lk_3_220 hq151 (by decide) rfl hl.1 rfl rfl (Nat.le_of_ble_eq_true rfl) ⟨Nat.le_of_ble_eq_true rfl, Nat.le_of_ble_eq_true rfl⟩ ⟨Nat.le_of_ble_eq_true rfl, Nat.le_of_ble_eq_true rfl⟩ dL_law_558) (fun H locs hM => ?_)
        refine lv_aload_n hx hb dL_law_561 rfl (lv_at hl 2 rfl) ?_
        refine lv_aload_n hx hb dL_law_562 rfl (lv_at hl 0 rfl) ?_
        refine lv_iload_n hx hb dL_law_563 rfl (lv_at hl 3 rfl) ?_
        refine lv_iconst (v := (1 : Int32)) hx hb dL_law_564 (by decide) ?_
        refine lv_iadd hx hb dL_law_565 ?_
        obtain ⟨ha152, hf⟩ := jif hf
        refine va_sld hx hb hX hbl hbA hM.2.1 (jin_in ha152) dL_law_566 ?_
        obtain ⟨hq156, hf⟩ := jif hf
        obtain ⟨x153, S154, hc155, hf⟩ := jbd_e hf
        refine jbackI hM (jrunV E hM ci_X12_annul (C_X12_annul hc155) lk_7_184 hq156 (by decide) rfl hl.1 rfl rfl (Nat.le_of_ble_eq_true rfl) ⟨Nat.le_of_ble_eq_true rfl, Nat.le_of_ble_eq_true rfl⟩ ⟨Nat.le_of_ble_eq_true rfl, Nat.le_of_ble_eq_true rfl⟩ dL_law_567) (fun H locs hM => ?_)
        refine lv_icmp_eq (tgt := 1184) hx hb dL_law_570 (by decide) (fun c157 => ?_) (fun c157 => ?_)
        · have hf := jt c157 hf
          exact B_L_law_1184 hX hbl hbA hB E ih hf hM (lv_sub hl [0, 1, 2, 3] rfl)
        · have hf := jf c157 hf
          refine lv_iconst (v := (0 : Int32)) hx hb dL_law_573 (by decide) ?_
          cases hf
      have hf := jf c158 hf
      by_cases c174 : x17 = (12 : Int32)
      · have hf := jt c174 hf
        refine lv_tableIn (off := 543) (tgt := 575) hx hb dL_law_32 (by rw [c174]; decide) (by rw [c174]; decide) (by rw [c174]; rfl) (by decide) ?_
        refine lv_aload_n hx hb dL_law_575 rfl (lv_at hl 1 rfl) ?_
        refine lv_aload_n hx hb dL_law_576 rfl (lv_at hl 0 rfl) ?_
        refine lv_iload_n hx hb dL_law_577 rfl (lv_at hl 3 rfl) ?_
        refine lv_iconst (v := (1 : Int32)) hx hb dL_law_578 (by decide) ?_
        refine lv_iadd hx hb dL_law_579 ?_
        obtain ⟨ha159, hf⟩ := jif hf
        refine va_sld hx hb hX hbl hbA hM.2.1 (jin_in ha159) dL_law_580 ?_
        refine lv_aload_n hx hb dL_law_581 rfl (lv_at hl 0 rfl) ?_
        refine lv_iload_n hx hb dL_law_582 rfl (lv_at hl 3 rfl) ?_
        refine lv_iconst (v := (2 : Int32)) hx hb dL_law_583 (by decide) ?_
        refine lv_iadd hx hb dL_law_584 ?_
        obtain ⟨ha160, hf⟩ := jif hf
        refine va_sld hx hb hX hbl hbA hM.2.1 (jin_in ha160) dL_law_585 ?_
        refine lv_aload_n hx hb dL_law_586 rfl (lv_at hl 0 rfl) ?_
        refine lv_iload_n hx hb dL_law_587 rfl (lv_at hl 3 rfl) ?_
        refine lv_iconst (v := (3 : Int32)) hx hb dL_law_588 (by decide) ?_
        refine lv_iadd hx hb dL_law_589 ?_
        obtain ⟨ha161, hf⟩ := jif hf
        refine va_sld hx hb hX hbl hbA hM.2.1 (jin_in ha161) dL_law_590 ?_
        obtain ⟨hq165, hf⟩ := jif hf
        obtain ⟨x162, S163, hc164, hf⟩ := jbd_e hf
        refine jbackI hM (jrunV E hM ci_X11_known (C_X11_known hc164) lk_3_224 hq165 (by decide) rfl hl.1 rfl rfl (Nat.le_of_ble_eq_true rfl) ⟨Nat.le_of_ble_eq_true rfl, Nat.le_of_ble_eq_true rfl⟩ ⟨Nat.le_of_ble_eq_true rfl, Nat.le_of_ble_eq_true rfl⟩ dL_law_591) (fun H locs hM => ?_)
        refine lv_aload_n hx hb dL_law_594 rfl (lv_at hl 2 rfl) ?_
        refine lv_aload_n hx hb dL_law_595 rfl (lv_at hl 0 rfl) ?_
        refine lv_iload_n hx hb dL_law_596 rfl (lv_at hl 3 rfl) ?_
        refine lv_iconst (v := (1 : Int32)) hx hb dL_law_597 (by decide) ?_
        refine lv_iadd hx hb dL_law_598 ?_
        obtain ⟨ha166, hf⟩ := jif hf
        refine va_sld hx hb hX hbl hbA hM.2.1 (jin_in ha166) dL_law_599 ?_
        refine lv_aload_n hx hb dL_law_600 rfl (lv_at hl 0 rfl) ?_
        refine lv_iload_n hx hb dL_law_601 rfl (lv_at hl 3 rfl) ?_
        refine lv_iconst (v := (2 : Int32)) hx hb dL_law_602 (by decide) ?_
        refine lv_iadd hx hb dL_law_603 ?_
        obtain ⟨ha167, hf⟩ := jif hf
        refine va_sld hx hb hX hbl hbA hM.2.1 (jin_in ha167) dL_law_604 ?_
        refine lv_aload_n hx hb dL_law_605 rfl (lv_at hl 0 rfl) ?_
        refine lv_iload_n hx hb dL_law_606 rfl (lv_at hl 3 rfl) ?_
        refine lv_iconst (v := (3 : Int32)) hx hb dL_law_607 (by decide) ?_
        refine lv_iadd hx hb dL_law_608 ?_
        obtain ⟨ha168, hf⟩ := jif hf
        refine va_sld hx hb hX hbl hbA hM.2.1 (jin_in ha168) dL_law_609 ?_
        obtain ⟨hq172, hf⟩ := jif hf
        obtain ⟨x169, S170, hc171, hf⟩ := jbd_e hf
        refine jbackI hM (jrunV E hM ci_X12_known (C_X12_known hc171) lk_7_188 hq172 (by decide) rfl hl.1 rfl rfl (Nat.le_of_ble_eq_true rfl) ⟨Nat.le_of_ble_eq_true rfl, Nat.le_of_ble_eq_true rfl⟩ ⟨Nat.le_of_ble_eq_true rfl, Nat.le_of_ble_eq_true rfl⟩ dL_law_610) (fun H locs hM => ?_)
        refine lv_icmp_eq (tgt := 1184) hx hb dL_law_613 (by decide) (fun c173 => ?_) (fun c173 => ?_)
        · have hf := jt c173 hf
          exact B_L_law_1184 hX hbl hbA hB E ih hf hM (lv_sub hl [0, 1, 2, 3] rfl)
        · have hf := jf c173 hf
          refine lv_iconst (v := (0 : Int32)) hx hb dL_law_616 (by decide) ?_
          cases hf
      have hf := jf c174 hf
      by_cases c188 : x17 = (13 : Int32)
      · have hf := jt c188 hf
        refine lv_tableIn (off := 586) (tgt := 618) hx hb dL_law_32 (by rw [c188]; decide) (by rw [c188]; decide) (by rw [c188]; rfl) (by decide) ?_
        refine lv_aload_n hx hb dL_law_618 rfl (lv_at hl 1 rfl) ?_
        refine lv_aload_n hx hb dL_law_619 rfl (lv_at hl 0 rfl) ?_
        refine lv_iload_n hx hb dL_law_620 rfl (lv_at hl 3 rfl) ?_
        refine lv_iconst (v := (1 : Int32)) hx hb dL_law_621 (by decide) ?_
        refine lv_iadd hx hb dL_law_622 ?_
        obtain ⟨ha175, hf⟩ := jif hf
        refine va_sld hx hb hX hbl hbA hM.2.1 (jin_in ha175) dL_law_623 ?_
        refine lv_aload_n hx hb dL_law_624 rfl (lv_at hl 0 rfl) ?_
        refine lv_iload_n hx hb dL_law_625 rfl (lv_at hl 3 rfl) ?_
        refine lv_iconst (v := (2 : Int32)) hx hb dL_law_626 (by decide) ?_
        refine lv_iadd hx hb dL_law_627 ?_
        obtain ⟨ha176, hf⟩ := jif hf
        refine va_sld hx hb hX hbl hbA hM.2.1 (jin_in ha176) dL_law_628 ?_
        obtain ⟨hq180, hf⟩ := jif hf
        obtain ⟨x177, S178, hc179, hf⟩ := jbd_e hf
        refine jbackI hM (jrunV E hM ci_X11_edition (C_X11_edition hc179) lk_4_0 hq180 (by decide) rfl hl.1 rfl rfl (Nat.le_of_ble_eq_true rfl) ⟨Nat.le_of_ble_eq_true rfl, Nat.le_of_ble_eq_true rfl⟩ ⟨Nat.le_of_ble_eq_true rfl, Nat.le_of_ble_eq_true rfl⟩ dL_law_629) (fun H locs hM => ?_)
        refine lv_aload_n hx hb dL_law_632 rfl (lv_at hl 2 rfl) ?_
        refine lv_aload_n hx hb dL_law_633 rfl (lv_at hl 0 rfl) ?_
        refine lv_iload_n hx hb dL_law_634 rfl (lv_at hl 3 rfl) ?_
        refine lv_iconst (v := (1 : Int32)) hx hb dL_law_635 (by decide) ?_
        refine lv_iadd hx hb dL_law_636 ?_
        obtain ⟨ha181, hf⟩ := jif hf
        refine va_sld hx hb hX hbl hbA hM.2.1 (jin_in ha181) dL_law_637 ?_
        refine lv_aload_n hx hb dL_law_638 rfl (lv_at hl 0 rfl) ?_
        refine lv_iload_n hx hb dL_law_639 rfl (lv_at hl 3 rfl) ?_
        refine lv_iconst (v := (2 : Int32)) hx hb dL_law_640 (by decide) ?_
        refine lv_iadd hx hb dL_law_641 ?_
        obtain ⟨ha182, hf⟩ := jif hf
        refine va_sld hx hb hX hbl hbA hM.2.1 (jin_in ha182) dL_law_642 ?_
        obtain ⟨hq186, hf⟩ := jif hf
        obtain ⟨x183, S184, hc185, hf⟩ := jbd_e hf
        refine jbackI hM (jrunV E hM ci_X12_edition (C_X12_edition hc185) lk_7_196 hq186 (by decide) rfl hl.1 rfl rfl (Nat.le_of_ble_eq_true rfl) ⟨Nat.le_of_ble_eq_true rfl, Nat.le_of_ble_eq_true rfl⟩ ⟨Nat.le_of_ble_eq_true rfl, Nat.le_of_ble_eq_true rfl⟩ dL_law_643) (fun H locs hM => ?_)
        refine lv_icmp_eq (tgt := 1184) hx hb dL_law_646 (by decide) (fun c187 => ?_) (fun c187 => ?_)
        · have hf := jt c187 hf
          exact B_L_law_1184 hX hbl hbA hB E ih hf hM (lv_sub hl [0, 1, 2, 3] rfl)
        · have hf := jf c187 hf
          refine lv_iconst (v := (0 : Int32)) hx hb dL_law_649 (by decide) ?_
          cases hf
      have hf := jf c188 hf
      by_cases c196 : x17 = (14 : Int32)
      · have hf := jt c196 hf
        refine lv_tableIn (off := 619) (tgt := 651) hx hb dL_law_32 (by rw [c196]; decide) (by rw [c196]; decide) (by rw [c196]; rfl) (by decide) ?_
        refine lv_aload_n hx hb dL_law_651 rfl (lv_at hl 1 rfl) ?_
        obtain ⟨hq191, hf⟩ := jif hf
        obtain ⟨x189, hc190, hf⟩ := jb hf
        refine jbackI hM (jrunV E hM ci_X11_fault (C_X11_fault hc190) lk_4_129 hq191 (by decide) rfl hl.1 rfl rfl (Nat.le_of_ble_eq_true rfl) ⟨Nat.le_of_ble_eq_true rfl, Nat.le_of_ble_eq_true rfl⟩ ⟨Nat.le_of_ble_eq_true rfl, Nat.le_of_ble_eq_true rfl⟩ dL_law_652) (fun H locs hM => ?_)
        refine lv_aload_n hx hb dL_law_655 rfl (lv_at hl 2 rfl) ?_
        obtain ⟨hq194, hf⟩ := jif hf
        obtain ⟨x192, hc193, hf⟩ := jb hf
        refine jbackI hM (jrunV E hM ci_X12_fault (C_X12_fault hc193) lk_8_55 hq194 (by decide) rfl hl.1 rfl rfl (Nat.le_of_ble_eq_true rfl) ⟨Nat.le_of_ble_eq_true rfl, Nat.le_of_ble_eq_true rfl⟩ ⟨Nat.le_of_ble_eq_true rfl, Nat.le_of_ble_eq_true rfl⟩ dL_law_656) (fun H locs hM => ?_)
        refine lv_icmp_eq (tgt := 1184) hx hb dL_law_659 (by decide) (fun c195 => ?_) (fun c195 => ?_)
        · have hf := jt c195 hf
          exact B_L_law_1184 hX hbl hbA hB E ih hf hM (lv_sub hl [0, 1, 2, 3] rfl)
        · have hf := jf c195 hf
          refine lv_iconst (v := (0 : Int32)) hx hb dL_law_662 (by decide) ?_
          cases hf
      have hf := jf c196 hf
      by_cases c208 : x17 = (15 : Int32)
      · have hf := jt c208 hf
        refine lv_tableIn (off := 632) (tgt := 664) hx hb dL_law_32 (by rw [c208]; decide) (by rw [c208]; decide) (by rw [c208]; rfl) (by decide) ?_
        refine lv_aload_n hx hb dL_law_664 rfl (lv_at hl 1 rfl) ?_
        refine lv_aload_n hx hb dL_law_665 rfl (lv_at hl 0 rfl) ?_
        refine lv_iload_n hx hb dL_law_666 rfl (lv_at hl 3 rfl) ?_
        refine lv_iconst (v := (1 : Int32)) hx hb dL_law_667 (by decide) ?_
        refine lv_iadd hx hb dL_law_668 ?_
        obtain ⟨ha197, hf⟩ := jif hf
        refine va_sld hx hb hX hbl hbA hM.2.1 (jin_in ha197) dL_law_669 ?_
        refine lv_aload_n hx hb dL_law_670 rfl (lv_at hl 0 rfl) ?_
        refine lv_iload_n hx hb dL_law_671 rfl (lv_at hl 3 rfl) ?_
        refine lv_iconst (v := (2 : Int32)) hx hb dL_law_672 (by decide) ?_
        refine lv_iadd hx hb dL_law_673 ?_
        obtain ⟨ha198, hf⟩ := jif hf
        refine va_sld hx hb hX hbl hbA hM.2.1 (jin_in ha198) dL_law_674 ?_
        obtain ⟨hq201, hf⟩ := jif hf
        obtain ⟨x199, hc200, hf⟩ := jb hf
        refine jbackI hM (jrunV E hM ci_X11_inForce (C_X11_inForce hc200) lk_4_133 hq201 (by decide) rfl hl.1 rfl rfl (Nat.le_of_ble_eq_true rfl) ⟨Nat.le_of_ble_eq_true rfl, Nat.le_of_ble_eq_true rfl⟩ ⟨Nat.le_of_ble_eq_true rfl, Nat.le_of_ble_eq_true rfl⟩ dL_law_675) (fun H locs hM => ?_)
        refine lv_aload_n hx hb dL_law_678 rfl (lv_at hl 2 rfl) ?_
        refine lv_aload_n hx hb dL_law_679 rfl (lv_at hl 0 rfl) ?_
        refine lv_iload_n hx hb dL_law_680 rfl (lv_at hl 3 rfl) ?_
        refine lv_iconst (v := (1 : Int32)) hx hb dL_law_681 (by decide) ?_
        refine lv_iadd hx hb dL_law_682 ?_
        obtain ⟨ha202, hf⟩ := jif hf
        refine va_sld hx hb hX hbl hbA hM.2.1 (jin_in ha202) dL_law_683 ?_
        refine lv_aload_n hx hb dL_law_684 rfl (lv_at hl 0 rfl) ?_
        refine lv_iload_n hx hb dL_law_685 rfl (lv_at hl 3 rfl) ?_
        refine lv_iconst (v := (2 : Int32)) hx hb dL_law_686 (by decide) ?_
        refine lv_iadd hx hb dL_law_687 ?_
        obtain ⟨ha203, hf⟩ := jif hf
        refine va_sld hx hb hX hbl hbA hM.2.1 (jin_in ha203) dL_law_688 ?_
        obtain ⟨hq206, hf⟩ := jif hf
        obtain ⟨x204, hc205, hf⟩ := jb hf
        refine jbackI hM (jrunV E hM ci_X12_inForce (C_X12_inForce hc205) lk_8_59 hq206 (by decide) rfl hl.1 rfl rfl (Nat.le_of_ble_eq_true rfl) ⟨Nat.le_of_ble_eq_true rfl, Nat.le_of_ble_eq_true rfl⟩ ⟨Nat.le_of_ble_eq_true rfl, Nat.le_of_ble_eq_true rfl⟩ dL_law_689) (fun H locs hM => ?_)
        refine lv_icmp_eq (tgt := 1184) hx hb dL_law_692 (by decide) (fun c207 => ?_) (fun c207 => ?_)
        · have hf := jt c207 hf
          exact B_L_law_1184 hX hbl hbA hB E ih hf hM (lv_sub hl [0, 1, 2, 3] rfl)
        · have hf := jf c207 hf
          refine lv_iconst (v := (0 : Int32)) hx hb dL_law_695 (by decide) ?_
          cases hf
      have hf := jf c208 hf
      by_cases c226 : x17 = (16 : Int32)
      · have hf := jt c226 hf
        refine lv_tableIn (off := 665) (tgt := 697) hx hb dL_law_32 (by rw [c226]; decide) (by rw [c226]; decide) (by rw [c226]; rfl) (by decide) ?_
        refine lv_aload_n hx hb dL_law_697 rfl (lv_at hl 1 rfl) ?_
        refine lv_aload_n hx hb dL_law_698 rfl (lv_at hl 0 rfl) ?_
        refine lv_iload_n hx hb dL_law_699 rfl (lv_at hl 3 rfl) ?_
        refine lv_iconst (v := (1 : Int32)) hx hb dL_law_700 (by decide) ?_
        refine lv_iadd hx hb dL_law_701 ?_
        obtain ⟨ha209, hf⟩ := jif hf
        refine va_sld hx hb hX hbl hbA hM.2.1 (jin_in ha209) dL_law_702 ?_
        refine lv_aload_n hx hb dL_law_703 rfl (lv_at hl 0 rfl) ?_
        refine lv_iload_n hx hb dL_law_704 rfl (lv_at hl 3 rfl) ?_
        refine lv_iconst (v := (2 : Int32)) hx hb dL_law_705 (by decide) ?_
        refine lv_iadd hx hb dL_law_706 ?_
        obtain ⟨ha210, hf⟩ := jif hf
        refine va_sld hx hb hX hbl hbA hM.2.1 (jin_in ha210) dL_law_707 ?_
        refine lv_aload_n hx hb dL_law_708 rfl (lv_at hl 0 rfl) ?_
        refine lv_iload_n hx hb dL_law_709 rfl (lv_at hl 3 rfl) ?_
        refine lv_iconst (v := (3 : Int32)) hx hb dL_law_710 (by decide) ?_
        refine lv_iadd hx hb dL_law_711 ?_
        obtain ⟨ha211, hf⟩ := jif hf
        refine va_sld hx hb hX hbl hbA hM.2.1 (jin_in ha211) dL_law_712 ?_
        refine lv_aload_n hx hb dL_law_713 rfl (lv_at hl 0 rfl) ?_
        refine lv_iload_n hx hb dL_law_714 rfl (lv_at hl 3 rfl) ?_
        refine lv_iconst (v := (4 : Int32)) hx hb dL_law_715 (by decide) ?_
        refine lv_iadd hx hb dL_law_716 ?_
        obtain ⟨ha212, hf⟩ := jif hf
        refine va_sld hx hb hX hbl hbA hM.2.1 (jin_in ha212) dL_law_717 ?_
        obtain ⟨hq216, hf⟩ := jif hf
        obtain ⟨x213, S214, hc215, hf⟩ := jbd_e hf
        refine jbackI hM (jrunV E hM ci_X11_figure (C_X11_figure hc215) lk_4_141 hq216 (by decide) rfl hl.1 rfl rfl (Nat.le_of_ble_eq_true rfl) ⟨Nat.le_of_ble_eq_true rfl, Nat.le_of_ble_eq_true rfl⟩ ⟨Nat.le_of_ble_eq_true rfl, Nat.le_of_ble_eq_true rfl⟩ dL_law_718) (fun H locs hM => ?_)
        refine lv_aload_n hx hb dL_law_721 rfl (lv_at hl 2 rfl) ?_
        refine lv_aload_n hx hb dL_law_722 rfl (lv_at hl 0 rfl) ?_
        refine lv_iload_n hx hb dL_law_723 rfl (lv_at hl 3 rfl) ?_
        refine lv_iconst (v := (1 : Int32)) hx hb dL_law_724 (by decide) ?_
        refine lv_iadd hx hb dL_law_725 ?_
        obtain ⟨ha217, hf⟩ := jif hf
        refine va_sld hx hb hX hbl hbA hM.2.1 (jin_in ha217) dL_law_726 ?_
        refine lv_aload_n hx hb dL_law_727 rfl (lv_at hl 0 rfl) ?_
        refine lv_iload_n hx hb dL_law_728 rfl (lv_at hl 3 rfl) ?_
        refine lv_iconst (v := (2 : Int32)) hx hb dL_law_729 (by decide) ?_
        refine lv_iadd hx hb dL_law_730 ?_
        obtain ⟨ha218, hf⟩ := jif hf
        refine va_sld hx hb hX hbl hbA hM.2.1 (jin_in ha218) dL_law_731 ?_
        refine lv_aload_n hx hb dL_law_732 rfl (lv_at hl 0 rfl) ?_
        refine lv_iload_n hx hb dL_law_733 rfl (lv_at hl 3 rfl) ?_
        refine lv_iconst (v := (3 : Int32)) hx hb dL_law_734 (by decide) ?_
        refine lv_iadd hx hb dL_law_735 ?_
        obtain ⟨ha219, hf⟩ := jif hf
        refine va_sld hx hb hX hbl hbA hM.2.1 (jin_in ha219) dL_law_736 ?_
        refine lv_aload_n hx hb dL_law_737 rfl (lv_at hl 0 rfl) ?_
        refine lv_iload_n hx hb dL_law_738 rfl (lv_at hl 3 rfl) ?_
        refine lv_iconst (v := (4 : Int32)) hx hb dL_law_739 (by decide) ?_
        refine lv_iadd hx hb dL_law_740 ?_
        obtain ⟨ha220, hf⟩ := jif hf
        refine va_sld hx hb hX hbl hbA hM.2.1 (jin_in ha220) dL_law_741 ?_
        obtain ⟨hq224, hf⟩ := jif hf
        obtain ⟨x221, S222, hc223, hf⟩ := jbd_e hf
        refine jbackI hM (jrunV E hM ci_X12_figure (C_X12_figure hc223) lk_8_67 hq224 (by decide) rfl hl.1 rfl rfl (Nat.le_of_ble_eq_true rfl) ⟨Nat.le_of_ble_eq_true rfl, Nat.le_of_ble_eq_true rfl⟩ ⟨Nat.le_of_ble_eq_true rfl, Nat.le_of_ble_eq_true rfl⟩ dL_law_742) (fun H locs hM => ?_)
        refine lv_icmp_eq (tgt := 1184) hx hb dL_law_745 (by decide) (fun c225 => ?_) (fun c225 => ?_)
        · have hf := jt c225 hf
          exact B_L_law_1184 hX hbl hbA hB E ih hf hM (lv_sub hl [0, 1, 2, 3] rfl)
        · have hf := jf c225 hf
          refine lv_iconst (v := (0 : Int32)) hx hb dL_law_748 (by decide) ?_
          cases hf
      have hf := jf c226 hf
      by_cases c236 : x17 = (17 : Int32)
      · have hf := jt c236 hf
        refine lv_tableIn (off := 718) (tgt := 750) hx hb dL_law_32 (by rw [c236]; decide) (by rw [c236]; decide) (by rw [c236]; rfl) (by decide) ?_
        refine lv_aload_n hx hb dL_law_750 rfl (lv_at hl 1 rfl) ?_
        refine lv_aload_n hx hb dL_law_751 rfl (lv_at hl 0 rfl) ?_
        refine lv_iload_n hx hb dL_law_752 rfl (lv_at hl 3 rfl) ?_
        refine lv_iconst (v := (1 : Int32)) hx hb dL_law_753 (by decide) ?_
        refine lv_iadd hx hb dL_law_754 ?_
        obtain ⟨ha227, hf⟩ := jif hf
        refine va_sld hx hb hX hbl hbA hM.2.1 (jin_in ha227) dL_law_755 ?_
        obtain ⟨hq230, hf⟩ := jif hf
        obtain ⟨x228, hc229, hf⟩ := jb hf
        refine jbackI hM (jrunV E hM ci_X11_told (C_X11_told hc229) lk_5_127 hq230 (by decide) rfl hl.1 rfl rfl (Nat.le_of_ble_eq_true rfl) ⟨Nat.le_of_ble_eq_true rfl, Nat.le_of_ble_eq_true rfl⟩ ⟨Nat.le_of_ble_eq_true rfl, Nat.le_of_ble_eq_true rfl⟩ dL_law_756) (fun H locs hM => ?_)
        refine lv_aload_n hx hb dL_law_759 rfl (lv_at hl 2 rfl) ?_
        refine lv_aload_n hx hb dL_law_760 rfl (lv_at hl 0 rfl) ?_
        refine lv_iload_n hx hb dL_law_761 rfl (lv_at hl 3 rfl) ?_
        refine lv_iconst (v := (1 : Int32)) hx hb dL_law_762 (by decide) ?_
        refine lv_iadd hx hb dL_law_763 ?_
        obtain ⟨ha231, hf⟩ := jif hf
        refine va_sld hx hb hX hbl hbA hM.2.1 (jin_in ha231) dL_law_764 ?_
        obtain ⟨hq234, hf⟩ := jif hf
        obtain ⟨x232, hc233, hf⟩ := jb hf
        refine jbackI hM (jrunV E hM ci_X12_told (C_X12_told hc233) lk_8_218 hq234 (by decide) rfl hl.1 rfl rfl (Nat.le_of_ble_eq_true rfl) ⟨Nat.le_of_ble_eq_true rfl, Nat.le_of_ble_eq_true rfl⟩ ⟨Nat.le_of_ble_eq_true rfl, Nat.le_of_ble_eq_true rfl⟩ dL_law_765) (fun H locs hM => ?_)
        refine lv_icmp_eq (tgt := 1184) hx hb dL_law_768 (by decide) (fun c235 => ?_) (fun c235 => ?_)
        · have hf := jt c235 hf
          exact B_L_law_1184 hX hbl hbA hB E ih hf hM (lv_sub hl [0, 1, 2, 3] rfl)
        · have hf := jf c235 hf
          refine lv_iconst (v := (0 : Int32)) hx hb dL_law_771 (by decide) ?_
          cases hf
      have hf := jf c236 hf
      by_cases c248 : x17 = (18 : Int32)
      · have hf := jt c248 hf
        refine lv_tableIn (off := 741) (tgt := 773) hx hb dL_law_32 (by rw [c248]; decide) (by rw [c248]; decide) (by rw [c248]; rfl) (by decide) ?_
        refine lv_aload_n hx hb dL_law_773 rfl (lv_at hl 1 rfl) ?_
        refine lv_aload_n hx hb dL_law_774 rfl (lv_at hl 0 rfl) ?_
        refine lv_iload_n hx hb dL_law_775 rfl (lv_at hl 3 rfl) ?_
        refine lv_iconst (v := (1 : Int32)) hx hb dL_law_776 (by decide) ?_
        refine lv_iadd hx hb dL_law_777 ?_
        obtain ⟨ha237, hf⟩ := jif hf
        refine va_sld hx hb hX hbl hbA hM.2.1 (jin_in ha237) dL_law_778 ?_
        obtain ⟨hq241, hf⟩ := jif hf
        obtain ⟨x238, S239, hc240, hf⟩ := jbd_e hf
        refine jbackI hM (jrunV E hM ci_X11_step (C_X11_step hc240) lk_5_131 hq241 (by decide) rfl hl.1 rfl rfl (Nat.le_of_ble_eq_true rfl) ⟨Nat.le_of_ble_eq_true rfl, Nat.le_of_ble_eq_true rfl⟩ ⟨Nat.le_of_ble_eq_true rfl, Nat.le_of_ble_eq_true rfl⟩ dL_law_779) (fun H locs hM => ?_)
        refine lv_aload_n hx hb dL_law_782 rfl (lv_at hl 2 rfl) ?_
        refine lv_aload_n hx hb dL_law_783 rfl (lv_at hl 0 rfl) ?_
        refine lv_iload_n hx hb dL_law_784 rfl (lv_at hl 3 rfl) ?_
        refine lv_iconst (v := (1 : Int32)) hx hb dL_law_785 (by decide) ?_
        refine lv_iadd hx hb dL_law_786 ?_
        obtain ⟨ha242, hf⟩ := jif hf
        refine va_sld hx hb hX hbl hbA hM.2.1 (jin_in ha242) dL_law_787 ?_
        obtain ⟨hq246, hf⟩ := jif hf
        obtain ⟨x243, S244, hc245, hf⟩ := jbd_e hf
        refine jbackI hM (jrunV E hM ci_X12_step (C_X12_step hc245) lk_8_222 hq246 (by decide) rfl hl.1 rfl rfl (Nat.le_of_ble_eq_true rfl) ⟨Nat.le_of_ble_eq_true rfl, Nat.le_of_ble_eq_true rfl⟩ ⟨Nat.le_of_ble_eq_true rfl, Nat.le_of_ble_eq_true rfl⟩ dL_law_788) (fun H locs hM => ?_)
        refine lv_icmp_eq (tgt := 1184) hx hb dL_law_791 (by decide) (fun c247 => ?_) (fun c247 => ?_)
        · have hf := jt c247 hf
          exact B_L_law_1184 hX hbl hbA hB E ih hf hM (lv_sub hl [0, 1, 2, 3] rfl)
        · have hf := jf c247 hf
          refine lv_iconst (v := (0 : Int32)) hx hb dL_law_794 (by decide) ?_
          cases hf
      have hf := jf c248 hf
      by_cases c264 : x17 = (19 : Int32)
      · have hf := jt c264 hf
        refine lv_tableIn (off := 764) (tgt := 796) hx hb dL_law_32 (by rw [c264]; decide) (by rw [c264]; decide) (by rw [c264]; rfl) (by decide) ?_
        refine lv_aload_n hx hb dL_law_796 rfl (lv_at hl 1 rfl) ?_
        refine lv_aload_n hx hb dL_law_797 rfl (lv_at hl 0 rfl) ?_
        refine lv_iload_n hx hb dL_law_798 rfl (lv_at hl 3 rfl) ?_
        refine lv_iconst (v := (1 : Int32)) hx hb dL_law_799 (by decide) ?_
        refine lv_iadd hx hb dL_law_800 ?_
        obtain ⟨ha249, hf⟩ := jif hf
        refine va_sld hx hb hX hbl hbA hM.2.1 (jin_in ha249) dL_law_801 ?_
        refine lv_aload_n hx hb dL_law_802 rfl (lv_at hl 0 rfl) ?_
        refine lv_iload_n hx hb dL_law_803 rfl (lv_at hl 3 rfl) ?_
        refine lv_iconst (v := (2 : Int32)) hx hb dL_law_804 (by decide) ?_
        refine lv_iadd hx hb dL_law_805 ?_
        obtain ⟨ha250, hf⟩ := jif hf
        refine va_sld hx hb hX hbl hbA hM.2.1 (jin_in ha250) dL_law_806 ?_
        refine lv_aload_n hx hb dL_law_807 rfl (lv_at hl 0 rfl) ?_
        refine lv_iload_n hx hb dL_law_808 rfl (lv_at hl 3 rfl) ?_
        refine lv_iconst (v := (3 : Int32)) hx hb dL_law_809 (by decide) ?_
        refine lv_iadd hx hb dL_law_810 ?_
        obtain ⟨ha251, hf⟩ := jif hf
        refine va_sld hx hb hX hbl hbA hM.2.1 (jin_in ha251) dL_law_811 ?_
        obtain ⟨hq255, hf⟩ := jif hf
        obtain ⟨x252, S253, hc254, hf⟩ := jbd_e hf
        refine jbackI hM (jrunV E hM ci_X11_trial (C_X11_trial hc254) lk_5_135 hq255 (by decide) rfl hl.1 rfl rfl (Nat.le_of_ble_eq_true rfl) ⟨Nat.le_of_ble_eq_true rfl, Nat.le_of_ble_eq_true rfl⟩ ⟨Nat.le_of_ble_eq_true rfl, Nat.le_of_ble_eq_true rfl⟩ dL_law_812) (fun H locs hM => ?_)
        refine lv_aload_n hx hb dL_law_815 rfl (lv_at hl 2 rfl) ?_
        refine lv_aload_n hx hb dL_law_816 rfl (lv_at hl 0 rfl) ?_
        refine lv_iload_n hx hb dL_law_817 rfl (lv_at hl 3 rfl) ?_
        refine lv_iconst (v := (1 : Int32)) hx hb dL_law_818 (by decide) ?_
        refine lv_iadd hx hb dL_law_819 ?_
        obtain ⟨ha256, hf⟩ := jif hf
        refine va_sld hx hb hX hbl hbA hM.2.1 (jin_in ha256) dL_law_820 ?_
        refine lv_aload_n hx hb dL_law_821 rfl (lv_at hl 0 rfl) ?_
        refine lv_iload_n hx hb dL_law_822 rfl (lv_at hl 3 rfl) ?_
        refine lv_iconst (v := (2 : Int32)) hx hb dL_law_823 (by decide) ?_
        refine lv_iadd hx hb dL_law_824 ?_
        obtain ⟨ha257, hf⟩ := jif hf
        refine va_sld hx hb hX hbl hbA hM.2.1 (jin_in ha257) dL_law_825 ?_
        refine lv_aload_n hx hb dL_law_826 rfl (lv_at hl 0 rfl) ?_
        refine lv_iload_n hx hb dL_law_827 rfl (lv_at hl 3 rfl) ?_
        refine lv_iconst (v := (3 : Int32)) hx hb dL_law_828 (by decide) ?_
        refine lv_iadd hx hb dL_law_829 ?_
        obtain ⟨ha258, hf⟩ := jif hf
        refine va_sld hx hb hX hbl hbA hM.2.1 (jin_in ha258) dL_law_830 ?_
        obtain ⟨hq262, hf⟩ := jif hf
        obtain ⟨x259, S260, hc261, hf⟩ := jbd_e hf
        refine jbackI hM (jrunV E hM ci_X12_trial (C_X12_trial hc261) lk_8_226 hq262 (by decide) rfl hl.1 rfl rfl (Nat.le_of_ble_eq_true rfl) ⟨Nat.le_of_ble_eq_true rfl, Nat.le_of_ble_eq_true rfl⟩ ⟨Nat.le_of_ble_eq_true rfl, Nat.le_of_ble_eq_true rfl⟩ dL_law_831) (fun H locs hM => ?_)
        refine lv_icmp_eq (tgt := 1184) hx hb dL_law_834 (by decide) (fun c263 => ?_) (fun c263 => ?_)
        · have hf := jt c263 hf
          exact B_L_law_1184 hX hbl hbA hB E ih hf hM (lv_sub hl [0, 1, 2, 3] rfl)
        · have hf := jf c263 hf
          refine lv_iconst (v := (0 : Int32)) hx hb dL_law_837 (by decide) ?_
          cases hf
      have hf := jf c264 hf
      by_cases c280 : x17 = (20 : Int32)
      · have hf := jt c280 hf
        refine lv_tableIn (off := 807) (tgt := 839) hx hb dL_law_32 (by rw [c280]; decide) (by rw [c280]; decide) (by rw [c280]; rfl) (by decide) ?_
        refine lv_aload_n hx hb dL_law_839 rfl (lv_at hl 1 rfl) ?_
        refine lv_aload_n hx hb dL_law_840 rfl (lv_at hl 0 rfl) ?_
        refine lv_iload_n hx hb dL_law_841 rfl (lv_at hl 3 rfl) ?_
        refine lv_iconst (v := (1 : Int32)) hx hb dL_law_842 (by decide) ?_
        refine lv_iadd hx hb dL_law_843 ?_
        obtain ⟨ha265, hf⟩ := jif hf
        refine va_sld hx hb hX hbl hbA hM.2.1 (jin_in ha265) dL_law_844 ?_
        refine lv_aload_n hx hb dL_law_845 rfl (lv_at hl 0 rfl) ?_
        refine lv_iload_n hx hb dL_law_846 rfl (lv_at hl 3 rfl) ?_
        refine lv_iconst (v := (2 : Int32)) hx hb dL_law_847 (by decide) ?_
        refine lv_iadd hx hb dL_law_848 ?_
        obtain ⟨ha266, hf⟩ := jif hf
        refine va_sld hx hb hX hbl hbA hM.2.1 (jin_in ha266) dL_law_849 ?_
        refine lv_aload_n hx hb dL_law_850 rfl (lv_at hl 0 rfl) ?_
        refine lv_iload_n hx hb dL_law_851 rfl (lv_at hl 3 rfl) ?_
        refine lv_iconst (v := (3 : Int32)) hx hb dL_law_852 (by decide) ?_
        refine lv_iadd hx hb dL_law_853 ?_
        obtain ⟨ha267, hf⟩ := jif hf
        refine va_sld hx hb hX hbl hbA hM.2.1 (jin_in ha267) dL_law_854 ?_
        obtain ⟨hq271, hf⟩ := jif hf
        obtain ⟨x268, S269, hc270, hf⟩ := jbd_e hf
        refine jbackI hM (jrunV E hM ci_X11_award (C_X11_award hc270) lk_5_149 hq271 (by decide) rfl hl.1 rfl rfl (Nat.le_of_ble_eq_true rfl) ⟨Nat.le_of_ble_eq_true rfl, Nat.le_of_ble_eq_true rfl⟩ ⟨Nat.le_of_ble_eq_true rfl, Nat.le_of_ble_eq_true rfl⟩ dL_law_855) (fun H locs hM => ?_)
        refine lv_aload_n hx hb dL_law_858 rfl (lv_at hl 2 rfl) ?_
        refine lv_aload_n hx hb dL_law_859 rfl (lv_at hl 0 rfl) ?_
        refine lv_iload_n hx hb dL_law_860 rfl (lv_at hl 3 rfl) ?_
        refine lv_iconst (v := (1 : Int32)) hx hb dL_law_861 (by decide) ?_
        refine lv_iadd hx hb dL_law_862 ?_
        obtain ⟨ha272, hf⟩ := jif hf
        refine va_sld hx hb hX hbl hbA hM.2.1 (jin_in ha272) dL_law_863 ?_
        refine lv_aload_n hx hb dL_law_864 rfl (lv_at hl 0 rfl) ?_
        refine lv_iload_n hx hb dL_law_865 rfl (lv_at hl 3 rfl) ?_
        refine lv_iconst (v := (2 : Int32)) hx hb dL_law_866 (by decide) ?_
        refine lv_iadd hx hb dL_law_867 ?_
        obtain ⟨ha273, hf⟩ := jif hf
        refine va_sld hx hb hX hbl hbA hM.2.1 (jin_in ha273) dL_law_868 ?_
        refine lv_aload_n hx hb dL_law_869 rfl (lv_at hl 0 rfl) ?_
        refine lv_iload_n hx hb dL_law_870 rfl (lv_at hl 3 rfl) ?_
        refine lv_iconst (v := (3 : Int32)) hx hb dL_law_871 (by decide) ?_
        refine lv_iadd hx hb dL_law_872 ?_
        obtain ⟨ha274, hf⟩ := jif hf
        refine va_sld hx hb hX hbl hbA hM.2.1 (jin_in ha274) dL_law_873 ?_
        obtain ⟨hq278, hf⟩ := jif hf
        obtain ⟨x275, S276, hc277, hf⟩ := jbd_e hf
        refine jbackI hM (jrunV E hM ci_X12_award (C_X12_award hc277) lk_8_239 hq278 (by decide) rfl hl.1 rfl rfl (Nat.le_of_ble_eq_true rfl) ⟨Nat.le_of_ble_eq_true rfl, Nat.le_of_ble_eq_true rfl⟩ ⟨Nat.le_of_ble_eq_true rfl, Nat.le_of_ble_eq_true rfl⟩ dL_law_874) (fun H locs hM => ?_)
        refine lv_icmp_eq (tgt := 1184) hx hb dL_law_877 (by decide) (fun c279 => ?_) (fun c279 => ?_)
        · have hf := jt c279 hf
          exact B_L_law_1184 hX hbl hbA hB E ih hf hM (lv_sub hl [0, 1, 2, 3] rfl)
        · have hf := jf c279 hf
          refine lv_iconst (v := (0 : Int32)) hx hb dL_law_880 (by decide) ?_
          cases hf
      have hf := jf c280 hf
      by_cases c296 : x17 = (21 : Int32)
      · have hf := jt c296 hf
        refine lv_tableIn (off := 850) (tgt := 882) hx hb dL_law_32 (by rw [c296]; decide) (by rw [c296]; decide) (by rw [c296]; rfl) (by decide) ?_
        refine lv_aload_n hx hb dL_law_882 rfl (lv_at hl 1 rfl) ?_
        refine lv_aload_n hx hb dL_law_883 rfl (lv_at hl 0 rfl) ?_
        refine lv_iload_n hx hb dL_law_884 rfl (lv_at hl 3 rfl) ?_
        refine lv_iconst (v := (1 : Int32)) hx hb dL_law_885 (by decide) ?_
        refine lv_iadd hx hb dL_law_886 ?_
        obtain ⟨ha281, hf⟩ := jif hf
        refine va_sld hx hb hX hbl hbA hM.2.1 (jin_in ha281) dL_law_887 ?_
        refine lv_aload_n hx hb dL_law_888 rfl (lv_at hl 0 rfl) ?_
        refine lv_iload_n hx hb dL_law_889 rfl (lv_at hl 3 rfl) ?_
        refine lv_iconst (v := (2 : Int32)) hx hb dL_law_890 (by decide) ?_
        refine lv_iadd hx hb dL_law_891 ?_
        obtain ⟨ha282, hf⟩ := jif hf
        refine va_sld hx hb hX hbl hbA hM.2.1 (jin_in ha282) dL_law_892 ?_
        refine lv_aload_n hx hb dL_law_893 rfl (lv_at hl 0 rfl) ?_
        refine lv_iload_n hx hb dL_law_894 rfl (lv_at hl 3 rfl) ?_
        refine lv_iconst (v := (3 : Int32)) hx hb dL_law_895 (by decide) ?_
        refine lv_iadd hx hb dL_law_896 ?_
        obtain ⟨ha283, hf⟩ := jif hf
        refine va_sld hx hb hX hbl hbA hM.2.1 (jin_in ha283) dL_law_897 ?_
        obtain ⟨hq287, hf⟩ := jif hf
        obtain ⟨x284, S285, hc286, hf⟩ := jbd_e hf
        refine jbackI hM (jrunV E hM ci_X11_due (C_X11_due hc286) lk_5_156 hq287 (by decide) rfl hl.1 rfl rfl (Nat.le_of_ble_eq_true rfl) ⟨Nat.le_of_ble_eq_true rfl, Nat.le_of_ble_eq_true rfl⟩ ⟨Nat.le_of_ble_eq_true rfl, Nat.le_of_ble_eq_true rfl⟩ dL_law_898) (fun H locs hM => ?_)
        refine lv_aload_n hx hb dL_law_901 rfl (lv_at hl 2 rfl) ?_
        refine lv_aload_n hx hb dL_law_902 rfl (lv_at hl 0 rfl) ?_
        refine lv_iload_n hx hb dL_law_903 rfl (lv_at hl 3 rfl) ?_
        refine lv_iconst (v := (1 : Int32)) hx hb dL_law_904 (by decide) ?_
        refine lv_iadd hx hb dL_law_905 ?_
        obtain ⟨ha288, hf⟩ := jif hf
        refine va_sld hx hb hX hbl hbA hM.2.1 (jin_in ha288) dL_law_906 ?_
        refine lv_aload_n hx hb dL_law_907 rfl (lv_at hl 0 rfl) ?_
        refine lv_iload_n hx hb dL_law_908 rfl (lv_at hl 3 rfl) ?_
        refine lv_iconst (v := (2 : Int32)) hx hb dL_law_909 (by decide) ?_
        refine lv_iadd hx hb dL_law_910 ?_
        obtain ⟨ha289, hf⟩ := jif hf
        refine va_sld hx hb hX hbl hbA hM.2.1 (jin_in ha289) dL_law_911 ?_
        refine lv_aload_n hx hb dL_law_912 rfl (lv_at hl 0 rfl) ?_
        refine lv_iload_n hx hb dL_law_913 rfl (lv_at hl 3 rfl) ?_
        refine lv_iconst (v := (3 : Int32)) hx hb dL_law_914 (by decide) ?_
        refine lv_iadd hx hb dL_law_915 ?_
        obtain ⟨ha290, hf⟩ := jif hf
        refine va_sld hx hb hX hbl hbA hM.2.1 (jin_in ha290) dL_law_916 ?_
        obtain ⟨hq294, hf⟩ := jif hf
        obtain ⟨x291, S292, hc293, hf⟩ := jbd_e hf
        refine jbackI hM (jrunV E hM ci_X12_due (C_X12_due hc293) lk_9_3 hq294 (by decide) rfl hl.1 rfl rfl (Nat.le_of_ble_eq_true rfl) ⟨Nat.le_of_ble_eq_true rfl, Nat.le_of_ble_eq_true rfl⟩ ⟨Nat.le_of_ble_eq_true rfl, Nat.le_of_ble_eq_true rfl⟩ dL_law_917) (fun H locs hM => ?_)
        refine lv_icmp_eq (tgt := 1184) hx hb dL_law_920 (by decide) (fun c295 => ?_) (fun c295 => ?_)
        · have hf := jt c295 hf
          exact B_L_law_1184 hX hbl hbA hB E ih hf hM (lv_sub hl [0, 1, 2, 3] rfl)
        · have hf := jf c295 hf
          refine lv_iconst (v := (0 : Int32)) hx hb dL_law_923 (by decide) ?_
          cases hf
      have hf := jf c296 hf
      by_cases c312 : x17 = (22 : Int32)
      · have hf := jt c312 hf
        refine lv_tableIn (off := 893) (tgt := 925) hx hb dL_law_32 (by rw [c312]; decide) (by rw [c312]; decide) (by rw [c312]; rfl) (by decide) ?_
        refine lv_aload_n hx hb dL_law_925 rfl (lv_at hl 1 rfl) ?_
        refine lv_aload_n hx hb dL_law_926 rfl (lv_at hl 0 rfl) ?_
        refine lv_iload_n hx hb dL_law_927 rfl (lv_at hl 3 rfl) ?_
        refine lv_iconst (v := (1 : Int32)) hx hb dL_law_928 (by decide) ?_
        refine lv_iadd hx hb dL_law_929 ?_
        obtain ⟨ha297, hf⟩ := jif hf
        refine va_sld hx hb hX hbl hbA hM.2.1 (jin_in ha297) dL_law_930 ?_
        refine lv_aload_n hx hb dL_law_931 rfl (lv_at hl 0 rfl) ?_
        refine lv_iload_n hx hb dL_law_932 rfl (lv_at hl 3 rfl) ?_
        refine lv_iconst (v := (2 : Int32)) hx hb dL_law_933 (by decide) ?_
        refine lv_iadd hx hb dL_law_934 ?_
        obtain ⟨ha298, hf⟩ := jif hf
        refine va_sld hx hb hX hbl hbA hM.2.1 (jin_in ha298) dL_law_935 ?_
        refine lv_aload_n hx hb dL_law_936 rfl (lv_at hl 0 rfl) ?_
        refine lv_iload_n hx hb dL_law_937 rfl (lv_at hl 3 rfl) ?_
        refine lv_iconst (v := (3 : Int32)) hx hb dL_law_938 (by decide) ?_
        refine lv_iadd hx hb dL_law_939 ?_
        obtain ⟨ha299, hf⟩ := jif hf
        refine va_sld hx hb hX hbl hbA hM.2.1 (jin_in ha299) dL_law_940 ?_
        obtain ⟨hq303, hf⟩ := jif hf
        obtain ⟨x300, S301, hc302, hf⟩ := jbd_e hf
        refine jbackI hM (jrunV E hM ci_X11_deduct (C_X11_deduct hc302) lk_5_176 hq303 (by decide) rfl hl.1 rfl rfl (Nat.le_of_ble_eq_true rfl) ⟨Nat.le_of_ble_eq_true rfl, Nat.le_of_ble_eq_true rfl⟩ ⟨Nat.le_of_ble_eq_true rfl, Nat.le_of_ble_eq_true rfl⟩ dL_law_941) (fun H locs hM => ?_)
        refine lv_aload_n hx hb dL_law_944 rfl (lv_at hl 2 rfl) ?_
        refine lv_aload_n hx hb dL_law_945 rfl (lv_at hl 0 rfl) ?_
        refine lv_iload_n hx hb dL_law_946 rfl (lv_at hl 3 rfl) ?_
        refine lv_iconst (v := (1 : Int32)) hx hb dL_law_947 (by decide) ?_
        refine lv_iadd hx hb dL_law_948 ?_
        obtain ⟨ha304, hf⟩ := jif hf
        refine va_sld hx hb hX hbl hbA hM.2.1 (jin_in ha304) dL_law_949 ?_
        refine lv_aload_n hx hb dL_law_950 rfl (lv_at hl 0 rfl) ?_
        refine lv_iload_n hx hb dL_law_951 rfl (lv_at hl 3 rfl) ?_
        refine lv_iconst (v := (2 : Int32)) hx hb dL_law_952 (by decide) ?_
        refine lv_iadd hx hb dL_law_953 ?_
        obtain ⟨ha305, hf⟩ := jif hf
        refine va_sld hx hb hX hbl hbA hM.2.1 (jin_in ha305) dL_law_954 ?_
        refine lv_aload_n hx hb dL_law_955 rfl (lv_at hl 0 rfl) ?_
        refine lv_iload_n hx hb dL_law_956 rfl (lv_at hl 3 rfl) ?_
        refine lv_iconst (v := (3 : Int32)) hx hb dL_law_957 (by decide) ?_
        refine lv_iadd hx hb dL_law_958 ?_
        obtain ⟨ha306, hf⟩ := jif hf
        refine va_sld hx hb hX hbl hbA hM.2.1 (jin_in ha306) dL_law_959 ?_
        obtain ⟨hq310, hf⟩ := jif hf
        obtain ⟨x307, S308, hc309, hf⟩ := jbd_e hf
        refine jbackI hM (jrunV E hM ci_X12_deduct (C_X12_deduct hc309) lk_9_12 hq310 (by decide) rfl hl.1 rfl rfl (Nat.le_of_ble_eq_true rfl) ⟨Nat.le_of_ble_eq_true rfl, Nat.le_of_ble_eq_true rfl⟩ ⟨Nat.le_of_ble_eq_true rfl, Nat.le_of_ble_eq_true rfl⟩ dL_law_960) (fun H locs hM => ?_)
        refine lv_icmp_eq (tgt := 1184) hx hb dL_law_963 (by decide) (fun c311 => ?_) (fun c311 => ?_)
        · have hf := jt c311 hf
          exact B_L_law_1184 hX hbl hbA hB E ih hf hM (lv_sub hl [0, 1, 2, 3] rfl)
        · have hf := jf c311 hf
          refine lv_iconst (v := (0 : Int32)) hx hb dL_law_966 (by decide) ?_
          cases hf
      have hf := jf c312 hf
      by_cases c324 : x17 = (23 : Int32)
      · have hf := jt c324 hf
        refine lv_tableIn (off := 936) (tgt := 968) hx hb dL_law_32 (by rw [c324]; decide) (by rw [c324]; decide) (by rw [c324]; rfl) (by decide) ?_
        refine lv_aload_n hx hb dL_law_968 rfl (lv_at hl 1 rfl) ?_
        refine lv_aload_n hx hb dL_law_969 rfl (lv_at hl 0 rfl) ?_
        refine lv_iload_n hx hb dL_law_970 rfl (lv_at hl 3 rfl) ?_
        refine lv_iconst (v := (1 : Int32)) hx hb dL_law_971 (by decide) ?_
        refine lv_iadd hx hb dL_law_972 ?_
        obtain ⟨ha313, hf⟩ := jif hf
        refine va_sld hx hb hX hbl hbA hM.2.1 (jin_in ha313) dL_law_973 ?_
        obtain ⟨hq317, hf⟩ := jif hf
        obtain ⟨x314, S315, hc316, hf⟩ := jbd_e hf
        refine jbackI hM (jrunV E hM ci_X11_share (C_X11_share hc316) lk_5_185 hq317 (by decide) rfl hl.1 rfl rfl (Nat.le_of_ble_eq_true rfl) ⟨Nat.le_of_ble_eq_true rfl, Nat.le_of_ble_eq_true rfl⟩ ⟨Nat.le_of_ble_eq_true rfl, Nat.le_of_ble_eq_true rfl⟩ dL_law_974) (fun H locs hM => ?_)
        refine lv_aload_n hx hb dL_law_977 rfl (lv_at hl 2 rfl) ?_
        refine lv_aload_n hx hb dL_law_978 rfl (lv_at hl 0 rfl) ?_
        refine lv_iload_n hx hb dL_law_979 rfl (lv_at hl 3 rfl) ?_
        refine lv_iconst (v := (1 : Int32)) hx hb dL_law_980 (by decide) ?_
        refine lv_iadd hx hb dL_law_981 ?_
        obtain ⟨ha318, hf⟩ := jif hf
        refine va_sld hx hb hX hbl hbA hM.2.1 (jin_in ha318) dL_law_982 ?_
        obtain ⟨hq322, hf⟩ := jif hf
        obtain ⟨x319, S320, hc321, hf⟩ := jbd_e hf
        refine jbackI hM (jrunV E hM ci_X12_share (C_X12_share hc321) lk_9_17 hq322 (by decide) rfl hl.1 rfl rfl (Nat.le_of_ble_eq_true rfl) ⟨Nat.le_of_ble_eq_true rfl, Nat.le_of_ble_eq_true rfl⟩ ⟨Nat.le_of_ble_eq_true rfl, Nat.le_of_ble_eq_true rfl⟩ dL_law_983) (fun H locs hM => ?_)
        refine lv_icmp_eq (tgt := 1184) hx hb dL_law_986 (by decide) (fun c323 => ?_) (fun c323 => ?_)
        · have hf := jt c323 hf
          exact B_L_law_1184 hX hbl hbA hB E ih hf hM (lv_sub hl [0, 1, 2, 3] rfl)
        · have hf := jf c323 hf
          refine lv_iconst (v := (0 : Int32)) hx hb dL_law_989 (by decide) ?_
          cases hf
      have hf := jf c324 hf
      by_cases c336 : x17 = (24 : Int32)
      · have hf := jt c336 hf
        refine lv_tableIn (off := 959) (tgt := 991) hx hb dL_law_32 (by rw [c336]; decide) (by rw [c336]; decide) (by rw [c336]; rfl) (by decide) ?_
        refine lv_aload_n hx hb dL_law_991 rfl (lv_at hl 1 rfl) ?_
        refine lv_aload_n hx hb dL_law_992 rfl (lv_at hl 0 rfl) ?_
        refine lv_iload_n hx hb dL_law_993 rfl (lv_at hl 3 rfl) ?_
        refine lv_iconst (v := (1 : Int32)) hx hb dL_law_994 (by decide) ?_
        refine lv_iadd hx hb dL_law_995 ?_
        obtain ⟨ha325, hf⟩ := jif hf
        refine va_sld hx hb hX hbl hbA hM.2.1 (jin_in ha325) dL_law_996 ?_
        obtain ⟨hq329, hf⟩ := jif hf
        obtain ⟨x326, S327, hc328, hf⟩ := jbd_e hf
        refine jbackI hM (jrunV E hM ci_X11_run (C_X11_run hc328) lk_5_189 hq329 (by decide) rfl hl.1 rfl rfl (Nat.le_of_ble_eq_true rfl) ⟨Nat.le_of_ble_eq_true rfl, Nat.le_of_ble_eq_true rfl⟩ ⟨Nat.le_of_ble_eq_true rfl, Nat.le_of_ble_eq_true rfl⟩ dL_law_997) (fun H locs hM => ?_)
        refine lv_aload_n hx hb dL_law_1000 rfl (lv_at hl 2 rfl) ?_
        refine lv_aload_n hx hb dL_law_1001 rfl (lv_at hl 0 rfl) ?_
        refine lv_iload_n hx hb dL_law_1002 rfl (lv_at hl 3 rfl) ?_
        refine lv_iconst (v := (1 : Int32)) hx hb dL_law_1003 (by decide) ?_
        refine lv_iadd hx hb dL_law_1004 ?_
        obtain ⟨ha330, hf⟩ := jif hf
        refine va_sld hx hb hX hbl hbA hM.2.1 (jin_in ha330) dL_law_1005 ?_
        obtain ⟨hq334, hf⟩ := jif hf
        obtain ⟨x331, S332, hc333, hf⟩ := jbd_e hf
        refine jbackI hM (jrunV E hM ci_X12_run (C_X12_run hc333) lk_9_22 hq334 (by decide) rfl hl.1 rfl rfl (Nat.le_of_ble_eq_true rfl) ⟨Nat.le_of_ble_eq_true rfl, Nat.le_of_ble_eq_true rfl⟩ ⟨Nat.le_of_ble_eq_true rfl, Nat.le_of_ble_eq_true rfl⟩ dL_law_1006) (fun H locs hM => ?_)
        refine lv_icmp_eq (tgt := 1184) hx hb dL_law_1009 (by decide) (fun c335 => ?_) (fun c335 => ?_)
        · have hf := jt c335 hf
          exact B_L_law_1184 hX hbl hbA hB E ih hf hM (lv_sub hl [0, 1, 2, 3] rfl)
        · have hf := jf c335 hf
          refine lv_iconst (v := (0 : Int32)) hx hb dL_law_1012 (by decide) ?_
          cases hf
      have hf := jf c336 hf
      by_cases c348 : x17 = (25 : Int32)
      · have hf := jt c348 hf
        refine lv_tableIn (off := 982) (tgt := 1014) hx hb dL_law_32 (by rw [c348]; decide) (by rw [c348]; decide) (by rw [c348]; rfl) (by decide) ?_
        refine lv_aload_n hx hb dL_law_1014 rfl (lv_at hl 1 rfl) ?_
        refine lv_aload_n hx hb dL_law_1015 rfl (lv_at hl 0 rfl) ?_
        refine lv_iload_n hx hb dL_law_1016 rfl (lv_at hl 3 rfl) ?_
        refine lv_iconst (v := (1 : Int32)) hx hb dL_law_1017 (by decide) ?_
        refine lv_iadd hx hb dL_law_1018 ?_
        obtain ⟨ha337, hf⟩ := jif hf
        refine va_sld hx hb hX hbl hbA hM.2.1 (jin_in ha337) dL_law_1019 ?_
        obtain ⟨hq341, hf⟩ := jif hf
        obtain ⟨x338, S339, hc340, hf⟩ := jbd_e hf
        refine jbackI hM (jrunV E hM ci_X11_advance (C_X11_advance hc340) lk_5_197 hq341 (by decide) rfl hl.1 rfl rfl (Nat.le_of_ble_eq_true rfl) ⟨Nat.le_of_ble_eq_true rfl, Nat.le_of_ble_eq_true rfl⟩ ⟨Nat.le_of_ble_eq_true rfl, Nat.le_of_ble_eq_true rfl⟩ dL_law_1020) (fun H locs hM => ?_)
        refine lv_aload_n hx hb dL_law_1023 rfl (lv_at hl 2 rfl) ?_
        refine lv_aload_n hx hb dL_law_1024 rfl (lv_at hl 0 rfl) ?_
        refine lv_iload_n hx hb dL_law_1025 rfl (lv_at hl 3 rfl) ?_
        refine lv_iconst (v := (1 : Int32)) hx hb dL_law_1026 (by decide) ?_
        refine lv_iadd hx hb dL_law_1027 ?_
        obtain ⟨ha342, hf⟩ := jif hf
        refine va_sld hx hb hX hbl hbA hM.2.1 (jin_in ha342) dL_law_1028 ?_
        obtain ⟨hq346, hf⟩ := jif hf
        obtain ⟨x343, S344, hc345, hf⟩ := jbd_e hf
        refine jbackI hM (jrunV E hM ci_X12_advance (C_X12_advance hc345) lk_9_26 hq346 (by decide) rfl hl.1 rfl rfl (Nat.le_of_ble_eq_true rfl) ⟨Nat.le_of_ble_eq_true rfl, Nat.le_of_ble_eq_true rfl⟩ ⟨Nat.le_of_ble_eq_true rfl, Nat.le_of_ble_eq_true rfl⟩ dL_law_1029) (fun H locs hM => ?_)
        refine lv_icmp_eq (tgt := 1184) hx hb dL_law_1032 (by decide) (fun c347 => ?_) (fun c347 => ?_)
        · have hf := jt c347 hf
          exact B_L_law_1184 hX hbl hbA hB E ih hf hM (lv_sub hl [0, 1, 2, 3] rfl)
        · have hf := jf c347 hf
          refine lv_iconst (v := (0 : Int32)) hx hb dL_law_1035 (by decide) ?_
          cases hf
      have hf := jf c348 hf
      by_cases c360 : x17 = (26 : Int32)
      · have hf := jt c360 hf
        refine lv_tableIn (off := 1005) (tgt := 1037) hx hb dL_law_32 (by rw [c360]; decide) (by rw [c360]; decide) (by rw [c360]; rfl) (by decide) ?_
        refine lv_aload_n hx hb dL_law_1037 rfl (lv_at hl 1 rfl) ?_
        refine lv_aload_n hx hb dL_law_1038 rfl (lv_at hl 0 rfl) ?_
        refine lv_iload_n hx hb dL_law_1039 rfl (lv_at hl 3 rfl) ?_
        refine lv_iconst (v := (1 : Int32)) hx hb dL_law_1040 (by decide) ?_
        refine lv_iadd hx hb dL_law_1041 ?_
        obtain ⟨ha349, hf⟩ := jif hf
        refine va_sld hx hb hX hbl hbA hM.2.1 (jin_in ha349) dL_law_1042 ?_
        refine lv_aload_n hx hb dL_law_1043 rfl (lv_at hl 0 rfl) ?_
        refine lv_iload_n hx hb dL_law_1044 rfl (lv_at hl 3 rfl) ?_
        refine lv_iconst (v := (2 : Int32)) hx hb dL_law_1045 (by decide) ?_
        refine lv_iadd hx hb dL_law_1046 ?_
        obtain ⟨ha350, hf⟩ := jif hf
        refine va_sld hx hb hX hbl hbA hM.2.1 (jin_in ha350) dL_law_1047 ?_
        obtain ⟨hq353, hf⟩ := jif hf
        obtain ⟨x351, hc352, hf⟩ := jb hf
        refine jbackL hM (jrunV E hM ci_X11_payment (C_X11_payment hc352) lk_5_216 hq353 (by decide) rfl hl.1 rfl rfl (Nat.le_of_ble_eq_true rfl) ⟨Nat.le_of_ble_eq_true rfl, Nat.le_of_ble_eq_true rfl⟩ ⟨Nat.le_of_ble_eq_true rfl, Nat.le_of_ble_eq_true rfl⟩ dL_law_1048) (fun H locs hM => ?_)
        refine lv_aload_n hx hb dL_law_1051 rfl (lv_at hl 2 rfl) ?_
        refine lv_aload_n hx hb dL_law_1052 rfl (lv_at hl 0 rfl) ?_
        refine lv_iload_n hx hb dL_law_1053 rfl (lv_at hl 3 rfl) ?_
        refine lv_iconst (v := (1 : Int32)) hx hb dL_law_1054 (by decide) ?_
        refine lv_iadd hx hb dL_law_1055 ?_
        obtain ⟨ha354, hf⟩ := jif hf
        refine va_sld hx hb hX hbl hbA hM.2.1 (jin_in ha354) dL_law_1056 ?_
        refine lv_aload_n hx hb dL_law_1057 rfl (lv_at hl 0 rfl) ?_
        refine lv_iload_n hx hb dL_law_1058 rfl (lv_at hl 3 rfl) ?_
        refine lv_iconst (v := (2 : Int32)) hx hb dL_law_1059 (by decide) ?_
        refine lv_iadd hx hb dL_law_1060 ?_
        obtain ⟨ha355, hf⟩ := jif hf
        refine va_sld hx hb hX hbl hbA hM.2.1 (jin_in ha355) dL_law_1061 ?_
        obtain ⟨hq358, hf⟩ := jif hf
        obtain ⟨x356, hc357, hf⟩ := jb hf
        refine jbackL hM (jrunV E hM ci_X12_payment (C_X12_payment hc357) lk_9_39 hq358 (by decide) rfl hl.1 rfl rfl (Nat.le_of_ble_eq_true rfl) ⟨Nat.le_of_ble_eq_true rfl, Nat.le_of_ble_eq_true rfl⟩ ⟨Nat.le_of_ble_eq_true rfl, Nat.le_of_ble_eq_true rfl⟩ dL_law_1062) (fun H locs hM => ?_)
        refine jl_eq (tgt := 1184) hx hb dL_law_1065 dL_law_1066 (by decide) (fun c359 => ?_) (fun c359 => ?_)
        · have hf := jt c359 hf
          exact B_L_law_1184 hX hbl hbA hB E ih hf hM (lv_sub hl [0, 1, 2, 3] rfl)
        · have hf := jf c359 hf
          refine lv_iconst (v := (0 : Int32)) hx hb dL_law_1069 (by decide) ?_
          cases hf
      have hf := jf c360 hf
      by_cases c372 : x17 = (27 : Int32)
      · have hf := jt c372 hf
        refine lv_tableIn (off := 1039) (tgt := 1071) hx hb dL_law_32 (by rw [c372]; decide) (by rw [c372]; decide) (by rw [c372]; rfl) (by decide) ?_
        refine lv_aload_n hx hb dL_law_1071 rfl (lv_at hl 1 rfl) ?_
        refine lv_aload_n hx hb dL_law_1072 rfl (lv_at hl 0 rfl) ?_
        refine lv_iload_n hx hb dL_law_1073 rfl (lv_at hl 3 rfl) ?_
        refine lv_iconst (v := (1 : Int32)) hx hb dL_law_1074 (by decide) ?_
        refine lv_iadd hx hb dL_law_1075 ?_
        obtain ⟨ha361, hf⟩ := jif hf
        refine va_sld hx hb hX hbl hbA hM.2.1 (jin_in ha361) dL_law_1076 ?_
        refine lv_aload_n hx hb dL_law_1077 rfl (lv_at hl 0 rfl) ?_
        refine lv_iload_n hx hb dL_law_1078 rfl (lv_at hl 3 rfl) ?_
        refine lv_iconst (v := (2 : Int32)) hx hb dL_law_1079 (by decide) ?_
        refine lv_iadd hx hb dL_law_1080 ?_
        obtain ⟨ha362, hf⟩ := jif hf
        refine va_sld hx hb hX hbl hbA hM.2.1 (jin_in ha362) dL_law_1081 ?_
        obtain ⟨hq365, hf⟩ := jif hf
        obtain ⟨x363, hc364, hf⟩ := jb hf
        refine jbackI hM (jrunV E hM ci_X11_taken (C_X11_taken hc364) lk_5_220 hq365 (by decide) rfl hl.1 rfl rfl (Nat.le_of_ble_eq_true rfl) ⟨Nat.le_of_ble_eq_true rfl, Nat.le_of_ble_eq_true rfl⟩ ⟨Nat.le_of_ble_eq_true rfl, Nat.le_of_ble_eq_true rfl⟩ dL_law_1082) (fun H locs hM => ?_)
        refine lv_aload_n hx hb dL_law_1085 rfl (lv_at hl 2 rfl) ?_
        refine lv_aload_n hx hb dL_law_1086 rfl (lv_at hl 0 rfl) ?_
        refine lv_iload_n hx hb dL_law_1087 rfl (lv_at hl 3 rfl) ?_
        refine lv_iconst (v := (1 : Int32)) hx hb dL_law_1088 (by decide) ?_
        refine lv_iadd hx hb dL_law_1089 ?_
        obtain ⟨ha366, hf⟩ := jif hf
        refine va_sld hx hb hX hbl hbA hM.2.1 (jin_in ha366) dL_law_1090 ?_
        refine lv_aload_n hx hb dL_law_1091 rfl (lv_at hl 0 rfl) ?_
        refine lv_iload_n hx hb dL_law_1092 rfl (lv_at hl 3 rfl) ?_
        refine lv_iconst (v := (2 : Int32)) hx hb dL_law_1093 (by decide) ?_
        refine lv_iadd hx hb dL_law_1094 ?_
        obtain ⟨ha367, hf⟩ := jif hf
        refine va_sld hx hb hX hbl hbA hM.2.1 (jin_in ha367) dL_law_1095 ?_
        obtain ⟨hq370, hf⟩ := jif hf
        obtain ⟨x368, hc369, hf⟩ := jb hf
        refine jbackI hM (jrunV E hM ci_X12_taken (C_X12_taken hc369) lk_9_43 hq370 (by decide) rfl hl.1 rfl rfl (Nat.le_of_ble_eq_true rfl) ⟨Nat.le_of_ble_eq_true rfl, Nat.le_of_ble_eq_true rfl⟩ ⟨Nat.le_of_ble_eq_true rfl, Nat.le_of_ble_eq_true rfl⟩ dL_law_1096) (fun H locs hM => ?_)
        refine lv_icmp_eq (tgt := 1184) hx hb dL_law_1099 (by decide) (fun c371 => ?_) (fun c371 => ?_)
        · have hf := jt c371 hf
          exact B_L_law_1184 hX hbl hbA hB E ih hf hM (lv_sub hl [0, 1, 2, 3] rfl)
        · have hf := jf c371 hf
          refine lv_iconst (v := (0 : Int32)) hx hb dL_law_1102 (by decide) ?_
          cases hf
      have hf := jf c372 hf
      by_cases c384 : x17 = (28 : Int32)
      · have hf := jt c384 hf
        refine lv_tableIn (off := 1072) (tgt := 1104) hx hb dL_law_32 (by rw [c384]; decide) (by rw [c384]; decide) (by rw [c384]; rfl) (by decide) ?_
        refine lv_aload_n hx hb dL_law_1104 rfl (lv_at hl 1 rfl) ?_
        refine lv_aload_n hx hb dL_law_1105 rfl (lv_at hl 0 rfl) ?_
        refine lv_iload_n hx hb dL_law_1106 rfl (lv_at hl 3 rfl) ?_
        refine lv_iconst (v := (1 : Int32)) hx hb dL_law_1107 (by decide) ?_
        refine lv_iadd hx hb dL_law_1108 ?_
        obtain ⟨ha373, hf⟩ := jif hf
        refine va_sld hx hb hX hbl hbA hM.2.1 (jin_in ha373) dL_law_1109 ?_
        obtain ⟨hq377, hf⟩ := jif hf
        obtain ⟨x374, S375, hc376, hf⟩ := jbd_e hf
        refine jbackI hM (jrunV E hM ci_X11_returned (C_X11_returned hc376) lk_5_224 hq377 (by decide) rfl hl.1 rfl rfl (Nat.le_of_ble_eq_true rfl) ⟨Nat.le_of_ble_eq_true rfl, Nat.le_of_ble_eq_true rfl⟩ ⟨Nat.le_of_ble_eq_true rfl, Nat.le_of_ble_eq_true rfl⟩ dL_law_1110) (fun H locs hM => ?_)
        refine lv_aload_n hx hb dL_law_1113 rfl (lv_at hl 2 rfl) ?_
        refine lv_aload_n hx hb dL_law_1114 rfl (lv_at hl 0 rfl) ?_
        refine lv_iload_n hx hb dL_law_1115 rfl (lv_at hl 3 rfl) ?_
        refine lv_iconst (v := (1 : Int32)) hx hb dL_law_1116 (by decide) ?_
        refine lv_iadd hx hb dL_law_1117 ?_
        obtain ⟨ha378, hf⟩ := jif hf
        refine va_sld hx hb hX hbl hbA hM.2.1 (jin_in ha378) dL_law_1118 ?_
        obtain ⟨hq382, hf⟩ := jif hf
        obtain ⟨x379, S380, hc381, hf⟩ := jbd_e hf
        refine jbackI hM (jrunV E hM ci_X12_returned (C_X12_returned hc381) lk_9_48 hq382 (by decide) rfl hl.1 rfl rfl (Nat.le_of_ble_eq_true rfl) ⟨Nat.le_of_ble_eq_true rfl, Nat.le_of_ble_eq_true rfl⟩ ⟨Nat.le_of_ble_eq_true rfl, Nat.le_of_ble_eq_true rfl⟩ dL_law_1119) (fun H locs hM => ?_)
        refine lv_icmp_eq (tgt := 1184) hx hb dL_law_1122 (by decide) (fun c383 => ?_) (fun c383 => ?_)
        · have hf := jt c383 hf
          exact B_L_law_1184 hX hbl hbA hB E ih hf hM (lv_sub hl [0, 1, 2, 3] rfl)
        · have hf := jf c383 hf
          refine lv_iconst (v := (0 : Int32)) hx hb dL_law_1125 (by decide) ?_
          cases hf
      have hf := jf c384 hf
      by_cases c398 : x17 = (29 : Int32)
      · have hf := jt c398 hf
        refine lv_tableIn (off := 1095) (tgt := 1127) hx hb dL_law_32 (by rw [c398]; decide) (by rw [c398]; decide) (by rw [c398]; rfl) (by decide) ?_
        refine lv_aload_n hx hb dL_law_1127 rfl (lv_at hl 1 rfl) ?_
        refine lv_aload_n hx hb dL_law_1128 rfl (lv_at hl 0 rfl) ?_
        refine lv_iload_n hx hb dL_law_1129 rfl (lv_at hl 3 rfl) ?_
        refine lv_iconst (v := (1 : Int32)) hx hb dL_law_1130 (by decide) ?_
        refine lv_iadd hx hb dL_law_1131 ?_
        obtain ⟨ha385, hf⟩ := jif hf
        refine va_sld hx hb hX hbl hbA hM.2.1 (jin_in ha385) dL_law_1132 ?_
        refine lv_aload_n hx hb dL_law_1133 rfl (lv_at hl 0 rfl) ?_
        refine lv_iload_n hx hb dL_law_1134 rfl (lv_at hl 3 rfl) ?_
        refine lv_iconst (v := (2 : Int32)) hx hb dL_law_1135 (by decide) ?_
        refine lv_iadd hx hb dL_law_1136 ?_
        obtain ⟨ha386, hf⟩ := jif hf
        refine va_sld hx hb hX hbl hbA hM.2.1 (jin_in ha386) dL_law_1137 ?_
        obtain ⟨hq390, hf⟩ := jif hf
        obtain ⟨x387, S388, hc389, hf⟩ := jbd_e hf
        refine jbackL hM (jrunV E hM ci_X11_balance (C_X11_balance hc389) lk_5_228 hq390 (by decide) rfl hl.1 rfl rfl (Nat.le_of_ble_eq_true rfl) ⟨Nat.le_of_ble_eq_true rfl, Nat.le_of_ble_eq_true rfl⟩ ⟨Nat.le_of_ble_eq_true rfl, Nat.le_of_ble_eq_true rfl⟩ dL_law_1138) (fun H locs hM => ?_)
        refine lv_aload_n hx hb dL_law_1141 rfl (lv_at hl 2 rfl) ?_
        refine lv_aload_n hx hb dL_law_1142 rfl (lv_at hl 0 rfl) ?_
        refine lv_iload_n hx hb dL_law_1143 rfl (lv_at hl 3 rfl) ?_
        refine lv_iconst (v := (1 : Int32)) hx hb dL_law_1144 (by decide) ?_
        refine lv_iadd hx hb dL_law_1145 ?_
        obtain ⟨ha391, hf⟩ := jif hf
        refine va_sld hx hb hX hbl hbA hM.2.1 (jin_in ha391) dL_law_1146 ?_
        refine lv_aload_n hx hb dL_law_1147 rfl (lv_at hl 0 rfl) ?_
        refine lv_iload_n hx hb dL_law_1148 rfl (lv_at hl 3 rfl) ?_
        refine lv_iconst (v := (2 : Int32)) hx hb dL_law_1149 (by decide) ?_
        refine lv_iadd hx hb dL_law_1150 ?_
        obtain ⟨ha392, hf⟩ := jif hf
        refine va_sld hx hb hX hbl hbA hM.2.1 (jin_in ha392) dL_law_1151 ?_
        obtain ⟨hq396, hf⟩ := jif hf
        obtain ⟨x393, S394, hc395, hf⟩ := jbd_e hf
        refine jbackL hM (jrunV E hM ci_X12_balance (C_X12_balance hc395) lk_9_52 hq396 (by decide) rfl hl.1 rfl rfl (Nat.le_of_ble_eq_true rfl) ⟨Nat.le_of_ble_eq_true rfl, Nat.le_of_ble_eq_true rfl⟩ ⟨Nat.le_of_ble_eq_true rfl, Nat.le_of_ble_eq_true rfl⟩ dL_law_1152) (fun H locs hM => ?_)
        refine jl_eq (tgt := 1184) hx hb dL_law_1155 dL_law_1156 (by decide) (fun c397 => ?_) (fun c397 => ?_)
        · have hf := jt c397 hf
          exact B_L_law_1184 hX hbl hbA hB E ih hf hM (lv_sub hl [0, 1, 2, 3] rfl)
        · have hf := jf c397 hf
          refine lv_iconst (v := (0 : Int32)) hx hb dL_law_1159 (by decide) ?_
          cases hf
      have hf := jf c398 hf
      by_cases c408 : x17 = (30 : Int32)
      · have hf := jt c408 hf
        refine lv_tableIn (off := 1129) (tgt := 1161) hx hb dL_law_32 (by rw [c408]; decide) (by rw [c408]; decide) (by rw [c408]; rfl) (by decide) ?_
        refine lv_aload_n hx hb dL_law_1161 rfl (lv_at hl 1 rfl) ?_
        refine lv_aload_n hx hb dL_law_1162 rfl (lv_at hl 0 rfl) ?_
        refine lv_iload_n hx hb dL_law_1163 rfl (lv_at hl 3 rfl) ?_
        refine lv_iconst (v := (1 : Int32)) hx hb dL_law_1164 (by decide) ?_
        refine lv_iadd hx hb dL_law_1165 ?_
        obtain ⟨ha399, hf⟩ := jif hf
        refine va_sld hx hb hX hbl hbA hM.2.1 (jin_in ha399) dL_law_1166 ?_
        obtain ⟨hq402, hf⟩ := jif hf
        obtain ⟨x400, hc401, hf⟩ := jb hf
        refine jbackI hM (jrunV E hM ci_X11_count (C_X11_count hc401) lk_5_232 hq402 (by decide) rfl hl.1 rfl rfl (Nat.le_of_ble_eq_true rfl) ⟨Nat.le_of_ble_eq_true rfl, Nat.le_of_ble_eq_true rfl⟩ ⟨Nat.le_of_ble_eq_true rfl, Nat.le_of_ble_eq_true rfl⟩ dL_law_1167) (fun H locs hM => ?_)
        refine lv_aload_n hx hb dL_law_1170 rfl (lv_at hl 2 rfl) ?_
        refine lv_aload_n hx hb dL_law_1171 rfl (lv_at hl 0 rfl) ?_
        refine lv_iload_n hx hb dL_law_1172 rfl (lv_at hl 3 rfl) ?_
        refine lv_iconst (v := (1 : Int32)) hx hb dL_law_1173 (by decide) ?_
        refine lv_iadd hx hb dL_law_1174 ?_
        obtain ⟨ha403, hf⟩ := jif hf
        refine va_sld hx hb hX hbl hbA hM.2.1 (jin_in ha403) dL_law_1175 ?_
        obtain ⟨hq406, hf⟩ := jif hf
        obtain ⟨x404, hc405, hf⟩ := jb hf
        refine jbackI hM (jrunV E hM ci_X12_count (C_X12_count hc405) lk_9_56 hq406 (by decide) rfl hl.1 rfl rfl (Nat.le_of_ble_eq_true rfl) ⟨Nat.le_of_ble_eq_true rfl, Nat.le_of_ble_eq_true rfl⟩ ⟨Nat.le_of_ble_eq_true rfl, Nat.le_of_ble_eq_true rfl⟩ dL_law_1176) (fun H locs hM => ?_)
        refine lv_icmp_eq (tgt := 1184) hx hb dL_law_1179 (by decide) (fun c407 => ?_) (fun c407 => ?_)
        · have hf := jt c407 hf
          exact B_L_law_1184 hX hbl hbA hB E ih hf hM (lv_sub hl [0, 1, 2, 3] rfl)
        · have hf := jf c407 hf
          refine lv_iconst (v := (0 : Int32)) hx hb dL_law_1182 (by decide) ?_
          cases hf
      have hf := jf c408 hf
      refine jtabD (tgt := 1184) (nd := [0, 1, 2, 3, 4, 5, 6, 7, 8, 9, 10, 11, 12, 13, 14, 15, 16, 17, 18, 19, 20, 21, 22, 23, 24, 25, 26, 27, 28, 29, 30]) hx hb dL_law_32 (by decide) (by decide) (by decide) (List.forall_mem_cons.mpr ⟨jne (k := 0) c33 rfl, List.forall_mem_cons.mpr ⟨jne (k := 1) c45 rfl, List.forall_mem_cons.mpr ⟨jne (k := 2) c57 rfl, List.forall_mem_cons.mpr ⟨jne (k := 3) c60 rfl, List.forall_mem_cons.mpr ⟨jne (k := 4) c74 rfl, List.forall_mem_cons.mpr ⟨jne (k := 5) c90 rfl, List.forall_mem_cons.mpr ⟨jne (k := 6) c104 rfl, List.forall_mem_cons.mpr ⟨jne (k := 7) c112 rfl, List.forall_mem_cons.mpr ⟨jne (k := 8) c120 rfl, List.forall_mem_cons.mpr ⟨jne (k := 9) c130 rfl, List.forall_mem_cons.mpr ⟨jne (k := 10) c146 rfl, List.forall_mem_cons.mpr ⟨jne (k := 11) c158 rfl, List.forall_mem_cons.mpr ⟨jne (k := 12) c174 rfl, List.forall_mem_cons.mpr ⟨jne (k := 13) c188 rfl, List.forall_mem_cons.mpr ⟨jne (k := 14) c196 rfl, List.forall_mem_cons.mpr ⟨jne (k := 15) c208 rfl, List.forall_mem_cons.mpr ⟨jne (k := 16) c226 rfl, List.forall_mem_cons.mpr ⟨jne (k := 17) c236 rfl, List.forall_mem_cons.mpr ⟨jne (k := 18) c248 rfl, List.forall_mem_cons.mpr ⟨jne (k := 19) c264 rfl, List.forall_mem_cons.mpr ⟨jne (k := 20) c280 rfl, List.forall_mem_cons.mpr ⟨jne (k := 21) c296 rfl, List.forall_mem_cons.mpr ⟨jne (k := 22) c312 rfl, List.forall_mem_cons.mpr ⟨jne (k := 23) c324 rfl, List.forall_mem_cons.mpr ⟨jne (k := 24) c336 rfl, List.forall_mem_cons.mpr ⟨jne (k := 25) c348 rfl, List.forall_mem_cons.mpr ⟨jne (k := 26) c360 rfl, List.forall_mem_cons.mpr ⟨jne (k := 27) c372 rfl, List.forall_mem_cons.mpr ⟨jne (k := 28) c384 rfl, List.forall_mem_cons.mpr ⟨jne (k := 29) c398 rfl, List.forall_mem_cons.mpr ⟨jne (k := 30) c408 rfl, fun _ h => absurd h List.not_mem_nil⟩⟩⟩⟩⟩⟩⟩⟩⟩⟩⟩⟩⟩⟩⟩⟩⟩⟩⟩⟩⟩⟩⟩⟩⟩⟩⟩⟩⟩⟩⟩) ?_
      exact B_L_law_1184 hX hbl hbA hB E ih hf hM (lv_sub hl [0, 1, 2, 3] rfl)
