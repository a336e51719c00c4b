/-! THE MAKING OF CELLS: the next place, blank -/
def jnew (S : jM) : jM := (S.1 + 1, (fun f a => if a = S.1 then 0 else S.2.1 f a), (fun f a => if a = S.1 then 0 else S.2.2.1 f a), (fun f a => if a = S.1 then none else S.2.2.2.1 f a), (fun a => if a = S.1 then (fun _ => 0) else S.2.2.2.2.1 a), (fun a => if a = S.1 then (fun _ => 0) else S.2.2.2.2.2.1 a), (fun a => if a = S.1 then (fun _ => 0) else S.2.2.2.2.2.2.1 a), (fun a => if a = S.1 then (fun _ => none) else S.2.2.2.2.2.2.2 a))
def jAtN (g : jG) (S : jM) (s : State) (H : Heap) (locs : List Loc) : Prop := va_P g.1 vwCl (jW g S) H ∧ va_S (jA0 g) s.heap H locs ∧ H.size = g.2.2 + jn S
def jAO (U : State) : Prop := va_AO RX0 U ∧ va_AO RX2 U ∧ va_AO RX8 U ∧ va_AO RX9 U ∧ (Cond.arrayOver (.array .long)).before #[] U = true
theorem jAO.moved {u U : State} (hvm : u.vm.Alike U.vm) (h : jAO u) : jAO U := ⟨h.1.moved hvm, h.2.1.moved hvm, h.2.2.1.moved hvm, h.2.2.2.1.moved hvm, over_moved hvm h.2.2.2.2⟩
theorem jE_new (g : jG) (S : jM) {b : Nat} (hb : b < jn S) : jE g (jnew S) b = jE g S b := by
  have h : b ≠ S.1 := Nat.ne_of_lt hb
  have hv : ∀ q, jV g (jnew S) b q = jV g S b q := fun q => by simp [jV, jnew, jI, jL, jR, h]
  have ha : ∀ k, jArr g (jnew S) k b = jArr g S k b := fun k => by simp [jArr, jnew, jAI, jAL, jAD, jAR, h]
  unfold jE
  rw [ha]
  congr 2
  simp only [hv, funext hv]
theorem jn_new (S : jM) : jn (jnew S) = jn S + 1 := rfl
theorem jW_new (g : jG) (S : jM) : jW g (jnew S) = jW g S ++ [(g.2.2 + jn S, jE g (jnew S) (jn S))] := by
  unfold jW
  rw [jn_new, List.range_succ, List.map_append]
  congr 1
  apply List.map_congr_left
  intro a ha
  rw [jE_new g S (List.mem_range.mp ha)]
section JALLOC
variable {p : Program} {l : Launch} {e : Env} {R : Room} {s : State} {m : MethodId} {args : Array Value} {below : List Frame} {meth : Method} {c : Code} {H : Heap} {locs : List Loc} {cells slots : Nat} {Q : State → Prop}
variable {cc : ByteArray} {own : String} {ret : Option FieldType} {maxL : Nat} {g : jG} {S : jM} {pc : Nat} {ls : Array Slot} {rest : List Value} {a : Nat}
theorem jN_new (hM : jAtN g S s H locs) {H1 : Heap} (hz : H1.size = H.size + 1) (ho : ∀ q, q < H.size → H1[q]? = H[q]?) (hc : va_at g.1 vwCl (g.2.2 + jn S, jE g (jnew S) (jn S)) H1) : jAtN g (jnew S) s H1 locs := by
  refine ⟨?_, ⟨Nat.le_trans hM.2.1.1 (by omega), fun q h1 h2 => (ho q (Nat.lt_of_lt_of_le h1 hM.2.1.1)).trans (hM.2.1.2.1 q h1 h2), hM.2.1.2.2⟩, by rw [hz, hM.2.2, jn_new]; omega⟩
  rw [jW_new]
  refine va_P.app (hM.1.kept (fun k q hk => ho q.1 ((hM.1 k q hk).lt))) (fun k q hk => ?_)
  have h0 : k < 1 := (List.getElem?_eq_some_iff.mp hk).1
  rw [show k = 0 by omega] at hk
  cases hk
  exact hc
theorem jV_new (g : jG) (S : jM) (q : Nat × Nat) : jV g (jnew S) (jn S) q = if q.1 = 0 then .int 0 else if q.1 = 1 then .long 0 else .null := by
  simp only [jV, jnew, jI, jL, jR, jn, if_true]
  rfl
theorem jnewo (E : jEnv p s m args meth c cc own ret maxL g) (hM : jAtN g S s H locs) {k N idx : Nat} {C : String} {T : u_T} (ty : Nat → FieldType) (hk : jK (jn S) = k) (hk11 : k < 11) (hc : vwCl[k]? = some (C, T, N)) (hty : ∀ j, j < N → parseFieldDescriptor (T j).2.2.1 = some (ty j))
    (hdef : ∀ j, j < N → vp_V ((jFT k).map (fun q => if q.1 = 0 then Value.int 0 else if q.1 = 1 then .long 0 else .null)) j = defaultValue (ty j)) (hcl : Cond.classLink own idx C ∈ jw) (hin : Cond.instantiable C N ∈ jw) (hini : Cond.initialized C ∈ jw) (hcells : cells + 1 ≤ R.cells) (hslots : slots + N ≤ R.slots) (hdg : decode cc pc = .ok (.new idx, 3))
    (kk : ∀ (H : Heap) (S1 : jM), S1 = jnew S → jAtN g S1 s H locs → W p l e R s m args below meth c H locs (cells + 1) (slots + N) Q (F0 m (pc + 3) ls (.ref (g.2.2 + jn S) :: rest))) : W p l e R s m args below meth c H locs cells slots Q (F0 m pc ls rest) := by
  obtain ⟨hx, hb, -, -, hts, hown, hK, -⟩ := E
  refine W.newc hx hb hown (hts _ hcl) (hts _ hin) (hts _ hini) rfl hdg hcells hslots (fun cC kC h1 h2 h3 h4 => ?_)
  rw [hM.2.2]
  refine kk _ _ rfl (jN_new hM (by rw [Array.size_push]) (fun q hq => by rw [Array.getElem?_push, if_neg (Nat.ne_of_lt hq)]) ?_)
  have hkn := hK.1 k _ hc
  have hcc : cC = g.1.1 k := Option.some.inj (h1.symm.trans hkn.2.1)
  subst hcc
  have hE : jE g (jnew S) (jn S) = .inr (k, (jFT k).map (jV g (jnew S) (jn S))) := by
    have hk : (jTG (jn S)).1 = k := hk
    simp only [jE, hk, if_pos hk11]
  rw [hE]
  refine ⟨_, hc, ?_⟩
  have hbrn := u_born (iS := g.1.2 k) (o := g.2.2 + jn S) (H := H.push { cls := g.1.1 k, slots := kC.instanceTypes.map defaultValue, vm := .none }) ty hts (jcls hc).1 hkn h2 (by rw [← hM.2.2, Array.getElem?_push_size]; rfl) hty
  refine hbrn.to (fun j hj => ?_)
  rw [← hdef j hj]
  congr 1
  apply List.map_congr_left
  intro q _
  exact (jV_new g S q).symm
theorem jnewa (E : jEnv p s m args meth c cc own ret maxL g) (hM : jAtN g S s H locs) {k t0 : Nat} {atype : ArrayType} {ty : FieldType} (hty : newarray.typeOf atype = ty) {n : Int32} (hk : jK (jn S) = k) (hk11 : 11 ≤ k) (ht : (jtys g)[t0]? = some (g.2.1 k, ty)) (hra : ∀ (U : State) (cA : ClassId), va_RA U cA ty → U.vm.findClass ("[" ++ ty.toString) = some cA)
    (hcell : vp_cell (g.2.1 k) (n.toNatClampNeg, jArr g (jnew S) k (jn S)) = arrV (g.2.1 k) n.toNatClampNeg (fun _ => defaultValue ty)) (harr : Cond.arrayClass ty ∈ jw) (hn : ¬ n < 0) (hlen : jLen (jn S) = n.toNatClampNeg) (hbytes : n.toNatClampNeg * componentBytes ty ≤ 536870912) (hcells : cells + 1 ≤ R.cells) (hslots : slots + n.toNatClampNeg ≤ R.slots) (hdg : decode cc pc = .ok (.newarray atype, 2))
    (kk : ∀ (H : Heap) (S1 : jM), S1 = jnew S → jAtN g S1 s H locs → W p l e R s m args below meth c H locs (cells + 1) (slots + n.toNatClampNeg) Q (F0 m (pc + 2) ls (.ref (g.2.2 + jn S) :: rest))) : W p l e R s m args below meth c H locs cells slots Q (F0 m pc ls (.int n :: rest)) := by
  subst hty
  obtain ⟨hx, hb, -, -, hts, hown, hK, -⟩ := E
  refine va_newaK hx hb (hts _ harr) rfl hdg rfl hn rfl hbytes hcells hslots hM.2.2 (fun H' cA e1 e2 e3 e4 e5 => ?_)
  have h6 := hra s _ (hK.2 t0 _ ht).2
  have hcc : cA = g.2.1 k := Option.some.inj (e5.symm.trans h6)
  subst hcc
  refine kk _ _ rfl (jN_new hM (by rw [e2, hM.2.2]) (fun q hq => e3 q (by rw [← hM.2.2]; exact hq)) ?_)
  have hE : jE g (jnew S) (jn S) = .inl (g.2.1 k, jLen (jn S), jArr g (jnew S) k (jn S)) := by
    have hk : (jTG (jn S)).1 = k := hk
    simp only [jE, hk, if_neg (show ¬ k < 11 by omega)]
  rw [hE]
  show H'[_]? = some (vp_cell _ _)
  rw [e1, hlen, hcell]
theorem jArr_newq (g : jG) (S : jM) (k : Nat) (h : 16 ≤ k) : jArr g (jnew S) k (jn S) = .inr (.inr (.inr (.inr (fun _ => none)))) := by
  unfold jArr
  rw [if_neg (by omega), if_neg (by omega), if_pos h]
  simp [jAR, jnew, jn]
theorem jnewq (E : jEnv p s m args meth c cc own ret maxL g) (hM : jAtN g S s H locs) {k t0 idx : Nat} {C : String} {n : Int32} (hk : jK (jn S) = k) (hk16 : 16 ≤ k) (ht : (jtys g)[t0]? = some (g.2.1 k, .object C)) (hcl : Cond.classLink own idx C ∈ jw) (hover : va_AO C s)
    (hn : ¬ n < 0) (hlen : jLen (jn S) = n.toNatClampNeg) (hbytes : n.toNatClampNeg * 4 ≤ 536870912) (hcells : cells + 1 ≤ R.cells) (hslots : slots + n.toNatClampNeg ≤ R.slots) (hdg : decode cc pc = .ok (.anewarray idx, 3))
    (kk : ∀ (H : Heap) (S1 : jM), S1 = jnew S → jAtN g S1 s H locs → W p l e R s m args below meth c H locs (cells + 1) (slots + n.toNatClampNeg) Q (F0 m (pc + 3) ls (.ref (g.2.2 + jn S) :: rest))) : W p l e R s m args below meth c H locs cells slots Q (F0 m pc ls (.int n :: rest)) := by
  obtain ⟨hx, hb, -, -, hts, hown, hK, -⟩ := E
  refine W.anew hx hb hown (hts _ hcl) (va_AO.use hover) rfl hdg rfl hn hbytes hcells hslots (fun cA kA comp f1 f2 f3 f4 => ?_)
  obtain ⟨kA', comp', -, -, -, h6⟩ := (hK.2 t0 _ ht).2
  have hcc : cA = g.2.1 k := Option.some.inj (f1.symm.trans h6)
  subst hcc
  rw [hM.2.2]
  refine kk _ _ rfl (jN_new hM (by rw [Array.size_push]) (fun q hq => by rw [Array.getElem?_push, if_neg (Nat.ne_of_lt hq)]) ?_)
  have hE : jE g (jnew S) (jn S) = .inl (g.2.1 k, jLen (jn S), jArr g (jnew S) k (jn S)) := by
    have hk : (jTG (jn S)).1 = k := hk
    simp only [jE, hk, if_neg (show ¬ k < 11 by omega)]
  rw [hE]
  show _ = some (vp_cell _ _)
  rw [← hM.2.2, Array.getElem?_push_size, hlen, jArr_newq g S k hk16, vp_cell_q, arrV_new]
  rfl
end JALLOC
/-- how many fields and elements the first n places hold -/
def jSize (a : Nat) : Nat := if jK a < 11 then (jFT (jK a)).length else jLen a
def jSl : Nat → Nat
  | 0 => 0
  | n + 1 => jSl n + jSize n
theorem jSl_mono {a b : Nat} (h : a ≤ b) : jSl a ≤ jSl b := by
  induction b with
  | zero => rw [show a = 0 by omega]; exact Nat.le_refl _
  | succ b ih =>
    rcases Nat.lt_or_ge a (b + 1) with q | q
    · exact Nat.le_trans (ih (by omega)) (Nat.le_add_right _ _)
    · rw [show a = b + 1 by omega]; exact Nat.le_refl _
def jPreN (g : jG) (S : jM) : State → Prop := fun U => va_P g.1 vwCl (jW g S) U.heap ∧ va_K g.1 vwCl (jtys g) U ∧ U.heap.size = g.2.2 + jn S ∧ jStr g U U.heap ∧ jAO U
def jPostN (g : jG) (S : jM) : Unit → State → Prop := fun _ t => va_P g.1 vwCl (jW g S) t.heap ∧ t.heap.size = g.2.2 + jn S
abbrev jQvN (g : jG) (S : jM) : Array Value → State → Outcome → State → Prop := va_Qv (fun (_ : Unit) => True) (jPostN g S) (jA0 g)
/-- a constructor's contract: begun when N0 cells stand, it makes mc -/
def jMetN (l : Launch) (g : jG) (y : MethodName) (cc : ByteArray) (maxL : Nat) (k mc N0 : Nat) (as : List Value) (S : jM) (Q : Array Value → State → Outcome → State → Prop) : Prop :=
  Met l y (.code y cc maxL none :: jw) (jRm k mc (jSl (N0 + mc) - jSl N0)) (va_Pc as (jPreN g S)) Q mc (jSl (N0 + mc) - jSl N0) (jA0 g)
abbrev jWC (p : Program) (l : Launch) (e : Env) (k mc N0 : Nat) (s : State) (m : MethodId) (args : Array Value) (below : List Frame) (meth : Method) (c : Code) (g : jG) (SS S : jM) (H : Heap) (locs : List Loc) (f : JFrame) : Prop :=
  W p l e (jRm k mc (jSl (N0 + mc) - jSl N0)) s m args below meth c H locs (jn S - N0) (jSl (jn S) - jSl N0) (MQ below (jQvN g SS) args s mc (jSl (N0 + mc) - jSl N0) (jA0 g)) f
section JCTOR
variable {p : Program} {l : Launch} {e : Env} {s : State} {m : MethodId} {args : Array Value} {below : List Frame} {meth : Method} {c : Code} {H : Heap} {locs : List Loc}
variable {cc : ByteArray} {own : String} {ret : Option FieldType} {maxL : Nat} {g : jG} {S SS : jM} {pc : Nat} {ls : Array Slot} {rest : List Value} {a K mc N0 : Nat}
theorem jcOf {y : MethodName} {as : List Value} (hy : plainName y.cls = true) (hlen : (lg_sl as).length ≤ maxL) (h0 : jn S = N0)
    (body : ∀ (p : Program) (e : Env) (s : State) (m : MethodId) (below : List Frame) (meth : Method) (c : Code), jEnv p s m as.toArray meth c cc y.cls none maxL g → jAO s → meth.name = y.name → jAtN g S s s.heap [] → ∀ ls : Array Slot, lv_has ls maxL (lv_args 0 as) → jWC p l e K mc N0 s m as.toArray below meth c g SS S s.heap [] (F0 m 0 ls [])) : jMetN l g y cc maxL K mc N0 as S (jQvN g SS) := by
  refine Met.ofW (cc := cc) (maxL := maxL) (ret := none) hy rfl ?_
  intro p e s m args below meth c s₁ B hml hv
  obtain ⟨rfl, hP, hK, hn, hstr, hao⟩ := hv
  have hts := atoms_spec (ws := Cond.code y cc maxL none :: jw) B.pre
  have hl := lv_entry as (n := maxL) hlen
  rw [lg_entry_eq]
  have h := body p e s m below meth c ⟨B.exec, B.bytes, hml, B.returns, fun w hw => hts w (List.mem_cons_of_mem _ hw), findClass_of_methodNamed B.named, hK, B.notSynchronized, hstr⟩ hao (name_of_methodNamed B.named B.method).1 ⟨hP, va_S.rf, hn⟩ _ hl
  unfold jWC at h
  rw [h0, Nat.sub_self, Nat.sub_self] at h
  exact h
theorem jcRet (E : jEnv p s m args meth c cc own none maxL g) (hM : jAtN g S s H locs) (hS : S = SS) (hmc : jn S = N0 + mc) (hdg : decode cc pc = .ok (.return_, 1)) : jWC p l e K mc N0 s m args below meth c g SS S H locs (F0 m pc ls []) := by
  subst hS
  unfold jWC
  rw [hmc, Nat.add_sub_cancel_left]
  exact W.vret E.1 E.2.1 E.2.2.2.1 (fun t ht _ => ⟨⟨(), rfl, trivial, ⟨by rw [ht]; exact hM.1, by rw [ht]; exact hM.2.2⟩⟩, hM.2.1.F ht⟩) hM.2.1.2.2 hdg E.2.2.2.2.2.2.2.1
/-- room for k more cells -/
theorem jroom {n k : Nat} (h0 : N0 ≤ n) (h1 : n + k ≤ N0 + mc) : n - N0 + k ≤ mc ∧ jSl n - jSl N0 + (jSl (n + k) - jSl n) ≤ jSl (N0 + mc) - jSl N0 ∧ n - N0 + k = n + k - N0 ∧ jSl n - jSl N0 + (jSl (n + k) - jSl n) = jSl (n + k) - jSl N0 := by
  have a := jSl_mono h0
  have b := jSl_mono (show n ≤ n + k by omega)
  have d := jSl_mono h1
  omega
theorem jsz1 (n : Nat) : jSl (n + 1) - jSl n = jSize n := by show jSl n + jSize n - jSl n = _; omega
theorem jcNew (E : jEnv p s m args meth c cc own ret maxL g) (hM : jAtN g S s H locs) (h0 : N0 ≤ jn S) (h1 : jn S + 1 ≤ N0 + mc) {k N idx : Nat} {C : String} {T : u_T} (ty : Nat → FieldType) (hk : jK (jn S) = k) (hk11 : k < 11) (hc : vwCl[k]? = some (C, T, N)) (hty : ∀ j, j < N → parseFieldDescriptor (T j).2.2.1 = some (ty j))
    (hdef : ∀ j, j < N → vp_V ((jFT k).map (fun q => if q.1 = 0 then Value.int 0 else if q.1 = 1 then .long 0 else .null)) j = defaultValue (ty j)) (hN : (jFT k).length = N) (hcl : Cond.classLink own idx C ∈ jw) (hin : Cond.instantiable C N ∈ jw) (hini : Cond.initialized C ∈ jw) (hdg : decode cc pc = .ok (.new idx, 3))
    (kk : ∀ (H : Heap) (S1 : jM), S1 = jnew S → N0 ≤ jn S1 → jAtN g S1 s H locs → jWC p l e K mc N0 s m args below meth c g SS S1 H locs (F0 m (pc + 3) ls (.ref (g.2.2 + jn S) :: rest))) : jWC p l e K mc N0 s m args below meth c g SS S H locs (F0 m pc ls rest) := by
  obtain ⟨r1, r2, r3, r4⟩ := jroom (mc := mc) h0 h1
  have hsz : jSize (jn S) = N := by unfold jSize; rw [hk, if_pos hk11, hN]
  rw [jsz1, hsz] at r2 r4
  refine jnewo E hM ty hk hk11 hc hty hdef hcl hin hini r1 r2 hdg (fun H1 S1 e1 hM1 => ?_)
  rw [r3, r4]
  have h := kk H1 S1 e1 (by rw [e1, jn_new]; omega) hM1
  unfold jWC at h
  rw [e1, jn_new] at h
  exact h
theorem jcNewa (E : jEnv p s m args meth c cc own ret maxL g) (hM : jAtN g S s H locs) (h0 : N0 ≤ jn S) (h1 : jn S + 1 ≤ N0 + mc) {k t0 : Nat} {atype : ArrayType} {ty : FieldType} (hty : newarray.typeOf atype = ty) {n : Int32} (hk : jK (jn S) = k) (hk11 : 11 ≤ k) (ht : (jtys g)[t0]? = some (g.2.1 k, ty)) (hra : ∀ (U : State) (cA : ClassId), va_RA U cA ty → U.vm.findClass ("[" ++ ty.toString) = some cA)
    (hcell : vp_cell (g.2.1 k) (n.toNatClampNeg, jArr g (jnew S) k (jn S)) = arrV (g.2.1 k) n.toNatClampNeg (fun _ => defaultValue ty)) (harr : Cond.arrayClass ty ∈ jw) (hn : ¬ n < 0) (hlen : jLen (jn S) = n.toNatClampNeg) (hbytes : n.toNatClampNeg * componentBytes ty ≤ 536870912) (hdg : decode cc pc = .ok (.newarray atype, 2))
    (kk : ∀ (H : Heap) (S1 : jM), S1 = jnew S → N0 ≤ jn S1 → jAtN g S1 s H locs → jWC p l e K mc N0 s m args below meth c g SS S1 H locs (F0 m (pc + 2) ls (.ref (g.2.2 + jn S) :: rest))) : jWC p l e K mc N0 s m args below meth c g SS S H locs (F0 m pc ls (.int n :: rest)) := by
  obtain ⟨r1, r2, r3, r4⟩ := jroom (mc := mc) h0 h1
  have hsz : jSize (jn S) = n.toNatClampNeg := by unfold jSize; rw [hk, if_neg (by omega), hlen]
  rw [jsz1, hsz] at r2 r4
  refine jnewa E hM hty hk hk11 ht hra hcell harr hn hlen hbytes r1 r2 hdg (fun H1 S1 e1 hM1 => ?_)
  rw [r3, r4]
  have h := kk H1 S1 e1 (by rw [e1, jn_new]; omega) hM1
  unfold jWC at h
  rw [e1, jn_new] at h
  exact h
theorem jcNewq (E : jEnv p s m args meth c cc own ret maxL g) (hM : jAtN g S s H locs) (h0 : N0 ≤ jn S) (h1 : jn S + 1 ≤ N0 + mc) {k t0 idx : Nat} {C : String} {n : Int32} (hk : jK (jn S) = k) (hk16 : 16 ≤ k) (ht : (jtys g)[t0]? = some (g.2.1 k, .object C)) (hcl : Cond.classLink own idx C ∈ jw) (hover : va_AO C s)
    (hn : ¬ n < 0) (hlen : jLen (jn S) = n.toNatClampNeg) (hbytes : n.toNatClampNeg * 4 ≤ 536870912) (hdg : decode cc pc = .ok (.anewarray idx, 3))
    (kk : ∀ (H : Heap) (S1 : jM), S1 = jnew S → N0 ≤ jn S1 → jAtN g S1 s H locs → jWC p l e K mc N0 s m args below meth c g SS S1 H locs (F0 m (pc + 3) ls (.ref (g.2.2 + jn S) :: rest))) : jWC p l e K mc N0 s m args below meth c g SS S H locs (F0 m pc ls (.int n :: rest)) := by
  obtain ⟨r1, r2, r3, r4⟩ := jroom (mc := mc) h0 h1
  have hsz : jSize (jn S) = n.toNatClampNeg := by unfold jSize; rw [hk, if_neg (by omega), hlen]
  rw [jsz1, hsz] at r2 r4
  refine jnewq E hM hk hk16 ht hcl hover hn hlen hbytes r1 r2 hdg (fun H1 S1 e1 hM1 => ?_)
  rw [r3, r4]
  have h := kk H1 S1 e1 (by rw [e1, jn_new]; omega) hM1
  unfold jWC at h
  rw [e1, jn_new] at h
  exact h
/-- a field written where not all cells stand yet; a final one in its constructor -/
theorem jcPut (E : jEnv p s m args meth c cc own ret maxL g) (hM : jAtN g S s H locs) {S' : jM} {k i idx N : Nat} {q : Nat × Nat} {C : String} {T : u_T} {nm ds : String} {fin : Bool} {ty : FieldType} {v : Value} (han : a < jn S) (hk : jK a = k) (hk11 : k < 11) (hc : vwCl[k]? = some (C, T, N)) (hN : i < N) (hT : T i = (C, nm, ds, fin)) (hft : (jFT k)[i]? = some q)
    (hl : Cond.fieldLink own idx C nm ds ∈ jw) (hfin : fin = true → meth.name = "<init>" ∧ C = own) (hd : parseFieldDescriptor ds = some ty) (hnr : narrow ty v = v) (hfit : fits ty v = true) (hdg : decode cc pc = .ok (.putfield idx, 3))
    (hn : jn S' = jn S) (hv : jV g S' a q = v) (hoth : ∀ (b : Nat) (r : Nat × Nat), r.1 ≤ 2 → ¬ (b = a ∧ r = q) → jV g S' b r = jV g S b r) (harr : ∀ b k, jArr g S' k b = jArr g S k b)
    (kk : ∀ (H : Heap) (locs : List Loc), jAtN g S' s H locs → jWC p l e K mc N0 s m args below meth c g SS S' H locs (F0 m (pc + 3) ls rest)) : jWC p l e K mc N0 s m args below meth c g SS S H locs (F0 m pc ls (v :: .ref (g.2.2 + a) :: rest)) := by
  obtain ⟨hx, hb, -, -, hts, hown, hK, -⟩ := id E
  obtain ⟨hin, ⟨ty0, hty⟩, hnm⟩ := jcls hc
  have hset := jE_upd (g := g) han hk hk11 hn hft hv hoth harr (fun j r hj hne => jFT_apart hk11 hft hj hne)
  have hlen : i < ((jFT k).map (jV g S a)).length := by
    have := (List.getElem?_eq_some_iff.mp hft).1
    simpa using this
  have hap := va_apart (own := own) hts hin ty0 hty hnm hK hc
  have he := jW_objn (g := g) han hk hk11
  obtain ⟨r, h1, cell, q1, q2, q3, q4⟩ := hM.1 a _ he
  have hr : r = (C, T, N) := Option.some.inj (h1.symm.trans hc)
  subst hr
  obtain ⟨hS, hfc, kC, hkC, hkind⟩ := hK.1 k _ hc
  obtain ⟨cf, kf, fi, f, hi, hsl⟩ := hS i hN
  dsimp only at hi
  rw [hT] at hi
  have hlay : (u_lay C T i).before args s = true := hts _ (hin _ (u_in_lay hN))
  have hul : u_lay C T i = if fin = true then Cond.laysFinal C C nm ds else Cond.lays C C nm ds := by unfold u_lay; simp only [hT]
  rw [hul] at hlay
  dsimp only at hi
  have go : ∀ H' : Heap, H'[g.2.2 + a]? = some (cell.setSlot f.slot v) → H'.size = H.size → (∀ q, q ≠ g.2.2 + a → H'[q]? = H[q]?) → jWC p l e K mc N0 s m args below meth c g SS S' H' (locs ++ [⟨g.2.2 + a, f.slot⟩]) (F0 m (pc + 3) ls rest) := by
    intro H' e1 e2 e3
    rw [hsl] at e1
    have hP1 := hM.1.set (jW_D g S) he (e := .inr (k, ((jFT k).map (jV g S a)).set i v)) ⟨_, hc, t_OB.to (V := updV (vp_V ((jFT k).map (jV g S a))) i v) ⟨_, e1, q2, q3, t_set q4 hap hN v⟩ (fun j _ => vp_updV_set hlen v j)⟩ e3
    rw [hset] at hP1
    exact kk H' _ ⟨hP1, hM.2.1.put e2 e3 ((jW_D g S).2 a _ he), by rw [e2, hM.2.2, hn]⟩
  have hcs : jn S' - N0 = jn S - N0 ∧ jSl (jn S') - jSl N0 = jSl (jn S) - jSl N0 := by rw [hn]; exact ⟨rfl, rfl⟩
  unfold jWC at go ⊢
  rw [hcs.1, hcs.2] at go
  have hi2 : s.fieldFound? (T i).1 (T i).2.1 (T i).2.2.1 = some (cf, kf, fi, f) := by rw [hT]; exact hi
  cases fin with
  | false =>
    have hlay : (Cond.lays C C nm ds).before args s = true := hlay
    have hst := (u_facts hfc hkC (Or.inl hlay) hi).1
    have h6 := u_store hfc hkC hkind hlay hi hd hnr hfit
    exact W.putK hx hb (f := f) ⟨hown, hts _ hl, ⟨_, _, _, hi⟩, hst⟩ (by rw [q2]; exact h6) q1 q3 (by rw [hsl]; exact k2_hasslot (q4 i hN)) rfl rfl hdg (fun H' e1 e2 e3 => go H' e1 e2 e3)
  | true =>
    have hlay : (Cond.laysFinal C C nm ds).before args s = true := hlay
    obtain ⟨hin2, hdecl⟩ := hfin rfl
    subst hdecl
    have hst := (u_facts hfc hkC (Or.inr hlay) hi).1
    have hcf : m.cls = cf := by
      obtain ⟨_, _, c', _, _, _, -, -, hf', -, -, -, hown2, -⟩ := Cond.laysFinal_spec hlay
      have e1 : c' = cf := by have := hi.symm.trans hf'; simp at this; exact this.1.symm
      rw [← e1]; exact Option.some.inj (hown.symm.trans hown2)
    have h6 := u_fits hfc hkC hkind (Or.inr hlay) hi hd hnr hfit
    exact W.putFinK hx hb hown (hts _ hl) hi hst hcf hin2 (by rw [q2]; exact h6) q1 q3 (by rw [hsl]; exact k2_hasslot (q4 i hN)) rfl rfl hdg (fun H' e1 e2 e3 => go H' e1 e2 e3)
end JCTOR
section JCTOR2
variable {p : Program} {l : Launch} {e : Env} {s : State} {m : MethodId} {args : Array Value} {below : List Frame} {meth : Method} {c : Code} {H : Heap} {locs : List Loc} {R : Room} {cells slots : Nat} {Q : State → Prop}
variable {cc : ByteArray} {own : String} {ret : Option FieldType} {maxL : Nat} {g : jG} {S SS : jM} {pc : Nat} {ls : Array Slot} {rest st : List Value} {a K mc N0 : Nat}
theorem jcGetR (E : jEnv p s m args meth c cc own ret maxL g) (hM : jAtN g S s H locs) {k i f idx N : Nat} {C : String} {T : u_T} {nm ds : String} {fin : Bool} (han : a < jn S) (hk : jK a = k) (hk11 : k < 11) (hc : vwCl[k]? = some (C, T, N)) (hN : i < N) (hT : T i = (C, nm, ds, fin)) (hft : (jFT k)[i]? = some (2, f))
    (hl : Cond.fieldLink own idx C nm ds ∈ jw) (hdg : decode cc pc = .ok (.getfield idx, 3))
    (kk : W p l e R s m args below meth c H locs cells slots Q (F0 m (pc + 3) ls (jo g (jR S f a) :: rest))) : W p l e R s m args below meth c H locs cells slots Q (F0 m pc ls (.ref (g.2.2 + a) :: rest)) := by
  obtain ⟨hx, hb, -, -, hts, hown, hK, -⟩ := E
  obtain ⟨hin, -, -⟩ := jcls hc
  exact va_get (D := g.1) (ci := k) (C := C) (T := T) (N := N) (ref := C) hx hb hts hin hown hK hM.1 a (jW_objn han hk hk11) hc i hN (by rw [hT]; exact hts _ hl) (fun x h => by rw [hT] at h ⊢; exact h) (v := jV g S a (2, f)) (by rw [List.getElem?_map, hft]; rfl) hdg kk
theorem jcAlen (E : jEnv p s m args meth c cc own ret maxL g) (hM : jAtN g S s H locs) {k t0 : Nat} {ty : FieldType} (han : a < jn S) (hk : jK a = k) (h1 : 11 ≤ k) (ht : (jtys g)[t0]? = some (g.2.1 k, ty)) (hdg : decode cc pc = .ok (.arraylength, 1))
    (kk : W p l e R s m args below meth c H locs cells slots Q (F0 m (pc + 1) ls (.int (Int32.ofNat (jLen a)) :: rest))) : W p l e R s m args below meth c H locs cells slots Q (F0 m pc ls (.ref (g.2.2 + a) :: rest)) :=
  va_alen E.1 E.2.1 E.2.2.2.2.2.2.1 hM.1 a t0 (jW_arrn han hk h1) ht rfl hdg kk
theorem jcAast (E : jEnv p s m args meth c cc own ret maxL g) (hM : jAtN g S s H locs) {i : Int32} {v k t0 kv : Nat} {r : vw_C} (han : a < jn S) (hvn : v < jn S) (hA : jA a k i = true) (h16 : 16 ≤ k) (ht : (jtys g)[t0]? = some (g.2.1 k, .object r.1)) (hv : jK v = kv) (hkv : kv < 11) (hcl : vwCl[kv]? = some r) (hdg : decode cc pc = .ok (.aastore, 1))
    (kk : ∀ (H : Heap) (locs : List Loc) (S1 : jM), S1 = jrR S a (va_up (jAR S a) i.toNatClampNeg (some v)) → jAtN g S1 s H locs → jWC p l e K mc N0 s m args below meth c g SS S1 H locs (F0 m (pc + 1) ls rest)) : jWC p l e K mc N0 s m args below meth c g SS S H locs (F0 m pc ls (.ref (g.2.2 + v) :: .int i :: .ref (g.2.2 + a) :: rest)) := by
  obtain ⟨hx, hb, -, -, hts, hown, hK, -⟩ := id E
  obtain ⟨hk, hin⟩ := jA_ok hA
  have hlt : i.toNatClampNeg < jLen a := Nat.not_le.mp fun q => hin (Or.inr q)
  have h0 : ¬ i < 0 := fun q => hin (Or.inl q)
  have ha : (jW g S)[a]? = some (g.2.2 + a, .inl (g.2.1 k, jLen a, .inr (.inr (.inr (.inr (fun j => (jAR S a j).map (g.2.2 + ·))))))) := by
    rw [jW_arrn han hk (by omega)]
    unfold jArr
    rw [if_neg (by omega), if_neg (by omega), if_pos h16]
  obtain ⟨r', hr', cellV, g1, g2, g3, -⟩ := hM.1 v _ (jW_objn (g := g) hvn hv hkv)
  have hcls := (hK.1 kv r hcl).2
  obtain ⟨kA, comp, k1, k2, k3, -⟩ := (hK.2 t0 _ ht).2
  have hcomp : comp = g.1.1 kv := Option.some.inj (k3.symm.trans hcls.1)
  subst hcomp
  obtain ⟨kC, hkC, -⟩ := hcls.2
  refine W.aast hx hb (hM.1 a _ ha) (fun q h => by cases h) (fun h => by cases h) k1 k2 rfl hkC ⟨h0, by show _ < (arrV _ _ _).slots.size; rw [arrV_size]; exact hlt⟩ g1 (fun q h => by rw [g3] at h; cases h) (by rw [g2]; exact hkC) (by rw [g2]; exact va_assign hcls) rfl rfl hdg fun H1 e1 z oq => ?_
  have hP := hM.1.set (jW_D g S) ha (e := .inl (g.2.1 k, jLen a, .inr (.inr (.inr (.inr (fun j => (va_up (jAR S a) i.toNatClampNeg (some v) j).map (g.2.2 + ·))))))) (by
    show H1[_]? = some (vp_cell _ _)
    rw [e1, vp_cell_q, vp_cell_q, arrV_store]
    congr 2
    funext q
    by_cases hq : q = i.toNatClampNeg
    · subst hq
      simp [updV, va_up, va_rf]
    · simp [updV, va_up, hq]) oq
  rw [jE_updA (S := S) (S' := jrR S a (va_up (jAR S a) i.toNatClampNeg (some v))) han hk (by omega) rfl (jArr_rR g S a _ k h16) (fun _ _ => rfl) (fun b hb k => jArr_rR_ne g S a _ b hb k)] at hP
  exact kk H1 _ (jrR S a (va_up (jAR S a) i.toNatClampNeg (some v))) rfl ⟨hP, hM.2.1.put z oq ((jW_D g S).2 a _ ha), by rw [z]; exact hM.2.2⟩
theorem jcObj (E : jEnv p s m args meth c cc own ret maxL g) {idx : Nat} (hl : Cond.methodLink own idx Lib.objectInit ∈ jw) (hi : Cond.instanceMethod Lib.objectInit ∈ jw) (hc : Cond.code Lib.objectInit ⟨#[0xb1]⟩ 1 none ∈ jw) (hls : ls.size = maxL) {b : Nat} (hfr : 1 ≤ R.frames) (hlo : (rest.map fun v => v.category).sum + 12 ≤ R.locals) (hdg : decode cc pc = .ok (.invokespecial idx, 3))
    (kk : W p l e R s m args below meth c H locs cells slots Q (F0 m (pc + 3) ls rest)) : W p l e R s m args below meth c H locs cells slots Q (F0 m pc ls (.ref b :: rest)) :=
  W.objInit E.1 E.2.1 E.2.2.2.2.2.1 (E.2.2.2.2.1 _ hl) (E.2.2.2.2.1 _ hi) (E.2.2.2.2.1 _ hc) rfl (by rw [E.2.2.1]; exact hls) rfl hdg hfr (by show 2 * 0 + _ + 12 ≤ _; omega) kk
/-- what a constructor call asks of its callee, once a constructor -/
def jCI (y : MethodName) (yc : ByteArray) (yL : Nat) (n : Nat) : Prop := Cond.instanceMethod y ∈ jw ∧ Cond.initialized y.cls ∈ jw ∧ Cond.code y yc yL none ∈ jw ∧ (y.cls ≠ "java/lang/invoke/MethodHandle" ∧ y.cls ≠ "java/lang/invoke/VarHandle" ∧ (parseMethodDescriptor y.desc).map (fun d => d.parameters.length) = some n) ∧ yL ≤ 30 ∧ y.name = "<init>"
theorem jcblind : FrameBlind (va_Pc (rest) (jPreN g S)) := fun _ U g' mk q => ⟨q.1, q.2.1, va_K.moved (u := U) (U := U.calling g' mk _) (Vm.Alike.refl U.vm) q.2.2.1, q.2.2.2.1, jStr_calling q.2.2.2.2.1, jAO.moved (u := U) (U := U.calling g' mk _) (Vm.Alike.refl U.vm) q.2.2.2.2.2⟩
theorem jcRun (E : jEnv p s m args meth c cc own ret maxL g) (hao : jAO s) (hM : jAtN g S s H locs) {y : MethodName} {yc : ByteArray} {yL k n idx b mc' : Nat} {As : List Value} {S' : jM}
    (hC : jCI y yc yL n) (hm : jMetN l g y yc yL k mc' (jn S) (.ref (g.2.2 + b) :: As) S (jQvN g S')) (hl : Cond.methodLink own idx y ∈ jw) (hls : ls.size = maxL) (hn : As.length = n) (hst : st = As.reverse ++ .ref (g.2.2 + b) :: rest) (hW : (rest.map fun v => v.category).sum ≤ 8)
    (hR : k + 1 ≤ R.frames ∧ 49 * (k + 1) ≤ R.locals) (hcs : cells + mc' ≤ R.cells ∧ slots + (jSl (jn S + mc') - jSl (jn S)) ≤ R.slots) (hdg : decode cc pc = .ok (.invokespecial idx, 3))
    (kk : ∀ (H : Heap) (locs : List Loc), jAtN g S' s H locs → W p l e R s m args below meth c H locs (cells + mc') (slots + (jSl (jn S + mc') - jSl (jn S))) Q (F0 m (pc + 3) ls rest)) : W p l e R s m args below meth c H locs cells slots Q (F0 m pc ls st) := by
  obtain ⟨hx, hb, hml, -, hts, hown, hK, -, hstr⟩ := id E
  have hy := hC.2.2.2.1
  have hL := hC.2.2.2.2.1
  have ok : ∀ w ∈ jw, w ∈ jw ∧ ((w.onTables && w.keeps) = true ∨ ∃ ty, w = .arrayClass ty) := fun w h => ⟨h, good_of_word (jw_good h)⟩
  have hG : GoodIn jw (Cond.code y yc yL none :: jw) := fun w hw => by
    rcases List.mem_cons.mp hw with rfl | hw
    · exact ok _ hC.2.2.1
    · exact ok _ hw
  refine va_callv (va_runI (n := n) ⟨hx, hb, hml, hown, hts⟩ hm (cwI n hts hG rfl rfl rfl (hts _ hC.2.1) (hts _ hl) (hts _ hC.1) hC.2.2.2.2.2 ⟨hy.1, hy.2.1, hy.2.2⟩ ⟨hR.1, by show 8 + (yL + 11) + 49 * k ≤ R.locals; omega⟩) ⟨jcblind, fun U hU hW => ⟨rfl, by show va_P _ _ _ U.heap; rw [hU]; exact hM.1, va_K.moved hW.alike hK, by rw [hU]; exact hM.2.2, jStr_go hstr hM.2.1 hU hW, hao.moved hW.alike⟩⟩ rfl hn (by rw [← hls]) hst (lv_room hW) hdg hcs) hM.2.1 (fun _ _ h => h) (fun _ h => h) (fun _ t H1 locs1 ht _ _ hB _ _ hS => ?_)
  obtain ⟨hB, hz⟩ := hB
  rw [ht] at hB hz
  exact kk H1 locs1 ⟨hB, hS, hz⟩
theorem jcCall (E : jEnv p s m args meth c cc own ret maxL g) (hao : jAO s) (hM : jAtN g S s H locs) (h0 : N0 ≤ jn S) {y : MethodName} {yc : ByteArray} {yL k n idx b mc' : Nat} {As : List Value} {S' : jM}
    (hC : jCI y yc yL n) (hm : jMetN l g y yc yL k mc' (jn S) (.ref (g.2.2 + b) :: As) S (jQvN g S')) (hS' : jn S' = jn S + mc') (h1 : jn S + mc' ≤ N0 + mc) (hl : Cond.methodLink own idx y ∈ jw) (hls : ls.size = maxL) (hn : As.length = n) (hst : st = As.reverse ++ .ref (g.2.2 + b) :: rest) (hW : (rest.map fun v => v.category).sum ≤ 8)
    (hR : k + 1 ≤ K) (hdg : decode cc pc = .ok (.invokespecial idx, 3))
    (kk : ∀ (H : Heap) (locs : List Loc), N0 ≤ jn S' → jAtN g S' s H locs → jWC p l e K mc N0 s m args below meth c g SS S' H locs (F0 m (pc + 3) ls rest)) : jWC p l e K mc N0 s m args below meth c g SS S H locs (F0 m pc ls st) := by
  obtain ⟨r1, r2, r3, r4⟩ := jroom (mc := mc) h0 h1
  refine jcRun E hao hM hC hm hl hls hn hst hW ⟨hR, by show 49 * (k + 1) ≤ 49 * K; omega⟩ ⟨r1, r2⟩ hdg (fun H1 locs1 hM1 => ?_)
  rw [r3, r4, ← hS']
  exact kk H1 locs1 (by omega) hM1
end JCTOR2
/-- an array of n rows of longs: the outer place, the rows behind it -/
def jnewM (S : jM) (n : Nat) : jM := (S.1 + (n + 1), (fun f a => if S.1 ≤ a then 0 else S.2.1 f a), (fun f a => if S.1 ≤ a then 0 else S.2.2.1 f a), (fun f a => if S.1 ≤ a then none else S.2.2.2.1 f a), (fun a => if S.1 ≤ a then (fun _ => 0) else S.2.2.2.2.1 a), (fun a => if S.1 ≤ a then (fun _ => 0) else S.2.2.2.2.2.1 a), (fun a => if S.1 ≤ a then (fun _ => 0) else S.2.2.2.2.2.2.1 a), (fun a => if a = S.1 then (fun i => if i < n then some (S.1 + 1 + i) else none) else if S.1 ≤ a then (fun _ => none) else S.2.2.2.2.2.2.2 a))
theorem jE_newM (g : jG) (S : jM) (n : Nat) {b : Nat} (hb : b < jn S) : jE g (jnewM S n) b = jE g S b := by
  have h : ¬ S.1 ≤ b := Nat.not_le.mpr hb
  have h2 : b ≠ S.1 := Nat.ne_of_lt hb
  have hv : ∀ q, jV g (jnewM S n) b q = jV g S b q := fun q => by simp [jV, jnewM, jI, jL, jR, h]
  have ha : ∀ k, jArr g (jnewM S n) k b = jArr g S k b := fun k => by simp [jArr, jnewM, jAI, jAL, jAD, jAR, h, h2]
  unfold jE
  rw [ha]
  congr 2
  simp only [hv, funext hv]
def jMrows (S : jM) (n k : Nat) : Bool := decide (jTG (jn S) = (20, n)) && (List.range n).all (fun j => decide (jTG (jn S + 1 + j) = (14, k)))
theorem jSl_rows {S : jM} {n k : Nat} (h : jMrows S n k = true) : jSl (jn S + (n + 1)) - jSl (jn S) = n + n * k := by
  simp only [jMrows, Bool.and_eq_true, decide_eq_true_eq, List.all_eq_true, List.mem_range] at h
  obtain ⟨h1, h2⟩ := h
  have key : ∀ j, j ≤ n → jSl (jn S + 1 + j) = jSl (jn S) + (n + j * k) := by
    intro j
    induction j with
    | zero =>
      intro _
      show jSl (jn S) + jSize (jn S) = _
      unfold jSize jK jLen
      rw [h1]
      simp
    | succ j ih =>
      intro hj
      show jSl (jn S + 1 + j) + jSize (jn S + 1 + j) = _
      rw [ih (by omega)]
      unfold jSize jK jLen
      rw [h2 j (by omega)]
      simp [Nat.succ_mul]
      omega
  have := key n (Nat.le_refl _)
  rw [show jn S + (n + 1) = jn S + 1 + n by omega, this]
  omega
section JMULTI
variable {p : Program} {l : Launch} {e : Env} {s : State} {m : MethodId} {args : Array Value} {below : List Frame} {meth : Method} {c : Code} {H : Heap} {locs : List Loc} {cells slots : Nat}
variable {cc : ByteArray} {own : String} {ret : Option FieldType} {maxL : Nat} {g : jG} {S SS : jM} {pc : Nat} {ls : Array Slot} {rest : List Value} {K mc N0 : Nat}
theorem jcMulti (E : jEnv p s m args meth c cc own ret maxL g) (hao : jAO s) (hM : jAtN g S s H locs) (h0 : N0 ≤ jn S) {n k : Int32} (h1 : jn S + (n.toNatClampNeg + 1) ≤ N0 + mc) {idx : Nat} (hr : jMrows S n.toNatClampNeg k.toNatClampNeg = true) (hcl : Cond.classLink own idx "[[J" ∈ jw) (harr : Cond.arrayClass .long ∈ jw) (hn : ¬ n < 0) (hk : ¬ k < 0) (hb1 : n.toNatClampNeg * 4 ≤ 536870912) (hb2 : k.toNatClampNeg * 8 ≤ 536870912) (hdg : decode cc pc = .ok (.multianewarray idx 2, 4))
    (kk : ∀ (H : Heap) (S1 : jM), S1 = jnewM S n.toNatClampNeg → N0 ≤ jn S1 → jAtN g S1 s H locs → jWC p l e K mc N0 s m args below meth c g SS S1 H locs (F0 m (pc + 4) ls (.ref (g.2.2 + jn S) :: rest))) : jWC p l e K mc N0 s m args below meth c g SS S H locs (F0 m pc ls (.int k :: .int n :: rest)) := by
  obtain ⟨r1, r2, r3, r4⟩ := jroom (mc := mc) h0 h1
  rw [jSl_rows hr] at r2 r4
  obtain ⟨hx, hb, -, -, hts, hown, hK, -⟩ := id E
  unfold jWC
  intro T hT Xs
  obtain ⟨vm₁, cA, comp, -, fA, fC, hO, -, X', step⟩ := Xs.multianewarray2F (ty := .long) hx hown (hts _ hcl) (by have h := hao.2.2.2.2; exact h) (hts _ harr) (g := F0 m pc ls (.int k :: .int n :: rest)) rfl (by rw [hb]; exact hdg) rfl hn hk hb1 hb2 (by omega) rfl rfl (by show _ ≤ mc; omega) r2
  have hA14 := (hK.2 3 (g.2.1 14, .long) rfl).2
  have hA20 := (hK.2 9 (g.2.1 20, .array .long) rfl).2
  have e1 : comp = g.2.1 14 := Option.some.inj (fC.symm.trans hA14)
  have e2 : cA = g.2.1 20 := Option.some.inj (fA.symm.trans hA20)
  subst e1
  subst e2
  generalize hF : Jvm.Free.Multi.fill (T.setVm vm₁) (g.2.1 20) (g.2.1 14) n.toNatClampNeg k.toNatClampNeg (defaultValue .long) n.toNatClampNeg = F at X' step
  have hTh : (T.setVm vm₁).heap = H := hT
  obtain ⟨f1, f2, -, -⟩ := Jvm.Free.Multi.fill_facts (T.setVm vm₁) (g.2.1 20) (g.2.1 14) n.toNatClampNeg k.toNatClampNeg (defaultValue .long) n.toNatClampNeg
  rw [hF, hTh] at f1 f2
  have hold : ∀ x : Nat, x < H.size → F.heap[x]? = H[x]? := fun x hx => by
    have := Jvm.Free.Multi.fill_old (T.setVm vm₁) (g.2.1 20) (g.2.1 14) n.toNatClampNeg k.toNatClampNeg (defaultValue .long) (a := x) (by rw [hTh]; exact hx) n.toNatClampNeg
    rw [hF, hTh] at this
    exact this
  have hrow : ∀ j : Nat, j < n.toNatClampNeg → F.heap[H.size + 1 + j]? = some (arrV (g.2.1 14) k.toNatClampNeg (fun _ => .long 0)) := fun j hj => by
    have := Jvm.Free.Multi.fill_inner (T.setVm vm₁) (g.2.1 20) (g.2.1 14) n.toNatClampNeg k.toNatClampNeg (defaultValue .long) n.toNatClampNeg j hj
    rw [hF, hTh] at this
    rw [this]
    unfold Jvm.Free.Multi.innerC
    rw [arrV_new]
    rfl
  have vr : ∀ i : Nat, Jvm.Free.Multi.outerC (g.2.1 20) n.toNatClampNeg H.size i = arrV (g.2.1 20) n.toNatClampNeg (fun j => va_rf (if j < i then some (H.size + 1 + j) else none)) := by
    intro i
    induction i with
    | zero =>
      show ({ cls := g.2.1 20, slots := Array.replicate n.toNatClampNeg .null, vm := .none } : Cell) = _
      rw [arrV_new]
      refine congrArg (arrV (g.2.1 20) n.toNatClampNeg) (funext fun j => ?_)
      simp [va_rf]
    | succ i ih =>
      show (Jvm.Free.Multi.outerC (g.2.1 20) n.toNatClampNeg H.size i).setSlot i (.ref (H.size + 1 + i)) = _
      rw [ih, arrV_store]
      refine congrArg (arrV (g.2.1 20) n.toNatClampNeg) (funext fun j => ?_)
      by_cases e : j = i
      · subst e
        simp [updV, va_rf]
      · by_cases h : j < i
        · simp [updV, e, h, Nat.lt_succ_of_lt h]
        · simp [updV, e, h, show ¬ j < i + 1 by omega]
  rw [vr] at f2
  have hr2 := hr
  simp only [jMrows, Bool.and_eq_true, decide_eq_true_eq, List.all_eq_true, List.mem_range] at hr2
  obtain ⟨g1, g2⟩ := hr2
  have hsz := hM.2.2
  have hM1 : jAtN g (jnewM S n.toNatClampNeg) s F.heap locs := by
    refine ⟨fun q x hq => ?_, ⟨Nat.le_trans hM.2.1.1 (by rw [f1]; omega), fun q h1 h2 => (hold q (Nat.lt_of_lt_of_le h1 hM.2.1.1)).trans (hM.2.1.2.1 q h1 h2), hM.2.1.2.2⟩, by rw [f1, hsz]; show _ = _ + (jn S + (n.toNatClampNeg + 1)); omega⟩
    have hql : q < jn (jnewM S n.toNatClampNeg) := by
      have := (List.getElem?_eq_some_iff.mp hq).1
      rwa [jW_len] at this
    rw [jW_get hql] at hq
    cases hq
    by_cases h : q < jn S
    · rw [jE_newM g S _ h]
      have := hM.1 q _ (jW_get h)
      exact this.kept (hold _ (by rw [hsz]; show g.2.2 + q < _; omega))
    · have hq2 : jn (jnewM S n.toNatClampNeg) = jn S + (n.toNatClampNeg + 1) := rfl
      by_cases h3 : q = jn S
      · subst h3
        have hE : jE g (jnewM S n.toNatClampNeg) (jn S) = .inl (g.2.1 20, n.toNatClampNeg, .inr (.inr (.inr (.inr (fun j => (if j < n.toNatClampNeg then some (g.2.2 + jn S + 1 + j) else none)))))) := by
          unfold jE jLen
          rw [g1]
          simp only [show ¬ (20 < 11) by decide, if_false]
          congr 3
          unfold jArr
          rw [if_neg (by decide), if_neg (by decide), if_pos (by decide)]
          congr 4
          funext j
          simp only [jAR, jnewM, jn, if_true]
          split
          · simp only [Option.map_some]; congr 1; omega
          · rfl
        rw [hE]
        show F.heap[g.2.2 + jn S]? = some (vp_cell _ _)
        rw [vp_cell_q, ← hsz, f2]
      · obtain ⟨j, rfl⟩ : ∃ j, q = jn S + 1 + j := ⟨q - jn S - 1, by omega⟩
        have hj : j < n.toNatClampNeg := by omega
        have hE : jE g (jnewM S n.toNatClampNeg) (jn S + 1 + j) = .inl (g.2.1 14, k.toNatClampNeg, .inr (.inl (fun _ => 0))) := by
          unfold jE jLen
          rw [g2 j hj]
          simp only [show ¬ (14 < 11) by decide, if_false]
          congr 3
          unfold jArr
          rw [if_pos rfl]
          simp only [jAL, jnewM, jn, show S.1 ≤ S.1 + 1 + j by omega, if_true]
        rw [hE]
        show F.heap[g.2.2 + (jn S + 1 + j)]? = some (vp_cell _ _)
        rw [show g.2.2 + (jn S + 1 + j) = H.size + 1 + j by rw [hsz]; omega, hrow j hj]
        rfl
  have hkk := kk F.heap _ rfl (by show N0 ≤ jn S + (n.toNatClampNeg + 1); omega) hM1
  unfold jWC at hkk
  rw [show jn (jnewM S n.toNatClampNeg) = jn S + (n.toNatClampNeg + 1) from rfl] at hkk
  have hX2 : Stand p l e (jRm K mc (jSl (N0 + mc) - jSl N0)) s m args below meth c F locs (jn S + (n.toNatClampNeg + 1) - N0) (jSl (jn S + (n.toNatClampNeg + 1)) - jSl N0) := by
    rw [← r3, ← r4]
    have := X'
    rw [show jn S - N0 + (n.toNatClampNeg + 1) = jn S - N0 + 1 + n.toNatClampNeg by omega, show jSl (jn S) - jSl N0 + (n.toNatClampNeg + n.toNatClampNeg * k.toNatClampNeg) = jSl (jn S) - jSl N0 + n.toNatClampNeg + n.toNatClampNeg * k.toNatClampNeg by omega]
    exact this
  obtain ⟨t, a1, b1⟩ := hkk F rfl hX2
  refine ⟨t, step t ?_, b1⟩
  rw [show T.heap.size = g.2.2 + jn S by rw [hT]; exact hsz]
  exact a1
end JMULTI
