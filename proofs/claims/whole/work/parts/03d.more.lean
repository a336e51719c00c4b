section JMORE
variable {p : Program} {l : Launch} {e : Env} {R : Room} {s : State} {m : MethodId} {args : Array Value} {below : List Frame} {meth : Method} {c : Code} {H : Heap} {locs : List Loc} {cells slots : Nat} {Q : State → Prop}
variable {cc : ByteArray} {own : String} {ret : Option FieldType} {maxL : Nat} {g : jG} {S S' : jM} {pc : Nat} {ls : Array Slot} {rest st : List Value} {a : Nat}
theorem jo_cat {r : Option Nat} : (jo g r).category = 1 := by cases r <;> rfl
theorem jc_i {x : Int32} : (Value.int x).category = 1 := rfl
theorem jc_l {x : Int64} : (Value.long x).category = 2 := rfl
theorem jc_r {x : Nat} : (Value.ref x).category = 1 := rfl
theorem jne {x y : Int32} {k : Int} (h : ¬ x = y) (hk : y.toInt = k) : x.toInt ≠ k := fun q => h (Int32.toInt_inj.mp (q.trans hk.symm))
theorem jtabD {dflt lo hi : Int} {offs : Array Int} {len : Nat} {x : Int32} {tgt : Nat} {nd : List Int} (hx : p.tables.exec = Jvm.exec) (hb : c.code = cc) (hdg : decode cc pc = .ok (.tableswitch dflt lo hi offs, len)) (h1 : hi - lo + 1 = (offs.size : Int))
    (h2 : (List.range offs.size).all (fun j => decide (offs[j]? = some dflt) || nd.contains (lo + (j : Int))) = true) (ht : (pc : Int) + dflt = (tgt : Int)) (hne : ∀ k ∈ nd, x.toInt ≠ k)
    (kk : W p l e R s m args below meth c H locs cells slots Q (F0 m tgt ls rest)) : W p l e R s m args below meth c H locs cells slots Q (F0 m pc ls (.int x :: rest)) := by
  by_cases h : x.toInt < lo ∨ hi < x.toInt
  · exact lv_tableOut hx hb hdg h ht kk
  · have ha : ¬ x.toInt < lo := fun q => h (.inl q)
    have hc : ¬ hi < x.toInt := fun q => h (.inr q)
    have hj : (x.toInt - lo).toNat < offs.size := by omega
    have h3 := List.all_eq_true.mp h2 _ (List.mem_range.mpr hj)
    simp only [Bool.or_eq_true, decide_eq_true_eq] at h3
    rcases h3 with h3 | h3
    · exact lv_tableIn hx hb hdg ha hc h3 ht kk
    · rw [show lo + (((x.toInt - lo).toNat : Nat) : Int) = x.toInt by omega] at h3
      exact absurd rfl (hne _ (by simpa using h3))
theorem jlookO {ps : List (Int × Int)} {d k : Int} (h : ∀ q ∈ ps.map (·.1), k ≠ q) : Op.lookupswitch.offset ps d k = d := by
  induction ps with
  | nil => rfl
  | cons q r ih =>
    obtain ⟨a, o⟩ := q
    rw [Op.lookupswitch.offset_cons, if_neg (fun e => h a (by simp) e.symm)]
    exact ih (fun q hq => h q (by simp only [List.map_cons, List.mem_cons]; exact .inr hq))
theorem jlookD {dflt : Int} {ps : Array (Int × Int)} {len : Nat} {x : Int32} {tgt : Nat} (hx : p.tables.exec = Jvm.exec) (hb : c.code = cc) (hdg : decode cc pc = .ok (.lookupswitch dflt ps, len)) (hp : (ps.toList.zip (ps.toList.drop 1)).all (fun (a, next) => a.1 < next.1) = true) (ht : (pc : Int) + dflt = (tgt : Int)) (hne : ∀ k ∈ ps.toList.map (·.1), x.toInt ≠ k)
    (kk : W p l e R s m args below meth c H locs cells slots Q (F0 m tgt ls rest)) : W p l e R s m args below meth c H locs cells slots Q (F0 m pc ls (.int x :: rest)) :=
  lv_lookup hx hb hdg hp (jlookO hne) ht kk
/-- System.arraycopy between arrays of longs: the places are there -/
def jcp (sp dp n : Int32) (n0 n1 : Nat) : Bool := decide (0 ≤ sp.toInt) && decide (0 ≤ dp.toInt) && decide (0 ≤ n.toInt) && decide (sp.toNatClampNeg + n.toNatClampNeg ≤ n0) && decide (dp.toNatClampNeg + n.toNatClampNeg ≤ n1)
theorem jcopy (E : jEnv p s m args meth c cc own ret maxL g) (hM : jAt g S s H locs) (hls : ls.size = maxL) {a0 idx : Nat} {sp dp n : Int32} (h0 : jK a0 = 14) (h1 : jK a = 14) (hc : jcp sp dp n (jLen a0) (jLen a) = true) (hl : Cond.methodLink own idx arraycopyName ∈ jw) (hR : 1 ≤ R.frames) (hR2 : (rest.map fun v => v.category).sum + (nativeFrameWords "java/lang/System" "arraycopy" 5 + 11) ≤ R.locals) (hdg : decode cc pc = .ok (.invokestatic idx, 3))
    (kk : ∀ (H : Heap) (locs : List Loc) (S1 : jM), S1 = jrL S a (va_cpy (jAL S a0) (jAL S a) sp.toNatClampNeg dp.toNatClampNeg n.toNatClampNeg) → jAt g S1 s H locs → W p l e R s m args below meth c H locs cells slots Q (F0 m (pc + 3) ls rest)) : W p l e R s m args below meth c H locs cells slots Q (F0 m pc ls (.int n :: .int dp :: .ref (g.2.2 + a) :: .int sp :: .ref (g.2.2 + a0) :: rest)) := by
  simp only [jcp, Bool.and_eq_true, decide_eq_true_eq] at hc
  obtain ⟨⟨⟨⟨q1, q2⟩, q3⟩, q4⟩, q5⟩ := hc
  have neg : ∀ z : Int32, 0 ≤ z.toInt → ¬ z < 0 := fun z h q => by rw [Int32.lt_iff_toInt_lt] at q; have : (0 : Int32).toInt = 0 := rfl; omega
  refine va_copyl E.1 E.2.1 (by rw [E.2.2.1, hls]) E.2.2.2.2.2.1 (E.2.2.2.2.1 _ hl) (E.2.2.2.2.1 _ lk_3_219) (E.2.2.2.2.1 _ lk_3_218) (E.2.2.2.2.1 _ lk_1_20) E.2.2.2.2.2.2.1 hM.1 (jW_D g S) hM.2.1 a0 a 3 3 (ty := .long) (jW_L hM.2.2 h0) (jW_L hM.2.2 h1) rfl rfl rfl (neg _ q1) (neg _ q2) (neg _ q3) q4 q5 (fun _ _ => rfl) hR hR2 hdg (fun H1 locs1 hP _ hS => kk H1 locs1 _ rfl ⟨?_, hS, hM.2.2⟩)
  rw [jE_updA (S := S) (S' := jrL S a (va_cpy (jAL S a0) (jAL S a) sp.toNatClampNeg dp.toNatClampNeg n.toNatClampNeg)) (by rw [hM.2.2]; exact jK_lt h1 (by decide)) h1 (by decide) rfl (jArr_rL g S a _) (fun _ _ => rfl) (fun b hb k => jArr_rL_ne g S a _ b hb k)] at hP
  exact hP
theorem jArr_rR (g : jG) (S : jM) (a : Nat) (r : Nat → Option Nat) (k : Nat) (h1 : 16 ≤ k) : jArr g (jrR S a r) k a = .inr (.inr (.inr (.inr (fun j => (r j).map (g.2.2 + ·))))) := by
  unfold jArr
  rw [if_neg (by omega), if_neg (by omega), if_pos h1]
  simp [jAR, jrR]
theorem jArr_rR_ne (g : jG) (S : jM) (a : Nat) (r : Nat → Option Nat) (b : Nat) (h : b ≠ a) (k : Nat) : jArr g (jrR S a r) k b = jArr g S k b := by
  simp [jArr, jAI, jAL, jAD, jAR, jrR, h]
theorem jaast18 (E : jEnv p s m args meth c cc own ret maxL g) (hM : jAt g S s H locs) {i : Int32} {v : Nat} (hA : jA a 18 i = true) (hv : jK v = 6) (hdg : decode cc pc = .ok (.aastore, 1))
    (kk : ∀ (H : Heap) (locs : List Loc) (S1 : jM), S1 = jrR S a (va_up (jAR S a) i.toNatClampNeg (some v)) → jAt g S1 s H locs → W p l e R s m args below meth c H locs cells slots Q (F0 m (pc + 1) ls rest)) : W p l e R s m args below meth c H locs cells slots Q (F0 m pc ls (.ref (g.2.2 + v) :: .int i :: .ref (g.2.2 + a) :: rest)) := by
  obtain ⟨hk, hin⟩ := jA_ok hA
  refine va_astq E.1 E.2.1 E.2.2.2.2.2.2.1 hM.1 (jW_D g S) hM.2.1 a 7 v 6 (r := (RX8, TX8, 8)) (jW_R hM.2.2 hk (by decide) (by decide)) rfl (jW_obj hM.2.2 hv (by decide)) rfl hin hdg (fun H1 locs1 hP _ hS => kk H1 locs1 _ rfl ⟨?_, hS, hM.2.2⟩)
  rw [jE_updA (S := S) (S' := jrR S a (va_up (jAR S a) i.toNatClampNeg (some v))) (by rw [hM.2.2]; exact jK_lt hk (by decide)) hk (by decide) rfl ?_ (fun _ _ => rfl) (fun b hb k => jArr_rR_ne g S a _ b hb k)] at hP
  · exact hP
  · rw [jArr_rR g S a _ 18 (by decide)]
    congr 4
    funext j
    by_cases hj : j = i.toNatClampNeg
    · simp [va_up, hj]
    · simp [va_up, hj]
end JMORE
