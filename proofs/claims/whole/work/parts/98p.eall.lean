/-! PURE: the evaluator: every node -/
theorem tkl_c : ∀ kd ∈ tkl, (kd = 3 ∨ kd = 4 ∨ kd = 6 ∨ kd = 131) ∨ kd = 8 ∨ kd = 7 ∨ kd = 135 ∨ kd = 146 ∨ kd = 149 ∨ kd ∈ opl := by decide +kernel
theorem NC_all {F T t np nr : Nat} {ru : Nat → Nat × Nat × Nat} {n : Int} {ki : Nat → Int32} {co : Nat → Int64} {inn : Nat → Int32} (d : Nat) : NC F T t np nr ru n ki co inn d := by
  induction d using Nat.strongRecOn with
  | ind d ih =>
  cases d with
  | zero => intro D hD A lo hi rs k f h r w p sc C R es ed ok top h62 h122 hh hrs hhi tok; exact absurd tok (fun z => z)
  | succ d =>
    intro D hD A lo hi rs k f h r w p sc C R es ed ok top h62 h122 hh hrs hhi tok hA hfd
    obtain ⟨D1, rfl⟩ : ∃ z, D = z + 1 := ⟨D - 1, by omega⟩
    obtain ⟨t1, t2, t3, -, t5, -⟩ := id tok
    have hnp := es.2.2.2.2.2.1
    have IH := ih d (by omega)
    rcases NC.start (D := D1) (rs := rs) (lo := lo) (hi := hi) es ed ok top h62 h122 hh (show k < np by omega) t3 with ⟨c, hg, hP⟩ | z
    · have fin : (∃ x Rb, wnB (g_V D1) (nI (301 * t + k)) (kmap (ki k)) (jsI R 123 2398 (nI (w + wk (ki k)))) = some (x, Rb) ∧ ∃ j' C', it F j' C = some C' ∧ RES F t nr ru n f h rs lo hi r C R w p j' C' x Rb) → ∃ j C' x R', it F j C = some C' ∧ g_V (D1 + 1) 1 2398 (nI (301 * t + k)) 0 R = some (x, R') ∧ RES F t nr ru n f h rs lo hi r C R w p j C' x R' := fun ⟨x, Rb, g, j', C', i1, i2⟩ => ⟨j', C', x, Rb, i1, hg.trans g, i2⟩
      refine fin ?_
      have hA' : ∀ q, A q → rs ≤ q ∧ q < lo ∧ jAL (jsI C 9 F (nI (w + wk (ki k)))) 816 q = jAL (jsI R 123 2398 (nI (w + wk (ki k)))) 2425 (301 * t + q) := hA
      rcases tkl_c _ (tkl_ok t3) with e | e | e | e | e | e | e
      · exact leaf_n hP (fun q hq => (hA' q hq).2.2) (fun z => by
          obtain ⟨q, q1, q2⟩ := t5 z
          have := hA q q2
          exact ⟨q, q1, q2, by omega⟩) e _
      · exact leaf_f hP e _
      · exact node_fig (fun d' hd => ih d' (by omega)) hP (by omega) tok (by omega) e hrs hhi
      · exact node_if IH hP (by omega) tok hA' (by omega) e hrs hhi
      · exact node_sum IH hP (by omega) tok hA' (by omega) e hrs hhi
      · exact node_try IH hP (by omega) tok hA' (by omega) e hrs hhi
      · exact node_op IH hP (by omega) tok hA' (by omega) e hrs hhi
    · exact z
