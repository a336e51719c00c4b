/-! PURE: the evaluator: operators, [ and functions: a node of them -/
theorem opl_3 {kd : Int32} (h : kd ∈ opl) : (kd = 5 ∨ kd = 129 ∨ kd = 130 ∨ kd = 133 ∨ kd = 138 ∨ kd = 141 ∨ kd = 143 ∨ kd = 144 ∨ kd = 150 ∨ kd = 152) ∨ (kd = 9 ∨ kd = 10 ∨ kd = 60 ∨ kd = 61 ∨ kd = 43 ∨ kd = 45 ∨ kd = 42 ∨ kd = 47 ∨ kd = 37 ∨ kd = 91 ∨ kd = 128 ∨ kd = 136 ∨ kd = 137 ∨ kd = 139 ∨ kd = 140) ∨ kd = 151 := by
  unfold opl at h
  simp only [List.mem_cons, List.not_mem_nil, or_false] at h
  rcases h with h | h | h | h | h | h | h | h | h | h | h | h | h | h | h | h | h | h | h | h | h | h | h | h | h | h <;> simp [h]
theorem act1 {kd : Int32} (hk : kd = 129 ∨ kd = 130 ∨ kd = 133 ∨ kd = 138 ∨ kd = 141 ∨ kd = 143 ∨ kd = 144 ∨ kd = 150 ∨ kd = 152) {n : Int} {C R : jM} {h s0 p : Nat} (hC : Lay C) (hR : Lay R) (hh : h < 598) (v0 : VR n C (818 + 2 * h) R s0) (hp : jI R 92 2398 = nI p) (hp2 : p < 1500) (hs0' : s0 < p ∧ (s0 ≤ 200 ∨ 226 ≤ s0)) (hP : rP C R) (hn : n = (jI C 31 1).toInt) : ∃ fl x Cb Rb, f_X10_finish 811 kd (nI h) C = f_X10_finish_390 811 (nI h) fl Cb ∧ (∀ rc, f_X12_workMore_106 rc 2398 (kmap kd) (nI s0) (-1) (-1) R = some (x, Rb)) ∧ OpR n C Cb (818 + 2 * h) R Rb p fl x := by
  have hs0 := hs0'.1
  rcases hk with e | e | e | e | e | e | e | e | e
  · subst e; exact act_129 hC hR hh v0 hp hp2 hs0 hP hn
  · subst e; exact act_130 hC hR hh v0 hp hp2 hs0 hP hn
  · subst e; exact act_133 hC hR hh v0 hp hp2 hs0 hP hn
  · subst e; exact act_138 hC hR hh v0 hp hp2 hs0 hP hn
  · subst e; exact act_141 hC hR hh v0 hp hp2 hs0 hP hn
  · subst e; exact act_143 hC hR hh v0 hp hp2 hs0 hP hn
  · subst e; exact act_144 hC hR hh v0 hp hp2 hs0 hP hn
  · subst e; exact act_150 hC hR hh v0 hp hp2 hs0 hs0'.2 hP hn
  · subst e; exact act_152 hC hR hh v0 hp hp2 hs0 hP hn
theorem act2 {kd : Int32} (hk : kd = 9 ∨ kd = 10 ∨ kd = 60 ∨ kd = 61 ∨ kd = 43 ∨ kd = 45 ∨ kd = 42 ∨ kd = 47 ∨ kd = 37 ∨ kd = 91 ∨ kd = 128 ∨ kd = 136 ∨ kd = 137 ∨ kd = 139 ∨ kd = 140) {n : Int} {C R : jM} {h s0 s1 p : Nat} (hC : Lay C) (hR : Lay R) (hh : h < 598) (v0 : VR n C (818 + 2 * h) R s0) (v1 : VR n C (818 + 2 * (h + 1)) R s1) (hp : jI R 92 2398 = nI p) (hp2 : p < 1500) (hs0 : s0 < p) (hs1 : s1 < p) (hP : rP C R) (hn : n = (jI C 31 1).toInt) : ∃ fl x Cb Rb, f_X10_finish 811 kd (nI h) C = f_X10_finish_390 811 (nI h) fl Cb ∧ (∀ rc, f_X12_workMore_106 rc 2398 (kmap kd) (nI s0) (nI s1) (-1) R = some (x, Rb)) ∧ OpR n C Cb (818 + 2 * h) R Rb p fl x := by
  rcases hk with e | e | e | e | e | e | e | e | e | e | e | e | e | e | e
  · subst e; exact act_9 hC hR hh v0 v1 hp hp2 hs0 hs1 hP hn
  · subst e; exact act_10 hC hR hh v0 v1 hp hp2 hs0 hs1 hP hn
  · subst e; exact act_60 hC hR hh v0 v1 hp hp2 hs0 hs1 hP hn
  · subst e; exact act_61 hC hR hh v0 v1 hp hp2 hs0 hs1 hP hn
  · subst e; exact act_43 hC hR hh v0 v1 hp hp2 hs0 hs1 hP hn
  · subst e; exact act_45 hC hR hh v0 v1 hp hp2 hs0 hs1 hP hn
  · subst e; exact act_42 hC hR hh v0 v1 hp hp2 hs0 hs1 hP hn
  · subst e; exact act_47 hC hR hh v0 v1 hp hp2 hs0 hs1 hP hn
  · subst e; exact act_37 hC hR hh v0 v1 hp hp2 hs0 hs1 hP hn
  · subst e; exact act_91 hC hR hh v0 v1 hp hp2 hs0 hs1 hP hn
  · subst e; exact act_128 hC hR hh v0 v1 hp hp2 hs0 hs1 hP hn
  · subst e; exact act_136 hC hR hh v0 v1 hp hp2 hs0 hs1 hP hn
  · subst e; exact act_137 hC hR hh v0 v1 hp hp2 hs0 hs1 hP hn
  · subst e; exact act_139 hC hR hh v0 v1 hp hp2 hs0 hs1 hP hn
  · subst e; exact act_140 hC hR hh v0 v1 hp hp2 hs0 hs1 hP hn
theorem PR.turn_in {F T t np nr : Nat} {ru : Nat → Nat × Nat × Nat} {n : Int} {ki : Nat → Int32} {co : Nat → Int64} {inn : Nat → Int32} {f k h rs lo hi r : Nat} {C0 R0 : jM} {w0 p0 j o st m : Nat} {s : Nat → Nat} {C R : jM} {w p sc : Nat}
    (hP : PR F T t np nr ru n ki co inn f k h rs lo hi r C0 R0 w0 p0 j o st m s C R w p sc) (hkd : ki k ∈ opl) (hst : st < tar (ki k)) {i : Nat} (hi : inn (3 * k + st) = nI i) (hin : i < np) (hf : f < 300) : f_X10_turn_50 811 (nI k) (ki k) (nI st) C = some (psh f i (h + m) r (jrI C 813 (upd (jAI C 813) (f - 1) (nI (st + 1))))) := by
  obtain ⟨c1, c2, c3, c4, c5, c6, c7, c8, c9⟩ := hP.ct
  obtain ⟨-, h2, -⟩ := opl_ok _ hkd
  have hin' := hP.into (show st < 3 by omega) hi hin hf (nI st) rfl
  have a6 := hP.2.2.2.2.2.1
  have e60 : jI (stg f st C) 60 811 = nI f := by unfold stg; simp only [m_I_sI, m_L_sI, m_R_sI, m_AI_sI, m_AL_sI, m_AD_sI, m_AR_sI, m_n_sI, m_I_sL, m_L_sL, m_R_sL, m_AI_sL, m_AL_sL, m_AD_sL, m_AR_sL, m_n_sL, m_I_sR, m_L_sR, m_R_sR, m_AI_sR, m_AL_sR, m_AD_sR, m_AR_sR, m_n_sR, m_I_rI, m_L_rI, m_R_rI, m_AI_rI, m_AL_rI, m_AD_rI, m_AR_rI, m_n_rI, m_I_rL, m_L_rL, m_R_rL, m_AI_rL, m_AL_rL, m_AD_rL, m_AR_rL, m_n_rL, m_I_rD, m_L_rD, m_R_rD, m_AI_rD, m_AL_rD, m_AD_rD, m_AR_rD, m_n_rD, m_I_rR, m_L_rR, m_R_rR, m_AI_rR, m_AL_rR, m_AD_rR, m_AR_rR, m_n_rR]; exact a6.1
  have e814 : jAI (stg f st C) 814 (f - 1) = nI h := by unfold stg; simp only [m_I_sI, m_L_sI, m_R_sI, m_AI_sI, m_AL_sI, m_AD_sI, m_AR_sI, m_n_sI, m_I_sL, m_L_sL, m_R_sL, m_AI_sL, m_AL_sL, m_AD_sL, m_AR_sL, m_n_sL, m_I_sR, m_L_sR, m_R_sR, m_AI_sR, m_AL_sR, m_AD_sR, m_AR_sR, m_n_sR, m_I_rI, m_L_rI, m_R_rI, m_AI_rI, m_AL_rI, m_AD_rI, m_AR_rI, m_n_rI, m_I_rL, m_L_rL, m_R_rL, m_AI_rL, m_AL_rL, m_AD_rL, m_AR_rL, m_n_rL, m_I_rD, m_L_rD, m_R_rD, m_AI_rD, m_AL_rD, m_AD_rD, m_AR_rD, m_n_rD, m_I_rR, m_L_rR, m_R_rR, m_AI_rR, m_AL_rR, m_AD_rR, m_AR_rR, m_n_rR]; rw [if_neg (by omega)]; exact a6.2.2.2.2.1
  rw [c8, tb_gen hkd c1 e60 a6.2.1 e814 (by omega), if_neg (by omega), hin']
/-- the state as an act finds it -/
theorem PR.acts {F T t np nr : Nat} {ru : Nat → Nat × Nat × Nat} {n : Int} {ki : Nat → Int32} {co : Nat → Int64} {inn : Nat → Int32} {f k h rs lo hi r : Nat} {C0 R0 : jM} {w0 p0 j o st m : Nat} {s : Nat → Nat} {C R : jM} {w p sc : Nat}
    (hP : PR F T t np nr ru n ki co inn f k h rs lo hi r C0 R0 w0 p0 j o st m s C R w p sc) : Lay (stg f st C) ∧ Lay R ∧ h < 598 ∧ (∀ i, i < m → VR n (stg f st C) (818 + 2 * (h + i)) R (s i) ∧ (s i < p ∧ (s i ≤ 200 ∨ 226 ≤ s i))) ∧ jI R 92 2398 = nI p ∧ p < 1500 ∧ rP (stg f st C) R ∧ n = (jI (stg f st C) 31 1).toInt := by
  obtain ⟨c1, -⟩ := hP.ct
  obtain ⟨a1, a2, a3, a4, a5, a6, ⟨a7, a8⟩, ⟨b1, b2, b3, b4, b5, b6'⟩, b6, b7⟩ := hP
  have h400 := a3.1.2.2
  have p226 := a3.2.2.2.1
  have es := a2.fr (stg_fr.mono (fun t f a z => by unfold pA at z; unfold pW; omega) : Fr (pW F) C (stg f st C)) Fr.refl (fun s _ => sS.refl)
  refine ⟨c1, a2.2.1, by omega, fun i hi => ⟨(b6 i hi).2.c (stg_fr.sP (fun t f => by unfold pA; omega)) (stg_fr.sP (fun t f => by unfold pA; omega)) sS.refl, (b6 i hi).1⟩, p226.1, by omega, es.2.2.2.2.2.2.2.2.2.2.2.2.2.2.1, es.2.2.2.2.2.2.2.2.2.2.2.2.2.1⟩
theorem ES.in0 {F T t np nr : Nat} {ru : Nat → Nat × Nat × Nat} {n : Int} {ki : Nat → Int32} {co : Nat → Int64} {inn : Nat → Int32} {C R : jM} (h : ES F T t np nr ru n ki co inn C R) {k : Nat} (hk : k < np) (h6 : ki k ≠ 6 ∧ ki k ≠ 7 ∧ ki k ≠ 8) : (0 < tar (ki k) → ∀ i, i < np → inn (3 * k) = nI i → jAI R 2409 (301 * t + k) = nI (301 * t + i)) ∧ (1 < tar (ki k) → ∀ i, i < np → inn (3 * k + 1) = nI i → jAI R 2410 (301 * t + k) = nI (301 * t + i)) ∧ (2 < tar (ki k) → ∀ i, i < np → inn (3 * k + 2) = nI i → jAI R 2411 (301 * t + k) = nI (301 * t + i)) ∧ (¬ 1 < tar (ki k) → (jAI R 2410 (301 * t + k)).toInt = -1) ∧ (¬ 2 < tar (ki k) → (jAI R 2411 (301 * t + k)).toInt = -1) := by
  have ht := h.2.2.2.2.1
  have hnp := h.2.2.2.2.2.1
  have hr := h.rk k hk
  obtain ⟨e1, e2, e3⟩ := h.ki
  unfold rK at hr
  rw [e1, e3] at hr
  obtain ⟨-, -, -, -, -, r5, r6, r7⟩ := hr
  refine ⟨fun a i hi hin => nI_is ?_ (by omega), fun a i hi hin => nI_is ?_ (by omega), fun a i hi hin => nI_is ?_ (by omega), fun a => by rw [r6, if_neg a], fun a => by rw [r7, if_neg a]⟩
  · rw [r5 h6.1 h6.2.1 h6.2.2, if_pos a, hin, nI_toInt (by omega)]; omega
  · rw [r6, if_pos a, hin, nI_toInt (by omega)]; omega
  · rw [r7, if_pos a, hin, nI_toInt (by omega)]; omega
theorem tOK_in {ki : Nat → Int32} {co : Nat → Int64} {inn : Nat → Int32} {ru : Nat → Nat × Nat × Nat} {nr rs d : Nat} {A : Nat → Prop} {lo hi k : Nat} (h : tOK ki co inn ru nr rs (d + 1) A lo hi k) (h146 : ki k ≠ 146) {j : Nat} (hj : j < tar (ki k)) : ∃ i, inn (3 * k + j) = nI i ∧ tOK ki co inn ru nr rs d A lo hi i ∧ i < hi ∧ 0 < d := by
  obtain ⟨-, -, -, h4, -⟩ := h
  obtain ⟨i, i1, i2⟩ := h4 j hj
  rw [if_neg h146] at i2
  refine ⟨i, i1, i2, ?_⟩
  cases d with
  | zero => exact absurd i2 (fun z => z)
  | succ d => exact ⟨i2.2.1, by omega⟩
