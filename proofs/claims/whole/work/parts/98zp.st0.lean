/-! PURE: the start: what the constructors leave -/
def iv (f b : Nat) : Int32 := if f = 44 ∧ jK b = 6 then -1 else if f = 8 ∧ jK b = 1 then -1 else 0
theorem iv_0 {f b : Nat} (h6 : jK b ≠ 6) (h1 : jK b ≠ 1) : iv f b = 0 := by
  unfold iv
  rw [if_neg (fun z => h6 z.2), if_neg (fun z => h1 z.2)]
/-- the numbers of all that stands, the two houses apart -/
def EI (S : jM) : Prop := ∀ b, b < jn S → b ≠ 0 → b ≠ 2398 → (∀ f, jI S f b = iv f b) ∧ (jAI S b = fun _ => 0) ∧ (jAL S b = fun _ => 0) ∧ (jAD S b = fun _ => 0)
theorem nw_I {S : jM} {f b : Nat} : jI (jnew S) f b = if b = jn S then 0 else jI S f b := rfl
theorem nw_R {S : jM} {f b : Nat} : jR (jnew S) f b = if b = jn S then none else jR S f b := rfl
theorem nw_AI {S : jM} {b : Nat} : jAI (jnew S) b = if b = jn S then (fun _ => 0) else jAI S b := rfl
theorem nw_AL {S : jM} {b : Nat} : jAL (jnew S) b = if b = jn S then (fun _ => 0) else jAL S b := rfl
theorem nw_AD {S : jM} {b : Nat} : jAD (jnew S) b = if b = jn S then (fun _ => 0) else jAD S b := rfl
theorem nw_AR {S : jM} {b : Nat} : jAR (jnew S) b = if b = jn S then (fun _ => none) else jAR S b := rfl
theorem EI.new {S : jM} (h : EI S) (h6 : jK (jn S) ≠ 6) (h1 : jK (jn S) ≠ 1) : EI (jnew S) := by
  intro b hb h0 h2
  rw [jn_new] at hb
  simp only [nw_I, nw_AI, nw_AL, nw_AD]
  by_cases e : b = jn S
  · simp only [if_pos e]
    exact ⟨fun f => by rw [e, iv_0 h6 h1], by trivial, by trivial, by trivial⟩
  · simp only [if_neg e]
    exact h b (by omega) h0 h2
theorem EI.newI {S : jM} (h : EI S) {g : Nat} (hg : (g = 44 ∧ jK (jn S) = 6) ∨ (g = 8 ∧ jK (jn S) = 1)) : EI (jsI (jnew S) g (jn S) (-1)) := by
  intro b hb h0 h2
  have hb : b < jn S + 1 := hb
  simp only [m_I_sI, m_L_sI, m_R_sI, m_AI_sI, m_AL_sI, m_AD_sI, m_AR_sI, m_n_sI, m_I_sL, m_L_sL, m_R_sL, m_AI_sL, m_AL_sL, m_AD_sL, m_AR_sL, m_n_sL, m_I_sR, m_L_sR, m_R_sR, m_AI_sR, m_AL_sR, m_AD_sR, m_AR_sR, m_n_sR, m_I_rI, m_L_rI, m_R_rI, m_AI_rI, m_AL_rI, m_AD_rI, m_AR_rI, m_n_rI, m_I_rL, m_L_rL, m_R_rL, m_AI_rL, m_AL_rL, m_AD_rL, m_AR_rL, m_n_rL, m_I_rD, m_L_rD, m_R_rD, m_AI_rD, m_AL_rD, m_AD_rD, m_AR_rD, m_n_rD, m_I_rR, m_L_rR, m_R_rR, m_AI_rR, m_AL_rR, m_AD_rR, m_AR_rR, m_n_rR, nw_I, nw_AI, nw_AL, nw_AD]
  by_cases e : b = jn S
  · simp only [if_pos e]
    refine ⟨fun f => ?_, by trivial, by trivial, by trivial⟩
    subst e
    unfold iv
    by_cases ef : f = g
    · subst ef
      rw [if_pos ⟨rfl, rfl⟩]
      rcases hg with hg | hg
      · rw [if_pos hg]
      · rw [if_neg (by omega), if_pos hg]
    · rw [if_neg (fun z => ef z.1), if_neg (by omega), if_neg (by omega)]
  · simp only [e, and_false, if_false]
    exact h b (by omega) h0 h2
theorem EI.sI {S : jM} (h : EI S) {f a : Nat} {v : Int32} (ha : a = 0 ∨ a = 2398) : EI (jsI S f a v) := by
  intro b hb h0 h2
  have e : ¬ b = a := by omega
  simp only [m_I_sI, m_L_sI, m_R_sI, m_AI_sI, m_AL_sI, m_AD_sI, m_AR_sI, m_n_sI, m_I_sL, m_L_sL, m_R_sL, m_AI_sL, m_AL_sL, m_AD_sL, m_AR_sL, m_n_sL, m_I_sR, m_L_sR, m_R_sR, m_AI_sR, m_AL_sR, m_AD_sR, m_AR_sR, m_n_sR, m_I_rI, m_L_rI, m_R_rI, m_AI_rI, m_AL_rI, m_AD_rI, m_AR_rI, m_n_rI, m_I_rL, m_L_rL, m_R_rL, m_AI_rL, m_AL_rL, m_AD_rL, m_AR_rL, m_n_rL, m_I_rD, m_L_rD, m_R_rD, m_AI_rD, m_AL_rD, m_AD_rD, m_AR_rD, m_n_rD, m_I_rR, m_L_rR, m_R_rR, m_AI_rR, m_AL_rR, m_AD_rR, m_AR_rR, m_n_rR, e, and_false, if_false]
  exact h b hb h0 h2
theorem EI.sR {S : jM} (h : EI S) {f a : Nat} {v : Option Nat} : EI (jsR S f a v) := h
theorem EI.rR {S : jM} (h : EI S) {a : Nat} {r : Nat → Option Nat} : EI (jrR S a r) := h
/-- what stands below is as it was -/
def FB (lo : Nat) (S S' : jM) : Prop := ∀ b, b < lo → (∀ f, jR S' f b = jR S f b) ∧ jAR S' b = jAR S b ∧ ∀ f, jI S' f b = jI S f b
theorem FB.refl {lo : Nat} {S : jM} : FB lo S S := fun _ _ => ⟨fun _ => rfl, rfl, fun _ => rfl⟩
theorem FB.trans {lo : Nat} {S S1 S2 : jM} (h : FB lo S S1) (k : FB lo S1 S2) : FB lo S S2 := fun b hb => ⟨fun f => ((k b hb).1 f).trans ((h b hb).1 f), (k b hb).2.1.trans (h b hb).2.1, fun f => ((k b hb).2.2 f).trans ((h b hb).2.2 f)⟩
theorem FB.le {lo l2 : Nat} {S S1 : jM} (h : FB lo S S1) (hl : l2 ≤ lo) : FB l2 S S1 := fun b hb => h b (by omega)
theorem FB.new {lo : Nat} {S S1 : jM} (h : FB lo S S1) (hl : lo ≤ jn S1) : FB lo S (jnew S1) := fun b hb => by
  have e : ¬ b = jn S1 := by omega
  simp only [nw_I, nw_R, nw_AR, if_neg e]
  exact h b hb
theorem FB.sR {lo f a : Nat} {v : Option Nat} {S S1 : jM} (h : FB lo S S1) (hl : lo ≤ a) : FB lo S (jsR S1 f a v) := fun b hb => by
  have e : ¬ b = a := by omega
  simp only [m_I_sI, m_L_sI, m_R_sI, m_AI_sI, m_AL_sI, m_AD_sI, m_AR_sI, m_n_sI, m_I_sL, m_L_sL, m_R_sL, m_AI_sL, m_AL_sL, m_AD_sL, m_AR_sL, m_n_sL, m_I_sR, m_L_sR, m_R_sR, m_AI_sR, m_AL_sR, m_AD_sR, m_AR_sR, m_n_sR, m_I_rI, m_L_rI, m_R_rI, m_AI_rI, m_AL_rI, m_AD_rI, m_AR_rI, m_n_rI, m_I_rL, m_L_rL, m_R_rL, m_AI_rL, m_AL_rL, m_AD_rL, m_AR_rL, m_n_rL, m_I_rD, m_L_rD, m_R_rD, m_AI_rD, m_AL_rD, m_AD_rD, m_AR_rD, m_n_rD, m_I_rR, m_L_rR, m_R_rR, m_AI_rR, m_AL_rR, m_AD_rR, m_AR_rR, m_n_rR, e, and_false, if_false]
  exact h b hb
theorem FB.sI {lo f a : Nat} {v : Int32} {S S1 : jM} (h : FB lo S S1) (hl : lo ≤ a) : FB lo S (jsI S1 f a v) := fun b hb => by
  have e : ¬ b = a := by omega
  simp only [m_I_sI, m_L_sI, m_R_sI, m_AI_sI, m_AL_sI, m_AD_sI, m_AR_sI, m_n_sI, m_I_sL, m_L_sL, m_R_sL, m_AI_sL, m_AL_sL, m_AD_sL, m_AR_sL, m_n_sL, m_I_sR, m_L_sR, m_R_sR, m_AI_sR, m_AL_sR, m_AD_sR, m_AR_sR, m_n_sR, m_I_rI, m_L_rI, m_R_rI, m_AI_rI, m_AL_rI, m_AD_rI, m_AR_rI, m_n_rI, m_I_rL, m_L_rL, m_R_rL, m_AI_rL, m_AL_rL, m_AD_rL, m_AR_rL, m_n_rL, m_I_rD, m_L_rD, m_R_rD, m_AI_rD, m_AL_rD, m_AD_rD, m_AR_rD, m_n_rD, m_I_rR, m_L_rR, m_R_rR, m_AI_rR, m_AL_rR, m_AD_rR, m_AR_rR, m_n_rR, e, and_false, if_false]
  exact h b hb
theorem FB.rR {lo a : Nat} {r : Nat → Option Nat} {S S1 : jM} (h : FB lo S S1) (hl : lo ≤ a) : FB lo S (jrR S1 a r) := fun b hb => by
  have e : ¬ b = a := by omega
  simp only [m_I_sI, m_L_sI, m_R_sI, m_AI_sI, m_AL_sI, m_AD_sI, m_AR_sI, m_n_sI, m_I_sL, m_L_sL, m_R_sL, m_AI_sL, m_AL_sL, m_AD_sL, m_AR_sL, m_n_sL, m_I_sR, m_L_sR, m_R_sR, m_AI_sR, m_AL_sR, m_AD_sR, m_AR_sR, m_n_sR, m_I_rI, m_L_rI, m_R_rI, m_AI_rI, m_AL_rI, m_AD_rI, m_AR_rI, m_n_rI, m_I_rL, m_L_rL, m_R_rL, m_AI_rL, m_AL_rL, m_AD_rL, m_AR_rL, m_n_rL, m_I_rD, m_L_rD, m_R_rD, m_AI_rD, m_AL_rD, m_AD_rD, m_AR_rD, m_n_rD, m_I_rR, m_L_rR, m_R_rR, m_AI_rR, m_AL_rR, m_AD_rR, m_AR_rR, m_n_rR, if_neg e]
  exact h b hb
/-- what an object of a kind, or an array of references, holds -/
def kl (S : jM) (b : Nat) : Prop := (jK b = 7 → jR S 54 b = some (b + 1)) ∧ (jK b = 2 → jR S 23 b = some (b + 1)) ∧ (jK b = 6 → jR S 46 b = some (b + 1) ∧ jR S 47 b = some (b + 2) ∧ jR S 48 b = some (b + 3) ∧ jR S 50 b = some (b + 4) ∧ jR S 51 b = some (b + 5)) ∧ (jK b = 0 → jR S 4 b = some (b + 1) ∧ jR S 5 b = some (b + 2)) ∧
  (jK b = 1 → jR S 12 b = some (b + 1) ∧ jR S 13 b = some (b + 2) ∧ jR S 15 b = some (b + 3) ∧ jR S 14 b = some (b + 4)) ∧ (jK b = 19 → ∀ i, i < jLen b → jAR S b i = some (b + 1 + 2 * i)) ∧ (jK b = 17 → ∀ i, i < 200 → jAR S b i = some (b + 1 + 3 * i)) ∧ (jK b = 16 → ∀ i, i < 6 → jAR S b i = some (b + 1 + 3 * i)) ∧ (jK b = 18 → ∀ i, i < 32 → jAR S b i = some (b + 1 + 6 * i)) ∧ (jK b = 20 → ∀ i, i < 200 → jAR S b i = some (b + 1 + i))
theorem kl_a {S : jM} {b k : Nat} (hk : jK b = k) (h : k = 3 ∨ k = 4 ∨ k = 5 ∨ (8 ≤ k ∧ k < 16)) : kl S b := by
  refine ⟨fun z => ?_, fun z => ?_, fun z => ?_, fun z => ?_, fun z => ?_, fun z => ?_, fun z => ?_, fun z => ?_, fun z => ?_, fun z => ?_⟩ <;> exact absurd z (by omega)
theorem kl.fb {S S' : jM} {b : Nat} (h : kl S b) (h1 : ∀ f, jR S' f b = jR S f b) (h2 : jAR S' b = jAR S b) : kl S' b := by
  unfold kl at *
  simp only [h1, h2]
  exact h
def KR (lo hi : Nat) (S : jM) : Prop := ∀ b, lo ≤ b → b < hi → kl S b
theorem KR.fb {lo hi : Nat} {S S' : jM} (h : KR lo hi S) (h1 : FB hi S S') : KR lo hi S' := fun b h2 h3 => (h b h2 h3).fb (h1 b h3).1 (h1 b h3).2.1
theorem KR.cat {lo mid hi : Nat} {S : jM} (h : KR lo mid S) (k : KR mid hi S) : KR lo hi S := fun b h1 h2 => if c : b < mid then h b h1 c else k b (by omega) h2
theorem KR.one {b : Nat} {S : jM} (h : kl S b) : KR b (b + 1) S := fun c h1 h2 => by rw [show c = b from by omega]; exact h
theorem KR.sR {lo hi f a : Nat} {v : Option Nat} {S : jM} (h : KR lo hi S) (ha : a < lo ∨ hi ≤ a) : KR lo hi (jsR S f a v) := fun b h1 h2 => by
  have e : ¬ b = a := by omega
  exact (h b h1 h2).fb (fun g => by simp only [m_I_sI, m_L_sI, m_R_sI, m_AI_sI, m_AL_sI, m_AD_sI, m_AR_sI, m_n_sI, m_I_sL, m_L_sL, m_R_sL, m_AI_sL, m_AL_sL, m_AD_sL, m_AR_sL, m_n_sL, m_I_sR, m_L_sR, m_R_sR, m_AI_sR, m_AL_sR, m_AD_sR, m_AR_sR, m_n_sR, m_I_rI, m_L_rI, m_R_rI, m_AI_rI, m_AL_rI, m_AD_rI, m_AR_rI, m_n_rI, m_I_rL, m_L_rL, m_R_rL, m_AI_rL, m_AL_rL, m_AD_rL, m_AR_rL, m_n_rL, m_I_rD, m_L_rD, m_R_rD, m_AI_rD, m_AL_rD, m_AD_rD, m_AR_rD, m_n_rD, m_I_rR, m_L_rR, m_R_rR, m_AI_rR, m_AL_rR, m_AD_rR, m_AR_rR, m_n_rR, e, and_false, if_false]) rfl
theorem KR.rR {lo hi a : Nat} {r : Nat → Option Nat} {S : jM} (h : KR lo hi S) (ha : a < lo ∨ hi ≤ a) : KR lo hi (jrR S a r) := fun b h1 h2 => by
  have e : ¬ b = a := by omega
  exact (h b h1 h2).fb (fun g => rfl) (by simp only [m_I_sI, m_L_sI, m_R_sI, m_AI_sI, m_AL_sI, m_AD_sI, m_AR_sI, m_n_sI, m_I_sL, m_L_sL, m_R_sL, m_AI_sL, m_AL_sL, m_AD_sL, m_AR_sL, m_n_sL, m_I_sR, m_L_sR, m_R_sR, m_AI_sR, m_AL_sR, m_AD_sR, m_AR_sR, m_n_sR, m_I_rI, m_L_rI, m_R_rI, m_AI_rI, m_AL_rI, m_AD_rI, m_AR_rI, m_n_rI, m_I_rL, m_L_rL, m_R_rL, m_AI_rL, m_AL_rL, m_AD_rL, m_AR_rL, m_n_rL, m_I_rD, m_L_rD, m_R_rD, m_AI_rD, m_AL_rD, m_AD_rD, m_AR_rD, m_n_rD, m_I_rR, m_L_rR, m_R_rR, m_AI_rR, m_AL_rR, m_AD_rR, m_AR_rR, m_n_rR, if_neg e])
theorem KR.new {lo hi : Nat} {S : jM} (h : KR lo hi S) (ha : hi ≤ jn S) : KR lo hi (jnew S) := h.fb (FB.refl.new ha)
/-- an object that is being filled -/
def QO (v n : Nat) (L : List (Nat × Nat)) (w : Nat → Int32) (S0 S : jM) : Prop := jn S = n ∧ EI S ∧ FB v S0 S ∧ (∀ q ∈ L, jR S q.1 v = some q.2) ∧ v < n ∧ ∀ f, jI S f v = w f
theorem QO.arr {v n f : Nat} {L : List (Nat × Nat)} {w : Nat → Int32} {S0 S : jM} (h : QO v n L w S0 S) (h6 : jK n ≠ 6) (h1 : jK n ≠ 1) (hf : ∀ q ∈ L, q.1 ≠ f) : QO v (n + 1) ((f, n) :: L) w S0 (jsR (jnew S) f v (some n)) := by
  obtain ⟨a1, a2, a3, a4, a5, a6⟩ := h
  refine ⟨by rw [← a1]; rfl, EI.sR (a2.new (by rw [a1]; exact h6) (by rw [a1]; exact h1)), (a3.new (by omega)).sR (Nat.le_refl _), fun q hq => ?_, by omega, fun g => ?_⟩
  · have e : ¬ v = jn S := by omega
    rcases List.mem_cons.mp hq with hq | hq
    · rw [hq]
      simp only [m_I_sI, m_L_sI, m_R_sI, m_AI_sI, m_AL_sI, m_AD_sI, m_AR_sI, m_n_sI, m_I_sL, m_L_sL, m_R_sL, m_AI_sL, m_AL_sL, m_AD_sL, m_AR_sL, m_n_sL, m_I_sR, m_L_sR, m_R_sR, m_AI_sR, m_AL_sR, m_AD_sR, m_AR_sR, m_n_sR, m_I_rI, m_L_rI, m_R_rI, m_AI_rI, m_AL_rI, m_AD_rI, m_AR_rI, m_n_rI, m_I_rL, m_L_rL, m_R_rL, m_AI_rL, m_AL_rL, m_AD_rL, m_AR_rL, m_n_rL, m_I_rD, m_L_rD, m_R_rD, m_AI_rD, m_AL_rD, m_AD_rD, m_AR_rD, m_n_rD, m_I_rR, m_L_rR, m_R_rR, m_AI_rR, m_AL_rR, m_AD_rR, m_AR_rR, m_n_rR, and_self, if_true]
    · have := hf q hq
      simp only [m_I_sI, m_L_sI, m_R_sI, m_AI_sI, m_AL_sI, m_AD_sI, m_AR_sI, m_n_sI, m_I_sL, m_L_sL, m_R_sL, m_AI_sL, m_AL_sL, m_AD_sL, m_AR_sL, m_n_sL, m_I_sR, m_L_sR, m_R_sR, m_AI_sR, m_AL_sR, m_AD_sR, m_AR_sR, m_n_sR, m_I_rI, m_L_rI, m_R_rI, m_AI_rI, m_AL_rI, m_AD_rI, m_AR_rI, m_n_rI, m_I_rL, m_L_rL, m_R_rL, m_AI_rL, m_AL_rL, m_AD_rL, m_AR_rL, m_n_rL, m_I_rD, m_L_rD, m_R_rD, m_AI_rD, m_AL_rD, m_AD_rD, m_AR_rD, m_n_rD, m_I_rR, m_L_rR, m_R_rR, m_AI_rR, m_AL_rR, m_AD_rR, m_AR_rR, m_n_rR, this, false_and, if_false, nw_R, if_neg e]
      exact a4 q hq
  · have e : ¬ v = jn S := by omega
    simp only [m_I_sI, m_L_sI, m_R_sI, m_AI_sI, m_AL_sI, m_AD_sI, m_AR_sI, m_n_sI, m_I_sL, m_L_sL, m_R_sL, m_AI_sL, m_AL_sL, m_AD_sL, m_AR_sL, m_n_sL, m_I_sR, m_L_sR, m_R_sR, m_AI_sR, m_AL_sR, m_AD_sR, m_AR_sR, m_n_sR, m_I_rI, m_L_rI, m_R_rI, m_AI_rI, m_AL_rI, m_AD_rI, m_AR_rI, m_n_rI, m_I_rL, m_L_rL, m_R_rL, m_AI_rL, m_AL_rL, m_AD_rL, m_AR_rL, m_n_rL, m_I_rD, m_L_rD, m_R_rD, m_AI_rD, m_AL_rD, m_AD_rD, m_AR_rD, m_n_rD, m_I_rR, m_L_rR, m_R_rR, m_AI_rR, m_AL_rR, m_AD_rR, m_AR_rR, m_n_rR, nw_I, if_neg e]
    exact a6 g
theorem QO.sI {v n f : Nat} {x : Int32} {L : List (Nat × Nat)} {w : Nat → Int32} {S0 S : jM} (h : QO v n L w S0 S) (hv : v = 0 ∨ v = 2398) : QO v n L (fun g => if g = f then x else w g) S0 (jsI S f v x) := by
  obtain ⟨a1, a2, a3, a4, a5, a6⟩ := h
  refine ⟨a1, a2.sI hv, a3.sI (Nat.le_refl _), a4, a5, fun g => ?_⟩
  simp only [m_I_sI, m_L_sI, m_R_sI, m_AI_sI, m_AL_sI, m_AD_sI, m_AR_sI, m_n_sI, m_I_sL, m_L_sL, m_R_sL, m_AI_sL, m_AL_sL, m_AD_sL, m_AR_sL, m_n_sL, m_I_sR, m_L_sR, m_R_sR, m_AI_sR, m_AL_sR, m_AD_sR, m_AR_sR, m_n_sR, m_I_rI, m_L_rI, m_R_rI, m_AI_rI, m_AL_rI, m_AD_rI, m_AR_rI, m_n_rI, m_I_rL, m_L_rL, m_R_rL, m_AI_rL, m_AL_rL, m_AD_rL, m_AR_rL, m_n_rL, m_I_rD, m_L_rD, m_R_rD, m_AI_rD, m_AL_rD, m_AD_rD, m_AR_rD, m_n_rD, m_I_rR, m_L_rR, m_R_rR, m_AI_rR, m_AL_rR, m_AD_rR, m_AR_rR, m_n_rR, and_true]
  by_cases e : g = f
  · rw [if_pos e, if_pos e]
  · rw [if_neg e, if_neg e]; exact a6 g
/-- a field is set to what stands already -/
theorem QO.sR {v n f x : Nat} {L : List (Nat × Nat)} {w : Nat → Int32} {S0 S : jM} (h : QO v n L w S0 S) (hf : ∀ q ∈ L, q.1 ≠ f) : QO v n ((f, x) :: L) w S0 (jsR S f v (some x)) := by
  obtain ⟨a1, a2, a3, a4, a5, a6⟩ := h
  refine ⟨a1, a2, a3.sR (Nat.le_refl _), fun q hq => ?_, a5, a6⟩
  rcases List.mem_cons.mp hq with hq | hq
  · rw [hq]
    simp only [m_I_sI, m_L_sI, m_R_sI, m_AI_sI, m_AL_sI, m_AD_sI, m_AR_sI, m_n_sI, m_I_sL, m_L_sL, m_R_sL, m_AI_sL, m_AL_sL, m_AD_sL, m_AR_sL, m_n_sL, m_I_sR, m_L_sR, m_R_sR, m_AI_sR, m_AL_sR, m_AD_sR, m_AR_sR, m_n_sR, m_I_rI, m_L_rI, m_R_rI, m_AI_rI, m_AL_rI, m_AD_rI, m_AR_rI, m_n_rI, m_I_rL, m_L_rL, m_R_rL, m_AI_rL, m_AL_rL, m_AD_rL, m_AR_rL, m_n_rL, m_I_rD, m_L_rD, m_R_rD, m_AI_rD, m_AL_rD, m_AD_rD, m_AR_rD, m_n_rD, m_I_rR, m_L_rR, m_R_rR, m_AI_rR, m_AL_rR, m_AD_rR, m_AR_rR, m_n_rR, and_self, if_true]
  · have := hf q hq
    simp only [m_I_sI, m_L_sI, m_R_sI, m_AI_sI, m_AL_sI, m_AD_sI, m_AR_sI, m_n_sI, m_I_sL, m_L_sL, m_R_sL, m_AI_sL, m_AL_sL, m_AD_sL, m_AR_sL, m_n_sL, m_I_sR, m_L_sR, m_R_sR, m_AI_sR, m_AL_sR, m_AD_sR, m_AR_sR, m_n_sR, m_I_rI, m_L_rI, m_R_rI, m_AI_rI, m_AL_rI, m_AD_rI, m_AR_rI, m_n_rI, m_I_rL, m_L_rL, m_R_rL, m_AI_rL, m_AL_rL, m_AD_rL, m_AR_rL, m_n_rL, m_I_rD, m_L_rD, m_R_rD, m_AI_rD, m_AL_rD, m_AD_rD, m_AR_rD, m_n_rD, m_I_rR, m_L_rR, m_R_rR, m_AI_rR, m_AL_rR, m_AD_rR, m_AR_rR, m_n_rR, this, false_and, if_false]
    exact a4 q hq
theorem QO.new {v n : Nat} {L : List (Nat × Nat)} {w : Nat → Int32} {S0 S : jM} (h : QO v n L w S0 S) (h6 : jK n ≠ 6) (h1 : jK n ≠ 1) : QO v (n + 1) L w S0 (jnew S) := by
  obtain ⟨a1, a2, a3, a4, a5, a6⟩ := h
  have e : ¬ v = jn S := by omega
  refine ⟨by rw [← a1]; rfl, a2.new (by rw [a1]; exact h6) (by rw [a1]; exact h1), a3.new (by omega), fun q hq => ?_, by omega, fun g => ?_⟩
  · simp only [nw_R, if_neg e]; exact a4 q hq
  · simp only [nw_I, if_neg e]; exact a6 g
/-- a part of it was made -/
theorem QO.sub {v n n' : Nat} {L : List (Nat × Nat)} {w : Nat → Int32} {S0 S S' : jM} (h : QO v n L w S0 S) (h1 : jn S' = n') (h2 : EI S') (h3 : FB n S S') (h4 : n ≤ n') : QO v n' L w S0 S' := by
  obtain ⟨a1, a2, a3, a4, a5, a6⟩ := h
  exact ⟨h1, h2, a3.trans (h3.le (by omega)), fun q hq => ((h3 v a5).1 q.1).trans (a4 q hq), by omega, fun g => ((h3 v a5).2.2 g).trans (a6 g)⟩
/-- a constructor's end -/
def IE (S : jM) (sz : Nat) (r : Option jM) : Prop := ∃ S', r = some S' ∧ jn S' = jn S + sz ∧ EI S' ∧ FB (jn S) S S' ∧ KR (jn S) (jn S + sz) S'
theorem q0 {S : jM} (hE : EI S) (h6 : jK (jn S) ≠ 6) (h1 : jK (jn S) ≠ 1) : QO (jn S) (jn S + 1) [] (fun _ => 0) S (jnew S) :=
  ⟨rfl, hE.new h6 h1, FB.refl.new (Nat.le_refl _), fun q hq => by simp at hq, by omega, fun f => by rw [nw_I, if_pos rfl]⟩
theorem q0I {S : jM} {g : Nat} (hE : EI S) (hg : (g = 44 ∧ jK (jn S) = 6) ∨ (g = 8 ∧ jK (jn S) = 1)) : QO (jn S) (jn S + 1) [] (fun f => if f = g then -1 else 0) S (jsI (jnew S) g (jn S) (-1)) :=
  ⟨rfl, hE.newI hg, (FB.refl.new (Nat.le_refl _)).sI (Nat.le_refl _), fun q hq => by simp at hq, by omega, fun f => by simp only [m_I_sI, m_L_sI, m_R_sI, m_AI_sI, m_AL_sI, m_AD_sI, m_AR_sI, m_n_sI, m_I_sL, m_L_sL, m_R_sL, m_AI_sL, m_AL_sL, m_AD_sL, m_AR_sL, m_n_sL, m_I_sR, m_L_sR, m_R_sR, m_AI_sR, m_AL_sR, m_AD_sR, m_AR_sR, m_n_sR, m_I_rI, m_L_rI, m_R_rI, m_AI_rI, m_AL_rI, m_AD_rI, m_AR_rI, m_n_rI, m_I_rL, m_L_rL, m_R_rL, m_AI_rL, m_AL_rL, m_AD_rL, m_AR_rL, m_n_rL, m_I_rD, m_L_rD, m_R_rD, m_AI_rD, m_AL_rD, m_AD_rD, m_AR_rD, m_n_rD, m_I_rR, m_L_rR, m_R_rR, m_AI_rR, m_AL_rR, m_AD_rR, m_AR_rR, m_n_rR, nw_I, and_true, if_true]⟩
theorem i_v {S : jM} (hE : EI S) (hk : jK (jn S) = 7) : IE S 2 (f_X9_init (jn S) (jnew S)) := by
  obtain ⟨k1, k2⟩ := kd_val hk
  obtain ⟨S', e, h⟩ : ∃ S', f_X9_init (jn S) (jnew S) = some S' ∧ QO (jn S) (jn S + 2) [(54, jn S + 1)] (fun _ => 0) S S' := by
    have h := q0 hE (by omega) (by omega)
    have hn := h.1
    generalize jnew S = S1 at *
    have h2 := h.arr (f := 54) (by omega) (by omega) (by simp)
    refine ⟨_, ?_, h2⟩
    unfold f_X9_init f_X9_init_0
    rw [hn, if_pos k1, if_pos (by rw [k2]; rfl), if_pos (Nat.le_refl _), jlt, if_pos (by rw [jn_new]; omega), if_pos hk, jlt, if_pos h2.1]
  obtain ⟨a1, a2, a3, a4, a5, a6⟩ := h
  have a54 := a4 (54, jn S + 1) (by simp)
  refine ⟨S', e, a1, a2, a3, (KR.one ?_).cat (KR.one (kl_a k1 (by omega)))⟩
  refine ⟨fun _ => a54, fun z => ?_, fun z => ?_, fun z => ?_, fun z => ?_, fun z => ?_, fun z => ?_, fun z => ?_, fun z => ?_, fun z => ?_⟩ <;> exact absurd z (by omega)
theorem i_f {S : jM} (hE : EI S) (hk : jK (jn S) = 2) : IE S 3 (f_X2_init (jn S) (jnew S)) := by
  have k1 : jK (jn S + 1) = 7 := (kd_fact hk).1
  have h := q0 hE (by omega) (by omega)
  have hn := h.1
  generalize jnew S = S1 at *
  obtain ⟨S2, e2, b1, b2, b3, b4⟩ := i_v h.2.1 (by rw [hn]; exact k1)
  rw [hn] at e2 b1 b3 b4
  have h2 := (h.sub b1 b2 b3 (by omega)).sR (f := 23) (x := jn S + 1) (by simp)
  have e : f_X2_init (jn S) S1 = some (jsR S2 23 (jn S) (some (jn S + 1))) := by
    unfold f_X2_init f_X2_init_0
    rw [hn, if_pos k1, if_pos (by omega), jlt, jn_new, hn, if_pos (by omega), e2, obt, b1, if_pos (by omega), if_pos (by omega), if_pos hk, jlt, if_pos h2.1]
  obtain ⟨a1, a2, a3, a4, a5, a6⟩ := h2
  have a23 := a4 (23, jn S + 1) (by simp)
  refine ⟨_, e, a1, a2, a3, (KR.one ?_).cat (b4.sR (.inl (by omega)))⟩
  refine ⟨fun z => ?_, fun _ => a23, fun z => ?_, fun z => ?_, fun z => ?_, fun z => ?_, fun z => ?_, fun z => ?_, fun z => ?_, fun z => ?_⟩ <;> exact absurd z (by omega)
theorem i_w {S : jM} (hE : EI S) (hk : jK (jn S) = 0) : IE S 3 (f_X0_init (jn S) (jnew S)) := by
  obtain ⟨⟨k1, l1⟩, k2, l2⟩ := kd_award hk
  have k2 : jK (jn S + 1 + 1) = 13 := k2
  have l2 : jLen (jn S + 1 + 1) = 6 := l2
  obtain ⟨S', e, h⟩ : ∃ S', f_X0_init (jn S) (jnew S) = some S' ∧ QO (jn S) (jn S + 3) [(5, jn S + 2), (4, jn S + 1)] (fun _ => 0) S S' := by
    have h := q0 hE (by omega) (by omega)
    have hn := h.1
    generalize jnew S = S1 at *
    have h2 := h.arr (f := 4) (by omega) (by omega) (by simp)
    have h3 := h2.arr (f := 5) (by omega) (by omega) (by simp)
    refine ⟨_, ?_, h3⟩
    unfold f_X0_init f_X0_init_0
    have hn2 := h2.1
    rw [hn, if_pos k1, if_pos (by rw [l1]; rfl), if_pos (by omega), jlt, if_pos (by rw [jn_new]; omega), if_pos hk, jlt, hn2, if_pos k2, if_pos (by rw [l2]; rfl), if_pos (by omega), jlt, if_pos (by rw [jn_new]; omega), jlt, if_pos h3.1]
  obtain ⟨a1, a2, a3, a4, a5, a6⟩ := h
  have b1 := a4 (4, jn S + 1) (by simp)
  have b2 := a4 (5, jn S + 2) (by simp)
  refine ⟨S', e, a1, a2, a3, ((KR.one ?_).cat (KR.one (kl_a k1 (by omega)))).cat (KR.one (kl_a k2 (by omega)))⟩
  refine ⟨fun z => ?_, fun z => ?_, fun z => ?_, fun _ => ⟨b1, b2⟩, fun z => ?_, fun z => ?_, fun z => ?_, fun z => ?_, fun z => ?_, fun z => ?_⟩ <;> exact absurd z (by omega)
theorem i_t {S : jM} (hE : EI S) (hk : jK (jn S) = 6) : IE S 6 (f_X8_init (jn S) (jnew S)) := by
  obtain ⟨⟨k1, l1⟩, ⟨k2, l2⟩, ⟨k3, l3⟩, ⟨k4, l4⟩, k5, l5⟩ := kd_text hk
  have k2 : jK (jn S + 1 + 1) = 14 := k2
  have l2 : jLen (jn S + 1 + 1) = 300 := l2
  have k3 : jK (jn S + 1 + 1 + 1) = 13 := k3
  have l3 : jLen (jn S + 1 + 1 + 1) = 900 := l3
  have k4 : jK (jn S + 1 + 1 + 1 + 1) = 14 := k4
  have l4 : jLen (jn S + 1 + 1 + 1 + 1) = 24 := l4
  have k5 : jK (jn S + 1 + 1 + 1 + 1 + 1) = 13 := k5
  have l5 : jLen (jn S + 1 + 1 + 1 + 1 + 1) = 24 := l5
  obtain ⟨S', e, h⟩ : ∃ S', f_X8_init (jn S) (jnew S) = some S' ∧ QO (jn S) (jn S + 6) [(51, jn S + 5), (50, jn S + 4), (48, jn S + 3), (47, jn S + 2), (46, jn S + 1)] (fun f => if f = 44 then -1 else 0) S S' := by
    have h := q0I (g := 44) hE (.inl ⟨rfl, hk⟩)
    have hn0 : jn (jnew S) = jn S + 1 := jn_new S
    have hn := h.1
    unfold f_X8_init f_X8_init_0
    rw [hn0, if_pos (by omega), if_pos hk, jlt, hn]
    generalize jsI (jnew S) 44 (jn S) (-1) = S1 at *
    have h1 := h.arr (f := 46) (by omega) (by omega) (by simp)
    have n1 := h1.1
    rw [if_pos k1, if_pos (by rw [l1]; rfl), if_pos (by omega), jlt, if_pos (by rw [jn_new]; omega), jlt, n1]
    generalize jsR (jnew S1) 46 (jn S) (some (jn S + 1)) = S2 at *
    have h2 := h1.arr (f := 47) (by omega) (by omega) (by simp)
    have n2 := h2.1
    rw [if_pos k2, if_pos (by rw [l2]; rfl), if_pos (by omega), jlt, if_pos (by rw [jn_new]; omega), jlt, n2]
    generalize jsR (jnew S2) 47 (jn S) (some (jn S + 1 + 1)) = S3 at *
    have h3 := h2.arr (f := 48) (by omega) (by omega) (by simp)
    have n3 := h3.1
    rw [if_pos k3, if_pos (by rw [l3]; rfl), if_pos (by omega), jlt, if_pos (by rw [jn_new]; omega), jlt, n3]
    generalize jsR (jnew S3) 48 (jn S) (some (jn S + 1 + 1 + 1)) = S4 at *
    have h4 := h3.arr (f := 50) (by omega) (by omega) (by simp)
    have n4 := h4.1
    rw [if_pos k4, if_pos (by rw [l4]; rfl), if_pos (by omega), jlt, if_pos (by rw [jn_new]; omega), jlt, n4]
    generalize jsR (jnew S4) 50 (jn S) (some (jn S + 1 + 1 + 1 + 1)) = S5 at *
    have h5 := h4.arr (f := 51) (by omega) (by omega) (by simp)
    have n5 := h5.1
    rw [if_pos k5, if_pos (by rw [l5]; rfl), if_pos (by omega), jlt, if_pos (by rw [jn_new]; omega), jlt, if_pos n5]
    exact ⟨_, rfl, h5⟩
  obtain ⟨a1, a2, a3, a4, a5, a6⟩ := h
  have b1 := a4 (46, jn S + 1) (by simp)
  have b2 := a4 (47, jn S + 2) (by simp)
  have b3 := a4 (48, jn S + 3) (by simp)
  have b4 := a4 (50, jn S + 4) (by simp)
  have b5 := a4 (51, jn S + 5) (by simp)
  refine ⟨S', e, a1, a2, a3, (((((KR.one ?_).cat (KR.one (kl_a k1 (by omega)))).cat (KR.one (kl_a k2 (by omega)))).cat (KR.one (kl_a k3 (by omega)))).cat (KR.one (kl_a k4 (by omega)))).cat (KR.one (kl_a k5 (by omega)))⟩
  refine ⟨fun z => ?_, fun z => ?_, fun _ => ⟨b1, b2, b3, b4, b5⟩, fun z => ?_, fun z => ?_, fun z => ?_, fun z => ?_, fun z => ?_, fun z => ?_, fun z => ?_⟩ <;> exact absurd z (by omega)
