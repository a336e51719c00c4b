/-! PURE: the simple calls -/
def Sim {α : Type} (fC fR : jM → Option (α × jM)) (C R : jM) : Prop := ∃ (x : α) (C' R' : jM), fC C = some (x, C') ∧ fR R = some (x, R') ∧ Rel C' R' ∧ Fr pC C C' ∧ Fr pR R R'
def SimR {α : Type} (fC fR : jM → Option α) (C R : jM) : Prop := ∃ x : α, fC C = some x ∧ fR R = some x
theorem t_m1 : (-1 : Int32).toInt = -1 := by decide
theorem t_m40 : (-40000 : Int32).toInt = -40000 := by decide
theorem t_lm40 : (-40000 : Int64).toInt = -40000 := by decide
theorem t_lm1 : (-1 : Int64).toInt = -1 := by decide
theorem t_l0 : (0 : Int64).toInt = 0 := by decide
theorem t_0 : (0 : Int32).toInt = 0 := by decide
theorem p_isDay {v : Int32} : f_X11_isDay v = 0 ↔ ¬ (0 ≤ v.toInt ∧ v.toInt ≤ 389) := by
  unfold f_X11_isDay
  simp only [i_lt, Int32.reduceToInt]
  split
  · exact ⟨fun _ => by omega, fun _ => rfl⟩
  · split
    · exact ⟨fun _ => by omega, fun _ => rfl⟩
    · exact ⟨fun h => absurd h (by decide), fun h => absurd (by omega) h⟩
theorem p_isMonth {v : Int32} : f_X11_isMonth v = 0 ↔ ¬ (0 ≤ v.toInt ∧ v.toInt ≤ 12) := by
  unfold f_X11_isMonth
  simp only [i_lt, Int32.reduceToInt]
  split
  · exact ⟨fun _ => by omega, fun _ => rfl⟩
  · split
    · exact ⟨fun _ => by omega, fun _ => rfl⟩
    · exact ⟨fun h => absurd h (by decide), fun h => absurd (by omega) h⟩
theorem p_isMember {v : Int32} : f_X11_isMember v = 0 ↔ ¬ (0 ≤ v.toInt ∧ v.toInt ≤ 9) := by
  unfold f_X11_isMember
  simp only [i_lt, i_le, Int32.reduceToInt]
  split
  · exact ⟨fun _ => by omega, fun _ => rfl⟩
  · split
    · exact ⟨fun _ => by omega, fun _ => rfl⟩
    · exact ⟨fun h => absurd h (by decide), fun h => absurd (by omega) h⟩
theorem p_isScheme {v : Int32} : f_X11_isScheme v = 0 ↔ ¬ (0 ≤ v.toInt ∧ v.toInt ≤ 3) := by
  unfold f_X11_isScheme
  simp only [i_lt, i_le, Int32.reduceToInt]
  split
  · exact ⟨fun _ => by omega, fun _ => rfl⟩
  · split
    · exact ⟨fun _ => by omega, fun _ => rfl⟩
    · exact ⟨fun h => absurd h (by decide), fun h => absurd (by omega) h⟩
theorem p_isPast {S : jM} {v : Int32} : f_X11_isPast 0 v S = some (if 0 ≤ v.toInt ∧ v.toInt ≤ (jI S 82 0).toInt then 1 else 0) := by
  unfold f_X11_isPast
  simp only [i_lt, Int32.reduceToInt, k_0, if_true]
  split
  · rw [if_neg (by omega)]
  · split
    · rw [if_neg (by omega)]
    · rw [if_pos (by omega)]
theorem p_isAward {S : jM} {v : Int32} : f_X11_isAward 0 v S = some (if 0 ≤ v.toInt ∧ v.toInt < (jI S 79 0).toInt then 1 else 0) := by
  unfold f_X11_isAward
  simp only [i_lt, i_le, Int32.reduceToInt, k_0, if_true]
  split
  · rw [if_neg (by omega)]
  · split
    · rw [if_neg (by omega)]
    · rw [if_pos (by omega)]
theorem p_mDay {v : Int32} : f_X12_isDay v = some (if 0 ≤ v.toInt ∧ v.toInt ≤ 389 then 1 else 0) := by
  unfold f_X12_isDay
  rw [in01, i2l_toInt, t_l0, show (389 : Int64).toInt = 389 from by decide]
  split <;> rfl
theorem t_if {c : Prop} [Decidable c] : (if c then (1 : Int32) else 0) = 0 ↔ ¬ c := by
  by_cases h : c
  · rw [if_pos h]; exact ⟨fun q => absurd q (by decide), fun q => absurd h q⟩
  · rw [if_neg h]; exact ⟨fun _ => h, fun _ => rfl⟩
theorem Rel.fr_self {C R : jM} (h : Rel C R) : Rel C R ∧ Fr pC C C ∧ Fr pR R R := ⟨h, Fr.refl, Fr.refl⟩
theorem k16 (a : Nat) : 2398 ≤ a ∨ jK a < 16 ∨ a = 4 ∨ a = 618 ∨ a = 817 ∨ a = 2022 ∨ a = 2075 ∨ a = 2128 ∨ a = 2177 ∨ a = 2196 := by
  have hb : (List.range 2398).all (fun a => decide (jK a < 16 ∨ a = 4 ∨ a = 618 ∨ a = 817 ∨ a = 2022 ∨ a = 2075 ∨ a = 2128 ∨ a = 2177 ∨ a = 2196 ∨ a = 614)) = true := by decide +kernel
  rcases Nat.lt_or_ge a 2398 with h | h
  · have h1 := List.all_eq_true.mp hb a (List.mem_range.mpr h)
    have h2 := of_decide_eq_true h1
    have k614 : jK 614 = 14 := by decide +kernel
    by_cases e : a = 614
    · subst e; right; left; omega
    · right; omega
  · exact .inl h
theorem k16r (a : Nat) : a < 2398 ∨ 2451 ≤ a ∨ jK a < 16 := by
  have hb : (List.range 53).all (fun a => decide (jK (2398 + a) < 16)) = true := by decide +kernel
  by_cases h1 : a < 2398
  · exact .inl h1
  · by_cases h2 : 2451 ≤ a
    · exact .inr (.inl h2)
    · have h3 := of_decide_eq_true (List.all_eq_true.mp hb (a - 2398) (List.mem_range.mpr (by omega)))
      rw [show 2398 + (a - 2398) = a from by omega] at h3
      exact .inr (.inr h3)
theorem q_count {C R : jM} (hC : Lay C) (h : Rel C R) (v : Int32) : SimR (f_X11_count 0 v) (f_X12_count 2398 v) C R := by
  obtain ⟨h1, h2, h3, -, h5, -, h7, h8, h9, -, -⟩ := h
  unfold SimR f_X11_count f_X12_count
  simp only [ly_69 hC, ly_72 hC, k_0, k_1, k_608, k_2398, Option.bind_some, if_true]
  rw [← h1.1, ← h2.1, ← h3.1, ← h5.1, ← h7.1, ← h8.1, ← h9.2.2.2.2.1, ← h9.2.2.2.2.2.1]
  repeat' split
  all_goals exact ⟨_, rfl, rfl⟩
theorem q_told {C R : jM} (hC : Lay C) (h : Rel C R) (v : Int32) : SimR (f_X11_told 0 v) (f_X12_told 2398 v) C R := by
  obtain ⟨-, -, -, -, -, -, -, -, -, h1, -⟩ := h
  unfold SimR f_X11_told f_X12_told
  simp only [ly_75 hC, k_0, k_2018, k_2398, Option.bind_some, if_true]
  rw [← h1.1, ← h1.2.1, ← h1.2.2.1, ← h1.2.2.2.1, ← h1.2.2.2.2.1]
  repeat' split
  all_goals exact ⟨_, rfl, rfl⟩
theorem q_fault {C R : jM} (hC : Lay C) (h : Rel C R) : SimR (f_X11_fault 0) (f_X12_fault 2398) C R := by
  obtain ⟨-, -, -, -, -, h1, -, -, -, -, -⟩ := h
  unfold SimR f_X11_fault f_X12_fault
  simp only [ly_71 hC, k_0, k_607, k_2398, Option.bind_some, if_true]
  exact ⟨_, rfl, by rw [h1]⟩
theorem jAz {a k : Nat} (h : jK a = k) (h2 : 0 < jLen a) : jA a k 0 = true := by
  rw [jA_iff]; exact ⟨h, by decide, by rw [t_0]; omega⟩
theorem cl0 : ((0 : Int32)).toNatClampNeg = 0 := by decide
theorem p_isRow {v : Int32} : f_X12_isRow v = 0 ↔ ¬ (2 ≤ v.toInt ∧ v.toInt ≤ 7) := by
  unfold f_X12_isRow
  simp only [i_lt, Int32.reduceToInt]
  split
  · exact ⟨fun _ => by omega, fun _ => rfl⟩
  · split
    · exact ⟨fun _ => by omega, fun _ => rfl⟩
    · exact ⟨fun h => absurd h (by decide), fun h => absurd (by omega) h⟩
theorem p_isKin {v : Int32} : f_X12_isKin v = 0 ↔ ¬ (5 ≤ v.toInt ∧ v.toInt ≤ 7) := by
  unfold f_X12_isKin
  simp only [i_lt, Int32.reduceToInt]
  split
  · exact ⟨fun _ => by omega, fun _ => rfl⟩
  · split
    · exact ⟨fun _ => by omega, fun _ => rfl⟩
    · exact ⟨fun h => absurd h (by decide), fun h => absurd (by omega) h⟩
theorem q_sort {C R : jM} (hC : Lay C) (hR : Lay R) (h : Rel C R) : SimR (f_X11_sort 0) (f_X12_sort 2398) C R := by
  obtain ⟨-, -, -, h1, -, -, -, -, -, -, -⟩ := h
  unfold SimR f_X11_sort f_X12_sort
  simp only [ly_70 hC, ly_88 hR, k_0, k_605, k_2398, Option.bind_some, if_true, jAz k_2399 (by rw [ln_2399]; decide), cl0]
  exact ⟨_, rfl, by rw [h1.1]⟩
theorem q_length {C R : jM} (hC : Lay C) (hR : Lay R) (h : Rel C R) : SimR (f_X11_length 0) (f_X12_length 2398) C R := by
  obtain ⟨-, -, -, h1, -, -, -, -, -, -, -⟩ := h
  obtain ⟨e1, e2, e3, -⟩ := h1
  unfold SimR f_X11_length f_X12_length
  simp only [ly_70 hC, ly_88 hR, ly_89 hR, k_0, k_605, k_2398, Option.bind_some, if_true, jAz k_2399 (by rw [ln_2399]; decide), jAz k_2400 (by rw [ln_2400]; decide), cl0, p_isRow]
  rw [← e1, ← e2]
  obtain ⟨a1, a2, a3, a4, a5⟩ := e3
  split
  · refine ⟨_, rfl, ?_⟩
    rw [i_eq.mpr (show (jI C 53 605).toInt = (0 : Int32).toInt from by rw [t_0]; exact a5 (by omega))]
  · exact ⟨_, rfl, rfl⟩
def Rel.T {C R : jM} (h : Rel C R) : rT C R := h.1
def Rel.N {C R : jM} (h : Rel C R) : rN C R := h.2.1
def Rel.P {C R : jM} (h : Rel C R) : rP C R := h.2.2.1
def Rel.D {C R : jM} (h : Rel C R) : rD C R := h.2.2.2.1
def Rel.F {C R : jM} (h : Rel C R) : rF C R := h.2.2.2.2.1
def Rel.U {C R : jM} (h : Rel C R) : rU C R := h.2.2.2.2.2.1
def Rel.A {C R : jM} (h : Rel C R) : rA C R := h.2.2.2.2.2.2.1
def Rel.Y {C R : jM} (h : Rel C R) : rY C R := h.2.2.2.2.2.2.2.1
def Rel.R {C R : jM} (h : Rel C R) : rR C R := h.2.2.2.2.2.2.2.2.1
def Rel.S {C R : jM} (h : Rel C R) : rS C R := h.2.2.2.2.2.2.2.2.2.1
def Rel.E {C R : jM} (h : Rel C R) : rE C R := h.2.2.2.2.2.2.2.2.2.2
theorem q_clock {C R : jM} (h : Rel C R) (d : Int32) : Sim (f_X11_clock 0 d) (f_X12_clock 2398 d) C R := by
  obtain ⟨n1, n2, n3⟩ := h.N
  unfold Sim f_X11_clock f_X12_clock
  simp only [k_0, k_2398, if_true, p_isDay, in0, i_le, i2l_toInt, jlet, Int64.reduceToInt]
  rw [← n1]
  by_cases c : 0 ≤ d.toInt ∧ d.toInt ≤ 389 ∧ (jI C 82 0).toInt ≤ d.toInt
  · rw [if_neg (by omega), if_pos (by omega), if_neg (by omega)]
    have hF : Fr (fun t f a => t = 0 ∧ f = 82 ∧ a = 0) C (jsI C 82 0 d) := Fr.refl.sI ⟨rfl, rfl, rfl⟩
    have hG : Fr (fun t f a => t = 0 ∧ f = 139 ∧ a = 2398) R (jsI R 139 2398 d) := Fr.refl.sI ⟨rfl, rfl, rfl⟩
    have hs : ∀ s, s < 225 → sS R (jsI R 139 2398 d) s := fun s _ => hG.sS (fun a _ _ => by omega) s
    have hx : ∀ t, t < 33 → sX R (jsI R 139 2398 d) t := fun t _ => hG.sX (fun a _ _ => by omega) t
    refine ⟨1, _, _, rfl, rfl, ?_, hF.mono (fun t f a z => by have := k16 a; unfold pC; omega), hG.mono (fun t f a z => by have := k16r a; unfold pR; omega)⟩
    exact ⟨rT_f hF hG (fun t f a => by unfold cT; omega) (fun t f a => by unfold mT; omega) h.T,
        by refine ⟨by rw [m_I_sI, m_I_sI]; rfl, ?_⟩; rw [m_I_sI, if_pos ⟨rfl, rfl⟩]; omega,
        rP_f hF hG (fun t f a => by unfold cP; omega) (fun t f a => by unfold mP; omega) h.P,
        rD_f hF hG (fun t f a => by unfold cD; omega) (fun _ _ _ z => z.elim) (hs 0 (by omega)) h.D,
        rF_f hF hG (fun t f a => by unfold cF; omega) (fun t f a => by unfold mF; omega) (fun s _ _ => hs s (by omega)) h.F,
        rU_f hF hG (fun t f a => by unfold cU; omega) (fun t f a => by unfold mU; omega) h.U,
        rA_f hF hG (fun t f a => by unfold cA; omega) (fun t f a => by unfold mA; omega) h.A,
        rY_f hF hG (fun t f a => by unfold cY; omega) (fun t f a => by unfold mY; omega) h.Y,
        rR_f hF hG (fun t f a => by unfold cR; omega) (fun t f a => by unfold mR; omega) h.R,
        rS_f hF hG (fun t f a => by unfold cS; omega) (fun t f a => by unfold mS; omega) (fun s _ _ => hs s (by omega)) h.S,
        rE_f hF hG (fun t f a => by unfold cE; omega) (fun t f a => by unfold mE; omega) (fun t _ => hx t (by omega)) h.E⟩
  · by_cases c2 : 0 ≤ d.toInt ∧ d.toInt ≤ 389
    · rw [if_neg (by omega), if_neg (by omega), if_pos (by omega)]
      exact ⟨_, _, _, rfl, rfl, h.fr_self⟩
    · rw [if_pos (by omega), if_pos (by omega)]
      exact ⟨_, _, _, rfl, rfl, h.fr_self⟩
theorem q_cut {C R : jM} (hC : Lay C) (h : Rel C R) (d : Int32) : Sim (f_X11_cut 0 d) (f_X12_cut 2398 d) C R := by
  obtain ⟨n1, n2, n3, n4⟩ := h.T
  unfold Sim f_X11_cut f_X12_cut
  simp only [ly_72 hC, Option.bind_some, k_0, k_608, k_2398, if_true, in0, i_le, i_lt, t_0, t_l0, i2l_toInt, jlet]
  rw [← n1]
  by_cases c : 0 ≤ d.toInt ∧ d.toInt ≤ (jI C 37 608).toInt
  · rw [if_neg (by omega), if_pos (by omega), if_neg (by omega)]
    have hF : Fr (fun t f a => t = 0 ∧ f = 37 ∧ a = 608) C (jsI C 37 608 d) := Fr.refl.sI ⟨rfl, rfl, rfl⟩
    have hG : Fr (fun t f a => t = 0 ∧ f = 94 ∧ a = 2398) R (jsI R 94 2398 d) := Fr.refl.sI ⟨rfl, rfl, rfl⟩
    have hs : ∀ s, s < 225 → sS R (jsI R 94 2398 d) s := fun s _ => hG.sS (fun a _ _ => by omega) s
    have hx : ∀ t, t < 33 → sX R (jsI R 94 2398 d) t := fun t _ => hG.sX (fun a _ _ => by omega) t
    refine ⟨_, _, _, rfl, rfl, ?_, hF.mono (fun t f a z => by have := k16 a; unfold pC; omega), hG.mono (fun t f a z => by have := k16r a; unfold pR; omega)⟩
    exact ⟨by refine ⟨by rw [m_I_sI, m_I_sI]; rfl, ?_⟩; rw [m_I_sI, if_pos ⟨rfl, rfl⟩, m_AI_sI, m_AI_sI]; exact ⟨c.1, by omega, fun j hj => n4 j (by omega)⟩,
        rN_f hF hG (fun t f a => by unfold cN; omega) (fun t f a => by unfold mN; omega) h.N,
        rP_f hF hG (fun t f a => by unfold cP; omega) (fun t f a => by unfold mP; omega) h.P,
        rD_f hF hG (fun t f a => by unfold cD; omega) (fun _ _ _ z => z.elim) (hs 0 (by omega)) h.D,
        rF_f hF hG (fun t f a => by unfold cF; omega) (fun t f a => by unfold mF; omega) (fun s _ _ => hs s (by omega)) h.F,
        rU_f hF hG (fun t f a => by unfold cU; omega) (fun t f a => by unfold mU; omega) h.U,
        rA_f hF hG (fun t f a => by unfold cA; omega) (fun t f a => by unfold mA; omega) h.A,
        rY_f hF hG (fun t f a => by unfold cY; omega) (fun t f a => by unfold mY; omega) h.Y,
        rR_f hF hG (fun t f a => by unfold cR; omega) (fun t f a => by unfold mR; omega) h.R,
        rS_f hF hG (fun t f a => by unfold cS; omega) (fun t f a => by unfold mS; omega) (fun s _ _ => hs s (by omega)) h.S,
        rE_f hF hG (fun t f a => by unfold cE; omega) (fun t f a => by unfold mE; omega) (fun t _ => hx t (by omega)) h.E⟩
  · by_cases c2 : 0 ≤ d.toInt
    · rw [if_neg (by omega), if_neg (by omega), if_pos (by omega)]
      exact ⟨_, _, _, rfl, rfl, h.fr_self⟩
    · rw [if_pos (by omega), if_pos (by omega)]
      exact ⟨_, _, _, rfl, rfl, h.fr_self⟩
theorem q_share {C R : jM} (h : Rel C R) (d : Int32) : Sim (f_X11_share 0 d) (f_X12_share 2398 d) C R := by
  have hr := h.R
  have n1 := hr.1
  unfold Sim f_X11_share f_X12_share
  simp only [Option.bind_some, k_0, k_2398, if_true, in0, i_le, i_lt, t_0, t_l0, i2l_toInt, jlet, Int32.reduceToInt, Int64.reduceToInt]
  rw [← n1]
  by_cases c : 0 ≤ d.toInt ∧ d.toInt ≤ 100
  · rw [if_neg (by omega), if_pos (by omega), if_neg (by omega)]
    have hF : Fr (fun t f a => t = 0 ∧ f = 83 ∧ a = 0) C (jsI C 83 0 d) := Fr.refl.sI ⟨rfl, rfl, rfl⟩
    have hG : Fr (fun t f a => t = 0 ∧ f = 164 ∧ a = 2398) R (jsI R 164 2398 d) := Fr.refl.sI ⟨rfl, rfl, rfl⟩
    have hs : ∀ s, s < 225 → sS R (jsI R 164 2398 d) s := fun s _ => hG.sS (fun a _ _ => by omega) s
    have hx : ∀ t, t < 33 → sX R (jsI R 164 2398 d) t := fun t _ => hG.sX (fun a _ _ => by omega) t
    refine ⟨_, _, _, rfl, rfl, ?_, hF.mono (fun t f a z => by have := k16 a; unfold pC; omega), hG.mono (fun t f a z => by have := k16r a; unfold pR; omega)⟩
    exact ⟨rT_f hF hG (fun t f a => by unfold cT; omega) (fun t f a => by unfold mT; omega) h.T,
        rN_f hF hG (fun t f a => by unfold cN; omega) (fun t f a => by unfold mN; omega) h.N,
        rP_f hF hG (fun t f a => by unfold cP; omega) (fun t f a => by unfold mP; omega) h.P,
        rD_f hF hG (fun t f a => by unfold cD; omega) (fun _ _ _ z => z.elim) (hs 0 (by omega)) h.D,
        rF_f hF hG (fun t f a => by unfold cF; omega) (fun t f a => by unfold mF; omega) (fun s _ _ => hs s (by omega)) h.F,
        rU_f hF hG (fun t f a => by unfold cU; omega) (fun t f a => by unfold mU; omega) h.U,
        rA_f hF hG (fun t f a => by unfold cA; omega) (fun t f a => by unfold mA; omega) h.A,
        rY_f hF hG (fun t f a => by unfold cY; omega) (fun t f a => by unfold mY; omega) h.Y,
        ⟨by rw [m_I_sI, m_I_sI]; rfl, by rw [m_I_sI, if_pos ⟨rfl, rfl⟩]; exact c, hr.2.2⟩,
        rS_f hF hG (fun t f a => by unfold cS; omega) (fun t f a => by unfold mS; omega) (fun s _ _ => hs s (by omega)) h.S,
        rE_f hF hG (fun t f a => by unfold cE; omega) (fun t f a => by unfold mE; omega) (fun t _ => hx t (by omega)) h.E⟩
  · by_cases c2 : 0 ≤ d.toInt
    · rw [if_neg (by omega), if_neg (by omega), if_pos (by omega)]
      exact ⟨_, _, _, rfl, rfl, h.fr_self⟩
    · rw [if_pos (by omega), if_pos (by omega)]
      exact ⟨_, _, _, rfl, rfl, h.fr_self⟩
theorem cl_lt {v : Int32} {n : Nat} (h1 : v.toInt < n) (hn : 0 < n) : v.toNatClampNeg < n := by rw [i_cl]; omega
theorem cl_n {v : Int32} {j : Nat} (h : (j : Int) = v.toInt) : v.toNatClampNeg = j := by rw [i_cl]; omega
theorem upd_at {α : Type} (r : Nat → α) (i : Nat) (v : α) (j : Nat) (hu : (Nat → α) → Nat → α → Nat → α) : True := trivial
