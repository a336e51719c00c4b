/-! PURE: the evaluator: what is told of its state -/
def pW (F t f a : Nat) : Prop := (a = 811 ∧ t = 0 ∧ (f = 60 ∨ f = 62)) ∨ (t = 3 ∧ 812 ≤ a ∧ a ≤ 816) ∨ (818 ≤ a ∧ a < 2018 ∧ (t = 0 ∨ t = 3)) ∨ (a = F ∧ t = 0 ∧ f ≠ 6) ∨ (F < a ∧ a < F + 53 ∧ (t = 0 ∨ t = 3) ∧ a ≠ F + 4)
def qW (t f a : Nat) : Prop := (t = 0 ∧ (f = 92 ∨ (122 ≤ f ∧ f ≤ 127) ∨ f = 133) ∧ a = 2398) ∨ (t = 3 ∧ ((2399 ≤ a ∧ a ≤ 2402) ∨ (2420 ≤ a ∧ a ≤ 2426)))
theorem qK_W {t f a : Nat} (h : qK t f a) : qW t f a := by unfold qK at h; unfold qW; omega
def isF (F : Nat) : Prop := F = 2018 ∨ F = 2071 ∨ F = 2124
def isT (T : Nat) : Prop := jK T = 6 ∧ (T = 610 ∨ (619 ≤ T ∧ T ≤ 805))
theorem isF.k {F : Nat} (h : isF F) : jK F = 1 := by rcases h with h | h | h <;> rw [h] <;> decide +kernel
theorem isF.fig {F : Nat} (h : isF F) {r : Nat} (hr : r < 24) : jK (F + 5 + 2 * r) = 7 := by
  rcases h with h | h | h
  · have := kf_fig0 hr; rw [h, show 2018 + 5 + 2 * r = 2023 + 2 * r by omega]; exact this
  · have := kf_fig1 hr; rw [h, show 2071 + 5 + 2 * r = 2076 + 2 * r by omega]; exact this
  · have := kf_fig2 hr; rw [h, show 2124 + 5 + 2 * r = 2129 + 2 * r by omega]; exact this
/-- what stands all the while -/
def ES (F T t np nr : Nat) (ru : Nat → Nat × Nat × Nat) (n : Int) (ki : Nat → Int32) (co : Nat → Int64) (inn : Nat → Int32) (C R : jM) : Prop :=
  Lay C ∧ Lay R ∧ isF F ∧ isT T ∧ t < 33 ∧ np ≤ 300 ∧ nr ≤ 24 ∧
  jR C 64 811 = some F ∧ jR C 65 811 = some T ∧ jI C 66 811 = jI R 119 2398 ∧ jI C 67 811 = jI R 120 2398 ∧ jI C 68 811 = jI R 121 2398 ∧ jI R 118 2398 = nI t ∧
  n = (jI C 31 1).toInt ∧ rP C R ∧ rF C R ∧ jI C 45 T = nI np ∧ jI C 49 T = nI nr ∧ jAI R 2415 t = nI nr ∧ jAI C (T + 1) = ki ∧ jAL C (T + 2) = co ∧ jAI C (T + 3) = inn ∧
  (∀ k, k < np → rK C T R t k) ∧ ∀ r, r < nr → (ru r).1 ≤ 300 ∧ (ru r).2.2 ≤ np ∧ ∃ k, jAI C (T + 5) r = nI k ∧ jAI R 2417 (24 * t + r) = nI (301 * t + k) ∧ tOK ki co inn ru nr (ru r).2.1 (ru r).1 (fun _ => False) (ru r).2.1 (ru r).2.2 k
theorem Lay.frEW {F : Nat} {C C' : jM} (h : Lay C) (hF : isF F) (hC : Fr (pW F) C C') : Lay C' := by
  unfold isF at hF
  refine h.fr hC (fun f a z => by unfold pW at z; omega) (fun a z => ?_)
  have := k16 a
  unfold pW at z
  omega
theorem Lay.frq {R R' : jM} (h : Lay R) (hR : Fr qW R R') : Lay R' := h.fr hR (fun f a z => by unfold qW at z; omega) (fun a z => by have := k16r a; unfold qW at z; omega)
theorem ES.fr {F T t np nr : Nat} {ru : Nat → Nat × Nat × Nat} {n : Int} {ki : Nat → Int32} {co : Nat → Int64} {inn : Nat → Int32} {C R C' R' : jM} (h : ES F T t np nr ru n ki co inn C R) (hC : Fr (pW F) C C') (hR : Fr qW R R') (hs : ∀ s, s < 226 → sS R R' s) : ES F T t np nr ru n ki co inn C' R' := by
  obtain ⟨h1, h2, h3, h4, h5, h6, h7, h8, h9, h10, h11, h12, h13, h14, h15, h16, h17, h18, h19, h20, h21, h22, h23, h24⟩ := h
  have hf := h3
  unfold isF at hf
  have hT := h4.2
  have hX : ∀ t, sX R R' t := fun t => hR.sX (fun a b1 b2 => by unfold qW; omega) t
  have e1 : jAI C' (T + 1) = jAI C (T + 1) := hC.ai (by unfold pW; omega)
  have e2 : jAL C' (T + 2) = jAL C (T + 2) := hC.al (by unfold pW; omega)
  have e3 : jAI C' (T + 3) = jAI C (T + 3) := hC.ai (by unfold pW; omega)
  refine ⟨h1.frEW h3 hC, h2.frq hR, h3, h4, h5, h6, h7, ?_, ?_, ?_, ?_, ?_, ?_, ?_, ?_, ?_, ?_, ?_, ?_, e1.trans h20, e2.trans h21, e3.trans h22, fun k hk => ?_, fun r hr => ?_⟩
  · rw [hC.r (by unfold pW; omega)]; exact h8
  · rw [hC.r (by unfold pW; omega)]; exact h9
  · rw [hC.i (by unfold pW; omega), hR.i (by unfold qW; omega)]; exact h10
  · rw [hC.i (by unfold pW; omega), hR.i (by unfold qW; omega)]; exact h11
  · rw [hC.i (by unfold pW; omega), hR.i (by unfold qW; omega)]; exact h12
  · rw [hR.i (by unfold qW; omega)]; exact h13
  · rw [hC.i (by unfold pW; omega)]; exact h14
  · exact rP_f hC hR (fun t f a => by unfold cP pW; omega) (fun t f a => by unfold mP qW; omega) h15
  · exact rF_f hC hR (fun t f a => by unfold cF pW; omega) (fun t f a => by unfold mF qW; omega) (fun s _ _ => hs s (by omega)) h16
  · rw [hC.i (by unfold pW; omega)]; exact h17
  · rw [hC.i (by unfold pW; omega)]; exact h18
  · rw [hR.ai (by unfold qW; omega)]; exact h19
  · exact (h23 k hk).c (by omega) (hC.sP (fun t f => by unfold pW; omega)) (hC.sP (fun t f => by unfold pW; omega)) (hC.sP (fun t f => by unfold pW; omega)) (hX t)
  · obtain ⟨a1, a2, k, a3, a4, a5⟩ := h24 r hr
    exact ⟨a1, a2, k, by rw [hC.ai (by unfold pW; omega)]; exact a3, by rw [hR.ai (by unfold qW; omega)]; exact a4, a5⟩
/-- how many rules were worked -/
def cw (g : Nat → Int32) : Nat → Nat
  | 0 => 0
  | n + 1 => cw g n + (if g n = -1 then 0 else 1)
theorem cw_le (g : Nat → Int32) (n : Nat) : cw g n ≤ n := by
  induction n with
  | zero => exact Nat.le_refl _
  | succ n ih => unfold cw; split <;> omega
theorem cw_lt {g : Nat → Int32} {n r : Nat} (hr : r < n) (h : g r = -1) : cw g n < n := by
  induction n with
  | zero => omega
  | succ n ih =>
    unfold cw
    have := cw_le g n
    by_cases c : r = n
    · subst c; rw [if_pos h]; omega
    · have := ih (by omega); split <;> omega
theorem cw_o {g g' : Nat → Int32} {n : Nat} (h : ∀ i, i < n → g' i = g i) : cw g' n = cw g n := by
  induction n with
  | zero => rfl
  | succ n ih => unfold cw; rw [ih (fun i hi => h i (by omega)), h n (by omega)]
theorem cw_upd {g : Nat → Int32} {n r : Nat} {v : Int32} (hr : r < n) (h : g r = -1) (hv : v ≠ -1) : cw (upd g r v) n = cw g n + 1 := by
  induction n with
  | zero => omega
  | succ n ih =>
    unfold cw
    by_cases c : r = n
    · subst c
      rw [cw_o (g := g) (fun i hi => by rw [upd_if, if_neg (by omega)]), upd_if, if_pos rfl, if_neg hv, if_pos h]
    · rw [ih (by omega), upd_if, if_neg (Ne.symm c)]; omega
/-- a rule, worked or not -/
def RR (F : Nat) (n : Int) (p : Nat) (C R : jM) (r : Nat) : Prop := (jAI C (F + 1) r = -1 ∧ jAI R 2420 r = 0) ∨
  (jAI C (F + 1) r = 0 ∧ jAI R 2420 r = 1 ∧ jAI R 2422 r = 0 ∧ ∃ s, (s < p ∧ (s ≤ 200 ∨ 226 ≤ s)) ∧ jAI R 2421 r = nI s ∧ VR n C (F + 5 + 2 * r) R s) ∨
  ((1 ≤ (jAI C (F + 1) r).toInt ∧ (jAI C (F + 1) r).toInt ≤ 7) ∧ jAI R 2420 r = 2 ∧ jAI R 2422 r = jAI C (F + 1) r ∧ jAI R 2423 r = jAI C (F + 2) r)
def ED (F : Nat) (n : Int) (w p sc : Nat) (C R : jM) : Prop :=
  (jI C 9 F = nI w ∧ jI R 123 2398 = nI w ∧ w ≤ 400) ∧ (jI C 10 F = jI R 124 2398 ∧ jI C 11 F = jI R 125 2398) ∧ (jI C 16 F = nI sc ∧ jI R 133 2398 = nI sc ∧ sc = cw (jAI C (F + 1)) 24) ∧ (jI R 92 2398 = nI p ∧ 226 ≤ p ∧ p ≤ 226 + w) ∧
  (∀ r, r < 24 → RR F n p C R r) ∧ ∀ k, k < sc → ∃ r, r < 24 ∧ jAI C (F + 3) k = nI r ∧ jAI C (F + 1) r ≠ -1 ∧ (jAI R 2424 k).toInt = 100 * r + (jAI C (F + 1) r).toInt
/-- the cells of the case but its head: as they were -/
def sF (F : Nat) (C C' : jM) : Prop := ∀ a, F < a → a < F + 53 → a ≠ F + 4 → sP C C' a
theorem ED.f {F : Nat} {n : Int} {w p sc : Nat} {C R C' R' : jM} (h : ED F n w p sc C R) {w' p' : Nat} (h9 : jI C' 9 F = nI w') (h123 : jI R' 123 2398 = nI w') (hw : w' ≤ 400) (h10 : jI C' 10 F = jI R' 124 2398) (h11 : jI C' 11 F = jI R' 125 2398) (h16 : jI C' 16 F = jI C 16 F) (h133 : jI R' 133 2398 = jI R 133 2398)
    (h92 : jI R' 92 2398 = nI p') (hp : p ≤ p') (hp' : p' ≤ 226 + w') (hF : sF F C C') (hR : ∀ a, 2420 ≤ a → a ≤ 2424 → jAI R' a = jAI R a) (hs : ∀ s, s < p → sS R R' s) : ED F n w' p' sc C' R' := by
  obtain ⟨⟨a1, a2, a3⟩, ⟨a4, a5⟩, ⟨a6, a7, a8⟩, ⟨a9, a10, a11⟩, a12, a13⟩ := h
  have e1 := (hF (F + 1) (by omega) (by omega) (by omega)).2.2.1
  have e2 := (hF (F + 2) (by omega) (by omega) (by omega)).2.2.1
  have e3 := (hF (F + 3) (by omega) (by omega) (by omega)).2.2.1
  refine ⟨⟨h9, h123, hw⟩, ⟨h10, h11⟩, ⟨by rw [h16]; exact a6, by rw [h133]; exact a7, by rw [e1]; exact a8⟩, ⟨h92, by omega, hp'⟩, fun r hr => ?_, fun k hk => ?_⟩
  · have := a12 r hr
    unfold RR at *
    rw [e1, e2, hR 2420 (by omega) (by omega), hR 2421 (by omega) (by omega), hR 2422 (by omega) (by omega), hR 2423 (by omega) (by omega)]
    rcases this with z | ⟨z1, z2, z3, s, z4, z5, z6⟩ | z
    · exact .inl z
    · exact .inr (.inl ⟨z1, z2, z3, s, by omega, z5, z6.c (hF _ (by omega) (by omega) (by omega)) (hF _ (by omega) (by omega) (by omega)) (hs s z4.1)⟩)
    · exact .inr (.inr z)
  · rw [e3, e1, hR 2424 (by omega) (by omega)]; exact a13 k hk
/-- what is kept -/
def KP (F t nr : Nat) (ru : Nat → Nat × Nat × Nat) (f h rs lo hi : Nat) (C0 R0 : jM) (w0 p0 : Nat) (C R : jM) (w p : Nat) : Prop :=
  Fr (pW F) C0 C ∧ Fr qW R0 R ∧ (∀ i, i + 1 < f → jAI C 812 i = jAI C0 812 i ∧ jAI C 813 i = jAI C0 813 i ∧ jAI C 814 i = jAI C0 814 i ∧ jAI C 815 i = jAI C0 815 i) ∧ (∀ i, i < h → sP C0 C (818 + 2 * i) ∧ sP C0 C (819 + 2 * i)) ∧ (∀ s, s < p0 → sS R0 R s) ∧ (p0 ≤ p ∧ w0 ≤ w) ∧
  (∀ q, (rs ≤ q ∧ q < lo) ∨ hi ≤ q → jAL C 816 q = jAL C0 816 q ∧ jAL R 2425 (301 * t + q) = jAL R0 2425 (301 * t + q)) ∧ ∀ r, (r < nr ∧ (ru r).2.2 ≤ rs) ∨ jAI C (F + 1) r = jAI C0 (F + 1) r
theorem sP.trans {S S1 S2 : jM} {a : Nat} (h : sP S S1 a) (k : sP S1 S2 a) : sP S S2 a := ⟨fun f => (k.1 f).trans (h.1 f), fun f => (k.2.1 f).trans (h.2.1 f), k.2.2.1.trans h.2.2.1, k.2.2.2.trans h.2.2.2⟩
theorem sP.refl {S : jM} {a : Nat} : sP S S a := ⟨fun _ => rfl, fun _ => rfl, rfl, rfl⟩
theorem sS.trans {R R1 R2 : jM} {s : Nat} (h : sS R R1 s) (k : sS R1 R2 s) : sS R R2 s := ⟨k.1.trans h.1, k.2.1.trans h.2.1, fun j hj => ⟨(k.2.2 j hj).1.trans (h.2.2 j hj).1, (k.2.2 j hj).2.trans (h.2.2 j hj).2⟩⟩
theorem sS.refl {R : jM} {s : Nat} : sS R R s := ⟨rfl, rfl, fun _ _ => ⟨rfl, rfl⟩⟩
theorem KP.refl {F t nr : Nat} {ru : Nat → Nat × Nat × Nat} {f h rs lo hi : Nat} {C R : jM} {w p : Nat} : KP F t nr ru f h rs lo hi C R w p C R w p := ⟨Fr.refl, Fr.refl, fun _ _ => ⟨rfl, rfl, rfl, rfl⟩, fun _ _ => ⟨sP.refl, sP.refl⟩, fun _ _ => sS.refl, ⟨Nat.le_refl _, Nat.le_refl _⟩, fun _ _ => ⟨rfl, rfl⟩, fun _ => .inr rfl⟩
/-- behind it more happens, that keeps as much, or more -/
theorem KP.trans {F t nr : Nat} {ru : Nat → Nat × Nat × Nat} {f h rs lo hi f' h' lo' hi' rs' : Nat} {C0 R0 C1 R1 C2 R2 : jM} {w0 p0 w1 p1 w2 p2 : Nat} (a : KP F t nr ru f h rs lo hi C0 R0 w0 p0 C1 R1 w1 p1) (b : KP F t nr ru f' h' rs' lo' hi' C1 R1 w1 p1 C2 R2 w2 p2) (hf : f ≤ f') (hh : h ≤ h') (hq : ∀ q, (rs ≤ q ∧ q < lo) ∨ hi ≤ q → (rs' ≤ q ∧ q < lo') ∨ hi' ≤ q) (hr : rs' ≤ rs) : KP F t nr ru f h rs lo hi C0 R0 w0 p0 C2 R2 w2 p2 := by
  obtain ⟨a1, a2, a3, a4, a5, a6, a7, a8⟩ := a
  obtain ⟨b1, b2, b3, b4, b5, b6, b7, b8⟩ := b
  refine ⟨a1.trans b1, a2.trans b2, fun i hi => ?_, fun i hi => ?_, fun s hs => (a5 s hs).trans (b5 s (by omega)), by omega, fun q hq' => ?_, fun r => ?_⟩
  · obtain ⟨x1, x2, x3, x4⟩ := a3 i hi
    obtain ⟨y1, y2, y3, y4⟩ := b3 i (by omega)
    exact ⟨y1.trans x1, y2.trans x2, y3.trans x3, y4.trans x4⟩
  · exact ⟨(a4 i hi).1.trans (b4 i (by omega)).1, (a4 i hi).2.trans (b4 i (by omega)).2⟩
  · obtain ⟨x1, x2⟩ := a7 q hq'
    obtain ⟨y1, y2⟩ := b7 q (hq q hq')
    exact ⟨y1.trans x1, y2.trans x2⟩
  · rcases a8 r with x | x
    · exact .inl x
    · rcases b8 r with y | y
      · exact .inl ⟨y.1, by omega⟩
      · exact .inr (y.trans x)
def OKS (F : Nat) (C R : jM) : Prop := jI C 7 F = 0 ∧ jI C 8 F = -1 ∧ jI R 126 2398 = 0 ∧ jI R 127 2398 = -1
/-- the innermost frame -/
def TOP (f k st h r : Nat) (C : jM) : Prop := jI C 60 811 = nI f ∧ (0 < f ∧ f ≤ 300) ∧ jAI C 812 (f - 1) = nI k ∧ jAI C 813 (f - 1) = nI st ∧ jAI C 814 (f - 1) = nI h ∧ jAI C 815 (f - 1) = nI r
noncomputable def stp (F : Nat) (S : jM) : Option jM := if jR S 64 811 = some F then (if jI S 7 F = 0 then f_X10_turn 811 S else f_X10_leaveFailed 811 S) else none
noncomputable def it (F : Nat) : Nat → jM → Option jM
  | 0, S => some S
  | n + 1, S => if 0 < (jI S 60 811).toInt then (stp F S).bind (it F n) else none
theorem it_add {F : Nat} : ∀ (a b : Nat) (S : jM), it F (a + b) S = (it F a S).bind (it F b)
  | 0, b, S => by rw [Nat.zero_add]; rfl
  | a + 1, b, S => by
    rw [show a + 1 + b = (a + b) + 1 by omega]
    unfold it
    by_cases c : 0 < (jI S 60 811).toInt
    · rw [if_pos c, if_pos c]
      cases hs : stp F S with
      | none => rfl
      | some S' => exact it_add a b S'
    · rw [if_neg c, if_neg c]; rfl
theorem it_1 {F : Nat} {j : Nat} {S S1 S2 : jM} (h : it F j S = some S1) (h2 : 0 < (jI S1 60 811).toInt) (h3 : stp F S1 = some S2) : it F (j + 1) S = some S2 := by
  rw [it_add, h]
  show it F 1 S1 = _
  unfold it
  rw [if_pos h2, h3]
  rfl
theorem it_j {F : Nat} {j i : Nat} {S S1 S2 : jM} (h : it F j S = some S1) (h2 : it F i S1 = some S2) : it F (j + i) S = some S2 := by
  rw [it_add, h]; exact h2
