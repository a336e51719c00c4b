/-! PURE: the parser: what is told of its state -/
theorem tOK_m {ki ki' : Nat → Int32} {co co' : Nat → Int64} {inn inn' : Nat → Int32} {ru ru' : Nat → Nat × Nat × Nat} {nr nr' rs : Nat} (hnr : nr ≤ nr') (hru : ∀ r, r < nr → ru' r = ru r) : ∀ (d : Nat) (act act' : Nat → Prop) (lo hi k d' lo' hi' : Nat), tOK ki co inn ru nr rs d act lo hi k → d ≤ d' → (∀ q, act q → act' q) → lo' ≤ lo → hi ≤ hi' → (∀ k, lo ≤ k → k < hi → ki' k = ki k ∧ co' k = co k ∧ ∀ j, j < 3 → inn' (3 * k + j) = inn (3 * k + j)) → tOK ki' co' inn' ru' nr' rs d' act' lo' hi' k := by
  intro d
  induction d with
  | zero => intro act act' lo hi k d' lo' hi' h; exact absurd h (fun z => z)
  | succ d ih =>
    intro act act' lo hi k d' lo' hi' h hd hact hlo hhi hag
    obtain ⟨d', rfl⟩ : ∃ x, d' = x + 1 := ⟨d' - 1, by omega⟩
    obtain ⟨h1, h2, h3, h4, h5, h6⟩ := h
    obtain ⟨a1, a2, a3⟩ := hag k h1 h2
    unfold tOK
    rw [a1, a2]
    refine ⟨by omega, by omega, h3, fun j hj => ?_, fun z => ?_, fun z => ?_⟩
    · obtain ⟨i, i1, i2⟩ := h4 j hj
      have hj3 : j < 3 := by
        unfold tar at hj
        repeat' split at hj
        all_goals omega
      refine ⟨i, by rw [a3 j hj3]; exact i1, ?_⟩
      by_cases c : ki k = 146
      · rw [if_pos c] at i2 ⊢
        by_cases c2 : j = 2
        · rw [if_pos c2] at i2 ⊢
          exact ih _ _ _ _ _ _ _ _ i2 (by omega) (fun q hq => hq.elim (fun z => .inl (hact q z)) .inr) (Nat.le_refl _) hhi (fun k' y1 y2 => hag k' (by omega) y2)
        · rw [if_neg c2] at i2 ⊢
          exact ih _ _ _ _ _ _ _ _ i2 (by omega) hact (Nat.le_refl _) hhi (fun k' y1 y2 => hag k' (by omega) y2)
      · rw [if_neg c] at i2 ⊢
        exact ih _ _ _ _ _ _ _ _ i2 (by omega) hact hlo hhi hag
    · obtain ⟨q, q1, q2⟩ := h5 z
      exact ⟨q, q1, hact q q2⟩
    · obtain ⟨r, r1, r2, r3, r4⟩ := h6 z
      refine ⟨r, r1, by omega, ?_, ?_⟩
      · rw [hru r r2]; omega
      · rw [hru r r2]; omega
/-- what holds all the while -/
def PT (B : Nat → Int32) (e N T t : Nat) (C R : jM) : Prop := Lay C ∧ Lay R ∧ jK T = 6 ∧ t < 33 ∧ e ≤ 1600 ∧ jR C 25 607 = some T ∧ jI C 38 608 = nI e ∧ cB C = B ∧ Toks B e N R ∧ jI R 113 2398 = nI t
/-- how far it is -/
def PS (B : Nat → Int32) (e N T t : Nat) (A : Nat → Prop) (np nr cn : Nat) (fl : Int32) (C R : jM) : Prop :=
  PT B e N T t C R ∧ np ≤ 300 ∧ nr ≤ 24 ∧ cn ≤ 20 ∧ jI C 45 T = nI np ∧ jI C 49 T = nI nr ∧ jAI R 2415 t = nI nr ∧ jI C 30 607 = nI cn ∧ jI R 117 2398 = nI cn ∧
  (∀ r, r < nr → jAL C (T + 4) r = jAL R 2416 (24 * t + r)) ∧ (∀ i, i < cn → jAL C 616 i = jAL R 2418 i ∧ ∃ s, A s ∧ s < 300 ∧ jAI C 617 i = nI s ∧ jAI R 2419 i = nI (301 * t + s)) ∧
  jI C 26 607 = fl ∧ jI R 101 2398 = fl ∧ (0 ≤ fl.toInt ∧ fl.toInt ≤ 4) ∧ (fl ≠ 0 → jI C 27 607 = jI R 102 2398) ∧
  ∃ q, q < N ∧ jI R 100 2398 = nI q ∧ (fl = 0 → tokAt B e (tps B e q) C ∧ jAI R 2414 t = nI np ∧ jI R 114 2398 = nI np)
def pPC (T t f a : Nat) : Prop := (t = 0 ∧ (((f = 26 ∨ f = 27 ∨ f = 30) ∧ a = 607) ∨ ((f = 39 ∨ f = 40 ∨ f = 41 ∨ f = 43) ∧ a = 608) ∨ (f = 45 ∧ a = T))) ∨ (t = 1 ∧ f = 42 ∧ a = 608) ∨ (t = 3 ∧ (a = T + 1 ∨ a = T + 2 ∨ a = T + 3 ∨ a = 616 ∨ a = 617))
def pPR (t f a : Nat) : Prop := (t = 0 ∧ (f = 100 ∨ f = 101 ∨ f = 102 ∨ f = 114 ∨ f = 117) ∧ a = 2398) ∨ (t = 3 ∧ ((2408 ≤ a ∧ a ≤ 2414) ∨ a = 2418 ∨ a = 2419))
/-- older parts are as they were -/
def oC (T np : Nat) (C C' : jM) : Prop := ∀ k, k < np → jAI C' (T + 1) k = jAI C (T + 1) k ∧ jAL C' (T + 2) k = jAL C (T + 2) k ∧ ∀ j, j < 3 → jAI C' (T + 3) (3 * k + j) = jAI C (T + 3) (3 * k + j)
def oR (t np : Nat) (R R' : jM) : Prop := (∀ z, ¬ (301 * t + np ≤ z ∧ z < 301 * t + 300) → jAI R' 2408 z = jAI R 2408 z ∧ jAI R' 2409 z = jAI R 2409 z ∧ jAI R' 2410 z = jAI R 2410 z ∧ jAI R' 2411 z = jAI R 2411 z ∧ jAL R' 2412 z = jAL R 2412 z ∧ jAI R' 2413 z = jAI R 2413 z) ∧ ∀ s, s ≠ t → jAI R' 2414 s = jAI R 2414 s
def oN (cn : Nat) (C C' R R' : jM) : Prop := ∀ i, i < cn → jAL C' 616 i = jAL C 616 i ∧ jAI C' 617 i = jAI C 617 i ∧ jAL R' 2418 i = jAL R 2418 i ∧ jAI R' 2419 i = jAI R 2419 i
def St (T t np cn : Nat) (C R C' R' : jM) : Prop := Fr (pPC T) C C' ∧ Fr pPR R R' ∧ oC T np C C' ∧ oR t np R R' ∧ oN cn C C' R R'
theorem oC.refl {T np : Nat} {C : jM} : oC T np C C := fun _ _ => ⟨rfl, rfl, fun _ _ => rfl⟩
theorem oR.refl {t np : Nat} {R : jM} : oR t np R R := ⟨fun _ _ => ⟨rfl, rfl, rfl, rfl, rfl, rfl⟩, fun _ _ => rfl⟩
theorem oN.refl {cn : Nat} {C R : jM} : oN cn C C R R := fun _ _ => ⟨rfl, rfl, rfl, rfl⟩
theorem St.refl {T t np cn : Nat} {C R : jM} : St T t np cn C R C R := ⟨Fr.refl, Fr.refl, oC.refl, oR.refl, oN.refl⟩
theorem oC.trans {T a b : Nat} {C C1 C2 : jM} (h : oC T a C C1) (k : oC T b C1 C2) (hab : a ≤ b) : oC T a C C2 := fun i hi => by
  obtain ⟨x1, x2, x3⟩ := h i hi
  obtain ⟨y1, y2, y3⟩ := k i (by omega)
  exact ⟨y1.trans x1, y2.trans x2, fun j hj => (y3 j hj).trans (x3 j hj)⟩
theorem oR.trans {t a b : Nat} {R R1 R2 : jM} (h : oR t a R R1) (k : oR t b R1 R2) (hab : a ≤ b) : oR t a R R2 := ⟨fun z hz => by
  obtain ⟨x1, x2, x3, x4, x5, x6⟩ := h.1 z hz
  obtain ⟨y1, y2, y3, y4, y5, y6⟩ := k.1 z (by omega)
  exact ⟨y1.trans x1, y2.trans x2, y3.trans x3, y4.trans x4, y5.trans x5, y6.trans x6⟩, fun s hs => (k.2 s hs).trans (h.2 s hs)⟩
theorem oN.trans {a b : Nat} {C C1 C2 R R1 R2 : jM} (h : oN a C C1 R R1) (k : oN b C1 C2 R1 R2) (hab : a ≤ b) : oN a C C2 R R2 := fun i hi => by
  obtain ⟨x1, x2, x3, x4⟩ := h i hi
  obtain ⟨y1, y2, y3, y4⟩ := k i (by omega)
  exact ⟨y1.trans x1, y2.trans x2, y3.trans x3, y4.trans x4⟩
theorem St.trans {T t a b cn cm : Nat} {C R C1 R1 C2 R2 : jM} (h : St T t a cn C R C1 R1) (k : St T t b cm C1 R1 C2 R2) (hab : a ≤ b) (hc : cn ≤ cm) : St T t a cn C R C2 R2 :=
  ⟨h.1.trans k.1, h.2.1.trans k.2.1, h.2.2.1.trans k.2.2.1 hab, h.2.2.2.1.trans k.2.2.2.1 hab, h.2.2.2.2.trans k.2.2.2.2 hc⟩
/-- finished parts -/
def Fin' (T t lo hi : Nat) (C R : jM) : Prop := ∀ k, lo ≤ k → k < hi → rK C T R t k
theorem rK.o {T t np k : Nat} {C C' R R' : jM} (h : rK C T R t k) (hC : oC T np C C') (hR : oR t np R R') (hk : k < np) : rK C' T R' t k := by
  obtain ⟨x1, x2, x3⟩ := hC k hk
  obtain ⟨y1, y2, y3, y4, y5, y6⟩ := hR.1 (301 * t + k) (by omega)
  have z0 : jAI C' (T + 3) (3 * k) = jAI C (T + 3) (3 * k) := x3 0 (by omega)
  unfold rK at *
  rw [x1, x2, y1, y2, y3, y4, y5, y6, z0, x3 1 (by omega), x3 2 (by omega)]
  exact h
theorem Fin'.o {T t lo hi np cn : Nat} {C C' R R' : jM} (h : Fin' T t lo hi C R) (hS : St T t np cn C R C' R') (hh : hi ≤ np) : Fin' T t lo hi C' R' := fun k h1 h2 => (h k h1 h2).o hS.2.2.1 hS.2.2.2.1 (by omega)
/-- the parse of one thing is as it should be -/
def tT (C : jM) (T : Nat) (ru : Nat → Nat × Nat × Nat) (nr rs d : Nat) (A : Nat → Prop) (lo hi k : Nat) : Prop := tOK (jAI C (T + 1)) (jAL C (T + 2)) (jAI C (T + 3)) ru nr rs d A lo hi k
theorem tT.o {C C' : jM} {T : Nat} {ru : Nat → Nat × Nat × Nat} {nr rs d d' np : Nat} {A : Nat → Prop} {lo hi k lo' hi' : Nat} (h : tT C T ru nr rs d A lo hi k) (hC : oC T np C C') (hh : hi ≤ np) (hd : d ≤ d') (hlo : lo' ≤ lo) (hhi : hi ≤ hi') : tT C' T ru nr rs d' A lo' hi' k :=
  tOK_m (Nat.le_refl _) (fun _ _ => rfl) d A A lo hi k d' lo' hi' h hd (fun _ z => z) hlo hhi (fun k h1 h2 => hC k (by omega))
/-- the two parsers, call by call -/
def LK (B : Nat → Int32) (e N T t : Nat) (ru : Nat → Nat × Nat × Nat) (rs nr : Nat) (fC fR : jM → Option (Int32 × jM)) (k : Nat) : Prop :=
  ∀ (A : Nat → Prop) (np cn : Nat) (fl : Int32) (C R : jM), rs ≤ np → cn ≤ k → PS B e N T t A np nr cn fl C R → ∃ x y C' R' np' fl', fC C = some (x, C') ∧ fR R = some (y, R') ∧ np ≤ np' ∧ PS B e N T t A np' nr cn fl' C' R' ∧ St T t np cn C R C' R' ∧
    (fl' = 0 → fl = 0 ∧ ∃ i, x = nI i ∧ y = nI (301 * t + i) ∧ np < np' ∧ Fin' T t np np' C' R' ∧ tT C' T ru nr rs (np' - np + rs) A np np' i)

theorem Toks.f {B : Nat → Int32} {e N : Nat} {R R' : jM} (h : Toks B e N R) (h1 : jAI R' 2404 = jAI R 2404) (h2 : jAI R' 2405 = jAI R 2405) (h3 : jAL R' 2406 = jAL R 2406) (h4 : jAI R' 2407 = jAI R 2407) : Toks B e N R' := by
  unfold Toks entQ at *
  rw [h1, h2, h3, h4]
  exact h
theorem PT.f {B : Nat → Int32} {e N T t : Nat} {C R C' R' : jM} (h : PT B e N T t C R) (hC : Fr (pPC T) C C') (hR : Fr pPR R R') : PT B e N T t C' R' := by
  obtain ⟨h1, h2, h3, h4, h5, h6, h7, h8, h9, h10⟩ := h
  have kt := kd_text h3
  have n1 : T + 1 ≠ 609 := fun z => by rw [z, k_609] at kt; omega
  have n2 : T + 2 ≠ 609 := fun z => by rw [z, k_609] at kt; omega
  have n3 : T + 3 ≠ 609 := fun z => by rw [z, k_609] at kt; omega
  refine ⟨h1.fr hC (fun f a z => by unfold pPC at z; omega) (fun a z => ?_), h2.fr hR (fun f a z => by unfold pPR at z; omega) (fun a z => ?_), h3, h4, h5, ?_, ?_, ?_, h9.f ?_ ?_ ?_ ?_, ?_⟩
  · unfold pPC at z
    have : a = T + 1 ∨ a = T + 2 ∨ a = T + 3 ∨ a = 616 ∨ a = 617 := by omega
    rcases this with y | y | y | y | y
    · rw [y]; omega
    · rw [y]; omega
    · rw [y]; omega
    · rw [y, k_616]; omega
    · rw [y, k_617]; omega
  · have := k16r a; unfold pPR at z; omega
  · rw [hC.r (by unfold pPC; omega)]; exact h6
  · rw [hC.i (by unfold pPC; omega)]; exact h7
  · rw [← h8]; funext j; unfold cB; rw [hC.ai (by unfold pPC; omega)]
  · exact hR.ai (by unfold pPR; omega)
  · exact hR.ai (by unfold pPR; omega)
  · exact hR.al (by unfold pPR; omega)
  · exact hR.ai (by unfold pPR; omega)
  · rw [hR.i (by unfold pPR; omega)]; exact h10
theorem pTk_PC {T t f a : Nat} (h : pTk t f a) : pPC T t f a := by unfold pTk at h; unfold pPC; omega
/-- what is known of the token at hand -/
theorem PS.tk {B : Nat → Int32} {e N T t : Nat} {A : Nat → Prop} {np nr cn : Nat} {C R : jM} (h : PS B e N T t A np nr cn 0 C R) : ∃ q, q < N ∧ q < 1602 ∧ jI R 100 2398 = nI q ∧ tokAt B e (tps B e q) C ∧ entQ B e (tps B e q) q R ∧ jAI R 2405 q = nI (tps B e q) ∧ (tkv B e (tps B e q)).1 ∈ tks ∧ tps B e q ≤ e ∧ ((tkv B e (tps B e q)).1 ≠ 0 → (tkv B e (tps B e q)).1 ≠ 1 → q + 1 < N) ∧ jAI R 2414 t = nI np ∧ jI R 114 2398 = nI np := by
  obtain ⟨hT, -, -, -, -, -, -, -, -, -, -, -, -, -, -, q, q1, q2, q3⟩ := h
  obtain ⟨-, -, -, -, -, -, -, -, ⟨t1, t2, t3, t4, t5⟩, -⟩ := hT
  obtain ⟨q4, q5, q6⟩ := q3 rfl
  obtain ⟨e1, e2⟩ := t3 q q1
  refine ⟨q, q1, by omega, q2, q4, e1, e2, tkv_in _ _ _, tps_le _ _ _ (fun z hz => (t4 z (by omega)).1), fun k0 k1 => ?_, q5, q6⟩
  refine Nat.lt_of_not_le (fun z => ?_)
  rcases t5 q (by omega) with w | w
  · exact k0 w
  · exact k1 w
/-- the class goes on to the next token -/
theorem PS.adv {B : Nat → Int32} {e N T t : Nat} {A : Nat → Prop} {np nr cn : Nat} {C R : jM} (h : PS B e N T t A np nr cn 0 C R) {q : Nat} (hq : jI R 100 2398 = nI q) (hq2 : q < 1602) (k0 : (tkv B e (tps B e q)).1 ≠ 0) (k1 : (tkv B e (tps B e q)).1 ≠ 1) : ∃ C', f_X7_next_0 1100000 608 C = some C' ∧ Fr pTk C C' ∧ PS B e N T t A np nr cn 0 C' (jsI R 100 2398 (nI (q + 1))) := by
  obtain ⟨q', p1, p2, p3, p4, p5, p6, p7, p8, p9, p10, p11⟩ := h.tk
  have hqq : q' = q := by
    have z := p3.symm.trans hq
    rw [i_eq, nI_toInt (by omega), nI_toInt (by omega)] at z
    omega
  subst hqq
  obtain ⟨hT, a1, a2, a3, a4, a5, a6, a7, a8, a9, a10, a11, a12, a13, a14, -⟩ := h
  obtain ⟨C', n1, n2, n3⟩ := nxt_ok (B := B) (S := C) ⟨hT.1, hT.2.2.2.2.2.2.1, hT.2.2.2.2.1⟩ hT.2.2.2.2.2.2.2.1 p4 k0 p8
  have kt := kd_text hT.2.2.1
  have n608 : T ≠ 608 := fun z => by have := hT.2.2.1; rw [z, k_608] at this; omega
  refine ⟨C', n1, n2, hT.f (n2.mono (fun _ _ _ => pTk_PC)) ((Fr.refl).sI (by unfold pPR; omega)), a1, a2, a3, ?_, ?_, ?_, ?_, ?_, ?_, ?_, ?_, ?_, a13, fun z => absurd rfl z, q' + 1, p9 k0 k1, by simp only [m_I_sI, m_L_sI, m_R_sI, m_AI_sI, m_AL_sI, m_AD_sI, m_AR_sI, m_n_sI, m_I_sL, m_L_sL, m_R_sL, m_AI_sL, m_AL_sL, m_AD_sL, m_AR_sL, m_n_sL, m_I_sR, m_L_sR, m_R_sR, m_AI_sR, m_AL_sR, m_AD_sR, m_AR_sR, m_n_sR, m_I_rI, m_L_rI, m_R_rI, m_AI_rI, m_AL_rI, m_AD_rI, m_AR_rI, m_n_rI, m_I_rL, m_L_rL, m_R_rL, m_AI_rL, m_AL_rL, m_AD_rL, m_AR_rL, m_n_rL, m_I_rD, m_L_rD, m_R_rD, m_AI_rD, m_AL_rD, m_AD_rD, m_AR_rD, m_n_rD, m_I_rR, m_L_rR, m_R_rR, m_AI_rR, m_AL_rR, m_AD_rR, m_AR_rR, m_n_rR, true_and, and_true, and_false, false_and, and_self, if_true, if_false, ite_self, Nat.reduceEqDiff, reduceIte, obt, jlt, jbt, jbd_ite, bind_ite], fun _ => ⟨n3, ?_, ?_⟩⟩
  · rw [n2.i (by unfold pTk; omega)]; exact a4
  · rw [n2.i (by unfold pTk; omega)]; exact a5
  · simp only [m_I_sI, m_L_sI, m_R_sI, m_AI_sI, m_AL_sI, m_AD_sI, m_AR_sI, m_n_sI, m_I_sL, m_L_sL, m_R_sL, m_AI_sL, m_AL_sL, m_AD_sL, m_AR_sL, m_n_sL, m_I_sR, m_L_sR, m_R_sR, m_AI_sR, m_AL_sR, m_AD_sR, m_AR_sR, m_n_sR, m_I_rI, m_L_rI, m_R_rI, m_AI_rI, m_AL_rI, m_AD_rI, m_AR_rI, m_n_rI, m_I_rL, m_L_rL, m_R_rL, m_AI_rL, m_AL_rL, m_AD_rL, m_AR_rL, m_n_rL, m_I_rD, m_L_rD, m_R_rD, m_AI_rD, m_AL_rD, m_AD_rD, m_AR_rD, m_n_rD, m_I_rR, m_L_rR, m_R_rR, m_AI_rR, m_AL_rR, m_AD_rR, m_AR_rR, m_n_rR]; exact a6
  · rw [n2.i (by unfold pTk; omega)]; exact a7
  · simp only [m_I_sI, m_L_sI, m_R_sI, m_AI_sI, m_AL_sI, m_AD_sI, m_AR_sI, m_n_sI, m_I_sL, m_L_sL, m_R_sL, m_AI_sL, m_AL_sL, m_AD_sL, m_AR_sL, m_n_sL, m_I_sR, m_L_sR, m_R_sR, m_AI_sR, m_AL_sR, m_AD_sR, m_AR_sR, m_n_sR, m_I_rI, m_L_rI, m_R_rI, m_AI_rI, m_AL_rI, m_AD_rI, m_AR_rI, m_n_rI, m_I_rL, m_L_rL, m_R_rL, m_AI_rL, m_AL_rL, m_AD_rL, m_AR_rL, m_n_rL, m_I_rD, m_L_rD, m_R_rD, m_AI_rD, m_AL_rD, m_AD_rD, m_AR_rD, m_n_rD, m_I_rR, m_L_rR, m_R_rR, m_AI_rR, m_AL_rR, m_AD_rR, m_AR_rR, m_n_rR, true_and, and_true, and_false, false_and, and_self, if_true, if_false, ite_self, Nat.reduceEqDiff, reduceIte, obt, jlt, jbt, jbd_ite, bind_ite]; exact a8
  · rw [n2.al (by unfold pTk; omega)]; simp only [m_I_sI, m_L_sI, m_R_sI, m_AI_sI, m_AL_sI, m_AD_sI, m_AR_sI, m_n_sI, m_I_sL, m_L_sL, m_R_sL, m_AI_sL, m_AL_sL, m_AD_sL, m_AR_sL, m_n_sL, m_I_sR, m_L_sR, m_R_sR, m_AI_sR, m_AL_sR, m_AD_sR, m_AR_sR, m_n_sR, m_I_rI, m_L_rI, m_R_rI, m_AI_rI, m_AL_rI, m_AD_rI, m_AR_rI, m_n_rI, m_I_rL, m_L_rL, m_R_rL, m_AI_rL, m_AL_rL, m_AD_rL, m_AR_rL, m_n_rL, m_I_rD, m_L_rD, m_R_rD, m_AI_rD, m_AL_rD, m_AD_rD, m_AR_rD, m_n_rD, m_I_rR, m_L_rR, m_R_rR, m_AI_rR, m_AL_rR, m_AD_rR, m_AR_rR, m_n_rR]; exact a9
  · rw [n2.al (by unfold pTk; omega), n2.ai (by unfold pTk; omega)]; simp only [m_I_sI, m_L_sI, m_R_sI, m_AI_sI, m_AL_sI, m_AD_sI, m_AR_sI, m_n_sI, m_I_sL, m_L_sL, m_R_sL, m_AI_sL, m_AL_sL, m_AD_sL, m_AR_sL, m_n_sL, m_I_sR, m_L_sR, m_R_sR, m_AI_sR, m_AL_sR, m_AD_sR, m_AR_sR, m_n_sR, m_I_rI, m_L_rI, m_R_rI, m_AI_rI, m_AL_rI, m_AD_rI, m_AR_rI, m_n_rI, m_I_rL, m_L_rL, m_R_rL, m_AI_rL, m_AL_rL, m_AD_rL, m_AR_rL, m_n_rL, m_I_rD, m_L_rD, m_R_rD, m_AI_rD, m_AL_rD, m_AD_rD, m_AR_rD, m_n_rD, m_I_rR, m_L_rR, m_R_rR, m_AI_rR, m_AL_rR, m_AD_rR, m_AR_rR, m_n_rR]; exact a10
  · rw [n2.i (by unfold pTk; omega)]; exact a11
  · simp only [m_I_sI, m_L_sI, m_R_sI, m_AI_sI, m_AL_sI, m_AD_sI, m_AR_sI, m_n_sI, m_I_sL, m_L_sL, m_R_sL, m_AI_sL, m_AL_sL, m_AD_sL, m_AR_sL, m_n_sL, m_I_sR, m_L_sR, m_R_sR, m_AI_sR, m_AL_sR, m_AD_sR, m_AR_sR, m_n_sR, m_I_rI, m_L_rI, m_R_rI, m_AI_rI, m_AL_rI, m_AD_rI, m_AR_rI, m_n_rI, m_I_rL, m_L_rL, m_R_rL, m_AI_rL, m_AL_rL, m_AD_rL, m_AR_rL, m_n_rL, m_I_rD, m_L_rD, m_R_rD, m_AI_rD, m_AL_rD, m_AD_rD, m_AR_rD, m_n_rD, m_I_rR, m_L_rR, m_R_rR, m_AI_rR, m_AL_rR, m_AD_rR, m_AR_rR, m_n_rR, true_and, and_true, and_false, false_and, and_self, if_true, if_false, ite_self, Nat.reduceEqDiff, reduceIte, obt, jlt, jbt, jbd_ite, bind_ite]; exact a12
  · simp only [m_I_sI, m_L_sI, m_R_sI, m_AI_sI, m_AL_sI, m_AD_sI, m_AR_sI, m_n_sI, m_I_sL, m_L_sL, m_R_sL, m_AI_sL, m_AL_sL, m_AD_sL, m_AR_sL, m_n_sL, m_I_sR, m_L_sR, m_R_sR, m_AI_sR, m_AL_sR, m_AD_sR, m_AR_sR, m_n_sR, m_I_rI, m_L_rI, m_R_rI, m_AI_rI, m_AL_rI, m_AD_rI, m_AR_rI, m_n_rI, m_I_rL, m_L_rL, m_R_rL, m_AI_rL, m_AL_rL, m_AD_rL, m_AR_rL, m_n_rL, m_I_rD, m_L_rD, m_R_rD, m_AI_rD, m_AL_rD, m_AD_rD, m_AR_rD, m_n_rD, m_I_rR, m_L_rR, m_R_rR, m_AI_rR, m_AL_rR, m_AD_rR, m_AR_rR, m_n_rR]; exact p10
  · simp only [m_I_sI, m_L_sI, m_R_sI, m_AI_sI, m_AL_sI, m_AD_sI, m_AR_sI, m_n_sI, m_I_sL, m_L_sL, m_R_sL, m_AI_sL, m_AL_sL, m_AD_sL, m_AR_sL, m_n_sL, m_I_sR, m_L_sR, m_R_sR, m_AI_sR, m_AL_sR, m_AD_sR, m_AR_sR, m_n_sR, m_I_rI, m_L_rI, m_R_rI, m_AI_rI, m_AL_rI, m_AD_rI, m_AR_rI, m_n_rI, m_I_rL, m_L_rL, m_R_rL, m_AI_rL, m_AL_rL, m_AD_rL, m_AR_rL, m_n_rL, m_I_rD, m_L_rD, m_R_rD, m_AI_rD, m_AL_rD, m_AD_rD, m_AR_rD, m_n_rD, m_I_rR, m_L_rR, m_R_rR, m_AI_rR, m_AL_rR, m_AD_rR, m_AR_rR, m_n_rR, true_and, and_true, and_false, false_and, and_self, if_true, if_false, ite_self, Nat.reduceEqDiff, reduceIte, obt, jlt, jbt, jbd_ite, bind_ite]; exact p11
/-- a fault is told -/
theorem PS.flt {B : Nat → Int32} {e N T t : Nat} {A : Nat → Prop} {np nr cn : Nat} {C R : jM} (h : PS B e N T t A np nr cn 0 C R) {c v : Int32} (hc : 1 ≤ c.toInt ∧ c.toInt ≤ 4) : PS B e N T t A np nr cn c (jsI (jsI C 26 607 c) 27 607 v) (jsI (jsI R 101 2398 c) 102 2398 v) := by
  obtain ⟨hT, a1, a2, a3, a4, a5, a6, a7, a8, a9, a10, a11, a12, a13, a14, q, b1, b2, b3⟩ := h
  have n607 : T ≠ 607 := fun z => by have := hT.2.2.1; rw [z, show jK 607 = 3 from by decide +kernel] at this; omega
  refine ⟨hT.f (((Fr.refl).sI (by unfold pPC; omega)).sI (by unfold pPC; omega)) (((Fr.refl).sI (by unfold pPR; omega)).sI (by unfold pPR; omega)), a1, a2, a3, ?_, ?_, ?_, ?_, ?_, ?_, ?_, ?_, ?_, ⟨by omega, hc.2⟩, fun _ => ?_, q, b1, ?_, fun z => ?_⟩
  · simp only [m_I_sI, m_L_sI, m_R_sI, m_AI_sI, m_AL_sI, m_AD_sI, m_AR_sI, m_n_sI, m_I_sL, m_L_sL, m_R_sL, m_AI_sL, m_AL_sL, m_AD_sL, m_AR_sL, m_n_sL, m_I_sR, m_L_sR, m_R_sR, m_AI_sR, m_AL_sR, m_AD_sR, m_AR_sR, m_n_sR, m_I_rI, m_L_rI, m_R_rI, m_AI_rI, m_AL_rI, m_AD_rI, m_AR_rI, m_n_rI, m_I_rL, m_L_rL, m_R_rL, m_AI_rL, m_AL_rL, m_AD_rL, m_AR_rL, m_n_rL, m_I_rD, m_L_rD, m_R_rD, m_AI_rD, m_AL_rD, m_AD_rD, m_AR_rD, m_n_rD, m_I_rR, m_L_rR, m_R_rR, m_AI_rR, m_AL_rR, m_AD_rR, m_AR_rR, m_n_rR, true_and, and_true, and_false, false_and, and_self, if_true, if_false, ite_self, Nat.reduceEqDiff, reduceIte, obt, jlt, jbt, jbd_ite, bind_ite]; exact a4
  · simp only [m_I_sI, m_L_sI, m_R_sI, m_AI_sI, m_AL_sI, m_AD_sI, m_AR_sI, m_n_sI, m_I_sL, m_L_sL, m_R_sL, m_AI_sL, m_AL_sL, m_AD_sL, m_AR_sL, m_n_sL, m_I_sR, m_L_sR, m_R_sR, m_AI_sR, m_AL_sR, m_AD_sR, m_AR_sR, m_n_sR, m_I_rI, m_L_rI, m_R_rI, m_AI_rI, m_AL_rI, m_AD_rI, m_AR_rI, m_n_rI, m_I_rL, m_L_rL, m_R_rL, m_AI_rL, m_AL_rL, m_AD_rL, m_AR_rL, m_n_rL, m_I_rD, m_L_rD, m_R_rD, m_AI_rD, m_AL_rD, m_AD_rD, m_AR_rD, m_n_rD, m_I_rR, m_L_rR, m_R_rR, m_AI_rR, m_AL_rR, m_AD_rR, m_AR_rR, m_n_rR, true_and, and_true, and_false, false_and, and_self, if_true, if_false, ite_self, Nat.reduceEqDiff, reduceIte, obt, jlt, jbt, jbd_ite, bind_ite]; exact a5
  · simp only [m_I_sI, m_L_sI, m_R_sI, m_AI_sI, m_AL_sI, m_AD_sI, m_AR_sI, m_n_sI, m_I_sL, m_L_sL, m_R_sL, m_AI_sL, m_AL_sL, m_AD_sL, m_AR_sL, m_n_sL, m_I_sR, m_L_sR, m_R_sR, m_AI_sR, m_AL_sR, m_AD_sR, m_AR_sR, m_n_sR, m_I_rI, m_L_rI, m_R_rI, m_AI_rI, m_AL_rI, m_AD_rI, m_AR_rI, m_n_rI, m_I_rL, m_L_rL, m_R_rL, m_AI_rL, m_AL_rL, m_AD_rL, m_AR_rL, m_n_rL, m_I_rD, m_L_rD, m_R_rD, m_AI_rD, m_AL_rD, m_AD_rD, m_AR_rD, m_n_rD, m_I_rR, m_L_rR, m_R_rR, m_AI_rR, m_AL_rR, m_AD_rR, m_AR_rR, m_n_rR, true_and, and_true, and_false, false_and, and_self, if_true, if_false, ite_self, Nat.reduceEqDiff, reduceIte, obt, jlt, jbt, jbd_ite, bind_ite]; exact a6
  · simp only [m_I_sI, m_L_sI, m_R_sI, m_AI_sI, m_AL_sI, m_AD_sI, m_AR_sI, m_n_sI, m_I_sL, m_L_sL, m_R_sL, m_AI_sL, m_AL_sL, m_AD_sL, m_AR_sL, m_n_sL, m_I_sR, m_L_sR, m_R_sR, m_AI_sR, m_AL_sR, m_AD_sR, m_AR_sR, m_n_sR, m_I_rI, m_L_rI, m_R_rI, m_AI_rI, m_AL_rI, m_AD_rI, m_AR_rI, m_n_rI, m_I_rL, m_L_rL, m_R_rL, m_AI_rL, m_AL_rL, m_AD_rL, m_AR_rL, m_n_rL, m_I_rD, m_L_rD, m_R_rD, m_AI_rD, m_AL_rD, m_AD_rD, m_AR_rD, m_n_rD, m_I_rR, m_L_rR, m_R_rR, m_AI_rR, m_AL_rR, m_AD_rR, m_AR_rR, m_n_rR, true_and, and_true, and_false, false_and, and_self, if_true, if_false, ite_self, Nat.reduceEqDiff, reduceIte, obt, jlt, jbt, jbd_ite, bind_ite]; exact a7
  · simp only [m_I_sI, m_L_sI, m_R_sI, m_AI_sI, m_AL_sI, m_AD_sI, m_AR_sI, m_n_sI, m_I_sL, m_L_sL, m_R_sL, m_AI_sL, m_AL_sL, m_AD_sL, m_AR_sL, m_n_sL, m_I_sR, m_L_sR, m_R_sR, m_AI_sR, m_AL_sR, m_AD_sR, m_AR_sR, m_n_sR, m_I_rI, m_L_rI, m_R_rI, m_AI_rI, m_AL_rI, m_AD_rI, m_AR_rI, m_n_rI, m_I_rL, m_L_rL, m_R_rL, m_AI_rL, m_AL_rL, m_AD_rL, m_AR_rL, m_n_rL, m_I_rD, m_L_rD, m_R_rD, m_AI_rD, m_AL_rD, m_AD_rD, m_AR_rD, m_n_rD, m_I_rR, m_L_rR, m_R_rR, m_AI_rR, m_AL_rR, m_AD_rR, m_AR_rR, m_n_rR, true_and, and_true, and_false, false_and, and_self, if_true, if_false, ite_self, Nat.reduceEqDiff, reduceIte, obt, jlt, jbt, jbd_ite, bind_ite]; exact a8
  · simp only [m_I_sI, m_L_sI, m_R_sI, m_AI_sI, m_AL_sI, m_AD_sI, m_AR_sI, m_n_sI, m_I_sL, m_L_sL, m_R_sL, m_AI_sL, m_AL_sL, m_AD_sL, m_AR_sL, m_n_sL, m_I_sR, m_L_sR, m_R_sR, m_AI_sR, m_AL_sR, m_AD_sR, m_AR_sR, m_n_sR, m_I_rI, m_L_rI, m_R_rI, m_AI_rI, m_AL_rI, m_AD_rI, m_AR_rI, m_n_rI, m_I_rL, m_L_rL, m_R_rL, m_AI_rL, m_AL_rL, m_AD_rL, m_AR_rL, m_n_rL, m_I_rD, m_L_rD, m_R_rD, m_AI_rD, m_AL_rD, m_AD_rD, m_AR_rD, m_n_rD, m_I_rR, m_L_rR, m_R_rR, m_AI_rR, m_AL_rR, m_AD_rR, m_AR_rR, m_n_rR, true_and, and_true, and_false, false_and, and_self, if_true, if_false, ite_self, Nat.reduceEqDiff, reduceIte, obt, jlt, jbt, jbd_ite, bind_ite]; exact a9
  · simp only [m_I_sI, m_L_sI, m_R_sI, m_AI_sI, m_AL_sI, m_AD_sI, m_AR_sI, m_n_sI, m_I_sL, m_L_sL, m_R_sL, m_AI_sL, m_AL_sL, m_AD_sL, m_AR_sL, m_n_sL, m_I_sR, m_L_sR, m_R_sR, m_AI_sR, m_AL_sR, m_AD_sR, m_AR_sR, m_n_sR, m_I_rI, m_L_rI, m_R_rI, m_AI_rI, m_AL_rI, m_AD_rI, m_AR_rI, m_n_rI, m_I_rL, m_L_rL, m_R_rL, m_AI_rL, m_AL_rL, m_AD_rL, m_AR_rL, m_n_rL, m_I_rD, m_L_rD, m_R_rD, m_AI_rD, m_AL_rD, m_AD_rD, m_AR_rD, m_n_rD, m_I_rR, m_L_rR, m_R_rR, m_AI_rR, m_AL_rR, m_AD_rR, m_AR_rR, m_n_rR, true_and, and_true, and_false, false_and, and_self, if_true, if_false, ite_self, Nat.reduceEqDiff, reduceIte, obt, jlt, jbt, jbd_ite, bind_ite]; exact a10
  · simp only [m_I_sI, m_L_sI, m_R_sI, m_AI_sI, m_AL_sI, m_AD_sI, m_AR_sI, m_n_sI, m_I_sL, m_L_sL, m_R_sL, m_AI_sL, m_AL_sL, m_AD_sL, m_AR_sL, m_n_sL, m_I_sR, m_L_sR, m_R_sR, m_AI_sR, m_AL_sR, m_AD_sR, m_AR_sR, m_n_sR, m_I_rI, m_L_rI, m_R_rI, m_AI_rI, m_AL_rI, m_AD_rI, m_AR_rI, m_n_rI, m_I_rL, m_L_rL, m_R_rL, m_AI_rL, m_AL_rL, m_AD_rL, m_AR_rL, m_n_rL, m_I_rD, m_L_rD, m_R_rD, m_AI_rD, m_AL_rD, m_AD_rD, m_AR_rD, m_n_rD, m_I_rR, m_L_rR, m_R_rR, m_AI_rR, m_AL_rR, m_AD_rR, m_AR_rR, m_n_rR, true_and, and_true, and_false, false_and, and_self, if_true, if_false, ite_self, Nat.reduceEqDiff, reduceIte, obt, jlt, jbt, jbd_ite, bind_ite]
  · simp only [m_I_sI, m_L_sI, m_R_sI, m_AI_sI, m_AL_sI, m_AD_sI, m_AR_sI, m_n_sI, m_I_sL, m_L_sL, m_R_sL, m_AI_sL, m_AL_sL, m_AD_sL, m_AR_sL, m_n_sL, m_I_sR, m_L_sR, m_R_sR, m_AI_sR, m_AL_sR, m_AD_sR, m_AR_sR, m_n_sR, m_I_rI, m_L_rI, m_R_rI, m_AI_rI, m_AL_rI, m_AD_rI, m_AR_rI, m_n_rI, m_I_rL, m_L_rL, m_R_rL, m_AI_rL, m_AL_rL, m_AD_rL, m_AR_rL, m_n_rL, m_I_rD, m_L_rD, m_R_rD, m_AI_rD, m_AL_rD, m_AD_rD, m_AR_rD, m_n_rD, m_I_rR, m_L_rR, m_R_rR, m_AI_rR, m_AL_rR, m_AD_rR, m_AR_rR, m_n_rR, true_and, and_true, and_false, false_and, and_self, if_true, if_false, ite_self, Nat.reduceEqDiff, reduceIte, obt, jlt, jbt, jbd_ite, bind_ite]
  · simp only [m_I_sI, m_L_sI, m_R_sI, m_AI_sI, m_AL_sI, m_AD_sI, m_AR_sI, m_n_sI, m_I_sL, m_L_sL, m_R_sL, m_AI_sL, m_AL_sL, m_AD_sL, m_AR_sL, m_n_sL, m_I_sR, m_L_sR, m_R_sR, m_AI_sR, m_AL_sR, m_AD_sR, m_AR_sR, m_n_sR, m_I_rI, m_L_rI, m_R_rI, m_AI_rI, m_AL_rI, m_AD_rI, m_AR_rI, m_n_rI, m_I_rL, m_L_rL, m_R_rL, m_AI_rL, m_AL_rL, m_AD_rL, m_AR_rL, m_n_rL, m_I_rD, m_L_rD, m_R_rD, m_AI_rD, m_AL_rD, m_AD_rD, m_AR_rD, m_n_rD, m_I_rR, m_L_rR, m_R_rR, m_AI_rR, m_AL_rR, m_AD_rR, m_AR_rR, m_n_rR, true_and, and_true, and_false, false_and, and_self, if_true, if_false, ite_self, Nat.reduceEqDiff, reduceIte, obt, jlt, jbt, jbd_ite, bind_ite]
  · simp only [m_I_sI, m_L_sI, m_R_sI, m_AI_sI, m_AL_sI, m_AD_sI, m_AR_sI, m_n_sI, m_I_sL, m_L_sL, m_R_sL, m_AI_sL, m_AL_sL, m_AD_sL, m_AR_sL, m_n_sL, m_I_sR, m_L_sR, m_R_sR, m_AI_sR, m_AL_sR, m_AD_sR, m_AR_sR, m_n_sR, m_I_rI, m_L_rI, m_R_rI, m_AI_rI, m_AL_rI, m_AD_rI, m_AR_rI, m_n_rI, m_I_rL, m_L_rL, m_R_rL, m_AI_rL, m_AL_rL, m_AD_rL, m_AR_rL, m_n_rL, m_I_rD, m_L_rD, m_R_rD, m_AI_rD, m_AL_rD, m_AD_rD, m_AR_rD, m_n_rD, m_I_rR, m_L_rR, m_R_rR, m_AI_rR, m_AL_rR, m_AD_rR, m_AR_rR, m_n_rR, true_and, and_true, and_false, false_and, and_self, if_true, if_false, ite_self, Nat.reduceEqDiff, reduceIte, obt, jlt, jbt, jbd_ite, bind_ite]; exact b2
  · exact absurd hc (by rw [z]; decide)
