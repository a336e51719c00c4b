/-! PURE: the parser: a part that is being built -/
def LC (B : Nat → Int32) (e N T t : Nat) (ru : Nat → Nat × Nat × Nat) (rs nr : Nat) (A : Nat → Prop) (np cn : Nat) (fl : Int32) (C R : jM) (oc ro : Option (Int32 × jM)) : Prop :=
  ∃ x y C' R' np' fl', oc = some (x, C') ∧ ro = some (y, R') ∧ np ≤ np' ∧ PS B e N T t A np' nr cn fl' C' R' ∧ St T t np cn C R C' R' ∧
    (fl' = 0 → fl = 0 ∧ ∃ i, x = nI i ∧ y = nI (301 * t + i) ∧ np < np' ∧ Fin' T t np np' C' R' ∧ tT C' T ru nr rs (np' - np + rs) A np np' i)
def BS (B : Nat → Int32) (e N T t : Nat) (ru : Nat → Nat × Nat × Nat) (rs nr : Nat) (A : Nat → Prop) (lo p cn : Nat) (kd : Int32) (m : Nat) (C0 R0 : jM) (fl : Int32) (np : Nat) (C R : jM) : Prop :=
  PS B e N T t A np nr cn fl C R ∧ St T t lo cn C0 R0 C R ∧ lo ≤ p ∧ p < np ∧ ND T t p kd m C R ∧
  (fl = 0 → Fin' T t lo p C R ∧ Fin' T t (p + 1) np C R ∧ ∀ j, j < m → ∃ i, IN T t p j i C R ∧ ∃ l h, lo ≤ l ∧ h ≤ np ∧ h - l < np - lo ∧ (h ≤ p ∨ p < l) ∧ tT C T ru nr rs (h - l + rs) A l h i)
theorem Fin'.at {T t lo p hi : Nat} {C R : jM} (h1 : Fin' T t lo p C R) (h2 : Fin' T t (p + 1) hi C R) (h3 : rK C T R t p) : Fin' T t lo hi C R := fun k a b => by
  rcases Nat.lt_trichotomy k p with c | c | c
  · exact h1 k a c
  · rw [c]; exact h3
  · exact h2 k c b
/-- nothing of the parts is touched: a token is taken, a fault told -/
theorem BS.st {B : Nat → Int32} {e N T t : Nat} {ru : Nat → Nat × Nat × Nat} {rs nr : Nat} {A : Nat → Prop} {lo p cn : Nat} {kd : Int32} {m : Nat} {C0 R0 : jM} {fl : Int32} {np : Nat} {C R : jM} (h : BS B e N T t ru rs nr A lo p cn kd m C0 R0 fl np C R) (hm : m ≤ 3) {fl' : Int32} {C' R' : jM} (hP : PS B e N T t A np nr cn fl' C' R') (hS : St T t np cn C R C' R') (hf : fl' = 0 → fl = 0) : BS B e N T t ru rs nr A lo p cn kd m C0 R0 fl' np C' R' := by
  obtain ⟨h1, h2, h3, h4, h5, h6⟩ := h
  refine ⟨hP, h2.trans hS (by omega) (Nat.le_refl _), h3, h4, h5.o hS h4, fun z => ?_⟩
  obtain ⟨f1, f2, f3⟩ := h6 (hf z)
  refine ⟨f1.o hS (by omega), f2.o hS (Nat.le_refl _), fun j hj => ?_⟩
  obtain ⟨i, i1, l, hh, l1, l2, l3, l4, l5⟩ := f3 j hj
  exact ⟨i, i1.o hS h4 (by omega), l, hh, l1, l2, l3, l4, l5.o hS.2.2.1 l2 (Nat.le_refl _) (Nat.le_refl _) (Nat.le_refl _)⟩
theorem BS.take {B : Nat → Int32} {e N T t : Nat} {ru : Nat → Nat × Nat × Nat} {rs nr : Nat} {A : Nat → Prop} {lo p cn : Nat} {kd : Int32} {m : Nat} {C0 R0 : jM} {fl : Int32} {np : Nat} {C R : jM} (h : BS B e N T t ru rs nr A lo p cn kd m C0 R0 fl np C R) (hm : m ≤ 3) (K km : Int32) (hK : K ∈ tks) (hmm : tm K = km) (hK0 : K ≠ 0) (hK1 : K ≠ 1) : ∃ C' R' fl', f_X4_take 607 K C = some C' ∧ f_X12_want 2398 km R = some R' ∧ BS B e N T t ru rs nr A lo p cn kd m C0 R0 fl' np C' R' := by
  obtain ⟨C', R', fl', e1, e2, e3, e4, e5⟩ := take_ok h.1 hK hmm hK0 hK1
  exact ⟨C', R', fl', e1, e2, h.st hm e3 e4 e5⟩
theorem BS.take' {B : Nat → Int32} {e N T t : Nat} {ru : Nat → Nat × Nat × Nat} {rs nr : Nat} {A : Nat → Prop} {lo p cn : Nat} {kd : Int32} {m : Nat} {C0 R0 : jM} {fl : Int32} {np : Nat} {C R : jM} (h : BS B e N T t ru rs nr A lo p cn kd m C0 R0 fl np C R) (hm : m ≤ 3) (K km : Int32) (hK : K ∈ tks) (hmm : tm K = km) (hK0 : K ≠ 0) (hK1 : K ≠ 1) : ∃ C' R' fl', (fl' = 0 → fl = 0) ∧ f_X4_take 607 K C = some C' ∧ f_X12_want 2398 km R = some R' ∧ BS B e N T t ru rs nr A lo p cn kd m C0 R0 fl' np C' R' := by
  obtain ⟨C', R', fl', e1, e2, e3, e4, e5⟩ := take_ok h.1 hK hmm hK0 hK1
  exact ⟨C', R', fl', e5, e1, e2, h.st hm e3 e4 e5⟩
theorem BS.ly {B : Nat → Int32} {e N T t : Nat} {ru : Nat → Nat × Nat × Nat} {rs nr : Nat} {A : Nat → Prop} {lo p cn : Nat} {kd : Int32} {m : Nat} {C0 R0 : jM} {fl : Int32} {np : Nat} {C R : jM} (h : BS B e N T t ru rs nr A lo p cn kd m C0 R0 fl np C R) : jR C 24 607 = some 608 ∧ jR C 25 607 = some T ∧ jK T = 6 ∧ jR R 104 2398 = some 2409 ∧ jR R 105 2398 = some 2410 ∧ jR R 106 2398 = some 2411 :=
  ⟨ly_24 h.1.pt.1, h.1.pt.2.2.2.2.2.1, h.1.pt.2.2.1, ly_104 h.1.pt.2.1, ly_105 h.1.pt.2.1, ly_106 h.1.pt.2.1⟩
theorem BS.at {B : Nat → Int32} {e N T t : Nat} {ru : Nat → Nat × Nat × Nat} {rs nr : Nat} {A : Nat → Prop} {lo p cn : Nat} {kd : Int32} {m : Nat} {C0 R0 : jM} {fl : Int32} {np : Nat} {C R : jM} (h : BS B e N T t ru rs nr A lo p cn kd m C0 R0 fl np C R) : p < 300 ∧ jA 2409 13 (nI (301 * t + p)) = true ∧ jA 2410 13 (nI (301 * t + p)) = true ∧ jA 2411 13 (nI (301 * t + p)) = true ∧ jA 2412 14 (nI (301 * t + p)) = true ∧ jA 2413 13 (nI (301 * t + p)) = true ∧ (nI (301 * t + p)).toNatClampNeg = 301 * t + p := by
  have hp : p < 300 := by have := h.1.2.1; have := h.2.2.2.1; omega
  obtain ⟨a1, a2, a3, a4, a5, a6, a7, a8⟩ := nA h.1.pt.2.2.2.1 (show p < 301 by omega)
  exact ⟨hp, a3, a4, a5, a6, a7, a8⟩
theorem BS.inner' {B : Nat → Int32} {e N T t : Nat} {ru : Nat → Nat × Nat × Nat} {rs nr : Nat} {A : Nat → Prop} {lo p cn k : Nat} {kd : Int32} {m : Nat} {C0 R0 : jM} {fl : Int32} {np : Nat} {C R : jM} {fC fR : jM → Option (Int32 × jM)} (h : BS B e N T t ru rs nr A lo p cn kd m C0 R0 fl np C R) (hL : LK B e N T t ru rs nr fC fR k) (hrs : rs ≤ lo) (hcn : cn ≤ k) (hm : m < 3) (mi : Int32) (hmi : mi = nI m) (a : Nat) (ha : a = 2409 + m) :
    ∃ x y C' R' C2 R2 np' fl', (fl' = 0 → fl = 0) ∧ fC C = some (x, C') ∧ fR R = some (y, R') ∧ f_X8_setInner T (nI p) mi x C' = some C2 ∧ jrI R' a (upd (jAI R' a) (301 * t + p) y) = R2 ∧ (PS B e N T t A np' nr cn fl' C2 R' ∧ St T t lo cn C0 R0 C2 R') ∧ jI R' 101 2398 = fl' ∧ BS B e N T t ru rs nr A lo p cn kd (m + 1) C0 R0 fl' np' C2 R2 := by
  obtain ⟨h1, h2, h3, h4, h5, h6⟩ := h
  obtain ⟨x, y, C', R', np', fl', e1, e2, e3, e4, e5, e6⟩ := hL A np cn fl C R (by omega) hcn h1
  have hT := e4.pt
  have h300 := e4.2.1
  have hs := set_c hT.1 hT.2.2.1 e4.2.2.2.2.1 h300 (show p < np' by omega) hm x
  have ha' : 2409 + m = 2409 ∨ 2409 + m = 2410 ∨ 2409 + m = 2411 := by omega
  have e5' : St T t p cn C R C' R' := St.trans (a := p) (b := np) (cm := cn) St.refl e5 (by omega) (Nat.le_refl _)
  have hS : St T t p cn C R (sC T p m x C') (sR t p (2409 + m) y R') := St.trans (b := p) (cm := cn) e5' (St.set hT.2.2.1 (Nat.le_refl _) (by omega) hm ha') (Nat.le_refl _) (Nat.le_refl _)
  have hSC : St T t p cn C R (sC T p m x C') R' := St.trans (b := p) (cm := cn) e5' (St.setC hT.2.2.1 (Nat.le_refl _) hm) (Nat.le_refl _) (Nat.le_refl _)
  subst ha
  subst hmi
  refine ⟨x, y, C', R', _, sR t p (2409 + m) y R', np', fl', fun z => (e6 z).1, e1, e2, hs, rfl, ⟨e4.nd sC_fr Fr.refl, h2.trans hSC h3 (Nat.le_refl _)⟩, e4.fr0.2, e4.nd sC_fr (sR_fr ha'), h2.trans hS h3 (Nat.le_refl _), h3, by omega, (h5.o e5 h4).set, fun z => ?_⟩
  obtain ⟨z1, i, i1, i2, i3, i4, i5⟩ := e6 z
  obtain ⟨f1, f2, f3⟩ := h6 z1
  subst i1
  subst i2
  have hi2 : i < np' := by
    unfold tT at i5
    obtain ⟨dd, hdd⟩ : ∃ dd, np' - np + rs = dd + 1 := ⟨np' - np + rs - 1, by omega⟩
    rw [hdd] at i5
    exact i5.2.1
  have f1' : Fin' T t lo p (sC T p m (nI i) C') (sR t p (2409 + m) (nI (301 * t + i)) R') := fun k y1 y2 => (f1 k y1 y2).o hS.2.2.1 hS.2.2.2.1 y2
  have f2' : Fin' T t (p + 1) np (sC T p m (nI i) C') (sR t p (2409 + m) (nI (301 * t + i)) R') := (f2.o e5 (Nat.le_refl _)).set (by omega) hm
  have f3' : Fin' T t np np' (sC T p m (nI i) C') (sR t p (2409 + m) (nI (301 * t + i)) R') := i4.set (by omega) hm
  refine ⟨f1', fun k y1 y2 => if c : k < np then f2' k y1 c else f3' k (by omega) y2, fun j hj => ?_⟩
  by_cases c : j = m
  · subst c
    exact ⟨i, IN.new (by omega), np, np', by omega, Nat.le_refl _, by omega, .inr (by omega), i5.set (.inl (by omega)) hm⟩
  · obtain ⟨i', j1, l, hh, l1, l2, l3, l4, l5⟩ := f3 j (by omega)
    exact ⟨i', (j1.o e5 h4 (by omega)).set c, l, hh, l1, by omega, by omega, l4, (l5.o e5.2.2.1 l2 (Nat.le_refl _) (Nat.le_refl _) (Nat.le_refl _)).set (l4.symm.imp (fun z => z) (fun z => z)) hm⟩
theorem BS.inner {B : Nat → Int32} {e N T t : Nat} {ru : Nat → Nat × Nat × Nat} {rs nr : Nat} {A : Nat → Prop} {lo p cn k : Nat} {kd : Int32} {m : Nat} {C0 R0 : jM} {fl : Int32} {np : Nat} {C R : jM} {fC fR : jM → Option (Int32 × jM)} (h : BS B e N T t ru rs nr A lo p cn kd m C0 R0 fl np C R) (hL : LK B e N T t ru rs nr fC fR k) (hrs : rs ≤ lo) (hcn : cn ≤ k) (hm : m < 3) (mi : Int32) (hmi : mi = nI m) (a : Nat) (ha : a = 2409 + m) :
    ∃ x y C' R' C2 R2 np' fl', fC C = some (x, C') ∧ fR R = some (y, R') ∧ f_X8_setInner T (nI p) mi x C' = some C2 ∧ jrI R' a (upd (jAI R' a) (301 * t + p) y) = R2 ∧ (PS B e N T t A np' nr cn fl' C2 R' ∧ St T t lo cn C0 R0 C2 R') ∧ jI R' 101 2398 = fl' ∧ BS B e N T t ru rs nr A lo p cn kd (m + 1) C0 R0 fl' np' C2 R2 := by
  obtain ⟨x, y, C', R', C2, R2, np', fl', -, r⟩ := h.inner' hL hrs hcn hm mi hmi a ha
  exact ⟨x, y, C', R', C2, R2, np', fl', r⟩
/-- the left one, read before -/
theorem BS.left {B : Nat → Int32} {e N T t : Nat} {ru : Nat → Nat × Nat × Nat} {rs nr : Nat} {A : Nat → Prop} {lo p cn : Nat} {kd : Int32} {C0 R0 : jM} {np : Nat} {C R : jM} (h : BS B e N T t ru rs nr A lo p cn kd 0 C0 R0 0 np C R) {i : Nat} (hi : i < p) (hT2 : tT C T ru nr rs (p - lo + rs) A lo p i) :
    ∃ C2 R2, f_X8_setInner T (nI p) 0 (nI i) C = some C2 ∧ jrI R 2409 (upd (jAI R 2409) (301 * t + p) (nI (301 * t + i))) = R2 ∧ BS B e N T t ru rs nr A lo p cn kd 1 C0 R0 0 np C2 R2 := by
  obtain ⟨h1, h2, h3, h4, h5, h6⟩ := h
  have hT := h1.pt
  have h300 := h1.2.1
  obtain ⟨f1, f2, -⟩ := h6 rfl
  have hs : f_X8_setInner T (nI p) 0 (nI i) C = some (sC T p 0 (nI i) C) := set_c hT.1 hT.2.2.1 h1.2.2.2.2.1 h300 h4 (show 0 < 3 by decide) (nI i)
  have hS : St T t p cn C R (sC T p 0 (nI i) C) (sR t p 2409 (nI (301 * t + i)) R) := St.set hT.2.2.1 (Nat.le_refl _) (by omega) (show 0 < 3 by decide) (.inl rfl)
  refine ⟨_, sR t p 2409 (nI (301 * t + i)) R, hs, rfl, h1.nd sC_fr (sR_fr (.inl rfl)), h2.trans hS h3 (Nat.le_refl _), h3, h4, h5.set, fun _ => ⟨fun k y1 y2 => (f1 k y1 y2).o hS.2.2.1 hS.2.2.2.1 y2, f2.set (j := 0) (by omega) (by omega), fun j hj => ?_⟩⟩
  have : j = 0 := by omega
  subst this
  exact ⟨i, IN.new (j := 0) (by omega), lo, p, Nat.le_refl _, by omega, by omega, .inl (Nat.le_refl _), hT2.set (.inr (Nat.le_refl _)) (by omega)⟩
/-- all inners are set -/
theorem BS.fin {B : Nat → Int32} {e N T t : Nat} {ru : Nat → Nat × Nat × Nat} {rs nr : Nat} {A : Nat → Prop} {lo p cn : Nat} {kd : Int32} {C0 R0 : jM} {fl : Int32} {np m : Nat} {C R : jM} (h : BS B e N T t ru rs nr A lo p cn kd m C0 R0 fl np C R) (hm : m = tar kd) (hk : tkind kd) (hn : (kd ≠ 3 ∧ kd ≠ 4 ∧ kd ≠ 6 ∧ kd ≠ 7 ∧ kd ≠ 8) ∧ kd ≠ 146) : PS B e N T t A np nr cn fl C R ∧ St T t lo cn C0 R0 C R ∧ lo < np ∧ p < np ∧ (fl = 0 → Fin' T t lo np C R ∧ tT C T ru nr rs (np - lo + rs) A lo np p) := by
  obtain ⟨h1, h2, h3, h4, h5, h6⟩ := h
  subst hm
  refine ⟨h1, h2, by omega, h4, fun z => ?_⟩
  obtain ⟨f1, f2, f3⟩ := h6 z
  obtain ⟨r1, r2⟩ := node_end (lo0 := lo) (hi := np) h5 h1.pt.2.2.2.1 hk hn h3 h4 (fun j hj => by
    obtain ⟨i, j1, l, hh, l1, l2, l3, l4, l5⟩ := f3 j hj
    exact ⟨i, j1, l, hh, l1, l2, l3, l5⟩)
  exact ⟨f1.at f2 r1, r2⟩
theorem BS.lc {B : Nat → Int32} {e N T t : Nat} {ru : Nat → Nat × Nat × Nat} {rs nr : Nat} {A : Nat → Prop} {lo p cn : Nat} {kd : Int32} {C0 R0 : jM} {fl : Int32} {np m : Nat} {C R : jM} (h : BS B e N T t ru rs nr A lo p cn kd m C0 R0 fl np C R) (hm : m = tar kd) (hk : tkind kd) (hn : (kd ≠ 3 ∧ kd ≠ 4 ∧ kd ≠ 6 ∧ kd ≠ 7 ∧ kd ≠ 8) ∧ kd ≠ 146) {oc ro : Option (Int32 × jM)} (ec : oc = some (nI p, C)) (er : ro = some (nI (301 * t + p), R)) : LC B e N T t ru rs nr A lo cn 0 C0 R0 oc ro := by
  obtain ⟨h1, h2, h3, h4, h5⟩ := h.fin hm hk hn
  exact ⟨_, _, C, R, np, fl, ec, er, by omega, h1, h2, fun z => ⟨rfl, p, rfl, rfl, h3, (h5 z).1, (h5 z).2⟩⟩
/-- a part begins -/
theorem BS.new {B : Nat → Int32} {e N T t : Nat} {ru : Nat → Nat × Nat × Nat} {rs nr : Nat} {A : Nat → Prop} {lo np cn : Nat} {C0 R0 C R : jM} (h : PS B e N T t A np nr cn 0 C R) (hS : St T t lo cn C0 R0 C R) (hlo : lo ≤ np) (hF : Fin' T t lo np C R) {q : Nat} (hq : jI R 100 2398 = nI q) (hq2 : q < 1602) (k0 : (tkv B e (tps B e q)).1 ≠ 0) (k1 : (tkv B e (tps B e q)).1 ≠ 1) (kd km : Int32) (ct : Int64) (hm : km = kmap kd) :
    (∃ C' R' fl', f_X4_part 607 kd ct C = some (-1, C') ∧ f_X12_part 2398 R = some (0, R') ∧ fl' ≠ 0 ∧ PS B e N T t A np nr cn fl' C' R' ∧ St T t lo cn C0 R0 C' R') ∨
    ∃ C' R1 R2 R3, f_X4_part 607 kd ct C = some (nI np, C') ∧ f_X12_part 2398 R = some (1, R1) ∧ f_X12_now 2398 R1 = some (tm (tkv B e (tps B e q)).1) ∧ f_X12_node 2398 km R1 = some (nI (301 * t + np), R2) ∧ jsI R2 100 2398 (jI R2 100 2398 + 1) = R3 ∧ BS B e N T t ru rs nr A lo np cn kd 0 C0 R0 0 (np + 1) C' R3 ∧ (∀ i, tT C T ru nr rs (np - lo + rs) A lo np i → tT C' T ru nr rs (np - lo + rs) A lo np i) ∧ jAL C' (T + 2) np = ct ∧ R1 = jsI R 114 2398 (nI (np + 1)) ∧ R2 = nR t np km (jsI R 114 2398 (nI (np + 1))) := by
  rcases part_ok h hq hq2 k0 k1 kd ct with ⟨p300, C1, R1, fl1, p1, p2, p3, p4, p5⟩ | ⟨p300, C1, p1, p2, p3, p4⟩
  · exact .inl ⟨C1, R1, fl1, p1, p2, p3, p4, hS.trans p5 hlo (Nat.le_refl _)⟩
  · refine .inr ⟨C1, _, nR t np km (jsI R 114 2398 (nI (np + 1))), _, p1, p2, ?_, (p4 km).1, rfl, ?_, ?_, ?_, rfl, rfl⟩
    · obtain ⟨q', p1', p2', p3', p4', p5', p6', p7', p8', p9', p10', p11'⟩ := h.tk
      have hqq : q' = q := by
        have z := p3'.symm.trans hq
        rw [i_eq, nI_toInt (by omega), nI_toInt (by omega)] at z
        omega
      subst hqq
      unfold f_X12_now
      rw [if_pos k_2398]
      have hR1 : Lay (jsI R 114 2398 (nI (np + 1))) := h.pt.2.1.fr (p := pPR) ((Fr.refl).sI (by unfold pPR; omega)) (fun f a z => by unfold pPR at z; omega) (fun a z => by have := k16r a; unfold pPR at z; omega)
      rw [ly_95 hR1, obt]
      simp only [m_I_sI, m_L_sI, m_R_sI, m_AI_sI, m_AL_sI, m_AD_sI, m_AR_sI, m_n_sI, m_I_sL, m_L_sL, m_R_sL, m_AI_sL, m_AL_sL, m_AD_sL, m_AR_sL, m_n_sL, m_I_sR, m_L_sR, m_R_sR, m_AI_sR, m_AL_sR, m_AD_sR, m_AR_sR, m_n_sR, m_I_rI, m_L_rI, m_R_rI, m_AI_rI, m_AL_rI, m_AD_rI, m_AR_rI, m_n_rI, m_I_rL, m_L_rL, m_R_rL, m_AI_rL, m_AL_rL, m_AD_rL, m_AR_rL, m_n_rL, m_I_rD, m_L_rD, m_R_rD, m_AI_rD, m_AL_rD, m_AD_rD, m_AR_rD, m_n_rD, m_I_rR, m_L_rR, m_R_rR, m_AI_rR, m_AL_rR, m_AD_rR, m_AR_rR, m_n_rR, true_and, and_true, and_false, false_and, and_self, if_true, if_false, ite_self, Nat.reduceEqDiff, reduceIte, obt, jlt, jbt, jbd_ite, bind_ite]
      rw [hq, if_pos (qA hq2).1, (qA hq2).2.2.2.2, p5'.1]
    · rw [pos_nR hq hq2]
      have hst : St T t np cn C R C1 (jsI (nR t np km (jsI R 114 2398 (nI (np + 1)))) 100 2398 (nI (q + 1))) := St.part h.pt.2.2.1 p3 p300
      exact ⟨(p4 km).2, hS.trans hst hlo (Nat.le_refl _), hlo, by omega, ND.new p3 hm, fun _ => ⟨hF.o hst (Nat.le_refl _), fun k a b => absurd b (by omega), fun j hj => absurd hj (by omega)⟩⟩
    · intro i hi
      have hst : St T t np cn C R C1 (jsI (nR t np km (jsI R 114 2398 (nI (np + 1)))) 100 2398 (nI (q + 1))) := St.part h.pt.2.2.1 p3 p300
      exact hi.o hst.2.2.1 (Nat.le_refl _) (Nat.le_refl _) (Nat.le_refl _) (Nat.le_refl _)
    · rw [p3.al (by unfold pTk; have := t_616 h.pt.2.2.1; omega)]
      unfold nC
      simp only [m_I_sI, m_L_sI, m_R_sI, m_AI_sI, m_AL_sI, m_AD_sI, m_AR_sI, m_n_sI, m_I_sL, m_L_sL, m_R_sL, m_AI_sL, m_AL_sL, m_AD_sL, m_AR_sL, m_n_sL, m_I_sR, m_L_sR, m_R_sR, m_AI_sR, m_AL_sR, m_AD_sR, m_AR_sR, m_n_sR, m_I_rI, m_L_rI, m_R_rI, m_AI_rI, m_AL_rI, m_AD_rI, m_AR_rI, m_n_rI, m_I_rL, m_L_rL, m_R_rL, m_AI_rL, m_AL_rL, m_AD_rL, m_AR_rL, m_n_rL, m_I_rD, m_L_rD, m_R_rD, m_AI_rD, m_AL_rD, m_AD_rD, m_AR_rD, m_n_rD, m_I_rR, m_L_rR, m_R_rR, m_AI_rR, m_AL_rR, m_AD_rR, m_AR_rR, m_n_rR, updL_if, true_and, and_true, and_false, false_and, and_self, if_true, if_false, ite_self, Nat.reduceEqDiff, reduceIte, obt, jlt, jbt, jbd_ite, bind_ite]
/-- behind a fault the class takes nothing -/
theorem tk_flt {C : jM} (hf : jI C 26 607 ≠ 0) (K : Int32) : f_X4_take 607 K C = some C := by
  unfold f_X4_take
  rw [if_pos k_607, if_neg hf]
theorem nx_flt {C : jM} (hf : jI C 26 607 ≠ 0) (K : Int32) : f_X4_isNext 607 K C = some 0 := by
  unfold f_X4_isNext
  rw [if_pos k_607, if_neg hf]
theorem wt_flt {R : jM} (hf : ¬ jI R 101 2398 ≤ 0) (K : Int32) : f_X12_want 2398 K R = some R := by
  unfold f_X12_want
  rw [if_pos k_2398, if_neg (fun z => hf (by rw [z]; decide))]
theorem LC.flt {B : Nat → Int32} {e N T t : Nat} {ru : Nat → Nat × Nat × Nat} {rs nr : Nat} {A : Nat → Prop} {np np' cn : Nat} {fl fl' : Int32} {C R C' R' : jM} {x y : Int32} {oc ro : Option (Int32 × jM)} (e1 : oc = some (x, C')) (e2 : ro = some (y, R')) (hn : np ≤ np') (h : PS B e N T t A np' nr cn fl' C' R') (hS : St T t np cn C R C' R') (hf : fl' ≠ 0) : LC B e N T t ru rs nr A np cn fl C R oc ro :=
  ⟨x, y, C', R', np', fl', e1, e2, hn, h, hS, fun z => absurd z hf⟩
