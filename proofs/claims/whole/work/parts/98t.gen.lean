/-! PURE: what a case and the desk may touch -/
def pGa (t f a : Nat) : Prop := (t = 2 ∧ (f = 64 ∨ f = 65) ∧ a = 811) ∨ (t = 0 ∧ a = 605 ∧ (f = 52 ∨ f = 53)) ∨ (t = 3 ∧ a = 606) ∨ (a = 811 ∧ t = 0) ∨ (t = 3 ∧ 812 ≤ a ∧ a ≤ 816) ∨ ((t = 0 ∨ t = 3) ∧ 818 ≤ a ∧ a < 2177 ∧ a ≠ 2022 ∧ a ≠ 2075 ∧ a ≠ 2128)
def qGa (t f a : Nat) : Prop := (t = 0 ∧ a = 2398 ∧ (f = 92 ∨ (118 ≤ f ∧ f ≤ 127) ∨ f = 133 ∨ (150 ≤ f ∧ f ≤ 156) ∨ f = 176)) ∨ (t = 3 ∧ ((2399 ≤ a ∧ a ≤ 2402) ∨ (2420 ≤ a ∧ a ≤ 2426) ∨ a = 2437))
theorem pWk_G {F t f a : Nat} (hF : isF F) (h : pWk F t f a) : pGa t f a := by
  unfold isF at hF
  unfold pGa
  rcases h with h | h
  · unfold pBg at h; omega
  · unfold pW at h; omega
theorem qWk_G {t f a : Nat} (h : qWk t f a) : qGa t f a := by
  unfold qGa
  rcases h with h | h
  · unfold qBg at h; omega
  · unfold qW at h; omega
theorem pBg_G {F t f a : Nat} (hF : isF F) (h : pBg F t f a) : pGa t f a := pWk_G hF (.inl h)
theorem Lay.frG {C C' : jM} (h : Lay C) (hC : Fr pGa C C') : Lay C' := h.fr hC (fun f a z => by unfold pGa at z; omega) (fun a z => by have := k16 a; unfold pGa at z; omega)
theorem Lay.frqG {R R' : jM} (h : Lay R) (hR : Fr qGa R R') : Lay R' := h.fr hR (fun f a z => by unfold qGa at z; omega) (fun a z => by have := k16r a; unfold qGa at z; omega)
theorem Rel.gen {C R C' R' : jM} (h : Rel C R) (hF : Fr pGa C C') (hG : Fr qGa R R') (hs : ∀ s, 1 ≤ s → s ≤ 200 → sS R R' s) (hD : rD C' R') (hS : rS C' R') : Rel C' R' ∧ Fr pC C C' ∧ Fr pR R R' := by
  have hx : ∀ t, t < 33 → sX R R' t := fun t _ => hG.sX (fun a _ _ => by unfold qGa; omega) t
  refine ⟨?_, hF.mono (fun t f a z => by have := k16 a; unfold pC; unfold pGa at z; omega), hG.mono (fun t f a z => by have := k16r a; unfold pR; unfold qGa at z; omega)⟩
  exact ⟨rT_f hF hG (fun t f a => by unfold pGa; unfold cT; omega) (fun t f a => by unfold qGa; unfold mT; omega) h.T,
    rN_f hF hG (fun t f a => by unfold pGa; unfold cN; omega) (fun t f a => by unfold qGa; unfold mN; omega) h.N,
    rP_f hF hG (fun t f a => by unfold pGa; unfold cP; omega) (fun t f a => by unfold qGa; unfold mP; omega) h.P,
    hD,
    rF_f hF hG (fun t f a => by unfold pGa; unfold cF; omega) (fun t f a => by unfold qGa; unfold mF; omega) (fun s h1 h2 => hs s (by omega) (by omega)) h.F,
    rU_f hF hG (fun t f a => by unfold pGa; unfold cU; omega) (fun t f a => by unfold qGa; unfold mU; omega) h.U,
    rA_f hF hG (fun t f a => by unfold pGa; unfold cA; omega) (fun t f a => by unfold qGa; unfold mA; omega) h.A,
    rY_f hF hG (fun t f a => by unfold pGa; unfold cY; omega) (fun t f a => by unfold qGa; unfold mY; omega) h.Y,
    rR_f hF hG (fun t f a => by unfold pGa; unfold cR; omega) (fun t f a => by unfold qGa; unfold mR; omega) h.R,
    hS,
    rE_f hF hG (fun t f a => by unfold pGa; unfold cE; omega) (fun t f a => by unfold qGa; unfold mE; omega) (fun t _ => hx t (by omega)) h.E⟩
