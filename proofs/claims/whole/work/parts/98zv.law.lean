/-! PURE: the law, call by call -/
theorem Rel.r0 {S C' : jM} (h : Rel S S) (hF : Fr pC S C') : Rel S C' := by
  have f0 : Fr (fun _ _ _ => False) S S := Fr.refl
  have hs : ∀ s, sS S C' s := fun s => hF.sS (fun a h1 h2 => by unfold pC; omega) s
  have hx : ∀ t, sX S C' t := fun t => hF.sX (fun a h1 h2 => by unfold pC; omega) t
  exact ⟨rT_f f0 hF (fun _ _ _ _ z => z) (fun t f a => by unfold mT pC; omega) h.T,
    rN_f f0 hF (fun _ _ _ _ z => z) (fun t f a => by unfold mN pC; omega) h.N,
    rP_f f0 hF (fun _ _ _ _ z => z) (fun t f a => by unfold mP pC; omega) h.P,
    rD_f f0 hF (fun _ _ _ _ z => z) (fun _ _ _ z => z.elim) (hs 0) h.D,
    rF_f f0 hF (fun _ _ _ _ z => z) (fun t f a => by unfold mF pC; omega) (fun s _ _ => hs s) h.F,
    rU_f f0 hF (fun _ _ _ _ z => z) (fun t f a => by unfold mU pC; omega) h.U,
    rA_f f0 hF (fun _ _ _ _ z => z) (fun t f a => by unfold mA pC; omega) h.A,
    rY_f f0 hF (fun _ _ _ _ z => z) (fun t f a => by unfold mY pC; omega) h.Y,
    rR_f f0 hF (fun _ _ _ _ z => z) (fun t f a => by unfold mR pC; omega) h.R,
    rS_f f0 hF (fun _ _ _ _ z => z) (fun t f a => by unfold mS pC; omega) (fun s _ _ => hs s) h.S,
    rE_f f0 hF (fun _ _ _ _ z => z) (fun t f a => by unfold mE pC; omega) (fun t _ => hx t) h.E⟩
theorem Rel.c0 {C R : jM} (h : Rel C R) (hF : Fr pR C R) : Rel R R := by
  have f0 : Fr (fun _ _ _ => False) R R := Fr.refl
  have hs : ∀ s, sS R R s := fun s => sS.refl
  have hx : ∀ t, sX R R t := fun t => f0.sX (fun _ _ _ z => z) t
  exact ⟨rT_f hF f0 (fun t f a => by unfold cT pR; omega) (fun _ _ _ _ z => z) h.T,
    rN_f hF f0 (fun t f a => by unfold cN pR; omega) (fun _ _ _ _ z => z) h.N,
    rP_f hF f0 (fun t f a => by unfold cP pR; omega) (fun _ _ _ _ z => z) h.P,
    rD_f hF f0 (fun t f a => by unfold cD pR; omega) (fun _ _ _ z => z.elim) (hs 0) h.D,
    rF_f hF f0 (fun t f a => by unfold cF pR; omega) (fun _ _ _ _ z => z) (fun s _ _ => hs s) h.F,
    rU_f hF f0 (fun t f a => by unfold cU pR; omega) (fun _ _ _ _ z => z) h.U,
    rA_f hF f0 (fun t f a => by unfold cA pR; omega) (fun _ _ _ _ z => z) h.A,
    rY_f hF f0 (fun t f a => by unfold cY pR; omega) (fun _ _ _ _ z => z) h.Y,
    rR_f hF f0 (fun t f a => by unfold cR pR; omega) (fun _ _ _ _ z => z) h.R,
    rS_f hF f0 (fun t f a => by unfold cS pR; omega) (fun _ _ _ _ z => z) (fun s _ _ => hs s) h.S,
    rE_f hF f0 (fun t f a => by unfold cE pR; omega) (fun _ _ _ _ z => z) (fun t _ => hx t) h.E⟩
theorem sim_go {α : Type} {fC fR : jM → Option (α × jM)} {S : jM} (hL : Lay S) (h : Rel S S) (q : ∀ R, Lay R → Rel S R → Sim fC fR S R) : ∃ (x : α) (S1 S2 : jM), fC S = some (x, S1) ∧ fR S1 = some (x, S2) ∧ Lay S2 ∧ Rel S2 S2 := by
  obtain ⟨x, C', R', g1, -, -, g4, -⟩ := q S hL h
  have hR := h.r0 g4
  have hL' := hL.frC g4
  obtain ⟨x2, C2, R2, k1, k2, k3, k4, k5⟩ := q C' hL' hR
  rw [g1] at k1
  injection k1 with k1
  injection k1 with k1a k1b
  subst k1a
  subst k1b
  exact ⟨x, C', R2, g1, k2, hL'.frR k5, k3.c0 k5⟩
theorem go_i {fC fR : jM → Option (Int32 × jM)} {k : jM → Option jM} {S : jM} (hL : Lay S) (h : Rel S S) (q : ∀ R, Lay R → Rel S R → Sim fC fR S R) (hk : ∀ S', Lay S' → Rel S' S' → ∃ SS, k S' = some SS) : ∃ SS, jbd (fC S) (fun x S1 => jbd (fR S1) (fun y S2 => if x = y then k S2 else none)) = some SS := by
  obtain ⟨x, S1, S2, g1, g2, g3, g4⟩ := sim_go hL h q
  rw [g1, jbt, g2, jbt, if_pos rfl]
  exact hk S2 g3 g4
theorem gr_i {fC fR : jM → Option Int32} {k : Option jM} {S : jM} (q : SimR fC fR S S) (hk : ∃ SS, k = some SS) : ∃ SS, (fC S).bind (fun x => (fR S).bind (fun y => if x = y then k else none)) = some SS := by
  obtain ⟨x, g1, g2⟩ := q
  rw [g1, obt, g2, obt, if_pos rfl]
  exact hk
theorem go_l {fC fR : jM → Option (Int64 × jM)} {k : jM → Option jM} {S : jM} (hL : Lay S) (h : Rel S S) (q : ∀ R, Lay R → Rel S R → Sim fC fR S R) (hk : ∀ S', Lay S' → Rel S' S' → ∃ SS, k S' = some SS) : ∃ SS, jbd (fC S) (fun x S1 => jbd (fR S1) (fun y S2 => if x = y then k S2 else none)) = some SS := by
  obtain ⟨x, S1, S2, g1, g2, g3, g4⟩ := sim_go hL h q
  rw [g1, jbt, g2, jbt, if_pos rfl]
  exact hk S2 g3 g4
theorem gr_l {fC fR : jM → Option Int64} {k : Option jM} {S : jM} (q : SimR fC fR S S) (hk : ∃ SS, k = some SS) : ∃ SS, (fC S).bind (fun x => (fR S).bind (fun y => if x = y then k else none)) = some SS := by
  obtain ⟨x, g1, g2⟩ := q
  rw [g1, obt, g2, obt, if_pos rfl]
  exact hk
theorem lw_person {L : Nat} {xs : Nat → Int32} {k18 : Nat → Nat → Int32 → jM → Option jM} {v3 : Int32} {S : jM} (hL : Lay S) (h : Rel S S) (j1 : jin (v3 + (1 : Int32)) L = true) (j2 : jin (v3 + (2 : Int32)) L = true) (hgo : ∀ S', Lay S' → Rel S' S' → ∃ SS, f_L_law_1184 L xs k18 0 2398 v3 S' = some SS) : ∃ SS, (if jin (v3 + (1 : Int32)) L = true then if (xs (v3 + (1 : Int32)).toNatClampNeg) = 0 then f_L_law_295 L xs k18 0 2398 v3 0 (0 : Int32) S else f_L_law_295 L xs k18 0 2398 v3 0 (1 : Int32) S else none) = some SS := by
  rw [if_pos j1]
  by_cases c : xs (v3 + (1 : Int32)).toNatClampNeg = 0
  · rw [if_pos c]
    unfold f_L_law_295 f_L_law_317
    simp only [j1, j2, k_0, k_2398, if_true, reduceIte, c]
    exact go_i (fC := f_X11_person 0 0 _) (fR := f_X12_person 2398 0 _) hL h (fun R hR hr => q_person hL hR hr (.inl rfl) _) hgo
  · rw [if_neg c]
    unfold f_L_law_295 f_L_law_317
    simp only [j1, j2, k_0, k_2398, if_true, reduceIte, c]
    exact go_i (fC := f_X11_person 0 1 _) (fR := f_X12_person 2398 1 _) hL h (fun R hR hr => q_person hL hR hr (.inr rfl) _) hgo
theorem lw_step {L : Nat} {xs : Nat → Int32} {fuel i : Nat} {S : jM} (hi : i + 5 ≤ L) (hL2 : L ≤ 2560) (hL : Lay S) (h : Rel S S) (hgo : ∀ S', Lay S' → Rel S' S' → ∃ SS, f_L_law_1184 L xs (f_L_law_18 L xs fuel) 0 2398 (nI i) S' = some SS) : ∃ SS, f_L_law_18 L xs (fuel + 1) 0 2398 (nI i) S = some SS := by
  have hj : ∀ k : Nat, k < 5 → jin (nI (i + k)) L = true := fun k hk => by
    unfold jin
    rw [nI_toInt (by omega)]
    simp only [Bool.and_eq_true, decide_eq_true_eq]
    omega
  have j0 : jin (nI i) L = true := hj 0 (by omega)
  have j1 : jin (nI i + (1 : Int32)) L = true := by rw [show nI i + (1 : Int32) = nI (i + 1) from nJ_add (b := 1) (by omega)]; exact hj 1 (by omega)
  have j2 : jin (nI i + (2 : Int32)) L = true := by rw [show nI i + (2 : Int32) = nI (i + 2) from nJ_add (b := 2) (by omega)]; exact hj 2 (by omega)
  have j3 : jin (nI i + (3 : Int32)) L = true := by rw [show nI i + (3 : Int32) = nI (i + 3) from nJ_add (b := 3) (by omega)]; exact hj 3 (by omega)
  have j4 : jin (nI i + (4 : Int32)) L = true := by rw [show nI i + (4 : Int32) = nI (i + 4) from nJ_add (b := 4) (by omega)]; exact hj 4 (by omega)
  have hc : ¬ (Int32.ofNat L) - (5 : Int32) < nI i := by
    have e : (Int32.ofNat L) - (5 : Int32) = nI (L - 5) := nJ_sub (a := L) (b := 5) (by omega) (by omega)
    rw [e, nJ_lt (by omega) (by omega)]
    omega
  rw [f_L_law_18, if_neg hc, if_pos j0, jlt]
  generalize (xs (nI i).toNatClampNeg) &&& (31 : Int32) = w
  by_cases c0 : w = 0
  · rw [if_pos c0]
    simp only [j1, j2, j3, j4, k_0, k_2398, if_true, reduceIte]
    exact go_i (fC := f_X11_feed 0 _ _) (fR := f_X12_feed 2398 _ _) hL h (fun R hR hr => q_feed hL hR hr _ _) hgo
  rw [if_neg c0]
  by_cases c1 : w = 1
  · rw [if_pos c1]
    simp only [j1, j2, j3, j4, k_0, k_2398, if_true, reduceIte]
    exact go_i (fC := f_X11_cut 0 _) (fR := f_X12_cut 2398 _) hL h (fun R hR hr => q_cut hL hr _) hgo
  rw [if_neg c1]
  by_cases c2 : w = 2
  · rw [if_pos c2]
    simp only [j1, j2, j3, j4, k_0, k_2398, if_true, reduceIte]
    exact go_i (fC := f_X11_clock 0 _) (fR := f_X12_clock 2398 _) hL h (fun R hR hr => q_clock hr _) hgo
  rw [if_neg c2]
  by_cases c3 : w = 3
  · rw [if_pos c3]
    exact lw_person hL h j1 j2 hgo
  rw [if_neg c3]
  by_cases c4 : w = 4
  · rw [if_pos c4]
    simp only [j1, j2, j3, j4, k_0, k_2398, if_true, reduceIte]
    exact go_i (fC := f_X11_desk 0 _ _) (fR := f_X12_desk 2398 _ _) hL h (fun R hR hr => q_desk hL hR hr _ _) hgo
  rw [if_neg c4]
  by_cases c5 : w = 5
  · rw [if_pos c5]
    simp only [j1, j2, j3, j4, k_0, k_2398, if_true, reduceIte]
    exact go_i (fC := f_X11_write 0 _ _) (fR := f_X12_write 2398 _ _) hL h (fun R hR hr => q_write hL hR hr _ _) hgo
  rw [if_neg c5]
  by_cases c6 : w = 6
  · rw [if_pos c6]
    simp only [j1, j2, j3, j4, k_0, k_2398, if_true, reduceIte]
    exact go_i (fC := f_X11_seat 0 _ _) (fR := f_X12_seat 2398 _ _) hL h (fun R hR hr => q_seat hL hR hr _ _) hgo
  rw [if_neg c6]
  by_cases c7 : w = 7
  · rw [if_pos c7]
    simp only [j1, j2, j3, j4, k_0, k_2398, if_true, reduceIte]
    exact gr_i (fC := f_X11_sort 0) (fR := f_X12_sort 2398) (q_sort hL hL h) (hgo S hL h)
  rw [if_neg c7]
  by_cases c8 : w = 8
  · rw [if_pos c8]
    simp only [j1, j2, j3, j4, k_0, k_2398, if_true, reduceIte]
    exact gr_i (fC := f_X11_length 0) (fR := f_X12_length 2398) (q_length hL hL h) (hgo S hL h)
  rw [if_neg c8]
  by_cases c9 : w = 9
  · rw [if_pos c9]
    simp only [j1, j2, j3, j4, k_0, k_2398, if_true, reduceIte]
    exact gr_l (fC := f_X11_read 0 _) (fR := f_X12_read 2398 _) (q_read hL hL h _) (hgo S hL h)
  rw [if_neg c9]
  by_cases c10 : w = 10
  · rw [if_pos c10]
    simp only [j1, j2, j3, j4, k_0, k_2398, if_true, reduceIte]
    exact go_i (fC := f_X11_fact 0 _ _ _) (fR := f_X12_fact 2398 _ _ _) hL h (fun R hR hr => q_fact hL hR hr _ _ _) hgo
  rw [if_neg c10]
  by_cases c11 : w = 11
  · rw [if_pos c11]
    simp only [j1, j2, j3, j4, k_0, k_2398, if_true, reduceIte]
    exact go_i (fC := f_X11_annul 0 _) (fR := f_X12_annul 2398 _) hL h (fun R hR hr => q_annul hL hR hr _) hgo
  rw [if_neg c11]
  by_cases c12 : w = 12
  · rw [if_pos c12]
    simp only [j1, j2, j3, j4, k_0, k_2398, if_true, reduceIte]
    exact go_i (fC := f_X11_known 0 _ _ _) (fR := f_X12_known 2398 _ _ _) hL h (fun R hR hr => q_known hL hR hr _ _ _) hgo
  rw [if_neg c12]
  by_cases c13 : w = 13
  · rw [if_pos c13]
    simp only [j1, j2, j3, j4, k_0, k_2398, if_true, reduceIte]
    exact go_i (fC := f_X11_edition 0 _ _) (fR := f_X12_edition 2398 _ _) hL h (fun R hR hr => q_edition hL hR hr _ _) hgo
  rw [if_neg c13]
  by_cases c14 : w = 14
  · rw [if_pos c14]
    simp only [j1, j2, j3, j4, k_0, k_2398, if_true, reduceIte]
    exact gr_i (fC := f_X11_fault 0) (fR := f_X12_fault 2398) (q_fault hL h) (hgo S hL h)
  rw [if_neg c14]
  by_cases c15 : w = 15
  · rw [if_pos c15]
    simp only [j1, j2, j3, j4, k_0, k_2398, if_true, reduceIte]
    exact gr_i (fC := f_X11_inForce 0 _ _) (fR := f_X12_inForce 2398 _ _) (q_inForce hL hL h _ _) (hgo S hL h)
  rw [if_neg c15]
  by_cases c16 : w = 16
  · rw [if_pos c16]
    simp only [j1, j2, j3, j4, k_0, k_2398, if_true, reduceIte]
    exact go_i (fC := f_X11_figure 0 _ _ _ _) (fR := f_X12_figure 2398 _ _ _ _) hL h (fun R hR hr => q_figure hL hR hr _ _ _ _) hgo
  rw [if_neg c16]
  by_cases c17 : w = 17
  · rw [if_pos c17]
    simp only [j1, j2, j3, j4, k_0, k_2398, if_true, reduceIte]
    exact gr_i (fC := f_X11_told 0 _) (fR := f_X12_told 2398 _) (q_told hL h _) (hgo S hL h)
  rw [if_neg c17]
  by_cases c18 : w = 18
  · rw [if_pos c18]
    simp only [j1, j2, j3, j4, k_0, k_2398, if_true, reduceIte]
    exact go_i (fC := f_X11_step 0 _) (fR := f_X12_step 2398 _) hL h (fun R hR hr => q_step hL hR hr _) hgo
  rw [if_neg c18]
  by_cases c19 : w = 19
  · rw [if_pos c19]
    simp only [j1, j2, j3, j4, k_0, k_2398, if_true, reduceIte]
    exact go_i (fC := f_X11_trial 0 _ _ _) (fR := f_X12_trial 2398 _ _ _) hL h (fun R hR hr => q_trial hL hR hr _ _ _) hgo
  rw [if_neg c19]
  by_cases c20 : w = 20
  · rw [if_pos c20]
    simp only [j1, j2, j3, j4, k_0, k_2398, if_true, reduceIte]
    exact go_i (fC := f_X11_award 0 _ _ _) (fR := f_X12_award 2398 _ _ _) hL h (fun R hR hr => q_award hL hR hr _ _ _) hgo
  rw [if_neg c20]
  by_cases c21 : w = 21
  · rw [if_pos c21]
    simp only [j1, j2, j3, j4, k_0, k_2398, if_true, reduceIte]
    exact go_i (fC := f_X11_due 0 _ _ _) (fR := f_X12_due 2398 _ _ _) hL h (fun R hR hr => q_due hL hR hr _ _ _) hgo
  rw [if_neg c21]
  by_cases c22 : w = 22
  · rw [if_pos c22]
    simp only [j1, j2, j3, j4, k_0, k_2398, if_true, reduceIte]
    exact go_i (fC := f_X11_deduct 0 _ _ _) (fR := f_X12_deduct 2398 _ _ _) hL h (fun R hR hr => q_deduct hL hR hr _ _ _) hgo
  rw [if_neg c22]
  by_cases c23 : w = 23
  · rw [if_pos c23]
    simp only [j1, j2, j3, j4, k_0, k_2398, if_true, reduceIte]
    exact go_i (fC := f_X11_share 0 _) (fR := f_X12_share 2398 _) hL h (fun R hR hr => q_share hr _) hgo
  rw [if_neg c23]
  by_cases c24 : w = 24
  · rw [if_pos c24]
    simp only [j1, j2, j3, j4, k_0, k_2398, if_true, reduceIte]
    exact go_i (fC := f_X11_run 0 _) (fR := f_X12_run 2398 _) hL h (fun R hR hr => q_run hL hR hr _) hgo
  rw [if_neg c24]
  by_cases c25 : w = 25
  · rw [if_pos c25]
    simp only [j1, j2, j3, j4, k_0, k_2398, if_true, reduceIte]
    exact go_i (fC := f_X11_advance 0 _) (fR := f_X12_advance 2398 _) hL h (fun R hR hr => q_advance hL hR hr _) hgo
  rw [if_neg c25]
  by_cases c26 : w = 26
  · rw [if_pos c26]
    simp only [j1, j2, j3, j4, k_0, k_2398, if_true, reduceIte]
    exact gr_l (fC := f_X11_payment 0 _ _) (fR := f_X12_payment 2398 _ _) (q_payment hL hL h _ _) (hgo S hL h)
  rw [if_neg c26]
  by_cases c27 : w = 27
  · rw [if_pos c27]
    simp only [j1, j2, j3, j4, k_0, k_2398, if_true, reduceIte]
    exact gr_i (fC := f_X11_taken 0 _ _) (fR := f_X12_taken 2398 _ _) (q_taken hL hL h _ _) (hgo S hL h)
  rw [if_neg c27]
  by_cases c28 : w = 28
  · rw [if_pos c28]
    simp only [j1, j2, j3, j4, k_0, k_2398, if_true, reduceIte]
    exact go_i (fC := f_X11_returned 0 _) (fR := f_X12_returned 2398 _) hL h (fun R hR hr => q_returned hL hR hr _) hgo
  rw [if_neg c28]
  by_cases c29 : w = 29
  · rw [if_pos c29]
    simp only [j1, j2, j3, j4, k_0, k_2398, if_true, reduceIte]
    exact go_l (fC := f_X11_balance 0 _ _) (fR := f_X12_balance 2398 _ _) hL h (fun R hR hr => q_balance hL hR hr _ _) hgo
  rw [if_neg c29]
  by_cases c30 : w = 30
  · rw [if_pos c30]
    simp only [j1, j2, j3, j4, k_0, k_2398, if_true, reduceIte]
    exact gr_i (fC := f_X11_count 0 _) (fR := f_X12_count 2398 _) (q_count hL h _) (hgo S hL h)
  rw [if_neg c30]
  exact hgo S hL h
theorem lw_run {L : Nat} {xs : Nat → Int32} (hL2 : L ≤ 2560) : ∀ (m fuel i : Nat) (S : jM), L ≤ i + 5 * m + 4 → m < fuel → i ≤ 5000 → Lay S → Rel S S → ∃ SS, f_L_law_18 L xs fuel 0 2398 (nI i) S = some SS := by
  intro m
  induction m with
  | zero =>
    intro fuel i S h1 h2 h3 hL h
    obtain ⟨fuel, rfl⟩ : ∃ z, fuel = z + 1 := ⟨fuel - 1, by omega⟩
    have hc : (Int32.ofNat L) - (5 : Int32) < nI i := by
      have e0 : (Int32.ofNat L).toInt = L := (nI_toInt (by omega) : (nI L).toInt = L)
      have e5 : (5 : Int32).toInt = 5 := rfl
      rw [i_lt, nI_toInt (by omega), i_sub (by rw [e0, e5]; omega) (by rw [e0, e5]; omega), e0, e5]
      omega
    exact ⟨S, by rw [f_L_law_18, if_pos hc]⟩
  | succ m ih =>
    intro fuel i S h1 h2 h3 hL h
    obtain ⟨fuel, rfl⟩ : ∃ z, fuel = z + 1 := ⟨fuel - 1, by omega⟩
    by_cases c : i + 5 ≤ L
    · refine lw_step c hL2 hL h (fun S' hL' h' => ?_)
      obtain ⟨SS, e⟩ := ih fuel (i + 5) S' (by omega) (by omega) (by omega) hL' h'
      refine ⟨SS, ?_⟩
      unfold f_L_law_1184
      rw [jlt, show nI i + (5 : Int32) = nI (i + 5) from nJ_add (b := 5) (by omega)]
      exact e
    · have hc : (Int32.ofNat L) - (5 : Int32) < nI i := by
        have e0 : (Int32.ofNat L).toInt = L := (nI_toInt (by omega) : (nI L).toInt = L)
        have e5 : (5 : Int32).toInt = 5 := rfl
        rw [i_lt, nI_toInt (by omega), i_sub (by rw [e0, e5]; omega) (by rw [e0, e5]; omega), e0, e5]
        omega
      exact ⟨S, by rw [f_L_law_18, if_pos hc]⟩
