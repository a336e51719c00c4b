/-! PURE: the evaluator: an inner is worked: what is kept by it -/
theorem PRx.inner2 {F T t np nr : Nat} {ru : Nat → Nat × Nat × Nat} {n : Int} {ki : Nat → Int32} {co : Nat → Int64} {inn : Nat → Int32} {d : Nat} (IH : NC F T t np nr ru n ki co inn d) {f k h rs lo hi r : Nat} {C0 R0 : jM} {w0 p0 j o st m : Nat} {s : Nat → Nat} {C R : jM} {w p sc : Nat}
    (hP : PRx F T t np nr ru n ki co inn f k h rs lo hi r C0 R0 w0 p0 j o st m s C R w p sc) {D : Nat} (hD : 2 * d ≤ D) {i : Nat} {A' : Nat → Prop} {lo' hi' : Nat}
    (hit1 : it F (j + 1) C0 = some (psh f i (h + m) r (jrI C 813 (upd (jAI C 813) (f - 1) (nI (st + 1)))))) (tok : tOK ki co inn ru nr rs d A' lo' hi' i) (hlo : lo ≤ lo') (hhi : hi' ≤ hi) (hhn : hi' ≤ np) (hrs : rs ≤ lo') (hA : ∀ q, A' q → rs ≤ q ∧ q < lo' ∧ jAL C 816 q = jAL R 2425 (301 * t + q)) (hfd : f + d ≤ 300) :
    ∃ x R2, g_V D 1 2398 (nI (301 * t + i)) 0 R = some (x, R2) ∧ ((∃ j2 C2 w2 p2 sc2 sl, x = nI sl ∧ PR F T t np nr ru n ki co inn f k h rs lo hi r C0 R0 w0 p0 j2 (o + 1) (st + 1) (m + 1) (fun z => if z = m then sl else s z) C2 R2 w2 p2 sc2 ∧ w < w2 ∧ (∀ q, (rs ≤ q ∧ q < lo') ∨ hi' ≤ q → jAL C2 816 q = jAL C 816 q ∧ jAL R2 2425 (301 * t + q) = jAL R 2425 (301 * t + q)) ∧ (∀ s, s < p → sS R R2 s) ∧ ∀ i, i < m → sP C C2 (818 + 2 * (h + i)) ∧ sP C C2 (819 + 2 * (h + i))) ∨
      (x = -1 ∧ ∃ j2 C2, PF F T t np nr ru n ki co inn f k h rs lo hi r C0 R0 w0 p0 j2 o (st + 1) C2 R2)) := by
  obtain ⟨a2, a3, a4, a5, a6, ⟨a7, a8⟩, ⟨b1, b2, b3, b4, b5⟩, b6, b7⟩ := hP
  have hF : isF F := a2.2.2.1
  have hFn := hF.n
  have h400 := a3.1.2.2
  have hd0 : 0 < d := by cases d with
    | zero => exact absurd tok (fun z => z)
    | succ d => omega
  obtain ⟨t1, t2, t3, t4, t5, t6⟩ := a6
  have k1 : KP F t nr ru f h rs lo hi C R w p (psh f i (h + m) r (jrI C 813 (upd (jAI C 813) (f - 1) (nI (st + 1))))) R w p := KP.push hF t2.1
  have p226 : 226 ≤ p := a3.2.2.2.1.2.1
  have k1p : ∀ z, sP C (psh f i (h + m) r (jrI C 813 (upd (jAI C 813) (f - 1) (nI (st + 1))))) (818 + 2 * z) ∧ sP C (psh f i (h + m) r (jrI C 813 (upd (jAI C 813) (f - 1) (nI (st + 1))))) (819 + 2 * z) := fun z => (KP.push (t := t) (nr := nr) (ru := ru) (h := z + 1) (rs := rs) (lo := lo) (hi := hi) (R := R) (w := w) (p := p) hF t2.1).2.2.2.1 z (by omega)
  have es1 := k1.es a2 p226
  have hsF : sF F C (psh f i (h + m) r (jrI C 813 (upd (jAI C 813) (f - 1) (nI (st + 1))))) := fun a h1 h2 h3 => by
    have hFr : Fr (fun t f a => (a = 811 ∧ t = 0 ∧ f = 60) ∨ (t = 3 ∧ 812 ≤ a ∧ a ≤ 815)) C (psh f i (h + m) r (jrI C 813 (upd (jAI C 813) (f - 1) (nI (st + 1))))) := ((((((Fr.refl).rI (by omega)).rI (by omega)).rI (by omega)).rI (by omega)).rI (by omega)).sI (by omega)
    exact hFr.sP (fun t f => by omega)
  have hfi : ∀ g, jI (psh f i (h + m) r (jrI C 813 (upd (jAI C 813) (f - 1) (nI (st + 1))))) g F = jI C g F := fun g => by
    unfold psh; simp only [m_I_sI, m_L_sI, m_R_sI, m_AI_sI, m_AL_sI, m_AD_sI, m_AR_sI, m_n_sI, m_I_sL, m_L_sL, m_R_sL, m_AI_sL, m_AL_sL, m_AD_sL, m_AR_sL, m_n_sL, m_I_sR, m_L_sR, m_R_sR, m_AI_sR, m_AL_sR, m_AD_sR, m_AR_sR, m_n_sR, m_I_rI, m_L_rI, m_R_rI, m_AI_rI, m_AL_rI, m_AD_rI, m_AR_rI, m_n_rI, m_I_rL, m_L_rL, m_R_rL, m_AI_rL, m_AL_rL, m_AD_rL, m_AR_rL, m_n_rL, m_I_rD, m_L_rD, m_R_rD, m_AI_rD, m_AL_rD, m_AD_rD, m_AR_rD, m_n_rD, m_I_rR, m_L_rR, m_R_rR, m_AI_rR, m_AL_rR, m_AD_rR, m_AR_rR, m_n_rR, true_and, and_true, and_false, false_and, and_self, if_true, if_false, ite_self, Nat.reduceEqDiff, reduceIte, obt, jlt, jbt, jbd_ite, bind_ite]; rw [if_neg (by omega)]
  have ed1 : ED F n w p sc (psh f i (h + m) r (jrI C 813 (upd (jAI C 813) (f - 1) (nI (st + 1))))) R := a3.f (by rw [hfi]; exact a3.1.1) a3.1.2.1 h400 ((hfi 10).trans a3.2.1.1) ((hfi 11).trans a3.2.1.2) (hfi 16) rfl a3.2.2.2.1.1 (Nat.le_refl _) a3.2.2.2.1.2.2 hsF (fun _ _ _ => rfl) (fun _ _ => sS.refl)
  have ok1 : OKS F (psh f i (h + m) r (jrI C 813 (upd (jAI C 813) (f - 1) (nI (st + 1))))) R := ⟨by rw [hfi]; exact a5.1, by rw [hfi]; exact a5.2.1, a5.2.2⟩
  have top1 : TOP (f + 1) i 0 (h + m) r (psh f i (h + m) r (jrI C 813 (upd (jAI C 813) (f - 1) (nI (st + 1))))) := by
    unfold TOP psh
    refine ⟨?_, ⟨by omega, by omega⟩, ?_, ?_, ?_, ?_⟩ <;> simp only [m_I_sI, m_L_sI, m_R_sI, m_AI_sI, m_AL_sI, m_AD_sI, m_AR_sI, m_n_sI, m_I_sL, m_L_sL, m_R_sL, m_AI_sL, m_AL_sL, m_AD_sL, m_AR_sL, m_n_sL, m_I_sR, m_L_sR, m_R_sR, m_AI_sR, m_AL_sR, m_AD_sR, m_AR_sR, m_n_sR, m_I_rI, m_L_rI, m_R_rI, m_AI_rI, m_AL_rI, m_AD_rI, m_AR_rI, m_n_rI, m_I_rL, m_L_rL, m_R_rL, m_AI_rL, m_AL_rL, m_AD_rL, m_AR_rL, m_n_rL, m_I_rD, m_L_rD, m_R_rD, m_AI_rD, m_AL_rD, m_AD_rD, m_AR_rD, m_n_rD, m_I_rR, m_L_rR, m_R_rR, m_AI_rR, m_AL_rR, m_AD_rR, m_AR_rR, m_n_rR, upd_if, Nat.add_sub_cancel, true_and, and_true, and_false, false_and, and_self, if_true, if_false, ite_self, Nat.reduceEqDiff, reduceIte, obt, jlt, jbt, jbd_ite, bind_ite]
    rfl
  have e62 : jI (psh f i (h + m) r (jrI C 813 (upd (jAI C 813) (f - 1) (nI (st + 1))))) 62 811 = nI (h + m) := by unfold psh; simp only [m_I_sI, m_L_sI, m_R_sI, m_AI_sI, m_AL_sI, m_AD_sI, m_AR_sI, m_n_sI, m_I_sL, m_L_sL, m_R_sL, m_AI_sL, m_AL_sL, m_AD_sL, m_AR_sL, m_n_sL, m_I_sR, m_L_sR, m_R_sR, m_AI_sR, m_AL_sR, m_AD_sR, m_AR_sR, m_n_sR, m_I_rI, m_L_rI, m_R_rI, m_AI_rI, m_AL_rI, m_AD_rI, m_AR_rI, m_n_rI, m_I_rL, m_L_rL, m_R_rL, m_AI_rL, m_AL_rL, m_AD_rL, m_AR_rL, m_n_rL, m_I_rD, m_L_rD, m_R_rD, m_AI_rD, m_AL_rD, m_AD_rD, m_AR_rD, m_n_rD, m_I_rR, m_L_rR, m_R_rR, m_AI_rR, m_AL_rR, m_AD_rR, m_AR_rR, m_n_rR, true_and, and_true, and_false, false_and, and_self, if_true, if_false, ite_self, Nat.reduceEqDiff, reduceIte, obt, jlt, jbt, jbd_ite, bind_ite]; exact a7
  have e816 : jAL (psh f i (h + m) r (jrI C 813 (upd (jAI C 813) (f - 1) (nI (st + 1))))) 816 = jAL C 816 := rfl
  have e813 : jAI (psh f i (h + m) r (jrI C 813 (upd (jAI C 813) (f - 1) (nI (st + 1))))) 813 (f - 1) = nI (st + 1) := by unfold psh; simp only [m_I_sI, m_L_sI, m_R_sI, m_AI_sI, m_AL_sI, m_AD_sI, m_AR_sI, m_n_sI, m_I_sL, m_L_sL, m_R_sL, m_AI_sL, m_AL_sL, m_AD_sL, m_AR_sL, m_n_sL, m_I_sR, m_L_sR, m_R_sR, m_AI_sR, m_AL_sR, m_AD_sR, m_AR_sR, m_n_sR, m_I_rI, m_L_rI, m_R_rI, m_AI_rI, m_AL_rI, m_AD_rI, m_AR_rI, m_n_rI, m_I_rL, m_L_rL, m_R_rL, m_AI_rL, m_AL_rL, m_AD_rL, m_AR_rL, m_n_rL, m_I_rD, m_L_rD, m_R_rD, m_AI_rD, m_AL_rD, m_AD_rD, m_AR_rD, m_n_rD, m_I_rR, m_L_rR, m_R_rR, m_AI_rR, m_AL_rR, m_AD_rR, m_AR_rR, m_n_rR, upd_if, true_and, and_true, and_false, false_and, and_self, if_true, if_false, ite_self, Nat.reduceEqDiff, reduceIte, obt, jlt, jbt, jbd_ite, bind_ite]; rw [if_neg (by omega)]
  have est : ∀ z, z + 1 ≤ f → jAI (psh f i (h + m) r (jrI C 813 (upd (jAI C 813) (f - 1) (nI (st + 1))))) 812 z = jAI C 812 z ∧ jAI (psh f i (h + m) r (jrI C 813 (upd (jAI C 813) (f - 1) (nI (st + 1))))) 814 z = jAI C 814 z ∧ jAI (psh f i (h + m) r (jrI C 813 (upd (jAI C 813) (f - 1) (nI (st + 1))))) 815 z = jAI C 815 z := fun z hz => by
    unfold psh; simp only [m_I_sI, m_L_sI, m_R_sI, m_AI_sI, m_AL_sI, m_AD_sI, m_AR_sI, m_n_sI, m_I_sL, m_L_sL, m_R_sL, m_AI_sL, m_AL_sL, m_AD_sL, m_AR_sL, m_n_sL, m_I_sR, m_L_sR, m_R_sR, m_AI_sR, m_AL_sR, m_AD_sR, m_AR_sR, m_n_sR, m_I_rI, m_L_rI, m_R_rI, m_AI_rI, m_AL_rI, m_AD_rI, m_AR_rI, m_n_rI, m_I_rL, m_L_rL, m_R_rL, m_AI_rL, m_AL_rL, m_AD_rL, m_AR_rL, m_n_rL, m_I_rD, m_L_rD, m_R_rD, m_AI_rD, m_AL_rD, m_AD_rD, m_AR_rD, m_n_rD, m_I_rR, m_L_rR, m_R_rR, m_AI_rR, m_AL_rR, m_AD_rR, m_AR_rR, m_n_rR, upd_if, true_and, and_true, and_false, false_and, and_self, if_true, if_false, ite_self, Nat.reduceEqDiff, reduceIte, obt, jlt, jbt, jbd_ite, bind_ite]
    rw [if_neg (by omega), if_neg (by omega), if_neg (by omega)]
    exact ⟨rfl, rfl, rfl⟩
  generalize psh f i (h + m) r (jrI C 813 (upd (jAI C 813) (f - 1) (nI (st + 1)))) = C1 at *
  obtain ⟨j', C', x, R', i1, i2, w', p', sc', i3, i4, igr, i5, i6, i7⟩ := IH D hD A' lo' hi' rs i (f + 1) (h + m) r w p sc C1 R es1 ed1 ok1 top1 e62 a8 (by omega) hrs hhn tok (fun q hq => by rw [e816]; exact hA q hq) (by omega)
  have K1 : KP F t nr ru f h rs lo hi C0 R0 w0 p0 C1 R w p := a4.trans k1 (Nat.le_refl _) (Nat.le_refl _) (fun q z => z) (Nat.le_refl _)
  have K2 : KP F t nr ru f h rs lo hi C0 R0 w0 p0 C' R' w' p' := K1.trans i4 (by omega) (by omega) (fun q z => by omega) (Nat.le_refl _)
  have es2 := i4.es es1 p226
  obtain ⟨m1, m2, m3, m4, m5, m6, m7, m8⟩ := i4
  have hit2 : it F (j + 1 + j') C0 = some C' := it_j hit1 i1
  have top2 : TOP f k (st + 1) h r C' := by
    obtain ⟨x1, x2, x3, x4⟩ := m3 (f - 1) (by omega)
    obtain ⟨y1, y2, y3⟩ := est (f - 1) (by omega)
    exact ⟨by rw [i5, Nat.add_sub_cancel], t2, by rw [x1, y1]; exact t3, by rw [x2]; exact e813, by rw [x3, y2]; exact t5, by rw [x4, y3]; exact t6⟩
  have h400' := i3.1.2.2
  refine ⟨x, R', i2, ?_⟩
  rcases i7 with ⟨q1, q2, q3, q4, sl, q5, q6, q7⟩ | ⟨q1, q2, c, q3⟩
  · refine .inl ⟨j + 1 + j', C', w', p', sc', sl, q6, ⟨fun C2 hC2 => it_1 hit2 ?_ ?_, es2, i3, K2, q1, top2, ⟨by rw [q2]; rfl, i6⟩, ⟨by omega, by omega, by omega, b4, by omega⟩, fun z hz => ?_, by omega⟩, q4, fun q hq => ?_, m5, fun z hz => ⟨(k1p (h + z)).1.trans (m4 (h + z) (by omega)).1, (k1p (h + z)).2.trans (m4 (h + z) (by omega)).2⟩⟩
    · rw [top2.1, nI_toInt (by omega)]; omega
    · unfold stp
      rw [if_pos es2.2.2.2.2.2.2.2.1, if_pos q1.1, turn_ok es2.1 hF es2.2.2.2.2.2.2.2.2.1 es2.2.2.2.1.1 es2.2.2.2.2.2.1 b4 top2 (by omega), if_neg (by omega)]
      have ek : jAI C' (T + 1) = ki := es2.2.2.2.2.2.2.2.2.2.2.2.2.2.2.2.2.2.2.2.1
      rw [ek]
      exact hC2
    · by_cases c : z = m
      · simp only [if_pos c]
        rw [c]
        exact ⟨q5, q7⟩
      · simp only [if_neg c]
        obtain ⟨v1, v2⟩ := b6 z (by omega)
        have e19 : 818 + 2 * (h + z) + 1 = 819 + 2 * (h + z) := by omega
        exact ⟨by omega, v2.c ((k1p (h + z)).1.trans (m4 (h + z) (by omega)).1) (by rw [e19]; exact (k1p (h + z)).2.trans (m4 (h + z) (by omega)).2) (m5 _ v1.1)⟩
    · obtain ⟨x1, x2⟩ := m7 q hq
      exact ⟨by rw [x1, e816], x2⟩
  · exact .inr ⟨q1, j + 1 + j', C', c, w', p', sc', hit2, es2, i3, K2, q3, top2, i6, ⟨by omega, by omega, by omega⟩, by omega⟩
