/-! PURE: where an edition goes -/
theorem nJ_8 {s k : Nat} (hs : s < 4) (hk : k < 9) : ((8 : Int32) * nI s) + nI k = nI (8 * s + k) := by
  have hm : ((8 : Int32) * nI s) = nI (8 * s) := by
    rw [i_eq, nI_toInt (by omega), i_mul (by rw [nI_toInt (by omega), show (8 : Int32).toInt = 8 from rfl]; omega) (by rw [nI_toInt (by omega), show (8 : Int32).toInt = 8 from rfl]; omega), nI_toInt (by omega), show (8 : Int32).toInt = 8 from rfl]; omega
  rw [hm, nJ_add (by omega)]
theorem nJ_8r {s : Nat} (hs : s < 5) : (nI s * (8 : Int32)) = nI (8 * s) := by
  rw [i_eq, nI_toInt (by omega), i_mul (by rw [nI_toInt (by omega), show (8 : Int32).toInt = 8 from rfl]; omega) (by rw [nI_toInt (by omega), show (8 : Int32).toInt = 8 from rfl]; omega), nI_toInt (by omega), show (8 : Int32).toInt = 8 from rfl]; omega
theorem plc_end {sg : Nat → Nat} {C R : jM} (hC : Lay C) (hE : rE' sg C R) {s : Nat} (hs : s < 4) {d v3 : Int32} (hd : d ≠ -1) (hv : v3 ≠ -1) : ∀ m n k : Nat, k + m = 8 → m < n → (jAI R 2436 s).toInt ≤ (k : Int) → f_X11_placeForEdition_8 n 0 (nI s) d v3 (nI (8 * s + k)) C = some v3 := by
  have h8 : (nI s + (1 : Int32)) * (8 : Int32) = nI (8 * s + 8) := by rw [nJ_1 (by omega), nJ_8r (by omega)]; rfl
  intro m
  induction m with
  | zero =>
    intro n k hk hn hc
    obtain ⟨n, rfl⟩ : ∃ x, n = x + 1 := ⟨n - 1, by omega⟩
    rw [f_X11_placeForEdition_8, h8, if_pos (by rw [nJ_le (by omega) (by omega)]; omega)]
  | succ m ih =>
    intro n k hk hn hc
    obtain ⟨n, rfl⟩ : ∃ x, n = x + 1 := ⟨n - 1, by omega⟩
    obtain ⟨a1, a2⟩ := hE.2.2.2.2 s k hs (by omega)
    obtain ⟨-, b⟩ := a2.resolve_left (by omega)
    have hA : jA 618 18 (nI (8 * s + k)) = true := jA_n k_618 (by rw [ln_618]; omega) (by omega)
    have hcl : (nI (8 * s + k)).toNatClampNeg = 8 * s + k := nJ_cl (by omega)
    have k6 := k_txt (hE.1 (8 * s + k) (by omega))
    rw [f_X11_placeForEdition_8, h8, if_neg (by rw [nJ_le (by omega) (by omega)]; omega), if_pos k_0, ly_73 hC, obt, if_pos hA, hcl, a1, obt, if_pos k6, b, if_neg (Ne.symm hd), obt, if_pos hA, a1, obt, if_pos k6, b, if_pos rfl, if_neg hv, f_X11_placeForEdition_58, jlt, nJ_1 (by omega)]
    exact ih n (k + 1) (by omega) (by omega) (by omega)
theorem plc_ok {sg : Nat → Nat} {C R : jM} (hC : Lay C) (hR : Lay R) (hE : rE' sg C R) {s : Nat} (hs : s < 4) {d : Int32} (hd : d ≠ -1) : ∃ r, f_X11_placeForEdition 0 (nI s) d C = some r ∧ f_X12_slotOf 2398 (nI s) d R = some r ∧ (r = -1 ∨ ∃ k : Nat, k < 8 ∧ (k : Int) ≤ (jAI R 2436 s).toInt ∧ r = nI (8 * s + k)) := by
  have h8 : (nI s + (1 : Int32)) * (8 : Int32) = nI (8 * s + 8) := by rw [nJ_1 (by omega), nJ_8r (by omega)]; rfl
  have hc0 := hE.2.2.2.1 s hs
  obtain ⟨c, hc⟩ : ∃ c : Nat, (jAI R 2436 s).toInt = c := ⟨(jAI R 2436 s).toInt.toNat, by omega⟩
  have hcI : jAI R 2436 s = nI c := nI_is hc (by omega)
  have a36 : jA 2436 13 (nI s) = true := jA_n k_2436 (by rw [ln_2436]; omega) (by omega)
  have c36 : (nI s).toNatClampNeg = s := nJ_cl (by omega)
  have key : ∀ m k n n' : Nat, k + m = c → 9 < n + k → m < n' → ∃ r, f_X11_placeForEdition_8 n 0 (nI s) d (-1) (nI (8 * s + k)) C = some r ∧ f_X12_slotOf_2 n' 2398 (nI s) d (nI k) R = some r ∧ (r = -1 ∨ ∃ k : Nat, k < 8 ∧ (k : Int) ≤ (jAI R 2436 s).toInt ∧ r = nI (8 * s + k)) := by
    intro m
    induction m with
    | zero =>
      intro k n n' hk hn hn'
      obtain ⟨n, rfl⟩ : ∃ x, n = x + 1 := ⟨n - 1, by omega⟩
      obtain ⟨n', rfl⟩ : ∃ x, n' = x + 1 := ⟨n' - 1, by omega⟩
      have hkc : k = c := by omega
      subst hkc
      have er : f_X12_slotOf_2 (n' + 1) 2398 (nI s) d (nI k) R = if k = 8 then some (-1) else some (nI (8 * s + k)) := by
        rw [f_X12_slotOf_2, if_pos k_2398, ly_148 hR, obt, if_pos a36, c36, hcI, if_pos (by rw [nJ_le (by omega) (by omega)]; omega), obt, if_pos a36, hcI, obt, if_pos a36, hcI, nJ_8 hs (by omega)]
        by_cases c8 : k = 8
        · rw [if_pos c8, if_pos (by rw [c8]; rfl)]
        · rw [if_neg c8, if_neg (by rw [show (8 : Int32) = nI 8 from rfl, i_eq, nI_toInt (by omega), nI_toInt (by omega)]; omega)]
      rw [er]
      by_cases c8 : k = 8
      · rw [if_pos c8]
        refine ⟨-1, ?_, rfl, .inl rfl⟩
        rw [f_X11_placeForEdition_8, h8, if_pos (by rw [nJ_le (by omega) (by omega)]; omega)]
      · rw [if_neg c8]
        refine ⟨nI (8 * s + k), ?_, rfl, .inr ⟨k, by omega, by omega, rfl⟩⟩
        obtain ⟨a1, a2⟩ := hE.2.2.2.2 s k hs (by omega)
        obtain ⟨-, b⟩ := a2.resolve_left (by omega)
        have hA : jA 618 18 (nI (8 * s + k)) = true := jA_n k_618 (by rw [ln_618]; omega) (by omega)
        have hcl : (nI (8 * s + k)).toNatClampNeg = 8 * s + k := nJ_cl (by omega)
        have k6 := k_txt (hE.1 (8 * s + k) (by omega))
        rw [f_X11_placeForEdition_8, h8, if_neg (by rw [nJ_le (by omega) (by omega)]; omega), if_pos k_0, ly_73 hC, obt, if_pos hA, hcl, a1, obt, if_pos k6, b, if_neg (Ne.symm hd), obt, if_pos hA, a1, obt, if_pos k6, b, if_pos rfl, if_pos rfl, f_X11_placeForEdition_58, jlt, nJ_1 (by omega)]
        exact plc_end hC hE hs hd (by rw [Ne, i_eq, nI_toInt (by omega), show (-1 : Int32).toInt = -1 from rfl]; omega) (7 - k) n (k + 1) (by omega) (by omega) (by omega)
    | succ m ih =>
      intro k n n' hk hn hn'
      obtain ⟨n, rfl⟩ : ∃ x, n = x + 1 := ⟨n - 1, by omega⟩
      obtain ⟨n', rfl⟩ : ∃ x, n' = x + 1 := ⟨n' - 1, by omega⟩
      obtain ⟨a1, a2⟩ := hE.2.2.2.2 s k hs (by omega)
      obtain ⟨b1, b2, b3, b4, -⟩ := a2.resolve_right (by omega)
      have hA : jA 618 18 (nI (8 * s + k)) = true := jA_n k_618 (by rw [ln_618]; omega) (by omega)
      have hcl : (nI (8 * s + k)).toNatClampNeg = 8 * s + k := nJ_cl (by omega)
      have k6 := k_txt (hE.1 (8 * s + k) (by omega))
      have a35 : jA 2435 13 (nI (8 * s + k)) = true := jA_n k_2435 (by rw [ln_2435]; omega) (by omega)
      have nm : ¬ jAI R 2435 (8 * s + k) = -1 := by rw [i_eq, show (-1 : Int32).toInt = -1 from rfl]; omega
      obtain ⟨r, r1, r2, r3⟩ := ih (k + 1) n n' (by omega) (by omega) (by omega)
      have ec : f_X11_placeForEdition_8 (n + 1) 0 (nI s) d (-1) (nI (8 * s + k)) C = if jAI R 2435 (8 * s + k) = d then some (nI (8 * s + k)) else some r := by
        rw [f_X11_placeForEdition_8, h8, if_neg (by rw [nJ_le (by omega) (by omega)]; omega), if_pos k_0, ly_73 hC, obt, if_pos hA, hcl, a1, obt, if_pos k6, b2, obt, if_pos hA, a1, obt, if_pos k6, b2, if_neg nm, f_X11_placeForEdition_58, jlt, nJ_1 (by omega)]
        rw [Nat.add_assoc, r1]
      have er : f_X12_slotOf_2 (n' + 1) 2398 (nI s) d (nI k) R = if jAI R 2435 (8 * s + k) = d then some (nI (8 * s + k)) else some r := by
        rw [f_X12_slotOf_2, if_pos k_2398, ly_148 hR, obt, if_pos a36, c36, hcI, if_neg (by rw [nJ_le (by omega) (by omega)]; omega), ly_147 hR, obt, nJ_8 hs (by omega), if_pos a35, hcl, jlt, nJ_1 (by omega), r2]
      rw [ec, er]
      by_cases c : jAI R 2435 (8 * s + k) = d
      · rw [if_pos c]
        exact ⟨_, rfl, rfl, .inr ⟨k, by omega, by omega, rfl⟩⟩
      · rw [if_neg c]
        exact ⟨r, rfl, rfl, r3⟩
  have := key c 0 1100000 1100000 (by omega) (by omega) (by omega)
  unfold f_X11_placeForEdition f_X12_slotOf
  rw [nJ_8r (by omega), jlt]
  exact this
