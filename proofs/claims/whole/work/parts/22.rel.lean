/-! PURE: the two states, compared -/
/-- what a call of the class may touch, and what one of the reference -/
def pC (t f a : Nat) : Prop := a < 2398 ∧ (t = 2 → f = 64 ∨ f = 65 ∨ f = 25) ∧ (t = 3 → jK a < 16 ∨ a = 618)
def pR (t f a : Nat) : Prop := 2398 ≤ a ∧ t ≠ 2 ∧ (t = 3 → jK a < 16)
theorem Lay.fr {S S' : jM} {p : Nat → Nat → Nat → Prop} (h : Lay S) (hF : Fr p S S') (hp : ∀ f a, p 2 f a → f = 64 ∨ f = 65 ∨ f = 25) (hq : ∀ a, p 3 0 a → jK a < 16 ∨ a = 618) : Lay S' := by
  obtain ⟨h1, h2, h3, h4, h5, h6, h7, h8, h9, h10⟩ := h
  have hl : ∀ q ∈ layL, ¬ (q.1 = 64 ∨ q.1 = 65 ∨ q.1 = 25) := by decide
  have hR : ∀ f a, ¬ (f = 64 ∨ f = 65 ∨ f = 25) → jR S' f a = jR S f a := fun f a q => hF.2.2.1 f a (fun z => q (hp f a z))
  have hA : ∀ a, ¬ (jK a < 16 ∨ a = 618) → jAR S' a = jAR S a := fun a q => (hF.2.2.2.1 a (fun z => q (hq a z))).2.2.2
  have n4 : ¬ (jK 4 < 16 ∨ 4 = 618) := by rw [k_4]; decide
  have n817 : ¬ (jK 817 < 16 ∨ 817 = 618) := by rw [k_817]; decide
  have n2177 : ¬ (jK 2177 < 16 ∨ 2177 = 618) := by rw [k_2177]; decide
  have n2196 : ¬ (jK 2196 < 16 ∨ 2196 = 618) := by rw [k_2196]; decide
  refine ⟨fun q hq => by rw [hR _ _ (hl q hq)]; exact h1 q hq, fun a ha => by rw [hR _ _ (by decide)]; exact h2 a ha, fun a ha => by rw [hR _ _ (by decide)]; exact h3 a ha, fun a ha => ?_, fun a ha => ?_, fun a ha => ?_, fun i hi => by rw [hA _ n4]; exact h7 i hi, fun i hi => by rw [hA _ n817]; exact h8 i hi, fun i hi => by rw [hA _ n2177]; exact h9 i hi, fun i hi => by rw [hA _ n2196]; exact h10 i hi⟩
  · rw [hR _ _ (by decide), hR _ _ (by decide), hR _ _ (by decide), hR _ _ (by decide), hR _ _ (by decide)]; exact h4 a ha
  · rw [hR _ _ (by decide), hR _ _ (by decide)]; exact h5 a ha
  · have h618 : ¬ (jK (a + 4) < 16 ∨ a + 4 = 618) := by
      have hk := (kd_case ha).2.2.2.1
      intro e
      rcases e with e | e
      · omega
      · have : a = 614 := by omega
        subst this
        exact absurd ha (by decide +kernel)
    rw [hR _ _ (by decide), hR _ _ (by decide), hR _ _ (by decide), hR _ _ (by decide), hA _ h618]; exact h6 a ha
theorem Lay.frC {S S' : jM} (h : Lay S) (hF : Fr pC S S') : Lay S' := h.fr hF (fun _ _ z => z.2.1 rfl) (fun _ z => z.2.2 rfl)
theorem Lay.frR {S S' : jM} (h : Lay S) (hF : Fr pR S S') : Lay S' := h.fr hF (fun _ _ z => absurd rfl z.2.1) (fun _ z => .inl (z.2.2 rfl))
/-- the shape of a VALUE, and its items -/
def vshape (so sz : Int32) : Prop := 0 ≤ so.toInt ∧ so.toInt ≤ 8 ∧ 0 ≤ sz.toInt ∧ sz.toInt ≤ 12 ∧ (so.toInt < 2 ∨ 7 < so.toInt → sz.toInt = 0)
def vlen (so sz : Int32) : Int := if 2 ≤ so.toInt ∧ so.toInt ≤ 7 then sz.toInt else 1
def vcan (b : Int64) : Prop := 9218868437227405312 < (b &&& 9223372036854775807).toInt → b = 9221120237041090560
def vitem (n : Int) (so : Int32) (b w : Int64) (d : UInt64) : Prop := if so.toInt = 1 ∨ so.toInt = 4 then d = b.toUInt64 ∧ vcan b else b = w ∧ (5 ≤ so.toInt → -1 ≤ b.toInt ∧ b.toInt < n) ∧ (so.toInt = 8 → 0 ≤ b.toInt)
def VV (n : Int) (so sz : Int32) (b : Nat → Int64) (so' sz' : Int32) (w : Nat → Int64) (d : Nat → UInt64) : Prop :=
  so = so' ∧ sz = sz' ∧ vshape so sz ∧ ∀ j : Nat, (j : Int) < vlen so sz → vitem n so (b j) (w j) (d j)
def VR (n : Int) (C : jM) (v : Nat) (R : jM) (s : Nat) : Prop :=
  VV n (jI C 52 v) (jI C 53 v) (jAL C (v + 1)) (jAI R 2399 s) (jAI R 2400 s) (fun j => jAL R 2401 (12 * s + j)) (fun j => jAD R 2402 (12 * s + j))
/-- the tape -/
def rT (C R : jM) : Prop := jI C 37 608 = jI R 94 2398 ∧ 0 ≤ (jI C 37 608).toInt ∧ (jI C 37 608).toInt ≤ 1600 ∧ ∀ j : Nat, (j : Int) < (jI C 37 608).toInt → jAI R 2403 j = jAI C 609 j &&& 255
/-- the day -/
def rN (C R : jM) : Prop := jI C 82 0 = jI R 139 2398 ∧ 0 ≤ (jI C 82 0).toInt ∧ (jI C 82 0).toInt ≤ 389
/-- the persons -/
def rP (C R : jM) : Prop := jI C 31 1 = jI R 138 2398 ∧ 0 ≤ (jI C 31 1).toInt ∧ (jI C 31 1).toInt ≤ 16 ∧ ∀ j : Nat, (j : Int) < (jI C 31 1).toInt → jAI C 2 j = jAI R 2427 j ∧ jAI C 3 j = jAI R 2428 j ∧ (jAI C 2 j = 0 ∨ jAI C 2 j = 1)
/-- the desk -/
def rD (C R : jM) : Prop := VR (jI C 31 1).toInt C 605 R 0
/-- the facts -/
def rF (C R : jM) : Prop := jI C 34 1 = jI R 146 2398 ∧ 0 ≤ (jI C 34 1).toInt ∧ (jI C 34 1).toInt ≤ 200 ∧ ∀ i : Nat, (i : Int) < (jI C 34 1).toInt →
  jI C 17 (5 + 3 * i) = jAI R 2429 i ∧ jL C 18 (5 + 3 * i) = jAL R 2430 i ∧ jI C 19 (5 + 3 * i) = jAI R 2431 i ∧ jI C 20 (5 + 3 * i) = jAI R 2432 i ∧ jI C 21 (5 + 3 * i) = jAI R 2433 i ∧ jI C 22 (5 + 3 * i) = jAI R 2434 i ∧ (jI C 22 (5 + 3 * i) = -1 ∨ 0 ≤ (jI C 22 (5 + 3 * i)).toInt) ∧ VR (jI C 31 1).toInt C (6 + 3 * i) R (1 + i)
/-- the fault -/
def rU (C R : jM) : Prop := jI C 26 607 = jI R 149 2398
/-- the awards -/
def rA (C R : jM) : Prop := jI C 79 0 = jI R 160 2398 ∧ 0 ≤ (jI C 79 0).toInt ∧ (jI C 79 0).toInt ≤ 6 ∧
  (∀ i : Nat, (i : Int) < (jI C 79 0).toInt → jI C 0 (2178 + 3 * i) = jAI R 2438 i ∧ jI C 1 (2178 + 3 * i) = jAI R 2439 i ∧ jI C 2 (2178 + 3 * i) = jAI R 2440 i ∧ jI C 3 (2178 + 3 * i) = jAI R 2443 i ∧
    (0 ≤ (jI C 0 (2178 + 3 * i)).toInt ∧ (jI C 0 (2178 + 3 * i)).toInt ≤ 9) ∧ (0 ≤ (jI C 1 (2178 + 3 * i)).toInt ∧ (jI C 1 (2178 + 3 * i)).toInt ≤ 3) ∧ (0 ≤ (jI C 2 (2178 + 3 * i)).toInt ∧ (jI C 2 (2178 + 3 * i)).toInt ≤ 12) ∧ (0 ≤ (jI C 3 (2178 + 3 * i)).toInt ∧ (jI C 3 (2178 + 3 * i)).toInt ≤ 6) ∧
    ∀ j : Nat, (j : Int) < (jI C 3 (2178 + 3 * i)).toInt → jAI C (2179 + 3 * i) j = jAI R 2441 (6 * i + j) ∧ jAI C (2180 + 3 * i) j = jAI R 2442 (6 * i + j)) ∧
  ∀ i : Nat, (jI C 79 0).toInt ≤ i → i < 6 → jI C 3 (2178 + 3 * i) = 0
/-- the payments -/
def rY (C R : jM) : Prop := jI C 81 0 = jI R 175 2398 ∧ 0 ≤ (jI C 81 0).toInt ∧ (jI C 81 0).toInt ≤ 200 ∧
  (∀ k : Nat, (k : Int) < (jI C 81 0).toInt → jAL C (2197 + k) 0 = (jAI R 2445 k).toInt64 ∧ jAL C (2197 + k) 1 = (jAI R 2446 k).toInt64 ∧ (∀ j : Nat, j < 4 → jAL C (2197 + k) (2 + j) = jAL R 2447 (4 * k + j)) ∧
    jAL C (2197 + k) 6 = (jAI R 2448 k).toInt64 ∧ (jAI R 2448 k = 0 ∨ jAI R 2448 k = 1) ∧ jAL C (2197 + k) 7 = (jAI R 2449 k).toInt64 ∧ (jAI R 2449 k = 0 ∨ jAI R 2449 k = 1)) ∧
  ∀ k j : Nat, k < 200 → j < 6 → (jAL C (2197 + k) (8 + j)).toInt32 = jAI R 2450 (6 * k + j)
/-- the run -/
def rR (C R : jM) : Prop := jI C 83 0 = jI R 164 2398 ∧ (0 ≤ (jI C 83 0).toInt ∧ (jI C 83 0).toInt ≤ 100) ∧ jI C 84 0 = jI R 165 2398 ∧ (-1 ≤ (jI C 84 0).toInt ∧ (jI C 84 0).toInt ≤ 12) ∧
  jI C 86 0 = jI R 167 2398 ∧ jI C 87 0 = jI R 168 2398 ∧ 0 ≤ (jI C 87 0).toInt ∧ (jI C 87 0).toInt ≤ (jI C 86 0).toInt ∧ (jI C 86 0).toInt ≤ 6 ∧ (jI C 81 0).toInt + (jI C 86 0).toInt - (jI C 87 0).toInt ≤ 200 ∧
  ∀ j : Nat, (j : Int) < (jI C 86 0).toInt → jAI C 2397 j = jAI R 2444 j ∧ 0 ≤ (jAI C 2397 j).toInt ∧ (jAI C 2397 j).toInt < (jI C 79 0).toInt
/-- the latest figure, as told -/
def rS (C R : jM) : Prop := jI C 8 2018 = jI R 150 2398 ∧ jI C 9 2018 = jI R 151 2398 ∧ jI C 16 2018 = jI R 152 2398 ∧ jI C 10 2018 = jI R 153 2398 ∧ jI C 11 2018 = jI R 154 2398 ∧ (0 ≤ (jI C 16 2018).toInt ∧ (jI C 16 2018).toInt ≤ 24) ∧
  ∀ k : Nat, (k : Int) < (jI C 16 2018).toInt → ∃ r : Nat, r < 24 ∧ (jAI C 2021 k).toInt = r ∧ (0 ≤ (jAI C 2019 r).toInt ∧ (jAI C 2019 r).toInt ≤ 7) ∧ (jAI R 2437 k).toInt = 100 * r + (jAI C 2019 r).toInt ∧ (jAI C 2019 r = 0 → VR (jI C 31 1).toInt C (2023 + 2 * r) R (201 + k))
/-- the kinds of the class's PARTS, and of the reference's nodes -/
def kmap (k : Int32) : Int32 := if k = 91 then 51 else if 128 ≤ k then k - 127 else if 20 ≤ k then 100 + k else if k = 10 then 45 else if k = 9 then 46 else if k = 8 then 50 else if k = 7 then 49 else if k = 6 then 48 else if k = 5 then 47 else 38 + k
/-- of how many others a PART is made -/
def tar (k : Int32) : Nat := if k = 135 ∨ k = 146 ∨ k = 151 then 3 else if k = 149 ∨ k = 128 ∨ k = 136 ∨ k = 137 ∨ k = 139 ∨ k = 140 then 2 else if k = 131 then 0 else if 128 ≤ k then 1 else if 9 ≤ k then 2 else if k = 5 then 1 else 0
def tkind (k : Int32) : Prop := k = 3 ∨ k = 4 ∨ k = 5 ∨ k = 6 ∨ k = 7 ∨ k = 8 ∨ k = 9 ∨ k = 10 ∨ k = 60 ∨ k = 61 ∨ k = 43 ∨ k = 45 ∨ k = 42 ∨ k = 47 ∨ k = 37 ∨ k = 91 ∨ k = 128 ∨ k = 129 ∨ k = 130 ∨ k = 131 ∨ k = 133 ∨ k = 135 ∨ k = 136 ∨ k = 137 ∨ k = 138 ∨ k = 139 ∨ k = 140 ∨ k = 141 ∨ k = 143 ∨ k = 144 ∨ k = 146 ∨ k = 149 ∨ k = 150 ∨ k = 151 ∨ k = 152
/-- a PART and what it is made of, down to the leaves, at most d deep, all of it in lo .. hi; the sums around; ru r: how deep a rule is, where its PARTS begin and end -/
def tOK (ki : Nat → Int32) (co : Nat → Int64) (inn : Nat → Int32) (ru : Nat → Nat × Nat × Nat) (nr rs : Nat) : Nat → (Nat → Prop) → Nat → Nat → Nat → Prop
  | 0, _, _, _, _ => False
  | d + 1, act, lo, hi, k => lo ≤ k ∧ k < hi ∧ tkind (ki k) ∧
    (∀ j : Nat, j < tar (ki k) → ∃ i : Nat, inn (3 * k + j) = nI i ∧ (if ki k = 146 then (if j = 2 then tOK ki co inn ru nr rs d (fun q => act q ∨ q = k) (k + 1) hi i else tOK ki co inn ru nr rs d act (k + 1) hi i) else tOK ki co inn ru nr rs d act lo hi i)) ∧
    (ki k = 6 → ∃ q : Nat, co k = Int64.ofNat q ∧ act q) ∧
    (ki k = 7 → ∃ r : Nat, co k = Int64.ofNat r ∧ r < nr ∧ (ru r).1 ≤ d ∧ (ru r).2.2 ≤ rs)
/-- a PART of the class and its node -/
def rK (C : jM) (T : Nat) (R : jM) (t k : Nat) : Prop :=
  jAI R 2408 (301 * t + k) = kmap (jAI C (T + 1) k) ∧
  (jAI C (T + 1) k = 3 ∨ jAI C (T + 1) k = 8 → jAL C (T + 2) k = jAL R 2412 (301 * t + k)) ∧
  (jAI C (T + 1) k = 4 → f_X5_decimal (jAL R 2412 (301 * t + k)) (jAI R 2413 (301 * t + k)) = some (jAL C (T + 2) k) ∧ 0 ≤ (jAI R 2413 (301 * t + k)).toInt ∧ (jAI R 2413 (301 * t + k)).toInt ≤ 6) ∧
  (jAI C (T + 1) k = 6 → (jAI R 2409 (301 * t + k)).toInt = 301 * t + (jAL C (T + 2) k).toInt) ∧
  (jAI C (T + 1) k = 7 → (jAI R 2409 (301 * t + k)).toInt = (jAL C (T + 2) k).toInt) ∧
  (jAI C (T + 1) k ≠ 6 → jAI C (T + 1) k ≠ 7 → jAI C (T + 1) k ≠ 8 → (jAI R 2409 (301 * t + k)).toInt = if 0 < tar (jAI C (T + 1) k) then 301 * t + (jAI C (T + 3) (3 * k)).toInt else -1) ∧
  ((jAI R 2410 (301 * t + k)).toInt = if 1 < tar (jAI C (T + 1) k) then 301 * t + (jAI C (T + 3) (3 * k + 1)).toInt else -1) ∧
  ((jAI R 2411 (301 * t + k)).toInt = if 2 < tar (jAI C (T + 1) k) then 301 * t + (jAI C (T + 3) (3 * k + 2)).toInt else -1)
/-- a text of the class and one of the reference's -/
def rX (C : jM) (T : Nat) (R : jM) (t : Nat) : Prop :=
  ∃ np nr : Nat, np ≤ 300 ∧ nr ≤ 24 ∧ jI C 45 T = nI np ∧ jI C 49 T = nI nr ∧ jAI R 2415 t = nI nr ∧
  (∀ k : Nat, k < np → rK C T R t k) ∧
  ∃ ru : Nat → Nat × Nat × Nat, ∀ r : Nat, r < nr → jAL C (T + 4) r = jAL R 2416 (24 * t + r) ∧ (ru r).1 ≤ 300 ∧ (ru r).2.2 ≤ np ∧
    ∃ k : Nat, jAI C (T + 5) r = nI k ∧ jAI R 2417 (24 * t + r) = nI (301 * t + k) ∧ tOK (jAI C (T + 1)) (jAL C (T + 2)) (jAI C (T + 3)) ru nr (ru r).2.1 (ru r).1 (fun _ => False) (ru r).2.1 (ru r).2.2 k
def txt (a : Nat) : Nat := if a = 0 then 610 else 613 + 6 * a
/-- the editions -/
def rE (C R : jM) : Prop := ∃ sg : Nat → Nat, (∀ i : Nat, i < 33 → sg i < 33) ∧ (∀ i j : Nat, i < 33 → j < 33 → sg i = sg j → i = j) ∧ jR C 25 607 = some (txt (sg 32)) ∧
  (∀ s : Nat, s < 4 → 0 ≤ (jAI R 2436 s).toInt ∧ (jAI R 2436 s).toInt ≤ 8) ∧
  ∀ s k : Nat, s < 4 → k < 8 → jAR C 618 (8 * s + k) = some (txt (sg (8 * s + k))) ∧
    (((k : Int) < (jAI R 2436 s).toInt ∧ jI C 44 (txt (sg (8 * s + k))) = jAI R 2435 (8 * s + k) ∧ 0 ≤ (jAI R 2435 (8 * s + k)).toInt ∧ (jAI R 2435 (8 * s + k)).toInt ≤ 389 ∧ rX C (txt (sg (8 * s + k))) R (8 * s + k)) ∨ ((jAI R 2436 s).toInt ≤ (k : Int) ∧ jI C 44 (txt (sg (8 * s + k))) = -1))
def Rel (C R : jM) : Prop := rT C R ∧ rN C R ∧ rP C R ∧ rD C R ∧ rF C R ∧ rU C R ∧ rA C R ∧ rY C R ∧ rR C R ∧ rS C R ∧ rE C R

/-- one place, one slot, one text of the reference are as they were -/
def sP (S S' : jM) (a : Nat) : Prop := (∀ f, jI S' f a = jI S f a) ∧ (∀ f, jL S' f a = jL S f a) ∧ jAI S' a = jAI S a ∧ jAL S' a = jAL S a
def sS (R R' : jM) (s : Nat) : Prop := jAI R' 2399 s = jAI R 2399 s ∧ jAI R' 2400 s = jAI R 2400 s ∧ ∀ j : Nat, j < 12 → jAL R' 2401 (12 * s + j) = jAL R 2401 (12 * s + j) ∧ jAD R' 2402 (12 * s + j) = jAD R 2402 (12 * s + j)
def sX (R R' : jM) (t : Nat) : Prop := jAI R' 2415 t = jAI R 2415 t ∧ (∀ k : Nat, k < 300 → jAI R' 2408 (301 * t + k) = jAI R 2408 (301 * t + k) ∧ jAI R' 2409 (301 * t + k) = jAI R 2409 (301 * t + k) ∧ jAI R' 2410 (301 * t + k) = jAI R 2410 (301 * t + k) ∧ jAI R' 2411 (301 * t + k) = jAI R 2411 (301 * t + k) ∧ jAL R' 2412 (301 * t + k) = jAL R 2412 (301 * t + k) ∧ jAI R' 2413 (301 * t + k) = jAI R 2413 (301 * t + k)) ∧
  ∀ r : Nat, r < 24 → jAL R' 2416 (24 * t + r) = jAL R 2416 (24 * t + r) ∧ jAI R' 2417 (24 * t + r) = jAI R 2417 (24 * t + r)
theorem Fr.sP {p : Nat → Nat → Nat → Prop} {S S' : jM} {a : Nat} (h : Fr p S S') (hp : ∀ t f, ¬ p t f a) : sP S S' a :=
  ⟨fun f => h.1 f a (hp 0 f), fun f => h.2.1 f a (hp 1 f), (h.2.2.2.1 a (hp 3 0)).1, (h.2.2.2.1 a (hp 3 0)).2.1⟩
theorem Fr.sS {p : Nat → Nat → Nat → Prop} {S S' : jM} (h : Fr p S S') (hp : ∀ a, 2399 ≤ a → a ≤ 2402 → ¬ p 3 0 a) (s : Nat) : sS S S' s :=
  ⟨by rw [(h.2.2.2.1 2399 (hp _ (by decide) (by decide))).1], by rw [(h.2.2.2.1 2400 (hp _ (by decide) (by decide))).1], fun j _ => ⟨by rw [(h.2.2.2.1 2401 (hp _ (by decide) (by decide))).2.1], by rw [(h.2.2.2.1 2402 (hp _ (by decide) (by decide))).2.2.1]⟩⟩
theorem Fr.sX {p : Nat → Nat → Nat → Prop} {S S' : jM} (h : Fr p S S') (hp : ∀ a, 2408 ≤ a → a ≤ 2417 → ¬ p 3 0 a) (t : Nat) : sX S S' t :=
  ⟨by rw [(h.2.2.2.1 2415 (hp _ (by decide) (by decide))).1], fun k _ => ⟨by rw [(h.2.2.2.1 2408 (hp _ (by decide) (by decide))).1], by rw [(h.2.2.2.1 2409 (hp _ (by decide) (by decide))).1], by rw [(h.2.2.2.1 2410 (hp _ (by decide) (by decide))).1], by rw [(h.2.2.2.1 2411 (hp _ (by decide) (by decide))).1], by rw [(h.2.2.2.1 2412 (hp _ (by decide) (by decide))).2.1], by rw [(h.2.2.2.1 2413 (hp _ (by decide) (by decide))).1]⟩, fun r _ => ⟨by rw [(h.2.2.2.1 2416 (hp _ (by decide) (by decide))).2.1], by rw [(h.2.2.2.1 2417 (hp _ (by decide) (by decide))).1]⟩⟩
theorem Fr.i {p : Nat → Nat → Nat → Prop} {S S' : jM} {f a : Nat} (h : Fr p S S') (hp : ¬ p 0 f a) : jI S' f a = jI S f a := h.1 f a hp
theorem Fr.ai {p : Nat → Nat → Nat → Prop} {S S' : jM} {a : Nat} (h : Fr p S S') (hp : ¬ p 3 0 a) : jAI S' a = jAI S a := (h.2.2.2.1 a hp).1
theorem Fr.al {p : Nat → Nat → Nat → Prop} {S S' : jM} {a : Nat} (h : Fr p S S') (hp : ¬ p 3 0 a) : jAL S' a = jAL S a := (h.2.2.2.1 a hp).2.1
theorem Fr.ar {p : Nat → Nat → Nat → Prop} {S S' : jM} {a : Nat} (h : Fr p S S') (hp : ¬ p 3 0 a) : jAR S' a = jAR S a := (h.2.2.2.1 a hp).2.2.2
theorem Fr.r {p : Nat → Nat → Nat → Prop} {S S' : jM} {f a : Nat} (h : Fr p S S') (hp : ¬ p 2 f a) : jR S' f a = jR S f a := h.2.2.1 f a hp
theorem vlen_le {so sz : Int32} (h : vshape so sz) : vlen so sz ≤ 12 := by
  obtain ⟨-, -, -, h4, -⟩ := h
  unfold vlen; split <;> omega
theorem VR.c {n : Int} {C C' R R' : jM} {v s : Nat} (h : VR n C v R s) (h1 : sP C C' v) (h2 : sP C C' (v + 1)) (h3 : sS R R' s) : VR n C' v R' s := by
  obtain ⟨e1, e2, e3, e4⟩ := h
  unfold VR VV
  rw [h1.1, h1.1, h2.2.2.2, h3.1, h3.2.1]
  refine ⟨e1, e2, e3, fun j hj => ?_⟩
  have hj2 : j < 12 := by have := vlen_le e3; omega
  have := e4 j hj
  simp only [(h3.2.2 j hj2).1, (h3.2.2 j hj2).2]
  exact this
def cT (t f a : Nat) : Prop := (t = 0 ∧ f = 37 ∧ a = 608) ∨ (t = 3 ∧ a = 609)
def mT (t f a : Nat) : Prop := (t = 0 ∧ f = 94 ∧ a = 2398) ∨ (t = 3 ∧ a = 2403)
def cN (t f a : Nat) : Prop := t = 0 ∧ f = 82 ∧ a = 0
def mN (t f a : Nat) : Prop := t = 0 ∧ f = 139 ∧ a = 2398
def cP (t f a : Nat) : Prop := (t = 0 ∧ f = 31 ∧ a = 1) ∨ (t = 3 ∧ (a = 2 ∨ a = 3))
def mP (t f a : Nat) : Prop := (t = 0 ∧ f = 138 ∧ a = 2398) ∨ (t = 3 ∧ (a = 2427 ∨ a = 2428))
def cD (t f a : Nat) : Prop := (t = 0 ∧ f = 31 ∧ a = 1) ∨ a = 605 ∨ a = 606
def mD (t f a : Nat) : Prop := False
def cF (t f a : Nat) : Prop := (t = 0 ∧ (f = 31 ∨ f = 34) ∧ a = 1) ∨ (5 ≤ a ∧ a < 605)
def mF (t f a : Nat) : Prop := (t = 0 ∧ f = 146 ∧ a = 2398) ∨ (t = 3 ∧ 2429 ≤ a ∧ a ≤ 2434)
def cU (t f a : Nat) : Prop := t = 0 ∧ f = 26 ∧ a = 607
def mU (t f a : Nat) : Prop := t = 0 ∧ f = 149 ∧ a = 2398
def cA (t f a : Nat) : Prop := (t = 0 ∧ f = 79 ∧ a = 0) ∨ (2178 ≤ a ∧ a < 2196)
def mA (t f a : Nat) : Prop := (t = 0 ∧ f = 160 ∧ a = 2398) ∨ (t = 3 ∧ 2438 ≤ a ∧ a ≤ 2443)
def cY (t f a : Nat) : Prop := (t = 0 ∧ f = 81 ∧ a = 0) ∨ (t = 3 ∧ 2197 ≤ a ∧ a < 2397)
def mY (t f a : Nat) : Prop := (t = 0 ∧ f = 175 ∧ a = 2398) ∨ (t = 3 ∧ 2445 ≤ a ∧ a ≤ 2450)
def cR (t f a : Nat) : Prop := (t = 0 ∧ (f = 79 ∨ f = 81 ∨ f = 83 ∨ f = 84 ∨ f = 86 ∨ f = 87) ∧ a = 0) ∨ (t = 3 ∧ a = 2397)
def mR (t f a : Nat) : Prop := (t = 0 ∧ (f = 164 ∨ f = 165 ∨ f = 167 ∨ f = 168) ∧ a = 2398) ∨ (t = 3 ∧ a = 2444)
def cS (t f a : Nat) : Prop := (t = 0 ∧ f = 31 ∧ a = 1) ∨ (2018 ≤ a ∧ a < 2071)
def mS (t f a : Nat) : Prop := (t = 0 ∧ 150 ≤ f ∧ f ≤ 154 ∧ a = 2398) ∨ (t = 3 ∧ a = 2437)
def cE (t f a : Nat) : Prop := (t = 2 ∧ f = 25 ∧ a = 607) ∨ (t = 3 ∧ a = 618) ∨ (610 ≤ a ∧ a < 616) ∨ (619 ≤ a ∧ a < 811)
def mE (t f a : Nat) : Prop := t = 3 ∧ (a = 2435 ∨ a = 2436)
theorem rT_f {p q : Nat → Nat → Nat → Prop} {C C' R R' : jM} (hC : Fr p C C') (hR : Fr q R R') (hp : ∀ t f a, cT t f a → ¬ p t f a) (hq : ∀ t f a, mT t f a → ¬ q t f a) (h : rT C R) : rT C' R' := by
  have c0 := hC.i (hp 0 37 608 (by unfold cT; omega))
  have c1 := hC.ai (hp 3 0 609 (by unfold cT; omega))
  have m0 := hR.i (hq 0 94 2398 (by unfold mT; omega))
  have m1 := hR.ai (hq 3 0 2403 (by unfold mT; omega))
  unfold rT at *; rw [c0, c1, m0, m1]; exact h
theorem rN_f {p q : Nat → Nat → Nat → Prop} {C C' R R' : jM} (hC : Fr p C C') (hR : Fr q R R') (hp : ∀ t f a, cN t f a → ¬ p t f a) (hq : ∀ t f a, mN t f a → ¬ q t f a) (h : rN C R) : rN C' R' := by
  have c0 := hC.i (hp 0 82 0 (by unfold cN; omega))
  have m0 := hR.i (hq 0 139 2398 (by unfold mN; omega))
  unfold rN at *; rw [c0, m0]; exact h
theorem rP_f {p q : Nat → Nat → Nat → Prop} {C C' R R' : jM} (hC : Fr p C C') (hR : Fr q R R') (hp : ∀ t f a, cP t f a → ¬ p t f a) (hq : ∀ t f a, mP t f a → ¬ q t f a) (h : rP C R) : rP C' R' := by
  have c0 := hC.i (hp 0 31 1 (by unfold cP; omega))
  have c1 := hC.ai (hp 3 0 2 (by unfold cP; omega))
  have c2 := hC.ai (hp 3 0 3 (by unfold cP; omega))
  have m0 := hR.i (hq 0 138 2398 (by unfold mP; omega))
  have m1 := hR.ai (hq 3 0 2427 (by unfold mP; omega))
  have m2 := hR.ai (hq 3 0 2428 (by unfold mP; omega))
  unfold rP at *; rw [c0, c1, c2, m0, m1, m2]; exact h
theorem rU_f {p q : Nat → Nat → Nat → Prop} {C C' R R' : jM} (hC : Fr p C C') (hR : Fr q R R') (hp : ∀ t f a, cU t f a → ¬ p t f a) (hq : ∀ t f a, mU t f a → ¬ q t f a) (h : rU C R) : rU C' R' := by
  have c0 := hC.i (hp 0 26 607 (by unfold cU; omega))
  have m0 := hR.i (hq 0 149 2398 (by unfold mU; omega))
  unfold rU at *; rw [c0, m0]; exact h
theorem rR_f {p q : Nat → Nat → Nat → Prop} {C C' R R' : jM} (hC : Fr p C C') (hR : Fr q R R') (hp : ∀ t f a, cR t f a → ¬ p t f a) (hq : ∀ t f a, mR t f a → ¬ q t f a) (h : rR C R) : rR C' R' := by
  have c0 := hC.i (hp 0 79 0 (by unfold cR; omega))
  have c1 := hC.i (hp 0 81 0 (by unfold cR; omega))
  have c2 := hC.i (hp 0 83 0 (by unfold cR; omega))
  have c3 := hC.i (hp 0 84 0 (by unfold cR; omega))
  have c4 := hC.i (hp 0 86 0 (by unfold cR; omega))
  have c5 := hC.i (hp 0 87 0 (by unfold cR; omega))
  have c6 := hC.ai (hp 3 0 2397 (by unfold cR; omega))
  have m0 := hR.i (hq 0 164 2398 (by unfold mR; omega))
  have m1 := hR.i (hq 0 165 2398 (by unfold mR; omega))
  have m2 := hR.i (hq 0 167 2398 (by unfold mR; omega))
  have m3 := hR.i (hq 0 168 2398 (by unfold mR; omega))
  have m4 := hR.ai (hq 3 0 2444 (by unfold mR; omega))
  unfold rR at *; rw [c0, c1, c2, c3, c4, c5, c6, m0, m1, m2, m3, m4]; exact h
theorem rD_f {p q : Nat → Nat → Nat → Prop} {C C' R R' : jM} (hC : Fr p C C') (hR : Fr q R R') (hp : ∀ t f a, cD t f a → ¬ p t f a) (hq : ∀ t f a, mD t f a → ¬ q t f a) (hs : sS R R' 0) (h : rD C R) : rD C' R' := by
  have c0 := hC.i (hp 0 31 1 (by unfold cD; omega))
  unfold rD at *; rw [c0]
  exact h.c (hC.sP (fun t f => hp t f _ (by unfold cD; omega))) (hC.sP (fun t f => hp t f _ (by unfold cD; omega))) hs
theorem rF_f {p q : Nat → Nat → Nat → Prop} {C C' R R' : jM} (hC : Fr p C C') (hR : Fr q R R') (hp : ∀ t f a, cF t f a → ¬ p t f a) (hq : ∀ t f a, mF t f a → ¬ q t f a) (hs : ∀ s, 1 ≤ s → s ≤ 200 → sS R R' s) (h : rF C R) : rF C' R' := by
  have c0 := hC.i (hp 0 31 1 (by unfold cF; omega))
  have c1 := hC.i (hp 0 34 1 (by unfold cF; omega))
  have m0 := hR.i (hq 0 146 2398 (by unfold mF; omega))
  have m1 := hR.ai (hq 3 0 2429 (by unfold mF; omega))
  have m2 := hR.al (hq 3 0 2430 (by unfold mF; omega))
  have m3 := hR.ai (hq 3 0 2431 (by unfold mF; omega))
  have m4 := hR.ai (hq 3 0 2432 (by unfold mF; omega))
  have m5 := hR.ai (hq 3 0 2433 (by unfold mF; omega))
  have m6 := hR.ai (hq 3 0 2434 (by unfold mF; omega))
  unfold rF at *; rw [c0, c1, m0, m1, m2, m3, m4, m5, m6]
  refine ⟨h.1, h.2.1, h.2.2.1, fun i hi => ?_⟩
  have hi2 : i < 200 := by have := h.2.2.1; omega
  obtain ⟨h1, h2, h3, h4, h5, h6, h7, h8⟩ := h.2.2.2 i hi
  have w := hC.sP (a := 5 + 3 * i) (fun t f => hp t f _ (by unfold cF; omega))
  rw [w.1, w.2.1, w.1, w.1, w.1, w.1]
  exact ⟨h1, h2, h3, h4, h5, h6, h7, h8.c (hC.sP (fun t f => hp t f _ (by unfold cF; omega))) (hC.sP (fun t f => hp t f _ (by unfold cF; omega))) (hs _ (by omega) (by omega))⟩
theorem rA_f {p q : Nat → Nat → Nat → Prop} {C C' R R' : jM} (hC : Fr p C C') (hR : Fr q R R') (hp : ∀ t f a, cA t f a → ¬ p t f a) (hq : ∀ t f a, mA t f a → ¬ q t f a) (h : rA C R) : rA C' R' := by
  have c0 := hC.i (hp 0 79 0 (by unfold cA; omega))
  have m0 := hR.i (hq 0 160 2398 (by unfold mA; omega))
  have m1 := hR.ai (hq 3 0 2438 (by unfold mA; omega))
  have m2 := hR.ai (hq 3 0 2439 (by unfold mA; omega))
  have m3 := hR.ai (hq 3 0 2440 (by unfold mA; omega))
  have m4 := hR.ai (hq 3 0 2441 (by unfold mA; omega))
  have m5 := hR.ai (hq 3 0 2442 (by unfold mA; omega))
  have m6 := hR.ai (hq 3 0 2443 (by unfold mA; omega))
  unfold rA at *; rw [c0, m0, m1, m2, m3, m4, m5, m6]
  refine ⟨h.1, h.2.1, h.2.2.1, fun i hi => ?_, fun i hi hj => ?_⟩
  · have hi2 : i < 6 := by have := h.2.2.1; omega
    have w := hC.sP (a := 2178 + 3 * i) (fun t f => hp t f _ (by unfold cA; omega))
    have w1 := hC.sP (a := 2179 + 3 * i) (fun t f => hp t f _ (by unfold cA; omega))
    have w2 := hC.sP (a := 2180 + 3 * i) (fun t f => hp t f _ (by unfold cA; omega))
    rw [w.1, w.1, w.1, w.1, w1.2.2.1, w2.2.2.1]
    exact h.2.2.2.1 i hi
  · have w := hC.sP (a := 2178 + 3 * i) (fun t f => hp t f _ (by unfold cA; omega))
    rw [w.1]
    exact h.2.2.2.2 i hi hj
theorem rY_f {p q : Nat → Nat → Nat → Prop} {C C' R R' : jM} (hC : Fr p C C') (hR : Fr q R R') (hp : ∀ t f a, cY t f a → ¬ p t f a) (hq : ∀ t f a, mY t f a → ¬ q t f a) (h : rY C R) : rY C' R' := by
  have c0 := hC.i (hp 0 81 0 (by unfold cY; omega))
  have m0 := hR.i (hq 0 175 2398 (by unfold mY; omega))
  have m1 := hR.ai (hq 3 0 2445 (by unfold mY; omega))
  have m2 := hR.ai (hq 3 0 2446 (by unfold mY; omega))
  have m3 := hR.al (hq 3 0 2447 (by unfold mY; omega))
  have m4 := hR.ai (hq 3 0 2448 (by unfold mY; omega))
  have m5 := hR.ai (hq 3 0 2449 (by unfold mY; omega))
  have m6 := hR.ai (hq 3 0 2450 (by unfold mY; omega))
  unfold rY at *; rw [c0, m0, m1, m2, m3, m4, m5, m6]
  refine ⟨h.1, h.2.1, h.2.2.1, fun i hi => ?_, fun i j hi hj => ?_⟩
  · have hi2 : i < 200 := by have := h.2.2.1; omega
    rw [hC.al (a := 2197 + i) (hp 3 0 _ (by unfold cY; omega))]
    exact h.2.2.2.1 i hi
  · rw [hC.al (a := 2197 + i) (hp 3 0 _ (by unfold cY; omega))]
    exact h.2.2.2.2 i j hi hj
theorem rS_f {p q : Nat → Nat → Nat → Prop} {C C' R R' : jM} (hC : Fr p C C') (hR : Fr q R R') (hp : ∀ t f a, cS t f a → ¬ p t f a) (hq : ∀ t f a, mS t f a → ¬ q t f a) (hs : ∀ s, 201 ≤ s → s < 225 → sS R R' s) (h : rS C R) : rS C' R' := by
  have c0 := hC.i (hp 0 31 1 (by unfold cS; omega))
  have c1 := hC.i (hp 0 8 2018 (by unfold cS; omega))
  have c2 := hC.i (hp 0 9 2018 (by unfold cS; omega))
  have c3 := hC.i (hp 0 10 2018 (by unfold cS; omega))
  have c4 := hC.i (hp 0 11 2018 (by unfold cS; omega))
  have c5 := hC.i (hp 0 16 2018 (by unfold cS; omega))
  have c6 := hC.ai (hp 3 0 2019 (by unfold cS; omega))
  have c7 := hC.ai (hp 3 0 2021 (by unfold cS; omega))
  have m0 := hR.i (hq 0 150 2398 (by unfold mS; omega))
  have m1 := hR.i (hq 0 151 2398 (by unfold mS; omega))
  have m2 := hR.i (hq 0 152 2398 (by unfold mS; omega))
  have m3 := hR.i (hq 0 153 2398 (by unfold mS; omega))
  have m4 := hR.i (hq 0 154 2398 (by unfold mS; omega))
  have m5 := hR.ai (hq 3 0 2437 (by unfold mS; omega))
  unfold rS at *; rw [c0, c1, c2, c3, c4, c5, c6, c7, m0, m1, m2, m3, m4, m5]
  obtain ⟨h1, h2, h3, h4, h5, h6, h7⟩ := h
  refine ⟨h1, h2, h3, h4, h5, h6, fun k hk => ?_⟩
  have hk2 : k < 24 := by omega
  obtain ⟨r, q1, q2, q3, q4, q5⟩ := h7 k hk
  refine ⟨r, q1, q2, q3, q4, fun z => (q5 z).c (hC.sP (fun t f => hp t f _ (by unfold cS; omega))) (hC.sP (fun t f => hp t f _ (by unfold cS; omega))) (hs _ (by omega) (by omega))⟩
theorem rK.c {C C' R R' : jM} {T t k : Nat} (h : rK C T R t k) (hk : k < 300) (h1 : sP C C' (T + 1)) (h2 : sP C C' (T + 2)) (h3 : sP C C' (T + 3)) (hX : sX R R' t) : rK C' T R' t k := by
  obtain ⟨e1, e2, e3, e4, e5, e6⟩ := hX.2.1 k hk
  unfold rK at *
  rw [h1.2.2.1, h2.2.2.2, h3.2.2.1, e1, e2, e3, e4, e5, e6]
  exact h
theorem rX.c {C C' R R' : jM} {T t : Nat} (h : rX C T R t) (h0 : sP C C' T) (h1 : sP C C' (T + 1)) (h2 : sP C C' (T + 2)) (h3 : sP C C' (T + 3)) (h4 : sP C C' (T + 4)) (h5 : sP C C' (T + 5)) (hX : sX R R' t) : rX C' T R' t := by
  obtain ⟨np, nr, a1, a2, a3, a4, a5, a6, ru, a7⟩ := h
  refine ⟨np, nr, a1, a2, by rw [h0.1, a3], by rw [h0.1, a4], by rw [hX.1, a5], fun k hk => (a6 k hk).c (by omega) h1 h2 h3 hX, ru, fun r hr => ?_⟩
  obtain ⟨e1, e2⟩ := hX.2.2 r (by omega)
  rw [h4.2.2.2, h5.2.2.1, e1, e2, h1.2.2.1, h2.2.2.2, h3.2.2.1]
  exact a7 r hr
theorem rE_f {p q : Nat → Nat → Nat → Prop} {C C' R R' : jM} (hC : Fr p C C') (hR : Fr q R R') (hp : ∀ t f a, cE t f a → ¬ p t f a) (hq : ∀ t f a, mE t f a → ¬ q t f a) (hx : ∀ t, t < 32 → sX R R' t) (h : rE C R) : rE C' R' := by
  have c0 := hC.r (hp 2 25 607 (by unfold cE; omega))
  have c1 := hC.ar (hp 3 0 618 (by unfold cE; omega))
  have m0 := hR.ai (hq 3 0 2435 (by unfold mE; omega))
  have m1 := hR.ai (hq 3 0 2436 (by unfold mE; omega))
  obtain ⟨sg, h1, h2, h3, h4, h5⟩ := h
  refine ⟨sg, h1, h2, by rw [c0]; exact h3, by rw [m1]; exact h4, fun s k hs hk => ?_⟩
  have hw : ∀ j : Nat, j < 6 → sP C C' (txt (sg (8 * s + k)) + j) := fun j hj => hC.sP (fun t f => hp t f _ (by
    have := h1 (8 * s + k) (by omega)
    unfold cE txt; split <;> omega))
  have w0 : sP C C' (txt (sg (8 * s + k))) := hw 0 (by omega)
  rw [c1, m0, m1, w0.1]
  obtain ⟨a1, a2⟩ := h5 s k hs hk
  refine ⟨a1, ?_⟩
  rcases a2 with ⟨b1, b2, b3, b4, b5⟩ | b
  · exact .inl ⟨b1, b2, b3, b4, b5.c w0 (hw 1 (by omega)) (hw 2 (by omega)) (hw 3 (by omega)) (hw 4 (by omega)) (hw 5 (by omega)) (hx _ (by omega))⟩
  · exact .inr b
