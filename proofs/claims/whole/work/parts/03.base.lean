/-! THE MEMORY: seven functions (fields of ints, longs, references by field number and place; arrays' contents by place), the places counted from the law's own base. -/
abbrev jM : Type := Nat × (Nat → Nat → Int32) × (Nat → Nat → Int64) × (Nat → Nat → Option Nat) × (Nat → Nat → Int32) × (Nat → Nat → Int64) × (Nat → Nat → UInt64) × (Nat → Nat → Option Nat)
def jn (S : jM) : Nat := S.1
def jI (S : jM) (f a : Nat) : Int32 := S.2.1 f a
def jL (S : jM) (f a : Nat) : Int64 := S.2.2.1 f a
def jR (S : jM) (f a : Nat) : Option Nat := S.2.2.2.1 f a
def jAI (S : jM) (a : Nat) : Nat → Int32 := S.2.2.2.2.1 a
def jAL (S : jM) (a : Nat) : Nat → Int64 := S.2.2.2.2.2.1 a
def jAD (S : jM) (a : Nat) : Nat → UInt64 := S.2.2.2.2.2.2.1 a
def jAR (S : jM) (a : Nat) : Nat → Option Nat := S.2.2.2.2.2.2.2 a
def jsI (S : jM) (f a : Nat) (v : Int32) : jM := (S.1, (fun g b => if g = f ∧ b = a then v else S.2.1 g b), S.2.2)
def jsL (S : jM) (f a : Nat) (v : Int64) : jM := (S.1, S.2.1, (fun g b => if g = f ∧ b = a then v else S.2.2.1 g b), S.2.2.2)
def jsR (S : jM) (f a : Nat) (v : Option Nat) : jM := (S.1, S.2.1, S.2.2.1, (fun g b => if g = f ∧ b = a then v else S.2.2.2.1 g b), S.2.2.2.2)
def jrI (S : jM) (a : Nat) (r : Nat → Int32) : jM := (S.1, S.2.1, S.2.2.1, S.2.2.2.1, (fun b => if b = a then r else S.2.2.2.2.1 b), S.2.2.2.2.2)
def jrL (S : jM) (a : Nat) (r : Nat → Int64) : jM := (S.1, S.2.1, S.2.2.1, S.2.2.2.1, S.2.2.2.2.1, (fun b => if b = a then r else S.2.2.2.2.2.1 b), S.2.2.2.2.2.2)
def jrD (S : jM) (a : Nat) (r : Nat → UInt64) : jM := (S.1, S.2.1, S.2.2.1, S.2.2.2.1, S.2.2.2.2.1, S.2.2.2.2.2.1, (fun b => if b = a then r else S.2.2.2.2.2.2.1 b), S.2.2.2.2.2.2.2)
def jrR (S : jM) (a : Nat) (r : Nat → Option Nat) : jM := (S.1, S.2.1, S.2.2.1, S.2.2.2.1, S.2.2.2.2.1, S.2.2.2.2.2.1, S.2.2.2.2.2.2.1, (fun b => if b = a then r else S.2.2.2.2.2.2.2 b))
def jsn (S : jM) (n : Nat) : jM := (n, S.2)
/-- what stands at each place: its kind (0 .. 10 an object of that class, 11 .. an array), and an array's length -/

def jTG : Nat → Nat × Nat := fun a => if a < 5 then ([(9, 0), (4, 0), (15, 16), (13, 16), (17, 200)]).getD (a - 0) (99, 0) else if a < 605 then ([(2, 0), (7, 0), (14, 12)]).getD ((a - 5) % 3) (99, 0) else if a < 619 then ([(7, 0), (14, 12), (3, 0), (5, 0), (11, 1600), (6, 0), (13, 300), (14, 300), (13, 900), (14, 24), (13, 24), (14, 20), (13, 20), (18, 32)]).getD (a - 605) (99, 0) else if a < 811 then ([(6, 0), (13, 300), (14, 300), (13, 900), (14, 24), (13, 24)]).getD ((a - 619) % 6) (99, 0) else if a < 818 then ([(8, 0), (13, 300), (13, 300), (13, 300), (13, 300), (14, 300), (19, 600)]).getD (a - 811) (99, 0) else if a < 2018 then ([(7, 0), (14, 12)]).getD ((a - 818) % 2) (99, 0) else if a < 2023 then ([(1, 0), (13, 24), (13, 24), (13, 24), (19, 24)]).getD (a - 2018) (99, 0) else if a < 2071 then ([(7, 0), (14, 12)]).getD ((a - 2023) % 2) (99, 0) else if a < 2076 then ([(1, 0), (13, 24), (13, 24), (13, 24), (19, 24)]).getD (a - 2071) (99, 0) else if a < 2124 then ([(7, 0), (14, 12)]).getD ((a - 2076) % 2) (99, 0) else if a < 2129 then ([(1, 0), (13, 24), (13, 24), (13, 24), (19, 24)]).getD (a - 2124) (99, 0) else if a < 2177 then ([(7, 0), (14, 12)]).getD ((a - 2129) % 2) (99, 0) else if a < 2178 then (16, 6) else if a < 2196 then ([(0, 0), (13, 6), (13, 6)]).getD ((a - 2178) % 3) (99, 0) else if a < 2197 then (20, 200) else if a < 2397 then (14, 14) else if a < 2451 then ([(13, 6), (10, 0), (13, 1500), (13, 1500), (14, 18000), (12, 18000), (13, 1600), (13, 1602), (13, 1602), (14, 1602), (13, 1602), (13, 9933), (13, 9933), (13, 9933), (13, 9933), (14, 9933), (13, 9933), (13, 33), (13, 33), (14, 792), (13, 792), (14, 24), (13, 24), (13, 24), (13, 24), (13, 24), (13, 24), (13, 24), (14, 9933), (15, 12), (15, 16), (13, 16), (13, 200), (14, 200), (13, 200), (13, 200), (13, 200), (13, 200), (13, 32), (13, 4), (13, 24), (13, 6), (13, 6), (13, 6), (13, 36), (13, 36), (13, 6), (13, 6), (13, 200), (13, 200), (14, 800), (15, 200), (15, 200), (13, 1200)]).getD (a - 2397) (99, 0) else (99, 0)
def jNT : Nat := 2451
def jFT : Nat → List (Nat × Nat) := fun k => match k with
  | 0 => [(0, 0), (0, 1), (0, 2), (0, 3), (2, 4), (2, 5)]
  | 1 => [(0, 6), (0, 7), (0, 8), (0, 9), (0, 10), (0, 11), (2, 12), (2, 13), (2, 14), (2, 15), (0, 16)]
  | 2 => [(0, 17), (1, 18), (0, 19), (0, 20), (0, 21), (0, 22), (2, 23)]
  | 3 => [(2, 24), (2, 25), (0, 26), (0, 27), (2, 28), (2, 29), (0, 30)]
  | 4 => [(0, 31), (2, 32), (2, 33), (0, 34), (2, 35)]
  | 5 => [(2, 36), (0, 37), (0, 38), (0, 39), (0, 40), (0, 41), (1, 42), (0, 43)]
  | 6 => [(0, 44), (0, 45), (2, 46), (2, 47), (2, 48), (0, 49), (2, 50), (2, 51)]
  | 7 => [(0, 52), (0, 53), (2, 54)]
  | 8 => [(2, 55), (2, 56), (2, 57), (2, 58), (2, 59), (0, 60), (2, 61), (0, 62), (2, 63), (2, 64), (2, 65), (0, 66), (0, 67), (0, 68)]
  | 9 => [(2, 69), (2, 70), (2, 71), (2, 72), (2, 73), (2, 74), (2, 75), (2, 76), (2, 77), (2, 78), (0, 79), (2, 80), (0, 81), (0, 82), (0, 83), (0, 84), (2, 85), (0, 86), (0, 87)]
  | _ => [(2, 88), (2, 89), (2, 90), (2, 91), (0, 92), (2, 93), (0, 94), (2, 95), (2, 96), (2, 97), (2, 98), (0, 99), (0, 100), (0, 101), (0, 102), (2, 103), (2, 104), (2, 105), (2, 106), (2, 107), (2, 108), (2, 109), (2, 110), (2, 111), (2, 112), (0, 113), (0, 114), (2, 115), (2, 116), (0, 117), (0, 118), (0, 119), (0, 120), (0, 121), (0, 122), (0, 123), (0, 124), (0, 125), (0, 126), (0, 127), (2, 128), (2, 129), (2, 130), (2, 131), (2, 132), (0, 133), (2, 134), (2, 135), (2, 136), (2, 137), (0, 138), (0, 139), (2, 140), (2, 141), (2, 142), (2, 143), (2, 144), (2, 145), (0, 146), (2, 147), (2, 148), (0, 149), (0, 150), (0, 151), (0, 152), (0, 153), (0, 154), (2, 155), (0, 156), (2, 157), (2, 158), (2, 159), (0, 160), (2, 161), (2, 162), (2, 163), (0, 164), (0, 165), (2, 166), (0, 167), (0, 168), (2, 169), (2, 170), (2, 171), (2, 172), (2, 173), (2, 174), (0, 175), (0, 176)]
set_option maxRecDepth 20000 in
theorem inlX0 : ∀ w ∈ u_ws RX0 TX0 6, w ∈ jw := fun w hw => jmem ((goodIn_r (big := lw_tbl) (u_ws RX0 TX0 6) [469, 471, 473, 475, 477, 479] (by decide +kernel) (by decide +kernel)) w hw).1 (List.all_eq_true.mp (show (u_ws RX0 TX0 6).all goodWord = true by decide +kernel) w hw)
set_option maxRecDepth 20000 in
theorem inlX1 : ∀ w ∈ u_ws RX1 TX1 11, w ∈ jw := fun w hw => jmem ((goodIn_r (big := lw_tbl) (u_ws RX1 TX1 11) [433, 435, 437, 439, 441, 443, 445, 447, 449, 451, 453] (by decide +kernel) (by decide +kernel)) w hw).1 (List.all_eq_true.mp (show (u_ws RX1 TX1 11).all goodWord = true by decide +kernel) w hw)
set_option maxRecDepth 20000 in
theorem inlX2 : ∀ w ∈ u_ws RX2 TX2 7, w ∈ jw := fun w hw => jmem ((goodIn_r (big := lw_tbl) (u_ws RX2 TX2 7) [194, 196, 198, 200, 202, 204, 206] (by decide +kernel) (by decide +kernel)) w hw).1 (List.all_eq_true.mp (show (u_ws RX2 TX2 7).all goodWord = true by decide +kernel) w hw)
set_option maxRecDepth 20000 in
theorem inlX4 : ∀ w ∈ u_ws RX4 TX4 7, w ∈ jw := fun w hw => jmem ((goodIn_r (big := lw_tbl) (u_ws RX4 TX4 7) [325, 327, 329, 331, 333, 335, 337] (by decide +kernel) (by decide +kernel)) w hw).1 (List.all_eq_true.mp (show (u_ws RX4 TX4 7).all goodWord = true by decide +kernel) w hw)
set_option maxRecDepth 20000 in
theorem inlX6 : ∀ w ∈ u_ws RX6 TX6 5, w ∈ jw := fun w hw => jmem ((goodIn_r (big := lw_tbl) (u_ws RX6 TX6 5) [219, 221, 223, 225, 227] (by decide +kernel) (by decide +kernel)) w hw).1 (List.all_eq_true.mp (show (u_ws RX6 TX6 5).all goodWord = true by decide +kernel) w hw)
set_option maxRecDepth 20000 in
theorem inlX7 : ∀ w ∈ u_ws RX7 TX7 8, w ∈ jw := fun w hw => jmem ((goodIn_r (big := lw_tbl) (u_ws RX7 TX7 8) [257, 259, 261, 263, 265, 267, 269, 271] (by decide +kernel) (by decide +kernel)) w hw).1 (List.all_eq_true.mp (show (u_ws RX7 TX7 8).all goodWord = true by decide +kernel) w hw)
set_option maxRecDepth 20000 in
theorem inlX8 : ∀ w ∈ u_ws RX8 TX8 8, w ∈ jw := fun w hw => jmem ((goodIn_r (big := lw_tbl) (u_ws RX8 TX8 8) [297, 299, 301, 303, 305, 307, 309, 311] (by decide +kernel) (by decide +kernel)) w hw).1 (List.all_eq_true.mp (show (u_ws RX8 TX8 8).all goodWord = true by decide +kernel) w hw)
set_option maxRecDepth 20000 in
theorem inlX9 : ∀ w ∈ u_ws RX9 TX9 3, w ∈ jw := fun w hw => jmem ((goodIn_r (big := lw_tbl) (u_ws RX9 TX9 3) [169, 171, 173] (by decide +kernel) (by decide +kernel)) w hw).1 (List.all_eq_true.mp (show (u_ws RX9 TX9 3).all goodWord = true by decide +kernel) w hw)
set_option maxRecDepth 20000 in
theorem inlX10 : ∀ w ∈ u_ws RX10 TX10 14, w ∈ jw := fun w hw => jmem ((goodIn_r (big := lw_tbl) (u_ws RX10 TX10 14) [366, 368, 370, 372, 374, 376, 378, 380, 382, 384, 386, 388, 390, 392] (by decide +kernel) (by decide +kernel)) w hw).1 (List.all_eq_true.mp (show (u_ws RX10 TX10 14).all goodWord = true by decide +kernel) w hw)
set_option maxRecDepth 20000 in
theorem inlX11 : ∀ w ∈ u_ws RX11 TX11 19, w ∈ jw := fun w hw => jmem ((goodIn_r (big := lw_tbl) (u_ws RX11 TX11 19) [503, 505, 507, 509, 511, 513, 515, 517, 519, 521, 523, 525, 527, 529, 531, 533, 535, 537, 539] (by decide +kernel) (by decide +kernel)) w hw).1 (List.all_eq_true.mp (show (u_ws RX11 TX11 19).all goodWord = true by decide +kernel) w hw)
set_option maxRecDepth 20000 in
theorem inlX12 : ∀ w ∈ u_ws RX12 TX12 89, w ∈ jw := fun w hw => jmem ((goodIn_r (big := lw_tbl) (u_ws RX12 TX12 89) [1398, 1400, 1402, 1404, 1406, 1408, 1410, 1412, 1414, 1416, 1418, 1420, 1422, 1424, 1426, 1428, 1430, 1432, 1434, 1436, 1438, 1440, 1442, 1444, 1446, 1448, 1450, 1452, 1454, 1456, 1458, 1460, 1462, 1464, 1466, 1468, 1470, 1472, 1474, 1476, 1478, 1480, 1482, 1484, 1486, 1488, 1490, 1492, 1494, 1496, 1498, 1500, 1502, 1504, 1506, 1508, 1510, 1512, 1514, 1516, 1518, 1520, 1522, 1524, 1526, 1528, 1530, 1532, 1534, 1536, 1538, 1540, 1542, 1544, 1546, 1548, 1550, 1552, 1554, 1556, 1558, 1560, 1562, 1564, 1566, 1568, 1570, 1572, 1574] (by decide +kernel) (by decide +kernel)) w hw).1 (List.all_eq_true.mp (show (u_ws RX12 TX12 89).all goodWord = true by decide +kernel) w hw)

def jLen (a : Nat) : Nat := (jTG a).2
def jK (a : Nat) : Nat := (jTG a).1
/-- a place in an array -/
def jin (i : Int32) (n : Nat) : Bool := decide (0 ≤ i.toInt) && decide (i.toInt < n)
def jA (a k : Nat) (i : Int32) : Bool := decide (jK a = k) && jin i (jLen a)
/-- a truth value -/
def jZ (v : Int32) : Bool := decide (v = 0) || decide (v = 1)
abbrev jG : Type := va_G × (Nat → ClassId) × Nat
def jo (g : jG) (r : Option Nat) : Value := va_rf (r.map (g.2.2 + ·))
def jV (g : jG) (S : jM) (a : Nat) (q : Nat × Nat) : Value := if q.1 = 0 then .int (jI S q.2 a) else if q.1 = 1 then .long (jL S q.2 a) else jo g (jR S q.2 a)
abbrev jC : Type := (Nat → Int32) ⊕ (Nat → Int64) ⊕ (Nat → UInt32) ⊕ (Nat → UInt64) ⊕ (Nat → Option Nat)
def jArr (g : jG) (S : jM) (k a : Nat) : jC := if k = 14 then .inr (.inl (jAL S a)) else if k = 12 then .inr (.inr (.inr (.inl (jAD S a)))) else if 16 ≤ k then .inr (.inr (.inr (.inr (fun j => (jAR S a j).map (g.2.2 + ·))))) else .inl (jAI S a)
def jE (g : jG) (S : jM) (a : Nat) : va_E := if (jTG a).1 < 11 then .inr ((jTG a).1, (jFT (jTG a).1).map (jV g S a)) else .inl (g.2.1 (jTG a).1, jLen a, jArr g S (jTG a).1 a)
def jW (g : jG) (S : jM) : va_W := (List.range (jn S)).map (fun a => (g.2.2 + a, jE g S a))
def jA0 (g : jG) : Nat → Prop := fun q => g.2.2 ≤ q
def jtys (g : jG) : List (ClassId × FieldType) := [(g.2.1 11, .byte), (g.2.1 12, .double), (g.2.1 13, .int), (g.2.1 14, .long), (g.2.1 15, .boolean), (g.2.1 16, .object RX0), (g.2.1 17, .object RX2), (g.2.1 18, .object RX8), (g.2.1 19, .object RX9), (g.2.1 20, .array .long)]
theorem jK_lt {a k : Nat} (h : jK a = k) (hk : k < 99) : a < jNT := by
  rcases Nat.lt_or_ge a jNT with q | q
  · exact q
  · have q : 2451 ≤ a := q
    have : jTG a = (99, 0) := by
      unfold jTG
      repeat rw [if_neg (by omega)]
    rw [jK, this] at h
    simp only at h
    omega
theorem jW_get {g : jG} {S : jM} {a : Nat} (h : a < jn S) : (jW g S)[a]? = some (g.2.2 + a, jE g S a) := by simp [jW, h]
theorem jW_objn {g : jG} {S : jM} {a k : Nat} (hn : a < jn S) (h : jK a = k) (hk : k < 11) : (jW g S)[a]? = some (g.2.2 + a, .inr (k, (jFT k).map (jV g S a))) := by
  rw [jW_get hn]
  have h : (jTG a).1 = k := h
  simp only [jE, h, if_pos hk]
theorem jW_arrn {g : jG} {S : jM} {a k : Nat} (hn : a < jn S) (h : jK a = k) (hk : 11 ≤ k) : (jW g S)[a]? = some (g.2.2 + a, .inl (g.2.1 k, jLen a, jArr g S k a)) := by
  rw [jW_get hn]
  have h : (jTG a).1 = k := h
  simp only [jE, h, if_neg (show ¬ k < 11 by omega)]
theorem jW_obj {g : jG} {S : jM} {a k : Nat} (hS : jn S = jNT) (h : jK a = k) (hk : k < 11) : (jW g S)[a]? = some (g.2.2 + a, .inr (k, (jFT k).map (jV g S a))) := jW_objn (by rw [hS]; exact jK_lt h (by omega)) h hk
theorem jW_arr {g : jG} {S : jM} {a k : Nat} (hS : jn S = jNT) (h : jK a = k) (hk : 11 ≤ k) (hk2 : k < 99) : (jW g S)[a]? = some (g.2.2 + a, .inl (g.2.1 k, jLen a, jArr g S k a)) := jW_arrn (by rw [hS]; exact jK_lt h hk2) h hk
theorem jW_len {g : jG} {S : jM} : (jW g S).length = jn S := by simp [jW]
theorem jW_set {g : jG} {S S' : jM} {a : Nat} {e : va_E} (ha : a < jn S) (hn : jn S' = jn S) (he : jE g S' a = e) (ho : ∀ b, b ≠ a → jE g S' b = jE g S b) : (jW g S).set a (g.2.2 + a, e) = jW g S' := by
  apply List.ext_getElem?
  intro i
  by_cases hi : i = a
  · subst hi
    rw [List.getElem?_set_self (by rw [jW_len]; exact ha), jW_get (by rw [hn]; exact ha), he]
  · rw [List.getElem?_set_ne (Ne.symm hi)]
    by_cases hl : i < jn S
    · rw [jW_get hl, jW_get (by rw [hn]; exact hl), ho i hi]
    · rw [List.getElem?_eq_none (by rw [jW_len]; omega), List.getElem?_eq_none (by rw [jW_len]; omega)]
theorem jW_D (g : jG) (S : jM) : va_D (jA0 g) (jW g S) := by
  have key : ∀ (k : Nat) (q : Nat × va_E), (jW g S)[k]? = some q → q.1 = g.2.2 + k := by
    intro k q hk
    have hl : k < jn S := by
      have := (List.getElem?_eq_some_iff.mp hk).1
      rwa [jW_len] at this
    rw [jW_get hl] at hk
    cases hk
    rfl
  refine ⟨fun i j p q hi hj hpq => ?_, fun k q hk => ?_⟩
  · have h1 := key i p hi
    have h2 := key j q hj
    omega
  · have h1 := key k q hk
    show g.2.2 ≤ q.1
    omega
theorem jin_in {i : Int32} {n : Nat} (h : jin i n = true) : vp_in i n := by
  simp only [jin, Bool.and_eq_true, decide_eq_true_eq] at h
  exact vp_in_iff.mpr h
theorem jA_ok {a k : Nat} {i : Int32} (h : jA a k i = true) : jK a = k ∧ vp_in i (jLen a) := by
  simp only [jA, Bool.and_eq_true, decide_eq_true_eq] at h
  exact ⟨h.1, jin_in h.2⟩
/-- a double that is no NaN -/
def jnn (r : UInt64) : Bool := decide (r &&& 0x7fffffffffffffff ≤ 0x7ff0000000000000)
theorem jnn_ok {r : UInt64} (h : jnn r = true) : vf_n64 r := of_decide_eq_true (p := r &&& 0x7fffffffffffffff ≤ 0x7ff0000000000000) h
/-- the two constant texts: their bytes -/
def jbyt : List (List Int32) := [[98, 101, 115, 116, 32, 98, 111, 114, 110, 32, 99, 101, 105, 108, 32, 100, 97, 121, 32, 101, 108, 115, 101, 32, 102, 108, 111, 111, 114, 32, 102, 114, 111, 109, 32, 105, 102, 32, 106, 111, 105, 110, 32, 108, 97, 115, 116, 32, 108, 101, 110, 32, 109, 97, 120, 32, 109, 105, 110, 32, 110, 101, 97, 114, 32, 111, 102, 32, 114, 101, 97, 108, 32, 114, 111, 111, 116, 32, 114, 117, 108, 101, 32, 115, 117, 109, 32, 116, 104, 101, 110, 32, 116, 111, 32, 116, 114, 121, 32, 119, 104, 111, 108, 101, 32, 119, 105, 116, 104, 32, 122, 101, 114, 111, 115, 32], [59, 61, 43, 45, 42, 47, 37, 40, 41, 91, 93, 44, 60, 33]]
def jlens : List Nat := [116, 14]
/-- the JDK's formatter, a reference or null -/
def jY (g : jG) : Option Nat := if g.2.1 300 = 0 then none else some (g.2.1 300 - 1)
/-- what stands outside the law's own cells: the two texts, and two statics of the JDK -/
def jStr (g : jG) (U : State) (H : Heap) : Prop := vk_S 2 jlens jbyt (fun i => g.2.1 (100 + i)) (fun i => g.2.1 (200 + i)) (jA0 g) U H ∧ va_Z "java/lang/String" "COMPACT_STRINGS" "Z" (.int 1) (jA0 g) U H ∧ va_Z "jdk/internal/util/Preconditions" "SIOOBE_FORMATTER" "Ljava/util/function/BiFunction;" (va_rf (jY g)) (jA0 g) U H ∧ vk_R "PensionHouse$Tape" 64 "best born ceil day else floor from if join last len max min near of real root rule sum then to try whole with zeros " (g.2.1 (100 + 0)) U ∧ vk_R "PensionHouse$Tape" 81 ";=+-*/%()[],<!" (g.2.1 (100 + 1)) U
theorem jStr_go {g : jG} {s U : State} {H : Heap} {locs : List Loc} (h : jStr g s s.heap) (hS : va_S (jA0 g) s.heap H locs) (hU : U.heap = H) (hW : s.WarmedH U.vm) : jStr g U U.heap := by
  obtain ⟨h1, h2, h3, h4, h5⟩ := h
  rw [hU]
  exact ⟨(h1.kept hS.2.1).moved hW.alike, (h2.kept hS.2.1).moved hW.alike, (h3.kept hS.2.1).moved hW.alike, h4.warm hW, h5.warm hW⟩
theorem jStr_calling {g : jG} {U : State} {g' : JFrame} {mk : MethodId} {a : Array Value} (h : jStr g U U.heap) : jStr g (U.calling g' mk a) (U.calling g' mk a).heap := by
  obtain ⟨h1, h2, h3, h4, h5⟩ := h
  exact ⟨vk_S.moved (u := U) (U := U.calling g' mk a) (Vm.Alike.refl U.vm) h1, va_Z.moved (u := U) (U := U.calling g' mk a) (Vm.Alike.refl U.vm) h2, va_Z.moved (u := U) (U := U.calling g' mk a) (Vm.Alike.refl U.vm) h3, vk_R.same (u := U) (U := U.calling g' mk a) rfl h4, vk_R.same (u := U) (U := U.calling g' mk a) rfl h5⟩
/-- what the machine holds -/
def jAt (g : jG) (S : jM) (s : State) (H : Heap) (locs : List Loc) : Prop := va_P g.1 vwCl (jW g S) H ∧ va_S (jA0 g) s.heap H locs ∧ jn S = jNT
def jEnv (p : Program) (s : State) (m : MethodId) (args : Array Value) (meth : Method) (c : Code) (cc : ByteArray) (own : String) (ret : Option FieldType) (maxL : Nat) (g : jG) : Prop :=
  p.tables.exec = Jvm.exec ∧ c.code = cc ∧ c.maxLocals = maxL ∧ meth.sig.returnType = ret ∧ (∀ w ∈ jw, w.before args s = true) ∧ s.vm.findClass own = some m.cls ∧ va_K g.1 vwCl (jtys g) s ∧ meth.locks = false ∧ jStr g s s.heap
def jRm (k mc ms : Nat) : Room := { frames := k, cells := mc, slots := ms, locals := 49 * k }
def jPre (g : jG) (S : jM) : State → Prop := fun U => va_P g.1 vwCl (jW g S) U.heap ∧ va_K g.1 vwCl (jtys g) U ∧ jn S = jNT ∧ jStr g U U.heap
def jPost (g : jG) (S : jM) : Unit → State → Prop := fun _ t => va_P g.1 vwCl (jW g S) t.heap ∧ jn S = jNT
abbrev jQi (g : jG) (r : Int32) (S : jM) : Array Value → State → Outcome → State → Prop := va_Qi (fun (x : Int32) (_ : Unit) => x = r) (jPost g S) (jA0 g)
abbrev jQl (g : jG) (r : Int64) (S : jM) : Array Value → State → Outcome → State → Prop := va_Ql (fun (x : Int64) (_ : Unit) => x = r) (jPost g S) (jA0 g)
abbrev jQd (g : jG) (r : UInt64) (S : jM) : Array Value → State → Outcome → State → Prop := va_Qd (fun (x : UInt64) (_ : Unit) => x = r) (jPost g S) (jA0 g)
abbrev jQv (g : jG) (S : jM) : Array Value → State → Outcome → State → Prop := va_Qv (fun (_ : Unit) => True) (jPost g S) (jA0 g)
abbrev jQq (g : jG) (r : Option Nat) (S : jM) : Array Value → State → Outcome → State → Prop := va_Qq (fun (x : Option Nat) (_ : Unit) => x = r.map (g.2.2 + ·)) (jPost g S) (jA0 g)
/-- a method's contract: from the memory S and these arguments it comes to Q (jQi ..), at k frames, making mc cells of ms slots -/
def jMet (l : Launch) (g : jG) (y : MethodName) (cc : ByteArray) (maxL : Nat) (ret : Option FieldType) (k mc ms : Nat) (as : List Value) (S : jM) (Q : Array Value → State → Outcome → State → Prop) : Prop :=
  Met l y (.code y cc maxL ret :: jw) (jRm k mc ms) (va_Pc as (jPre g S)) Q mc ms (jA0 g)
theorem jif {c : Prop} [Decidable c] {α : Type} {x : Option α} {r : α} (h : (if c then x else none) = some r) : c ∧ x = some r := by
  by_cases hc : c
  · rw [if_pos hc] at h; exact ⟨hc, h⟩
  · rw [if_neg hc] at h; cases h
theorem jt {c : Prop} [Decidable c] {α : Type} {x y r : α} (hc : c) (h : (if c then x else y) = r) : x = r := by rw [if_pos hc] at h; exact h
theorem jf {c : Prop} [Decidable c] {α : Type} {x y r : α} (hc : ¬ c) (h : (if c then x else y) = r) : y = r := by rw [if_neg hc] at h; exact h
theorem jb {α β : Type} {e : Option α} {X : α → Option β} {r : β} (h : e.bind X = some r) : ∃ a, e = some a ∧ X a = some r := by
  cases e with
  | none => cases h
  | some a => exact ⟨a, rfl, h⟩
/-- a named value -/
def jlet {α β : Sort _} (x : α) (k : α → β) : β := k x
theorem jlet_y {α β : Type} {x y : α} {k : α → β} {r : β} (e : y = x) (h : jlet x k = r) : k y = r := by subst e; exact h
def jbd {α β : Type} (x : Option (α × jM)) (k : α → jM → Option β) : Option β := match x with
  | none => none
  | some q => k q.1 q.2
theorem jbd_e {α β : Type} {x : Option (α × jM)} {k : α → jM → Option β} {r : β} (h : jbd x k = some r) : ∃ a S, x = some (a, S) ∧ k a S = some r := by
  cases x with
  | none => cases h
  | some q => exact ⟨q.1, q.2, rfl, h⟩
theorem jr2 {α β : Type} {a c : α} {b d : β} (h : some (a, b) = some (c, d)) : a = c ∧ b = d := by cases h; exact ⟨rfl, rfl⟩
theorem jr1 {α β : Type} {a c : α} {b : β} (h : some a = some c) : a = c ∧ b = b := by cases h; exact ⟨rfl, rfl⟩
theorem jr0 {α β : Type} {a c : α} {b : β} (h : a = c) : a = c ∧ b = b := ⟨h, rfl⟩
theorem jrv {α : Type} {a c : α} (h : some a = some c) : a = c := by cases h; rfl

/-- the classes by their kinds: all that a row asks of them -/
theorem jcls {k : Nat} {q : vw_C} (h : vwCl[k]? = some q) : (∀ w ∈ u_ws q.1 q.2.1 q.2.2, w ∈ jw) ∧ (∃ ty : Nat → FieldType, ∀ j, j < q.2.2 → parseFieldDescriptor (q.2.1 j).2.2.1 = some (ty j)) ∧ (∀ a, a < q.2.2 → ∀ b, b < q.2.2 → a ≠ b → (q.2.1 a).2.1 ≠ (q.2.1 b).2.1) := by
  match k, h with
  | 0, h => cases h; exact ⟨inlX0, ⟨tyX0, tyX0_ok⟩, nmX0⟩
  | 1, h => cases h; exact ⟨inlX1, ⟨tyX1, tyX1_ok⟩, nmX1⟩
  | 2, h => cases h; exact ⟨inlX2, ⟨tyX2, tyX2_ok⟩, nmX2⟩
  | 3, h => cases h; exact ⟨inlX4, ⟨tyX4, tyX4_ok⟩, nmX4⟩
  | 4, h => cases h; exact ⟨inlX6, ⟨tyX6, tyX6_ok⟩, nmX6⟩
  | 5, h => cases h; exact ⟨inlX7, ⟨tyX7, tyX7_ok⟩, nmX7⟩
  | 6, h => cases h; exact ⟨inlX8, ⟨tyX8, tyX8_ok⟩, nmX8⟩
  | 7, h => cases h; exact ⟨inlX9, ⟨tyX9, tyX9_ok⟩, nmX9⟩
  | 8, h => cases h; exact ⟨inlX10, ⟨tyX10, tyX10_ok⟩, nmX10⟩
  | 9, h => cases h; exact ⟨inlX11, ⟨tyX11, tyX11_ok⟩, nmX11⟩
  | 10, h => cases h; exact ⟨inlX12, ⟨tyX12, tyX12_ok⟩, nmX12⟩
  | k + 11, h => simp [vwCl] at h
theorem jV_sI_same (g : jG) (S : jM) (f a : Nat) (v : Int32) : jV g (jsI S f a v) a (0, f) = .int v := by simp [jV, jI, jsI]
theorem jV_sI (g : jG) (S : jM) (f a : Nat) (v : Int32) (b : Nat) (r : Nat × Nat) (h : ¬ (b = a ∧ r = (0, f))) : jV g (jsI S f a v) b r = jV g S b r := by
  obtain ⟨t, u⟩ := r
  unfold jV
  by_cases ht : t = 0
  · subst ht
    have : ¬ (u = f ∧ b = a) := fun q => h ⟨q.2, by rw [q.1]⟩
    simp [jI, jsI, this]
  · simp only [if_neg ht]; rfl
theorem jV_sL_same (g : jG) (S : jM) (f a : Nat) (v : Int64) : jV g (jsL S f a v) a (1, f) = .long v := by simp [jV, jL, jsL]
theorem jV_sL (g : jG) (S : jM) (f a : Nat) (v : Int64) (b : Nat) (r : Nat × Nat) (h : ¬ (b = a ∧ r = (1, f))) : jV g (jsL S f a v) b r = jV g S b r := by
  obtain ⟨t, u⟩ := r
  unfold jV
  by_cases ht : t = 0
  · simp only [if_pos ht]; rfl
  · by_cases ht1 : t = 1
    · subst ht1
      have : ¬ (u = f ∧ b = a) := fun q => h ⟨q.2, by rw [q.1]⟩
      simp [jL, jsL, this]
    · simp only [if_neg ht, if_neg ht1]; rfl
theorem jV_sR_same (g : jG) (S : jM) (f a : Nat) (v : Option Nat) : jV g (jsR S f a v) a (2, f) = jo g v := by simp [jV, jR, jsR]
theorem jV_sR (g : jG) (S : jM) (f a : Nat) (v : Option Nat) (b : Nat) (r : Nat × Nat) (h : ¬ (b = a ∧ r = (2, f))) (h2 : r.1 ≤ 2 := by decide) : jV g (jsR S f a v) b r = jV g S b r := by
  obtain ⟨t, u⟩ := r
  unfold jV
  by_cases ht : t = 0
  · simp only [if_pos ht]; rfl
  · by_cases ht1 : t = 1
    · simp only [if_neg ht, if_pos ht1]; rfl
    · simp only at h2
      obtain rfl : t = 2 := by omega
      have : ¬ (u = f ∧ b = a) := fun q => h ⟨q.2, by rw [q.1]⟩
      simp [jR, jsR, this]
theorem jArr_rI (g : jG) (S : jM) (a : Nat) (r : Nat → Int32) (k : Nat) (h : k = 11 ∨ k = 13 ∨ k = 15) : jArr g (jrI S a r) k a = .inl r := by
  rcases h with rfl | rfl | rfl <;> simp [jArr, jAI, jrI]
theorem jArr_rI_ne (g : jG) (S : jM) (a : Nat) (r : Nat → Int32) (b : Nat) (h : b ≠ a) (k : Nat) : jArr g (jrI S a r) k b = jArr g S k b := by
  simp [jArr, jAI, jAL, jAD, jAR, jrI, h]
theorem jArr_rL (g : jG) (S : jM) (a : Nat) (r : Nat → Int64) : jArr g (jrL S a r) 14 a = .inr (.inl r) := by simp [jArr, jAL, jrL]
theorem jArr_rL_ne (g : jG) (S : jM) (a : Nat) (r : Nat → Int64) (b : Nat) (h : b ≠ a) (k : Nat) : jArr g (jrL S a r) k b = jArr g S k b := by
  simp [jArr, jAI, jAL, jAD, jAR, jrL, h]
theorem jArr_rD (g : jG) (S : jM) (a : Nat) (r : Nat → UInt64) : jArr g (jrD S a r) 12 a = .inr (.inr (.inr (.inl r))) := by simp [jArr, jAD, jrD]
theorem jArr_rD_ne (g : jG) (S : jM) (a : Nat) (r : Nat → UInt64) (b : Nat) (h : b ≠ a) (k : Nat) : jArr g (jrD S a r) k b = jArr g S k b := by
  simp [jArr, jAI, jAL, jAD, jAR, jrD, h]
section JROWS
variable {p : Program} {l : Launch} {e : Env} {R : Room} {s : State} {m : MethodId} {args : Array Value} {below : List Frame} {meth : Method} {c : Code} {H : Heap} {locs : List Loc} {cells slots : Nat} {Q : State → Prop}
variable {cc : ByteArray} {own : String} {ret : Option FieldType} {maxL : Nat} {g : jG} {S : jM} {pc : Nat} {ls : Array Slot} {rest : List Value} {a : Nat}
theorem jgetV (E : jEnv p s m args meth c cc own ret maxL g) (hM : jAt g S s H locs) {k i idx N : Nat} {q : Nat × Nat} {C : String} {T : u_T} {nm ds : String} {fin : Bool} (hk : jK a = k) (hk11 : k < 11) (hc : vwCl[k]? = some (C, T, N)) (hN : i < N) (hT : T i = (C, nm, ds, fin)) (hft : (jFT k)[i]? = some q)
    (hl : Cond.fieldLink own idx C nm ds ∈ jw) (hdg : decode cc pc = .ok (.getfield idx, 3))
    (kk : W p l e R s m args below meth c H locs cells slots Q (F0 m (pc + 3) ls (jV g S a q :: rest))) : W p l e R s m args below meth c H locs cells slots Q (F0 m pc ls (.ref (g.2.2 + a) :: rest)) := by
  obtain ⟨hx, hb, -, -, hts, hown, hK, -⟩ := E
  obtain ⟨hin, -, -⟩ := jcls hc
  refine va_get (D := g.1) (ci := k) (C := C) (T := T) (N := N) (ref := C) hx hb hts hin hown hK hM.1 a (jW_obj hM.2.2 hk hk11) hc i hN (by rw [hT]; exact hts _ hl) (fun x h => by rw [hT] at h ⊢; exact h) (v := jV g S a q) (by rw [List.getElem?_map, hft]; rfl) hdg kk
theorem jgetI (E : jEnv p s m args meth c cc own ret maxL g) (hM : jAt g S s H locs) {k i f idx N : Nat} {C : String} {T : u_T} {nm ds : String} {fin : Bool} (hk : jK a = k) (hk11 : k < 11) (hc : vwCl[k]? = some (C, T, N)) (hN : i < N) (hT : T i = (C, nm, ds, fin)) (hft : (jFT k)[i]? = some (0, f))
    (hl : Cond.fieldLink own idx C nm ds ∈ jw) (hdg : decode cc pc = .ok (.getfield idx, 3))
    (kk : W p l e R s m args below meth c H locs cells slots Q (F0 m (pc + 3) ls (.int (jI S f a) :: rest))) : W p l e R s m args below meth c H locs cells slots Q (F0 m pc ls (.ref (g.2.2 + a) :: rest)) :=
  jgetV E hM hk hk11 hc hN hT hft hl hdg kk
theorem jgetL (E : jEnv p s m args meth c cc own ret maxL g) (hM : jAt g S s H locs) {k i f idx N : Nat} {C : String} {T : u_T} {nm ds : String} {fin : Bool} (hk : jK a = k) (hk11 : k < 11) (hc : vwCl[k]? = some (C, T, N)) (hN : i < N) (hT : T i = (C, nm, ds, fin)) (hft : (jFT k)[i]? = some (1, f))
    (hl : Cond.fieldLink own idx C nm ds ∈ jw) (hdg : decode cc pc = .ok (.getfield idx, 3))
    (kk : W p l e R s m args below meth c H locs cells slots Q (F0 m (pc + 3) ls (.long (jL S f a) :: rest))) : W p l e R s m args below meth c H locs cells slots Q (F0 m pc ls (.ref (g.2.2 + a) :: rest)) :=
  jgetV E hM hk hk11 hc hN hT hft hl hdg kk
theorem jgetR (E : jEnv p s m args meth c cc own ret maxL g) (hM : jAt g S s H locs) {k i f idx N : Nat} {C : String} {T : u_T} {nm ds : String} {fin : Bool} (hk : jK a = k) (hk11 : k < 11) (hc : vwCl[k]? = some (C, T, N)) (hN : i < N) (hT : T i = (C, nm, ds, fin)) (hft : (jFT k)[i]? = some (2, f))
    (hl : Cond.fieldLink own idx C nm ds ∈ jw) (hdg : decode cc pc = .ok (.getfield idx, 3))
    (kk : W p l e R s m args below meth c H locs cells slots Q (F0 m (pc + 3) ls (jo g (jR S f a) :: rest))) : W p l e R s m args below meth c H locs cells slots Q (F0 m pc ls (.ref (g.2.2 + a) :: rest)) :=
  jgetV E hM hk hk11 hc hN hT hft hl hdg kk
theorem jFT_le {k : Nat} {r : Nat × Nat} (hk : k < 11) (hr : r ∈ jFT k) : r.1 ≤ 2 := (show ∀ k, k < 11 → ∀ r ∈ jFT k, r.1 ≤ 2 by decide +kernel) k hk r hr
/-- a field is written: what changes of the memory -/
theorem jE_upd {S S' : jM} {a k i : Nat} {q : Nat × Nat} {v : Value} (hS : a < jn S) (hk : jK a = k) (hk11 : k < 11) (hn : jn S' = jn S) (hft : (jFT k)[i]? = some q) (hv : jV g S' a q = v)
    (hoth : ∀ (b : Nat) (r : Nat × Nat), r.1 ≤ 2 → ¬ (b = a ∧ r = q) → jV g S' b r = jV g S b r) (harr : ∀ b k, jArr g S' k b = jArr g S k b) (hnd : ∀ (j : Nat) (r : Nat × Nat), (jFT k)[j]? = some r → j ≠ i → r ≠ q) :
    (jW g S).set a (g.2.2 + a, .inr (k, ((jFT k).map (jV g S a)).set i v)) = jW g S' := by
  have h2 : (jTG a).1 = k := hk
  refine jW_set hS hn ?_ (fun b hb => ?_)
  · simp only [jE, h2, if_pos hk11]
    congr 2
    apply List.ext_getElem?
    intro j
    by_cases hj : j = i
    · subst hj
      have hl := (List.getElem?_eq_some_iff.mp hft).1
      rw [List.getElem?_set_self (by simpa using hl), List.getElem?_map, hft]
      simp [hv]
    · rw [List.getElem?_set_ne (Ne.symm hj), List.getElem?_map, List.getElem?_map]
      cases hr : (jFT k)[j]? with
      | none => rfl
      | some r => simp only [Option.map_some]; rw [hoth a r (jFT_le hk11 (List.mem_of_getElem? hr)) (fun h => hnd j r hr hj h.2)]
  · simp only [jE]
    split
    · congr 2
      apply List.map_congr_left
      intro r hr
      exact hoth b r (jFT_le (by assumption) hr) (fun h => hb h.1)
    · rw [harr]
theorem jFT_ndb : ((List.range 11).all fun k => (List.range (jFT k).length).all fun i => (List.range (jFT k).length).all fun j => decide (j = i) || !decide ((jFT k)[j]? = (jFT k)[i]?)) = true := by decide +kernel
theorem jFT_nd (k : Nat) (hk : k < 11) (i : Nat) (hi : i < (jFT k).length) (j : Nat) (hj : j < (jFT k).length) (h : j ≠ i) : (jFT k)[j]? ≠ (jFT k)[i]? := by
  have h1 := List.all_eq_true.mp (List.all_eq_true.mp (List.all_eq_true.mp jFT_ndb k (List.mem_range.mpr hk)) i (List.mem_range.mpr hi)) j (List.mem_range.mpr hj)
  simpa [h] using h1
theorem jFT_apart {k i j : Nat} {q r : Nat × Nat} (hk : k < 11) (hi : (jFT k)[i]? = some q) (hj : (jFT k)[j]? = some r) (h : j ≠ i) : r ≠ q := by
  have h1 := jFT_nd k hk i (List.getElem?_eq_some_iff.mp hi).1 j (List.getElem?_eq_some_iff.mp hj).1 h
  rw [hi, hj] at h1
  exact fun e => h1 (by rw [e])
theorem jput (E : jEnv p s m args meth c cc own ret maxL g) (hM : jAt g S s H locs) {S' : jM} {k i idx N : Nat} {q : Nat × Nat} {C : String} {T : u_T} {nm ds : String} {ty : FieldType} {v : Value} (hk : jK a = k) (hk11 : k < 11) (hc : vwCl[k]? = some (C, T, N)) (hN : i < N) (hT : T i = (C, nm, ds, false)) (hft : (jFT k)[i]? = some q)
    (hl : Cond.fieldLink own idx C nm ds ∈ jw) (hd : parseFieldDescriptor ds = some ty) (hnr : narrow ty v = v) (hfit : fits ty v = true) (hdg : decode cc pc = .ok (.putfield idx, 3))
    (hn : jn S' = jn S) (hv : jV g S' a q = v) (hoth : ∀ (b : Nat) (r : Nat × Nat), r.1 ≤ 2 → ¬ (b = a ∧ r = q) → jV g S' b r = jV g S b r) (harr : ∀ b k, jArr g S' k b = jArr g S k b)
    (kk : ∀ (H : Heap) (locs : List Loc), jAt g S' s H locs → W p l e R s m args below meth c H locs cells slots Q (F0 m (pc + 3) ls rest)) : W p l e R s m args below meth c H locs cells slots Q (F0 m pc ls (v :: .ref (g.2.2 + a) :: rest)) := by
  obtain ⟨hx, hb, -, -, hts, hown, hK, -⟩ := E
  obtain ⟨hin, ⟨ty0, hty⟩, hnm⟩ := jcls hc
  have hset := jE_upd (g := g) (by rw [hM.2.2]; exact jK_lt hk (by omega)) hk hk11 hn hft hv hoth harr (fun j r hj hne => jFT_apart hk11 hft hj hne)
  have hlen : i < ((jFT k).map (jV g S a)).length := by
    have := (List.getElem?_eq_some_iff.mp hft).1
    simpa using this
  exact va_put (D := g.1) (ci := k) (C := C) (T := T) (N := N) (ref := C) (ty := ty) (v := v) hx hb hts hin ty0 hty hnm hown hK hM.1 (jW_D g S) hM.2.1 a (jW_obj hM.2.2 hk hk11) hc i hN (by rw [hT]; exact hts _ hl) (fun x h => by rw [hT] at h ⊢; exact h) (by rw [hT]) (by rw [hT]; exact hd) hnr hfit hlen hdg (fun H1 locs1 hP1 _ hS1 => kk H1 locs1 ⟨by rw [hset] at hP1; exact hP1, hS1, hn.trans hM.2.2⟩)
theorem jputI (E : jEnv p s m args meth c cc own ret maxL g) (hM : jAt g S s H locs) {k i f idx N : Nat} {C : String} {T : u_T} {nm : String} {v : Int32} (hk : jK a = k) (hk11 : k < 11) (hc : vwCl[k]? = some (C, T, N)) (hN : i < N) (hT : T i = (C, nm, "I", false)) (hft : (jFT k)[i]? = some (0, f))
    (hl : Cond.fieldLink own idx C nm "I" ∈ jw) (hdg : decode cc pc = .ok (.putfield idx, 3))
    (kk : ∀ (H : Heap) (locs : List Loc) (S1 : jM), S1 = (jsI S f a v) → jAt g S1 s H locs → W p l e R s m args below meth c H locs cells slots Q (F0 m (pc + 3) ls rest)) : W p l e R s m args below meth c H locs cells slots Q (F0 m pc ls (.int v :: .ref (g.2.2 + a) :: rest)) :=
  jput (S' := jsI S f a v) E hM hk hk11 hc hN hT hft hl (ty := .int) (by decide +kernel) rfl rfl hdg rfl (jV_sI_same g S f a v) (fun b r h2 h => jV_sI g S f a v b r h) (fun _ _ => rfl) (fun H locs h => kk H locs _ rfl h)
theorem jputZ (E : jEnv p s m args meth c cc own ret maxL g) (hM : jAt g S s H locs) {k i f idx N : Nat} {C : String} {T : u_T} {nm : String} {v : Int32} (hk : jK a = k) (hk11 : k < 11) (hc : vwCl[k]? = some (C, T, N)) (hN : i < N) (hT : T i = (C, nm, "Z", false)) (hft : (jFT k)[i]? = some (0, f))
    (hl : Cond.fieldLink own idx C nm "Z" ∈ jw) (hz : jZ v = true) (hdg : decode cc pc = .ok (.putfield idx, 3))
    (kk : ∀ (H : Heap) (locs : List Loc) (S1 : jM), S1 = (jsI S f a v) → jAt g S1 s H locs → W p l e R s m args below meth c H locs cells slots Q (F0 m (pc + 3) ls rest)) : W p l e R s m args below meth c H locs cells slots Q (F0 m pc ls (.int v :: .ref (g.2.2 + a) :: rest)) := by
  have h2 : narrow .boolean (.int v) = .int v ∧ fits .boolean (.int v) = true := by
    simp only [jZ, Bool.or_eq_true, decide_eq_true_eq] at hz
    rcases hz with rfl | rfl <;> exact ⟨by rfl, by rfl⟩
  exact jput (S' := jsI S f a v) E hM hk hk11 hc hN hT hft hl (ty := .boolean) (by decide +kernel) h2.1 h2.2 hdg rfl (jV_sI_same g S f a v) (fun b r h2 h => jV_sI g S f a v b r h) (fun _ _ => rfl) (fun H locs h => kk H locs _ rfl h)
theorem jputL (E : jEnv p s m args meth c cc own ret maxL g) (hM : jAt g S s H locs) {k i f idx N : Nat} {C : String} {T : u_T} {nm : String} {v : Int64} (hk : jK a = k) (hk11 : k < 11) (hc : vwCl[k]? = some (C, T, N)) (hN : i < N) (hT : T i = (C, nm, "J", false)) (hft : (jFT k)[i]? = some (1, f))
    (hl : Cond.fieldLink own idx C nm "J" ∈ jw) (hdg : decode cc pc = .ok (.putfield idx, 3))
    (kk : ∀ (H : Heap) (locs : List Loc) (S1 : jM), S1 = (jsL S f a v) → jAt g S1 s H locs → W p l e R s m args below meth c H locs cells slots Q (F0 m (pc + 3) ls rest)) : W p l e R s m args below meth c H locs cells slots Q (F0 m pc ls (.long v :: .ref (g.2.2 + a) :: rest)) :=
  jput (S' := jsL S f a v) E hM hk hk11 hc hN hT hft hl (ty := .long) (by decide +kernel) rfl rfl hdg rfl (jV_sL_same g S f a v) (fun b r h2 h => jV_sL g S f a v b r h) (fun _ _ => rfl) (fun H locs h => kk H locs _ rfl h)
/-- a reference (or null) put in a field -/
theorem jputR (E : jEnv p s m args meth c cc own ret maxL g) (hM : jAt g S s H locs) {k i f idx N : Nat} {C : String} {T : u_T} {nm ds : String} {v : Option Nat} (hk : jK a = k) (hk11 : k < 11) (hc : vwCl[k]? = some (C, T, N)) (hN : i < N) (hT : T i = (C, nm, ds, false)) (hft : (jFT k)[i]? = some (2, f))
    (hl : Cond.fieldLink own idx C nm ds ∈ jw) {on : String} (hd : parseFieldDescriptor ds = some (.object on)) (hdg : decode cc pc = .ok (.putfield idx, 3))
    (kk : ∀ (H : Heap) (locs : List Loc) (S1 : jM), S1 = (jsR S f a v) → jAt g S1 s H locs → W p l e R s m args below meth c H locs cells slots Q (F0 m (pc + 3) ls rest)) : W p l e R s m args below meth c H locs cells slots Q (F0 m pc ls (jo g v :: .ref (g.2.2 + a) :: rest)) :=
  jput (S' := jsR S f a v) E hM hk hk11 hc hN hT hft hl (ty := .object on) hd (by cases v <;> rfl) (by cases v <;> rfl) hdg rfl (jV_sR_same g S f a v) (fun b r h2 h => jV_sR g S f a v b r h h2) (fun _ _ => rfl) (fun H locs h => kk H locs _ rfl h)
/-- an array is written: what changes of the memory -/
theorem jE_updA {S S' : jM} {a k : Nat} {x : jC} (hS : a < jn S) (hk : jK a = k) (hk11 : 11 ≤ k) (hn : jn S' = jn S) (hx : jArr g S' k a = x)
    (hoth : ∀ (b : Nat) (r : Nat × Nat), jV g S' b r = jV g S b r) (harr : ∀ b, b ≠ a → ∀ k, jArr g S' k b = jArr g S k b) :
    (jW g S).set a (g.2.2 + a, .inl (g.2.1 k, jLen a, x)) = jW g S' := by
  have h2 : (jTG a).1 = k := hk
  refine jW_set hS hn ?_ (fun b hb => ?_)
  · simp only [jE, h2, if_neg (show ¬ k < 11 by omega), hx]
  · simp only [jE]
    split
    · congr 2
      apply List.map_congr_left
      intro r _
      exact hoth b r
    · rw [harr b hb]
theorem jW_I (hS : jn S = jNT) {k : Nat} (hk : jK a = k) (h : k = 11 ∨ k = 13 ∨ k = 15) : (jW g S)[a]? = some (g.2.2 + a, .inl (g.2.1 k, jLen a, .inl (jAI S a))) := by
  rcases h with rfl | rfl | rfl <;> exact jW_arr hS hk (by decide) (by decide)
theorem jW_L (hS : jn S = jNT) (hk : jK a = 14) : (jW g S)[a]? = some (g.2.2 + a, .inl (g.2.1 14, jLen a, .inr (.inl (jAL S a)))) := jW_arr hS hk (by decide) (by decide)
theorem jW_Db (hS : jn S = jNT) (hk : jK a = 12) : (jW g S)[a]? = some (g.2.2 + a, .inl (g.2.1 12, jLen a, .inr (.inr (.inr (.inl (jAD S a)))))) := jW_arr hS hk (by decide) (by decide)
theorem jW_R (hS : jn S = jNT) {k : Nat} (hk : jK a = k) (h1 : 16 ≤ k) (h2 : k < 99) : (jW g S)[a]? = some (g.2.2 + a, .inl (g.2.1 k, jLen a, .inr (.inr (.inr (.inr (fun j => (jAR S a j).map (g.2.2 + ·))))))) := by
  rw [jW_arr hS hk (by omega) h2]
  unfold jArr
  rw [if_neg (by omega), if_neg (by omega), if_pos h1]
theorem jiald (E : jEnv p s m args meth c cc own ret maxL g) (hM : jAt g S s H locs) {i : Int32} (hA : jA a 13 i = true) (hdg : decode cc pc = .ok (.iaload, 1))
    (kk : W p l e R s m args below meth c H locs cells slots Q (F0 m (pc + 1) ls (.int (jAI S a i.toNatClampNeg) :: rest))) : W p l e R s m args below meth c H locs cells slots Q (F0 m pc ls (.int i :: .ref (g.2.2 + a) :: rest)) := by
  obtain ⟨hk, hin⟩ := jA_ok hA
  exact va_iald E.1 E.2.1 E.2.2.2.2.2.2.1 hM.1 a 2 (jW_I hM.2.2 hk (.inr (.inl rfl))) rfl hin hdg kk
theorem jbald (E : jEnv p s m args meth c cc own ret maxL g) (hM : jAt g S s H locs) {i : Int32} (hA : jA a 11 i = true) (hdg : decode cc pc = .ok (.baload, 1))
    (kk : W p l e R s m args below meth c H locs cells slots Q (F0 m (pc + 1) ls (.int (jAI S a i.toNatClampNeg) :: rest))) : W p l e R s m args below meth c H locs cells slots Q (F0 m pc ls (.int i :: .ref (g.2.2 + a) :: rest)) := by
  obtain ⟨hk, hin⟩ := jA_ok hA
  exact va_bald E.1 E.2.1 E.2.2.2.2.2.2.1 hM.1 a 0 (jW_I hM.2.2 hk (.inl rfl)) rfl hin hdg kk
theorem jzald (E : jEnv p s m args meth c cc own ret maxL g) (hM : jAt g S s H locs) {i : Int32} (hA : jA a 15 i = true) (hdg : decode cc pc = .ok (.baload, 1))
    (kk : W p l e R s m args below meth c H locs cells slots Q (F0 m (pc + 1) ls (.int (jAI S a i.toNatClampNeg) :: rest))) : W p l e R s m args below meth c H locs cells slots Q (F0 m pc ls (.int i :: .ref (g.2.2 + a) :: rest)) := by
  obtain ⟨hk, hin⟩ := jA_ok hA
  exact va_zald E.1 E.2.1 E.2.2.2.2.2.2.1 hM.1 a 4 (jW_I hM.2.2 hk (.inr (.inr rfl))) rfl hin hdg kk
theorem jlald (E : jEnv p s m args meth c cc own ret maxL g) (hM : jAt g S s H locs) {i : Int32} (hA : jA a 14 i = true) (hdg : decode cc pc = .ok (.laload, 1))
    (kk : W p l e R s m args below meth c H locs cells slots Q (F0 m (pc + 1) ls (.long (jAL S a i.toNatClampNeg) :: rest))) : W p l e R s m args below meth c H locs cells slots Q (F0 m pc ls (.int i :: .ref (g.2.2 + a) :: rest)) := by
  obtain ⟨hk, hin⟩ := jA_ok hA
  exact va_lald E.1 E.2.1 E.2.2.2.2.2.2.1 hM.1 a 3 (jW_L hM.2.2 hk) rfl hin hdg kk
theorem jdald (E : jEnv p s m args meth c cc own ret maxL g) (hM : jAt g S s H locs) {i : Int32} (hA : jA a 12 i = true) (hdg : decode cc pc = .ok (.daload, 1))
    (kk : W p l e R s m args below meth c H locs cells slots Q (F0 m (pc + 1) ls (.double (jAD S a i.toNatClampNeg) :: rest))) : W p l e R s m args below meth c H locs cells slots Q (F0 m pc ls (.int i :: .ref (g.2.2 + a) :: rest)) := by
  obtain ⟨hk, hin⟩ := jA_ok hA
  exact va_dald E.1 E.2.1 E.2.2.2.2.2.2.1 hM.1 a 1 (jW_Db hM.2.2 hk) rfl hin hdg kk
theorem jaald (E : jEnv p s m args meth c cc own ret maxL g) (hM : jAt g S s H locs) {i : Int32} {k t0 : Nat} {C : String} (hA : jA a k i = true) (h1 : 16 ≤ k) (h2 : k < 99) (ht : (jtys g)[t0]? = some (g.2.1 k, .object C)) (hdg : decode cc pc = .ok (.aaload, 1))
    (kk : W p l e R s m args below meth c H locs cells slots Q (F0 m (pc + 1) ls (jo g (jAR S a i.toNatClampNeg) :: rest))) : W p l e R s m args below meth c H locs cells slots Q (F0 m pc ls (.int i :: .ref (g.2.2 + a) :: rest)) := by
  obtain ⟨hk, hin⟩ := jA_ok hA
  exact va_aldq E.1 E.2.1 E.2.2.2.2.2.2.1 hM.1 a t0 (jW_R hM.2.2 hk h1 h2) ht hin hdg kk
/-- of an array of arrays of longs -/
theorem jaaldJ (E : jEnv p s m args meth c cc own ret maxL g) (hM : jAt g S s H locs) {i : Int32} (hA : jA a 20 i = true) (hdg : decode cc pc = .ok (.aaload, 1))
    (kk : W p l e R s m args below meth c H locs cells slots Q (F0 m (pc + 1) ls (jo g (jAR S a i.toNatClampNeg) :: rest))) : W p l e R s m args below meth c H locs cells slots Q (F0 m pc ls (.int i :: .ref (g.2.2 + a) :: rest)) := by
  obtain ⟨hk, hin⟩ := jA_ok hA
  have hw := jW_R (g := g) hM.2.2 hk (by omega) (by omega)
  have hlt : i.toNatClampNeg < jLen a := Nat.not_le.mp fun q => hin (Or.inr q)
  exact W.aald (v := jo g (jAR S a i.toNatClampNeg)) (ty := .array .long) E.1 E.2.1 (hM.1 a _ hw) ((E.2.2.2.2.2.2.1.2 9 (g.2.1 20, .array .long) rfl).1 (jLen a) (fun j => va_rf ((jAR S a j).map (g.2.2 + ·)))) rfl (fun q => by cases q) (by show ¬ (i < 0 ∨ (arrV _ _ _).slots.size ≤ _); rw [arrV_size]; exact hin) (by show (arrV _ _ _).slots[_]? = _; rw [arrV_read _ _ hlt]; rfl) rfl rfl hdg kk
theorem jalen (E : jEnv p s m args meth c cc own ret maxL g) (hM : jAt g S s H locs) {k t0 : Nat} {ty : FieldType} (hk : jK a = k) (h1 : 11 ≤ k) (h2 : k < 99) (ht : (jtys g)[t0]? = some (g.2.1 k, ty)) (hdg : decode cc pc = .ok (.arraylength, 1))
    (kk : W p l e R s m args below meth c H locs cells slots Q (F0 m (pc + 1) ls (.int (Int32.ofNat (jLen a)) :: rest))) : W p l e R s m args below meth c H locs cells slots Q (F0 m pc ls (.ref (g.2.2 + a) :: rest)) :=
  va_alen E.1 E.2.1 E.2.2.2.2.2.2.1 hM.1 a t0 (jW_arr hM.2.2 hk h1 h2) ht rfl hdg kk
theorem jiast (E : jEnv p s m args meth c cc own ret maxL g) (hM : jAt g S s H locs) {i x : Int32} (hA : jA a 13 i = true) (hdg : decode cc pc = .ok (.iastore, 1))
    (kk : ∀ (H : Heap) (locs : List Loc) (S1 : jM), S1 = (jrI S a (upd (jAI S a) i.toNatClampNeg x)) → jAt g S1 s H locs → W p l e R s m args below meth c H locs cells slots Q (F0 m (pc + 1) ls rest)) : W p l e R s m args below meth c H locs cells slots Q (F0 m pc ls (.int x :: .int i :: .ref (g.2.2 + a) :: rest)) := by
  obtain ⟨hk, hin⟩ := jA_ok hA
  refine va_iast E.1 E.2.1 E.2.2.2.2.2.2.1 hM.1 (jW_D g S) hM.2.1 a 2 (jW_I hM.2.2 hk (.inr (.inl rfl))) rfl hin hdg (fun H1 locs1 hP _ hS => kk H1 locs1 _ rfl ⟨?_, hS, hM.2.2⟩)
  rw [jE_updA (S := S) (S' := jrI S a (upd (jAI S a) i.toNatClampNeg x)) (by rw [hM.2.2]; exact jK_lt hk (by decide)) hk (by decide) rfl (jArr_rI g S a _ _ (.inr (.inl rfl))) (fun _ _ => rfl) (fun b hb k => jArr_rI_ne g S a _ b hb k)] at hP
  exact hP
theorem jbast (E : jEnv p s m args meth c cc own ret maxL g) (hM : jAt g S s H locs) {i x : Int32} (hA : jA a 11 i = true) (hdg : decode cc pc = .ok (.bastore, 1))
    (kk : ∀ (H : Heap) (locs : List Loc) (S1 : jM), S1 = (jrI S a (upd (jAI S a) i.toNatClampNeg (vp_nar .byte x))) → jAt g S1 s H locs → W p l e R s m args below meth c H locs cells slots Q (F0 m (pc + 1) ls rest)) : W p l e R s m args below meth c H locs cells slots Q (F0 m pc ls (.int x :: .int i :: .ref (g.2.2 + a) :: rest)) := by
  obtain ⟨hk, hin⟩ := jA_ok hA
  refine va_bast E.1 E.2.1 E.2.2.2.2.2.2.1 hM.1 (jW_D g S) hM.2.1 a 0 (jW_I hM.2.2 hk (.inl rfl)) rfl hin hdg (fun H1 locs1 hP _ hS => kk H1 locs1 _ rfl ⟨?_, hS, hM.2.2⟩)
  rw [jE_updA (S := S) (S' := jrI S a (upd (jAI S a) i.toNatClampNeg (vp_nar .byte x))) (by rw [hM.2.2]; exact jK_lt hk (by decide)) hk (by decide) rfl (jArr_rI g S a _ _ (.inl rfl)) (fun _ _ => rfl) (fun b hb k => jArr_rI_ne g S a _ b hb k)] at hP
  exact hP
theorem jzast (E : jEnv p s m args meth c cc own ret maxL g) (hM : jAt g S s H locs) {i x : Int32} (hA : jA a 15 i = true) (hdg : decode cc pc = .ok (.bastore, 1))
    (kk : ∀ (H : Heap) (locs : List Loc) (S1 : jM), S1 = (jrI S a (upd (jAI S a) i.toNatClampNeg (vp_nar .boolean x))) → jAt g S1 s H locs → W p l e R s m args below meth c H locs cells slots Q (F0 m (pc + 1) ls rest)) : W p l e R s m args below meth c H locs cells slots Q (F0 m pc ls (.int x :: .int i :: .ref (g.2.2 + a) :: rest)) := by
  obtain ⟨hk, hin⟩ := jA_ok hA
  refine va_zast E.1 E.2.1 E.2.2.2.2.2.2.1 hM.1 (jW_D g S) hM.2.1 a 4 (jW_I hM.2.2 hk (.inr (.inr rfl))) rfl hin hdg (fun H1 locs1 hP _ hS => kk H1 locs1 _ rfl ⟨?_, hS, hM.2.2⟩)
  rw [jE_updA (S := S) (S' := jrI S a (upd (jAI S a) i.toNatClampNeg (vp_nar .boolean x))) (by rw [hM.2.2]; exact jK_lt hk (by decide)) hk (by decide) rfl (jArr_rI g S a _ _ (.inr (.inr rfl))) (fun _ _ => rfl) (fun b hb k => jArr_rI_ne g S a _ b hb k)] at hP
  exact hP
theorem jlast (E : jEnv p s m args meth c cc own ret maxL g) (hM : jAt g S s H locs) {i : Int32} {x : Int64} (hA : jA a 14 i = true) (hdg : decode cc pc = .ok (.lastore, 1))
    (kk : ∀ (H : Heap) (locs : List Loc) (S1 : jM), S1 = (jrL S a (vp_updL (jAL S a) i.toNatClampNeg x)) → jAt g S1 s H locs → W p l e R s m args below meth c H locs cells slots Q (F0 m (pc + 1) ls rest)) : W p l e R s m args below meth c H locs cells slots Q (F0 m pc ls (.long x :: .int i :: .ref (g.2.2 + a) :: rest)) := by
  obtain ⟨hk, hin⟩ := jA_ok hA
  refine va_last E.1 E.2.1 E.2.2.2.2.2.2.1 hM.1 (jW_D g S) hM.2.1 a 3 (jW_L hM.2.2 hk) rfl hin hdg (fun H1 locs1 hP _ hS => kk H1 locs1 _ rfl ⟨?_, hS, hM.2.2⟩)
  rw [jE_updA (S := S) (S' := jrL S a (vp_updL (jAL S a) i.toNatClampNeg x)) (by rw [hM.2.2]; exact jK_lt hk (by decide)) hk (by decide) rfl (jArr_rL g S a _) (fun _ _ => rfl) (fun b hb k => jArr_rL_ne g S a _ b hb k)] at hP
  exact hP
theorem jdast (E : jEnv p s m args meth c cc own ret maxL g) (hM : jAt g S s H locs) {i : Int32} {x : UInt64} (hA : jA a 12 i = true) (hdg : decode cc pc = .ok (.dastore, 1))
    (kk : ∀ (H : Heap) (locs : List Loc) (S1 : jM), S1 = (jrD S a (vf_upd (jAD S a) i.toNatClampNeg x)) → jAt g S1 s H locs → W p l e R s m args below meth c H locs cells slots Q (F0 m (pc + 1) ls rest)) : W p l e R s m args below meth c H locs cells slots Q (F0 m pc ls (.double x :: .int i :: .ref (g.2.2 + a) :: rest)) := by
  obtain ⟨hk, hin⟩ := jA_ok hA
  refine va_dast E.1 E.2.1 E.2.2.2.2.2.2.1 hM.1 (jW_D g S) hM.2.1 a 1 (jW_Db hM.2.2 hk) rfl hin hdg (fun H1 locs1 hP _ hS => kk H1 locs1 _ rfl ⟨?_, hS, hM.2.2⟩)
  rw [jE_updA (S := S) (S' := jrD S a (vf_upd (jAD S a) i.toNatClampNeg x)) (by rw [hM.2.2]; exact jK_lt hk (by decide)) hk (by decide) rfl (jArr_rD g S a _) (fun _ _ => rfl) (fun b hb k => jArr_rD_ne g S a _ b hb k)] at hP
  exact hP
end JROWS

