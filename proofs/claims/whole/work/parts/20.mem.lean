/-! PURE: what is read of a memory that was written -/
theorem m_I_sI {S : jM} {f a : Nat} {v : Int32} {g b : Nat} : jI (jsI S f a v) g b = if g = f ∧ b = a then v else jI S g b := rfl
theorem m_L_sI {S : jM} {f a : Nat} {v : Int32} : jL (jsI S f a v) = jL S := rfl
theorem m_R_sI {S : jM} {f a : Nat} {v : Int32} : jR (jsI S f a v) = jR S := rfl
theorem m_AI_sI {S : jM} {f a : Nat} {v : Int32} : jAI (jsI S f a v) = jAI S := rfl
theorem m_AL_sI {S : jM} {f a : Nat} {v : Int32} : jAL (jsI S f a v) = jAL S := rfl
theorem m_AD_sI {S : jM} {f a : Nat} {v : Int32} : jAD (jsI S f a v) = jAD S := rfl
theorem m_AR_sI {S : jM} {f a : Nat} {v : Int32} : jAR (jsI S f a v) = jAR S := rfl
theorem m_n_sI {S : jM} {f a : Nat} {v : Int32} : jn (jsI S f a v) = jn S := rfl
theorem m_I_sL {S : jM} {f a : Nat} {v : Int64} : jI (jsL S f a v) = jI S := rfl
theorem m_L_sL {S : jM} {f a : Nat} {v : Int64} {g b : Nat} : jL (jsL S f a v) g b = if g = f ∧ b = a then v else jL S g b := rfl
theorem m_R_sL {S : jM} {f a : Nat} {v : Int64} : jR (jsL S f a v) = jR S := rfl
theorem m_AI_sL {S : jM} {f a : Nat} {v : Int64} : jAI (jsL S f a v) = jAI S := rfl
theorem m_AL_sL {S : jM} {f a : Nat} {v : Int64} : jAL (jsL S f a v) = jAL S := rfl
theorem m_AD_sL {S : jM} {f a : Nat} {v : Int64} : jAD (jsL S f a v) = jAD S := rfl
theorem m_AR_sL {S : jM} {f a : Nat} {v : Int64} : jAR (jsL S f a v) = jAR S := rfl
theorem m_n_sL {S : jM} {f a : Nat} {v : Int64} : jn (jsL S f a v) = jn S := rfl
theorem m_I_sR {S : jM} {f a : Nat} {v : Option Nat} : jI (jsR S f a v) = jI S := rfl
theorem m_L_sR {S : jM} {f a : Nat} {v : Option Nat} : jL (jsR S f a v) = jL S := rfl
theorem m_R_sR {S : jM} {f a : Nat} {v : Option Nat} {g b : Nat} : jR (jsR S f a v) g b = if g = f ∧ b = a then v else jR S g b := rfl
theorem m_AI_sR {S : jM} {f a : Nat} {v : Option Nat} : jAI (jsR S f a v) = jAI S := rfl
theorem m_AL_sR {S : jM} {f a : Nat} {v : Option Nat} : jAL (jsR S f a v) = jAL S := rfl
theorem m_AD_sR {S : jM} {f a : Nat} {v : Option Nat} : jAD (jsR S f a v) = jAD S := rfl
theorem m_AR_sR {S : jM} {f a : Nat} {v : Option Nat} : jAR (jsR S f a v) = jAR S := rfl
theorem m_n_sR {S : jM} {f a : Nat} {v : Option Nat} : jn (jsR S f a v) = jn S := rfl
theorem m_I_rI {S : jM} {a : Nat} {r : Nat → Int32} : jI (jrI S a r) = jI S := rfl
theorem m_L_rI {S : jM} {a : Nat} {r : Nat → Int32} : jL (jrI S a r) = jL S := rfl
theorem m_R_rI {S : jM} {a : Nat} {r : Nat → Int32} : jR (jrI S a r) = jR S := rfl
theorem m_AI_rI {S : jM} {a : Nat} {r : Nat → Int32} {b : Nat} : jAI (jrI S a r) b = if b = a then r else jAI S b := rfl
theorem m_AL_rI {S : jM} {a : Nat} {r : Nat → Int32} : jAL (jrI S a r) = jAL S := rfl
theorem m_AD_rI {S : jM} {a : Nat} {r : Nat → Int32} : jAD (jrI S a r) = jAD S := rfl
theorem m_AR_rI {S : jM} {a : Nat} {r : Nat → Int32} : jAR (jrI S a r) = jAR S := rfl
theorem m_n_rI {S : jM} {a : Nat} {r : Nat → Int32} : jn (jrI S a r) = jn S := rfl
theorem m_I_rL {S : jM} {a : Nat} {r : Nat → Int64} : jI (jrL S a r) = jI S := rfl
theorem m_L_rL {S : jM} {a : Nat} {r : Nat → Int64} : jL (jrL S a r) = jL S := rfl
theorem m_R_rL {S : jM} {a : Nat} {r : Nat → Int64} : jR (jrL S a r) = jR S := rfl
theorem m_AI_rL {S : jM} {a : Nat} {r : Nat → Int64} : jAI (jrL S a r) = jAI S := rfl
theorem m_AL_rL {S : jM} {a : Nat} {r : Nat → Int64} {b : Nat} : jAL (jrL S a r) b = if b = a then r else jAL S b := rfl
theorem m_AD_rL {S : jM} {a : Nat} {r : Nat → Int64} : jAD (jrL S a r) = jAD S := rfl
theorem m_AR_rL {S : jM} {a : Nat} {r : Nat → Int64} : jAR (jrL S a r) = jAR S := rfl
theorem m_n_rL {S : jM} {a : Nat} {r : Nat → Int64} : jn (jrL S a r) = jn S := rfl
theorem m_I_rD {S : jM} {a : Nat} {r : Nat → UInt64} : jI (jrD S a r) = jI S := rfl
theorem m_L_rD {S : jM} {a : Nat} {r : Nat → UInt64} : jL (jrD S a r) = jL S := rfl
theorem m_R_rD {S : jM} {a : Nat} {r : Nat → UInt64} : jR (jrD S a r) = jR S := rfl
theorem m_AI_rD {S : jM} {a : Nat} {r : Nat → UInt64} : jAI (jrD S a r) = jAI S := rfl
theorem m_AL_rD {S : jM} {a : Nat} {r : Nat → UInt64} : jAL (jrD S a r) = jAL S := rfl
theorem m_AD_rD {S : jM} {a : Nat} {r : Nat → UInt64} {b : Nat} : jAD (jrD S a r) b = if b = a then r else jAD S b := rfl
theorem m_AR_rD {S : jM} {a : Nat} {r : Nat → UInt64} : jAR (jrD S a r) = jAR S := rfl
theorem m_n_rD {S : jM} {a : Nat} {r : Nat → UInt64} : jn (jrD S a r) = jn S := rfl
theorem m_I_rR {S : jM} {a : Nat} {r : Nat → Option Nat} : jI (jrR S a r) = jI S := rfl
theorem m_L_rR {S : jM} {a : Nat} {r : Nat → Option Nat} : jL (jrR S a r) = jL S := rfl
theorem m_R_rR {S : jM} {a : Nat} {r : Nat → Option Nat} : jR (jrR S a r) = jR S := rfl
theorem m_AI_rR {S : jM} {a : Nat} {r : Nat → Option Nat} : jAI (jrR S a r) = jAI S := rfl
theorem m_AL_rR {S : jM} {a : Nat} {r : Nat → Option Nat} : jAL (jrR S a r) = jAL S := rfl
theorem m_AD_rR {S : jM} {a : Nat} {r : Nat → Option Nat} : jAD (jrR S a r) = jAD S := rfl
theorem m_AR_rR {S : jM} {a : Nat} {r : Nat → Option Nat} {b : Nat} : jAR (jrR S a r) b = if b = a then r else jAR S b := rfl
theorem m_n_rR {S : jM} {a : Nat} {r : Nat → Option Nat} : jn (jrR S a r) = jn S := rfl
theorem k_0 : jK 0 = 9 := by decide +kernel
theorem k_1 : jK 1 = 4 := by decide +kernel
theorem k_2 : jK 2 = 15 := by decide +kernel
theorem ln_2 : jLen 2 = 16 := by decide +kernel
theorem k_3 : jK 3 = 13 := by decide +kernel
theorem ln_3 : jLen 3 = 16 := by decide +kernel
theorem k_4 : jK 4 = 17 := by decide +kernel
theorem ln_4 : jLen 4 = 200 := by decide +kernel
theorem k_605 : jK 605 = 7 := by decide +kernel
theorem k_606 : jK 606 = 14 := by decide +kernel
theorem ln_606 : jLen 606 = 12 := by decide +kernel
theorem k_607 : jK 607 = 3 := by decide +kernel
theorem k_608 : jK 608 = 5 := by decide +kernel
theorem k_609 : jK 609 = 11 := by decide +kernel
theorem ln_609 : jLen 609 = 1600 := by decide +kernel
theorem k_616 : jK 616 = 14 := by decide +kernel
theorem ln_616 : jLen 616 = 20 := by decide +kernel
theorem k_617 : jK 617 = 13 := by decide +kernel
theorem ln_617 : jLen 617 = 20 := by decide +kernel
theorem k_618 : jK 618 = 18 := by decide +kernel
theorem ln_618 : jLen 618 = 32 := by decide +kernel
theorem k_811 : jK 811 = 8 := by decide +kernel
theorem k_812 : jK 812 = 13 := by decide +kernel
theorem ln_812 : jLen 812 = 300 := by decide +kernel
theorem k_813 : jK 813 = 13 := by decide +kernel
theorem ln_813 : jLen 813 = 300 := by decide +kernel
theorem k_814 : jK 814 = 13 := by decide +kernel
theorem ln_814 : jLen 814 = 300 := by decide +kernel
theorem k_815 : jK 815 = 13 := by decide +kernel
theorem ln_815 : jLen 815 = 300 := by decide +kernel
theorem k_816 : jK 816 = 14 := by decide +kernel
theorem ln_816 : jLen 816 = 300 := by decide +kernel
theorem k_817 : jK 817 = 19 := by decide +kernel
theorem ln_817 : jLen 817 = 600 := by decide +kernel
theorem k_2018 : jK 2018 = 1 := by decide +kernel
theorem k_2019 : jK 2019 = 13 := by decide +kernel
theorem ln_2019 : jLen 2019 = 24 := by decide +kernel
theorem k_2020 : jK 2020 = 13 := by decide +kernel
theorem ln_2020 : jLen 2020 = 24 := by decide +kernel
theorem k_2021 : jK 2021 = 13 := by decide +kernel
theorem ln_2021 : jLen 2021 = 24 := by decide +kernel
theorem k_2022 : jK 2022 = 19 := by decide +kernel
theorem ln_2022 : jLen 2022 = 24 := by decide +kernel
theorem k_2071 : jK 2071 = 1 := by decide +kernel
theorem k_2072 : jK 2072 = 13 := by decide +kernel
theorem ln_2072 : jLen 2072 = 24 := by decide +kernel
theorem k_2073 : jK 2073 = 13 := by decide +kernel
theorem ln_2073 : jLen 2073 = 24 := by decide +kernel
theorem k_2074 : jK 2074 = 13 := by decide +kernel
theorem ln_2074 : jLen 2074 = 24 := by decide +kernel
theorem k_2075 : jK 2075 = 19 := by decide +kernel
theorem ln_2075 : jLen 2075 = 24 := by decide +kernel
theorem k_2124 : jK 2124 = 1 := by decide +kernel
theorem k_2125 : jK 2125 = 13 := by decide +kernel
theorem ln_2125 : jLen 2125 = 24 := by decide +kernel
theorem k_2126 : jK 2126 = 13 := by decide +kernel
theorem ln_2126 : jLen 2126 = 24 := by decide +kernel
theorem k_2127 : jK 2127 = 13 := by decide +kernel
theorem ln_2127 : jLen 2127 = 24 := by decide +kernel
theorem k_2128 : jK 2128 = 19 := by decide +kernel
theorem ln_2128 : jLen 2128 = 24 := by decide +kernel
theorem k_2177 : jK 2177 = 16 := by decide +kernel
theorem ln_2177 : jLen 2177 = 6 := by decide +kernel
theorem k_2196 : jK 2196 = 20 := by decide +kernel
theorem ln_2196 : jLen 2196 = 200 := by decide +kernel
theorem k_2397 : jK 2397 = 13 := by decide +kernel
theorem ln_2397 : jLen 2397 = 6 := by decide +kernel
theorem k_2398 : jK 2398 = 10 := by decide +kernel
theorem k_2399 : jK 2399 = 13 := by decide +kernel
theorem ln_2399 : jLen 2399 = 1500 := by decide +kernel
theorem k_2400 : jK 2400 = 13 := by decide +kernel
theorem ln_2400 : jLen 2400 = 1500 := by decide +kernel
theorem k_2401 : jK 2401 = 14 := by decide +kernel
theorem ln_2401 : jLen 2401 = 18000 := by decide +kernel
theorem k_2402 : jK 2402 = 12 := by decide +kernel
theorem ln_2402 : jLen 2402 = 18000 := by decide +kernel
theorem k_2403 : jK 2403 = 13 := by decide +kernel
theorem ln_2403 : jLen 2403 = 1600 := by decide +kernel
theorem k_2404 : jK 2404 = 13 := by decide +kernel
theorem ln_2404 : jLen 2404 = 1602 := by decide +kernel
theorem k_2405 : jK 2405 = 13 := by decide +kernel
theorem ln_2405 : jLen 2405 = 1602 := by decide +kernel
theorem k_2406 : jK 2406 = 14 := by decide +kernel
theorem ln_2406 : jLen 2406 = 1602 := by decide +kernel
theorem k_2407 : jK 2407 = 13 := by decide +kernel
theorem ln_2407 : jLen 2407 = 1602 := by decide +kernel
theorem k_2408 : jK 2408 = 13 := by decide +kernel
theorem ln_2408 : jLen 2408 = 9933 := by decide +kernel
theorem k_2409 : jK 2409 = 13 := by decide +kernel
theorem ln_2409 : jLen 2409 = 9933 := by decide +kernel
theorem k_2410 : jK 2410 = 13 := by decide +kernel
theorem ln_2410 : jLen 2410 = 9933 := by decide +kernel
theorem k_2411 : jK 2411 = 13 := by decide +kernel
theorem ln_2411 : jLen 2411 = 9933 := by decide +kernel
theorem k_2412 : jK 2412 = 14 := by decide +kernel
theorem ln_2412 : jLen 2412 = 9933 := by decide +kernel
theorem k_2413 : jK 2413 = 13 := by decide +kernel
theorem ln_2413 : jLen 2413 = 9933 := by decide +kernel
theorem k_2414 : jK 2414 = 13 := by decide +kernel
theorem ln_2414 : jLen 2414 = 33 := by decide +kernel
theorem k_2415 : jK 2415 = 13 := by decide +kernel
theorem ln_2415 : jLen 2415 = 33 := by decide +kernel
theorem k_2416 : jK 2416 = 14 := by decide +kernel
theorem ln_2416 : jLen 2416 = 792 := by decide +kernel
theorem k_2417 : jK 2417 = 13 := by decide +kernel
theorem ln_2417 : jLen 2417 = 792 := by decide +kernel
theorem k_2418 : jK 2418 = 14 := by decide +kernel
theorem ln_2418 : jLen 2418 = 24 := by decide +kernel
theorem k_2419 : jK 2419 = 13 := by decide +kernel
theorem ln_2419 : jLen 2419 = 24 := by decide +kernel
theorem k_2420 : jK 2420 = 13 := by decide +kernel
theorem ln_2420 : jLen 2420 = 24 := by decide +kernel
theorem k_2421 : jK 2421 = 13 := by decide +kernel
theorem ln_2421 : jLen 2421 = 24 := by decide +kernel
theorem k_2422 : jK 2422 = 13 := by decide +kernel
theorem ln_2422 : jLen 2422 = 24 := by decide +kernel
theorem k_2423 : jK 2423 = 13 := by decide +kernel
theorem ln_2423 : jLen 2423 = 24 := by decide +kernel
theorem k_2424 : jK 2424 = 13 := by decide +kernel
theorem ln_2424 : jLen 2424 = 24 := by decide +kernel
theorem k_2425 : jK 2425 = 14 := by decide +kernel
theorem ln_2425 : jLen 2425 = 9933 := by decide +kernel
theorem k_2426 : jK 2426 = 15 := by decide +kernel
theorem ln_2426 : jLen 2426 = 12 := by decide +kernel
theorem k_2427 : jK 2427 = 15 := by decide +kernel
theorem ln_2427 : jLen 2427 = 16 := by decide +kernel
theorem k_2428 : jK 2428 = 13 := by decide +kernel
theorem ln_2428 : jLen 2428 = 16 := by decide +kernel
theorem k_2429 : jK 2429 = 13 := by decide +kernel
theorem ln_2429 : jLen 2429 = 200 := by decide +kernel
theorem k_2430 : jK 2430 = 14 := by decide +kernel
theorem ln_2430 : jLen 2430 = 200 := by decide +kernel
theorem k_2431 : jK 2431 = 13 := by decide +kernel
theorem ln_2431 : jLen 2431 = 200 := by decide +kernel
theorem k_2432 : jK 2432 = 13 := by decide +kernel
theorem ln_2432 : jLen 2432 = 200 := by decide +kernel
theorem k_2433 : jK 2433 = 13 := by decide +kernel
theorem ln_2433 : jLen 2433 = 200 := by decide +kernel
theorem k_2434 : jK 2434 = 13 := by decide +kernel
theorem ln_2434 : jLen 2434 = 200 := by decide +kernel
theorem k_2435 : jK 2435 = 13 := by decide +kernel
theorem ln_2435 : jLen 2435 = 32 := by decide +kernel
theorem k_2436 : jK 2436 = 13 := by decide +kernel
theorem ln_2436 : jLen 2436 = 4 := by decide +kernel
theorem k_2437 : jK 2437 = 13 := by decide +kernel
theorem ln_2437 : jLen 2437 = 24 := by decide +kernel
theorem k_2438 : jK 2438 = 13 := by decide +kernel
theorem ln_2438 : jLen 2438 = 6 := by decide +kernel
theorem k_2439 : jK 2439 = 13 := by decide +kernel
theorem ln_2439 : jLen 2439 = 6 := by decide +kernel
theorem k_2440 : jK 2440 = 13 := by decide +kernel
theorem ln_2440 : jLen 2440 = 6 := by decide +kernel
theorem k_2441 : jK 2441 = 13 := by decide +kernel
theorem ln_2441 : jLen 2441 = 36 := by decide +kernel
theorem k_2442 : jK 2442 = 13 := by decide +kernel
theorem ln_2442 : jLen 2442 = 36 := by decide +kernel
theorem k_2443 : jK 2443 = 13 := by decide +kernel
theorem ln_2443 : jLen 2443 = 6 := by decide +kernel
theorem k_2444 : jK 2444 = 13 := by decide +kernel
theorem ln_2444 : jLen 2444 = 6 := by decide +kernel
theorem k_2445 : jK 2445 = 13 := by decide +kernel
theorem ln_2445 : jLen 2445 = 200 := by decide +kernel
theorem k_2446 : jK 2446 = 13 := by decide +kernel
theorem ln_2446 : jLen 2446 = 200 := by decide +kernel
theorem k_2447 : jK 2447 = 14 := by decide +kernel
theorem ln_2447 : jLen 2447 = 800 := by decide +kernel
theorem k_2448 : jK 2448 = 15 := by decide +kernel
theorem ln_2448 : jLen 2448 = 200 := by decide +kernel
theorem k_2449 : jK 2449 = 15 := by decide +kernel
theorem ln_2449 : jLen 2449 = 200 := by decide +kernel
theorem k_2450 : jK 2450 = 13 := by decide +kernel
theorem ln_2450 : jLen 2450 = 1200 := by decide +kernel
theorem kd_valb : (List.range 2451).all (fun a => !decide (jK a = 7) || ((decide (jK (a + 1) = 14) && decide (jLen (a + 1) = 12)))) = true := by decide +kernel
theorem kd_val {a : Nat} (h : jK a = 7) : (jK (a + 1) = 14 ∧ jLen (a + 1) = 12) := by
  have h1 := List.all_eq_true.mp kd_valb a (List.mem_range.mpr (jK_lt h (by decide)))
  rw [h] at h1
  simp only [decide_true, Bool.not_true, Bool.false_or, Bool.and_eq_true, decide_eq_true_eq] at h1
  simpa only [and_assoc] using h1
theorem kd_factb : (List.range 2451).all (fun a => !decide (jK a = 2) || ((decide (jK (a + 1) = 7)) && (decide (jK (a + 2) = 14) && decide (jLen (a + 2) = 12)))) = true := by decide +kernel
theorem kd_fact {a : Nat} (h : jK a = 2) : (jK (a + 1) = 7) ∧ (jK (a + 2) = 14 ∧ jLen (a + 2) = 12) := by
  have h1 := List.all_eq_true.mp kd_factb a (List.mem_range.mpr (jK_lt h (by decide)))
  rw [h] at h1
  simp only [decide_true, Bool.not_true, Bool.false_or, Bool.and_eq_true, decide_eq_true_eq] at h1
  simpa only [and_assoc] using h1
theorem kd_textb : (List.range 2451).all (fun a => !decide (jK a = 6) || ((decide (jK (a + 1) = 13) && decide (jLen (a + 1) = 300)) && (decide (jK (a + 2) = 14) && decide (jLen (a + 2) = 300)) && (decide (jK (a + 3) = 13) && decide (jLen (a + 3) = 900)) && (decide (jK (a + 4) = 14) && decide (jLen (a + 4) = 24)) && (decide (jK (a + 5) = 13) && decide (jLen (a + 5) = 24)))) = true := by decide +kernel
theorem kd_text {a : Nat} (h : jK a = 6) : (jK (a + 1) = 13 ∧ jLen (a + 1) = 300) ∧ (jK (a + 2) = 14 ∧ jLen (a + 2) = 300) ∧ (jK (a + 3) = 13 ∧ jLen (a + 3) = 900) ∧ (jK (a + 4) = 14 ∧ jLen (a + 4) = 24) ∧ (jK (a + 5) = 13 ∧ jLen (a + 5) = 24) := by
  have h1 := List.all_eq_true.mp kd_textb a (List.mem_range.mpr (jK_lt h (by decide)))
  rw [h] at h1
  simp only [decide_true, Bool.not_true, Bool.false_or, Bool.and_eq_true, decide_eq_true_eq] at h1
  simpa only [and_assoc] using h1
theorem kd_awardb : (List.range 2451).all (fun a => !decide (jK a = 0) || ((decide (jK (a + 1) = 13) && decide (jLen (a + 1) = 6)) && (decide (jK (a + 2) = 13) && decide (jLen (a + 2) = 6)))) = true := by decide +kernel
theorem kd_award {a : Nat} (h : jK a = 0) : (jK (a + 1) = 13 ∧ jLen (a + 1) = 6) ∧ (jK (a + 2) = 13 ∧ jLen (a + 2) = 6) := by
  have h1 := List.all_eq_true.mp kd_awardb a (List.mem_range.mpr (jK_lt h (by decide)))
  rw [h] at h1
  simp only [decide_true, Bool.not_true, Bool.false_or, Bool.and_eq_true, decide_eq_true_eq] at h1
  simpa only [and_assoc] using h1
theorem kd_caseb : (List.range 2451).all (fun a => !decide (jK a = 1) || ((decide (jK (a + 1) = 13) && decide (jLen (a + 1) = 24)) && (decide (jK (a + 2) = 13) && decide (jLen (a + 2) = 24)) && (decide (jK (a + 3) = 13) && decide (jLen (a + 3) = 24)) && (decide (jK (a + 4) = 19) && decide (jLen (a + 4) = 24)))) = true := by decide +kernel
theorem kd_case {a : Nat} (h : jK a = 1) : (jK (a + 1) = 13 ∧ jLen (a + 1) = 24) ∧ (jK (a + 2) = 13 ∧ jLen (a + 2) = 24) ∧ (jK (a + 3) = 13 ∧ jLen (a + 3) = 24) ∧ (jK (a + 4) = 19 ∧ jLen (a + 4) = 24) := by
  have h1 := List.all_eq_true.mp kd_caseb a (List.mem_range.mpr (jK_lt h (by decide)))
  rw [h] at h1
  simp only [decide_true, Bool.not_true, Bool.false_or, Bool.and_eq_true, decide_eq_true_eq] at h1
  simpa only [and_assoc] using h1
theorem kf_fact {i : Nat} (h : i < 200) : jK (5 + 3 * i) = 2 := by
  have hb : (List.range 200).all (fun i => decide (jK (5 + 3 * i) = 2)) = true := by decide +kernel
  have h1 := List.all_eq_true.mp hb i (List.mem_range.mpr h)
  simpa using h1
theorem kf_factv {i : Nat} (h : i < 200) : jK (6 + 3 * i) = 7 := by
  have hb : (List.range 200).all (fun i => decide (jK (6 + 3 * i) = 7)) = true := by decide +kernel
  have h1 := List.all_eq_true.mp hb i (List.mem_range.mpr h)
  simpa using h1
theorem kf_text {i : Nat} (h : i < 32) : jK (619 + 6 * i) = 6 := by
  have hb : (List.range 32).all (fun i => decide (jK (619 + 6 * i) = 6)) = true := by decide +kernel
  have h1 := List.all_eq_true.mp hb i (List.mem_range.mpr h)
  simpa using h1
theorem kf_pile {i : Nat} (h : i < 600) : jK (818 + 2 * i) = 7 := by
  have hb : (List.range 600).all (fun i => decide (jK (818 + 2 * i) = 7)) = true := by decide +kernel
  have h1 := List.all_eq_true.mp hb i (List.mem_range.mpr h)
  simpa using h1
theorem kf_fig0 {i : Nat} (h : i < 24) : jK (2023 + 2 * i) = 7 := by
  have hb : (List.range 24).all (fun i => decide (jK (2023 + 2 * i) = 7)) = true := by decide +kernel
  have h1 := List.all_eq_true.mp hb i (List.mem_range.mpr h)
  simpa using h1
theorem kf_fig1 {i : Nat} (h : i < 24) : jK (2076 + 2 * i) = 7 := by
  have hb : (List.range 24).all (fun i => decide (jK (2076 + 2 * i) = 7)) = true := by decide +kernel
  have h1 := List.all_eq_true.mp hb i (List.mem_range.mpr h)
  simpa using h1
theorem kf_fig2 {i : Nat} (h : i < 24) : jK (2129 + 2 * i) = 7 := by
  have hb : (List.range 24).all (fun i => decide (jK (2129 + 2 * i) = 7)) = true := by decide +kernel
  have h1 := List.all_eq_true.mp hb i (List.mem_range.mpr h)
  simpa using h1
theorem kf_award {i : Nat} (h : i < 6) : jK (2178 + 3 * i) = 0 := by
  have hb : (List.range 6).all (fun i => decide (jK (2178 + 3 * i) = 0)) = true := by decide +kernel
  have h1 := List.all_eq_true.mp hb i (List.mem_range.mpr h)
  simpa using h1
theorem kf_pay {i : Nat} (h : i < 200) : jK (2197 + 1 * i) = 14 ∧ jLen (2197 + 1 * i) = 14 := by
  have hb : (List.range 200).all (fun i => decide (jK (2197 + 1 * i) = 14) && decide (jLen (2197 + 1 * i) = 14)) = true := by decide +kernel
  have h1 := List.all_eq_true.mp hb i (List.mem_range.mpr h)
  simpa using h1
theorem k_610 : jK 610 = 6 := by decide +kernel
def layL : List (Nat × Nat × Nat) := [(69, 0, 1), (70, 0, 605), (71, 0, 607), (72, 0, 608), (73, 0, 618), (74, 0, 811), (75, 0, 2018), (76, 0, 2071), (77, 0, 2124), (78, 0, 2177), (80, 0, 2196), (85, 0, 2397), (32, 1, 2), (33, 1, 3), (35, 1, 4), (24, 607, 608), (28, 607, 616), (29, 607, 617), (36, 608, 609), (55, 811, 1), (56, 811, 812), (57, 811, 813), (58, 811, 814), (59, 811, 815), (63, 811, 816), (61, 811, 817), (88, 2398, 2399), (89, 2398, 2400), (90, 2398, 2401), (91, 2398, 2402), (93, 2398, 2403), (95, 2398, 2404), (96, 2398, 2405), (97, 2398, 2406), (98, 2398, 2407), (103, 2398, 2408), (104, 2398, 2409), (105, 2398, 2410), (106, 2398, 2411), (107, 2398, 2412), (108, 2398, 2413), (109, 2398, 2414), (110, 2398, 2415), (111, 2398, 2416), (112, 2398, 2417), (115, 2398, 2418), (116, 2398, 2419), (128, 2398, 2420), (129, 2398, 2421), (130, 2398, 2422), (131, 2398, 2423), (132, 2398, 2424), (134, 2398, 2425), (135, 2398, 2426), (136, 2398, 2427), (137, 2398, 2428), (140, 2398, 2429), (141, 2398, 2430), (142, 2398, 2431), (143, 2398, 2432), (144, 2398, 2433), (145, 2398, 2434), (147, 2398, 2435), (148, 2398, 2436), (155, 2398, 2437), (157, 2398, 2438), (158, 2398, 2439), (159, 2398, 2440), (161, 2398, 2441), (162, 2398, 2442), (163, 2398, 2443), (166, 2398, 2444), (169, 2398, 2445), (170, 2398, 2446), (171, 2398, 2447), (172, 2398, 2448), (173, 2398, 2449), (174, 2398, 2450)]
/-- the references that never change -/
def Lay (S : jM) : Prop := (∀ q ∈ layL, jR S q.1 q.2.1 = some q.2.2) ∧ (∀ a, jK a = 7 → jR S 54 a = some (a + 1)) ∧ (∀ a, jK a = 2 → jR S 23 a = some (a + 1)) ∧ (∀ a, jK a = 6 → jR S 46 a = some (a + 1) ∧ jR S 47 a = some (a + 2) ∧ jR S 48 a = some (a + 3) ∧ jR S 50 a = some (a + 4) ∧ jR S 51 a = some (a + 5)) ∧ (∀ a, jK a = 0 → jR S 4 a = some (a + 1) ∧ jR S 5 a = some (a + 2)) ∧ (∀ a, jK a = 1 → jR S 12 a = some (a + 1) ∧ jR S 13 a = some (a + 2) ∧ jR S 15 a = some (a + 3) ∧ jR S 14 a = some (a + 4) ∧ ∀ i, i < 24 → jAR S (a + 4) i = some (a + 5 + 2 * i)) ∧ (∀ i, i < 200 → jAR S 4 i = some (5 + 3 * i)) ∧ (∀ i, i < 600 → jAR S 817 i = some (818 + 2 * i)) ∧ (∀ i, i < 6 → jAR S 2177 i = some (2178 + 3 * i)) ∧ (∀ i, i < 200 → jAR S 2196 i = some (2197 + i))
theorem ly_69 {S : jM} (h : Lay S) : jR S 69 0 = some 1 := h.1 (69, 0, 1) (by decide)
theorem ly_70 {S : jM} (h : Lay S) : jR S 70 0 = some 605 := h.1 (70, 0, 605) (by decide)
theorem ly_71 {S : jM} (h : Lay S) : jR S 71 0 = some 607 := h.1 (71, 0, 607) (by decide)
theorem ly_72 {S : jM} (h : Lay S) : jR S 72 0 = some 608 := h.1 (72, 0, 608) (by decide)
theorem ly_73 {S : jM} (h : Lay S) : jR S 73 0 = some 618 := h.1 (73, 0, 618) (by decide)
theorem ly_74 {S : jM} (h : Lay S) : jR S 74 0 = some 811 := h.1 (74, 0, 811) (by decide)
theorem ly_75 {S : jM} (h : Lay S) : jR S 75 0 = some 2018 := h.1 (75, 0, 2018) (by decide)
theorem ly_76 {S : jM} (h : Lay S) : jR S 76 0 = some 2071 := h.1 (76, 0, 2071) (by decide)
theorem ly_77 {S : jM} (h : Lay S) : jR S 77 0 = some 2124 := h.1 (77, 0, 2124) (by decide)
theorem ly_78 {S : jM} (h : Lay S) : jR S 78 0 = some 2177 := h.1 (78, 0, 2177) (by decide)
theorem ly_80 {S : jM} (h : Lay S) : jR S 80 0 = some 2196 := h.1 (80, 0, 2196) (by decide)
theorem ly_85 {S : jM} (h : Lay S) : jR S 85 0 = some 2397 := h.1 (85, 0, 2397) (by decide)
theorem ly_32 {S : jM} (h : Lay S) : jR S 32 1 = some 2 := h.1 (32, 1, 2) (by decide)
theorem ly_33 {S : jM} (h : Lay S) : jR S 33 1 = some 3 := h.1 (33, 1, 3) (by decide)
theorem ly_35 {S : jM} (h : Lay S) : jR S 35 1 = some 4 := h.1 (35, 1, 4) (by decide)
theorem ly_24 {S : jM} (h : Lay S) : jR S 24 607 = some 608 := h.1 (24, 607, 608) (by decide)
theorem ly_28 {S : jM} (h : Lay S) : jR S 28 607 = some 616 := h.1 (28, 607, 616) (by decide)
theorem ly_29 {S : jM} (h : Lay S) : jR S 29 607 = some 617 := h.1 (29, 607, 617) (by decide)
theorem ly_36 {S : jM} (h : Lay S) : jR S 36 608 = some 609 := h.1 (36, 608, 609) (by decide)
theorem ly_55 {S : jM} (h : Lay S) : jR S 55 811 = some 1 := h.1 (55, 811, 1) (by decide)
theorem ly_56 {S : jM} (h : Lay S) : jR S 56 811 = some 812 := h.1 (56, 811, 812) (by decide)
theorem ly_57 {S : jM} (h : Lay S) : jR S 57 811 = some 813 := h.1 (57, 811, 813) (by decide)
theorem ly_58 {S : jM} (h : Lay S) : jR S 58 811 = some 814 := h.1 (58, 811, 814) (by decide)
theorem ly_59 {S : jM} (h : Lay S) : jR S 59 811 = some 815 := h.1 (59, 811, 815) (by decide)
theorem ly_63 {S : jM} (h : Lay S) : jR S 63 811 = some 816 := h.1 (63, 811, 816) (by decide)
theorem ly_61 {S : jM} (h : Lay S) : jR S 61 811 = some 817 := h.1 (61, 811, 817) (by decide)
theorem ly_88 {S : jM} (h : Lay S) : jR S 88 2398 = some 2399 := h.1 (88, 2398, 2399) (by decide)
theorem ly_89 {S : jM} (h : Lay S) : jR S 89 2398 = some 2400 := h.1 (89, 2398, 2400) (by decide)
theorem ly_90 {S : jM} (h : Lay S) : jR S 90 2398 = some 2401 := h.1 (90, 2398, 2401) (by decide)
theorem ly_91 {S : jM} (h : Lay S) : jR S 91 2398 = some 2402 := h.1 (91, 2398, 2402) (by decide)
theorem ly_93 {S : jM} (h : Lay S) : jR S 93 2398 = some 2403 := h.1 (93, 2398, 2403) (by decide)
theorem ly_95 {S : jM} (h : Lay S) : jR S 95 2398 = some 2404 := h.1 (95, 2398, 2404) (by decide)
theorem ly_96 {S : jM} (h : Lay S) : jR S 96 2398 = some 2405 := h.1 (96, 2398, 2405) (by decide)
theorem ly_97 {S : jM} (h : Lay S) : jR S 97 2398 = some 2406 := h.1 (97, 2398, 2406) (by decide)
theorem ly_98 {S : jM} (h : Lay S) : jR S 98 2398 = some 2407 := h.1 (98, 2398, 2407) (by decide)
theorem ly_103 {S : jM} (h : Lay S) : jR S 103 2398 = some 2408 := h.1 (103, 2398, 2408) (by decide)
theorem ly_104 {S : jM} (h : Lay S) : jR S 104 2398 = some 2409 := h.1 (104, 2398, 2409) (by decide)
theorem ly_105 {S : jM} (h : Lay S) : jR S 105 2398 = some 2410 := h.1 (105, 2398, 2410) (by decide)
theorem ly_106 {S : jM} (h : Lay S) : jR S 106 2398 = some 2411 := h.1 (106, 2398, 2411) (by decide)
theorem ly_107 {S : jM} (h : Lay S) : jR S 107 2398 = some 2412 := h.1 (107, 2398, 2412) (by decide)
theorem ly_108 {S : jM} (h : Lay S) : jR S 108 2398 = some 2413 := h.1 (108, 2398, 2413) (by decide)
theorem ly_109 {S : jM} (h : Lay S) : jR S 109 2398 = some 2414 := h.1 (109, 2398, 2414) (by decide)
theorem ly_110 {S : jM} (h : Lay S) : jR S 110 2398 = some 2415 := h.1 (110, 2398, 2415) (by decide)
theorem ly_111 {S : jM} (h : Lay S) : jR S 111 2398 = some 2416 := h.1 (111, 2398, 2416) (by decide)
theorem ly_112 {S : jM} (h : Lay S) : jR S 112 2398 = some 2417 := h.1 (112, 2398, 2417) (by decide)
theorem ly_115 {S : jM} (h : Lay S) : jR S 115 2398 = some 2418 := h.1 (115, 2398, 2418) (by decide)
theorem ly_116 {S : jM} (h : Lay S) : jR S 116 2398 = some 2419 := h.1 (116, 2398, 2419) (by decide)
theorem ly_128 {S : jM} (h : Lay S) : jR S 128 2398 = some 2420 := h.1 (128, 2398, 2420) (by decide)
theorem ly_129 {S : jM} (h : Lay S) : jR S 129 2398 = some 2421 := h.1 (129, 2398, 2421) (by decide)
theorem ly_130 {S : jM} (h : Lay S) : jR S 130 2398 = some 2422 := h.1 (130, 2398, 2422) (by decide)
theorem ly_131 {S : jM} (h : Lay S) : jR S 131 2398 = some 2423 := h.1 (131, 2398, 2423) (by decide)
theorem ly_132 {S : jM} (h : Lay S) : jR S 132 2398 = some 2424 := h.1 (132, 2398, 2424) (by decide)
theorem ly_134 {S : jM} (h : Lay S) : jR S 134 2398 = some 2425 := h.1 (134, 2398, 2425) (by decide)
theorem ly_135 {S : jM} (h : Lay S) : jR S 135 2398 = some 2426 := h.1 (135, 2398, 2426) (by decide)
theorem ly_136 {S : jM} (h : Lay S) : jR S 136 2398 = some 2427 := h.1 (136, 2398, 2427) (by decide)
theorem ly_137 {S : jM} (h : Lay S) : jR S 137 2398 = some 2428 := h.1 (137, 2398, 2428) (by decide)
theorem ly_140 {S : jM} (h : Lay S) : jR S 140 2398 = some 2429 := h.1 (140, 2398, 2429) (by decide)
theorem ly_141 {S : jM} (h : Lay S) : jR S 141 2398 = some 2430 := h.1 (141, 2398, 2430) (by decide)
theorem ly_142 {S : jM} (h : Lay S) : jR S 142 2398 = some 2431 := h.1 (142, 2398, 2431) (by decide)
theorem ly_143 {S : jM} (h : Lay S) : jR S 143 2398 = some 2432 := h.1 (143, 2398, 2432) (by decide)
theorem ly_144 {S : jM} (h : Lay S) : jR S 144 2398 = some 2433 := h.1 (144, 2398, 2433) (by decide)
theorem ly_145 {S : jM} (h : Lay S) : jR S 145 2398 = some 2434 := h.1 (145, 2398, 2434) (by decide)
theorem ly_147 {S : jM} (h : Lay S) : jR S 147 2398 = some 2435 := h.1 (147, 2398, 2435) (by decide)
theorem ly_148 {S : jM} (h : Lay S) : jR S 148 2398 = some 2436 := h.1 (148, 2398, 2436) (by decide)
theorem ly_155 {S : jM} (h : Lay S) : jR S 155 2398 = some 2437 := h.1 (155, 2398, 2437) (by decide)
theorem ly_157 {S : jM} (h : Lay S) : jR S 157 2398 = some 2438 := h.1 (157, 2398, 2438) (by decide)
theorem ly_158 {S : jM} (h : Lay S) : jR S 158 2398 = some 2439 := h.1 (158, 2398, 2439) (by decide)
theorem ly_159 {S : jM} (h : Lay S) : jR S 159 2398 = some 2440 := h.1 (159, 2398, 2440) (by decide)
theorem ly_161 {S : jM} (h : Lay S) : jR S 161 2398 = some 2441 := h.1 (161, 2398, 2441) (by decide)
theorem ly_162 {S : jM} (h : Lay S) : jR S 162 2398 = some 2442 := h.1 (162, 2398, 2442) (by decide)
theorem ly_163 {S : jM} (h : Lay S) : jR S 163 2398 = some 2443 := h.1 (163, 2398, 2443) (by decide)
theorem ly_166 {S : jM} (h : Lay S) : jR S 166 2398 = some 2444 := h.1 (166, 2398, 2444) (by decide)
theorem ly_169 {S : jM} (h : Lay S) : jR S 169 2398 = some 2445 := h.1 (169, 2398, 2445) (by decide)
theorem ly_170 {S : jM} (h : Lay S) : jR S 170 2398 = some 2446 := h.1 (170, 2398, 2446) (by decide)
theorem ly_171 {S : jM} (h : Lay S) : jR S 171 2398 = some 2447 := h.1 (171, 2398, 2447) (by decide)
theorem ly_172 {S : jM} (h : Lay S) : jR S 172 2398 = some 2448 := h.1 (172, 2398, 2448) (by decide)
theorem ly_173 {S : jM} (h : Lay S) : jR S 173 2398 = some 2449 := h.1 (173, 2398, 2449) (by decide)
theorem ly_174 {S : jM} (h : Lay S) : jR S 174 2398 = some 2450 := h.1 (174, 2398, 2450) (by decide)
/-- writes that don't touch the constant references -/
theorem Lay.of {S S' : jM} (h : Lay S) (hR : ∀ f a, ¬ (f = 64 ∨ f = 65 ∨ f = 25) → jR S' f a = jR S f a) (hA : ∀ a, a ≠ 618 → jAR S' a = jAR S a) : Lay S' := by
  obtain ⟨h1, h2, h3, h4, h5, h6, h7, h8, h9, h10⟩ := h
  have hl : ∀ q ∈ layL, ¬ (q.1 = 64 ∨ q.1 = 65 ∨ q.1 = 25) := by decide
  refine ⟨fun q hq => by rw [hR _ _ (hl q hq)]; exact h1 q hq, fun a ha => by rw [hR _ _ (by decide)]; exact h2 a ha, fun a ha => by rw [hR _ _ (by decide)]; exact h3 a ha, fun a ha => ?_, fun a ha => ?_, fun a ha => ?_, fun i hi => by rw [hA _ (by decide)]; exact h7 i hi, fun i hi => by rw [hA _ (by decide)]; exact h8 i hi, fun i hi => by rw [hA _ (by decide)]; exact h9 i hi, fun i hi => by rw [hA _ (by decide)]; exact h10 i hi⟩
  · rw [hR _ _ (by decide), hR _ _ (by decide), hR _ _ (by decide), hR _ _ (by decide), hR _ _ (by decide)]; exact h4 a ha
  · rw [hR _ _ (by decide), hR _ _ (by decide)]; exact h5 a ha
  · have h618 : a + 4 ≠ 618 := fun e => by
      have : a = 614 := by omega
      subst this
      exact absurd ha (by decide +kernel)
    rw [hR _ _ (by decide), hR _ _ (by decide), hR _ _ (by decide), hR _ _ (by decide), hA _ h618]; exact h6 a ha

/-- only what p names has changed: 0 a field of ints, 1 of longs, 2 of references, 3 an array -/
def Fr (p : Nat → Nat → Nat → Prop) (S S' : jM) : Prop := (∀ f a, ¬ p 0 f a → jI S' f a = jI S f a) ∧ (∀ f a, ¬ p 1 f a → jL S' f a = jL S f a) ∧ (∀ f a, ¬ p 2 f a → jR S' f a = jR S f a) ∧ (∀ a, ¬ p 3 0 a → jAI S' a = jAI S a ∧ jAL S' a = jAL S a ∧ jAD S' a = jAD S a ∧ jAR S' a = jAR S a) ∧ jn S' = jn S
theorem Fr.refl {p : Nat → Nat → Nat → Prop} {S : jM} : Fr p S S := ⟨fun _ _ _ => rfl, fun _ _ _ => rfl, fun _ _ _ => rfl, fun _ _ => ⟨rfl, rfl, rfl, rfl⟩, rfl⟩
theorem Fr.trans {p : Nat → Nat → Nat → Prop} {S S1 S2 : jM} (h : Fr p S S1) (k : Fr p S1 S2) : Fr p S S2 :=
  ⟨fun f a q => (k.1 f a q).trans (h.1 f a q), fun f a q => (k.2.1 f a q).trans (h.2.1 f a q), fun f a q => (k.2.2.1 f a q).trans (h.2.2.1 f a q), fun a q => ⟨(k.2.2.2.1 a q).1.trans (h.2.2.2.1 a q).1, (k.2.2.2.1 a q).2.1.trans (h.2.2.2.1 a q).2.1, (k.2.2.2.1 a q).2.2.1.trans (h.2.2.2.1 a q).2.2.1, (k.2.2.2.1 a q).2.2.2.trans (h.2.2.2.1 a q).2.2.2⟩, k.2.2.2.2.trans h.2.2.2.2⟩
theorem Fr.mono {p q : Nat → Nat → Nat → Prop} {S S' : jM} (h : Fr p S S') (hpq : ∀ t f a, p t f a → q t f a) : Fr q S S' :=
  ⟨fun f a z => h.1 f a (fun y => z (hpq _ _ _ y)), fun f a z => h.2.1 f a (fun y => z (hpq _ _ _ y)), fun f a z => h.2.2.1 f a (fun y => z (hpq _ _ _ y)), fun a z => h.2.2.2.1 a (fun y => z (hpq _ _ _ y)), h.2.2.2.2⟩
theorem Fr.sI {p : Nat → Nat → Nat → Prop} {S S1 : jM} {f a : Nat} {v : Int32} (h : Fr p S S1) (hp : p 0 f a) : Fr p S (jsI S1 f a v) :=
  h.trans ⟨fun g b q => by rw [m_I_sI, if_neg (fun e => q (by rw [e.1, e.2]; exact hp))], fun _ _ _ => rfl, fun _ _ _ => rfl, fun _ _ => ⟨rfl, rfl, rfl, rfl⟩, rfl⟩
theorem Fr.sL {p : Nat → Nat → Nat → Prop} {S S1 : jM} {f a : Nat} {v : Int64} (h : Fr p S S1) (hp : p 1 f a) : Fr p S (jsL S1 f a v) :=
  h.trans ⟨fun _ _ _ => rfl, fun g b q => by rw [m_L_sL, if_neg (fun e => q (by rw [e.1, e.2]; exact hp))], fun _ _ _ => rfl, fun _ _ => ⟨rfl, rfl, rfl, rfl⟩, rfl⟩
theorem Fr.sR {p : Nat → Nat → Nat → Prop} {S S1 : jM} {f a : Nat} {v : Option Nat} (h : Fr p S S1) (hp : p 2 f a) : Fr p S (jsR S1 f a v) :=
  h.trans ⟨fun _ _ _ => rfl, fun _ _ _ => rfl, fun g b q => by rw [m_R_sR, if_neg (fun e => q (by rw [e.1, e.2]; exact hp))], fun _ _ => ⟨rfl, rfl, rfl, rfl⟩, rfl⟩
theorem Fr.rI {p : Nat → Nat → Nat → Prop} {S S1 : jM} {a : Nat} {r : Nat → Int32} (h : Fr p S S1) (hp : p 3 0 a) : Fr p S (jrI S1 a r) :=
  h.trans ⟨fun _ _ _ => rfl, fun _ _ _ => rfl, fun _ _ _ => rfl, fun b q => ⟨by rw [m_AI_rI, if_neg (fun e => q (by rw [e]; exact hp))], rfl, rfl, rfl⟩, rfl⟩
theorem Fr.rL {p : Nat → Nat → Nat → Prop} {S S1 : jM} {a : Nat} {r : Nat → Int64} (h : Fr p S S1) (hp : p 3 0 a) : Fr p S (jrL S1 a r) :=
  h.trans ⟨fun _ _ _ => rfl, fun _ _ _ => rfl, fun _ _ _ => rfl, fun b q => ⟨rfl, by rw [m_AL_rL, if_neg (fun e => q (by rw [e]; exact hp))], rfl, rfl⟩, rfl⟩
theorem Fr.rD {p : Nat → Nat → Nat → Prop} {S S1 : jM} {a : Nat} {r : Nat → UInt64} (h : Fr p S S1) (hp : p 3 0 a) : Fr p S (jrD S1 a r) :=
  h.trans ⟨fun _ _ _ => rfl, fun _ _ _ => rfl, fun _ _ _ => rfl, fun b q => ⟨rfl, rfl, by rw [m_AD_rD, if_neg (fun e => q (by rw [e]; exact hp))], rfl⟩, rfl⟩
theorem Fr.rR {p : Nat → Nat → Nat → Prop} {S S1 : jM} {a : Nat} {r : Nat → Option Nat} (h : Fr p S S1) (hp : p 3 0 a) : Fr p S (jrR S1 a r) :=
  h.trans ⟨fun _ _ _ => rfl, fun _ _ _ => rfl, fun _ _ _ => rfl, fun b q => ⟨rfl, rfl, rfl, by rw [m_AR_rR, if_neg (fun e => q (by rw [e]; exact hp))]⟩, rfl⟩
