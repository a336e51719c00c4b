set_option maxRecDepth 20000 in
theorem tw_aoA : (Jvm.Cond.arrayOver (Jvm.ClassFile.FieldType.object "PensionHouse$Award")) ∈ lw_tbl := by
  have h : (Jvm.Cond.arrayOver (Jvm.ClassFile.FieldType.object "PensionHouse$Award")) ∈ tables_1_2 := List.mem_of_getElem? (i := 110) (by decide +kernel)
  exact List.mem_append_right _ (List.mem_append_right _ (List.mem_append_left _ h))
set_option maxRecDepth 20000 in
theorem tw_aoF : (Jvm.Cond.arrayOver (Jvm.ClassFile.FieldType.object "PensionHouse$Fact")) ∈ lw_tbl := by
  have h : (Jvm.Cond.arrayOver (Jvm.ClassFile.FieldType.object "PensionHouse$Fact")) ∈ tables_1_1 := List.mem_of_getElem? (i := 37) (by decide +kernel)
  exact List.mem_append_right _ (List.mem_append_left _ h)
set_option maxRecDepth 20000 in
theorem tw_aoT : (Jvm.Cond.arrayOver (Jvm.ClassFile.FieldType.object "PensionHouse$Text")) ∈ lw_tbl := by
  have h : (Jvm.Cond.arrayOver (Jvm.ClassFile.FieldType.object "PensionHouse$Text")) ∈ tables_1_1 := List.mem_of_getElem? (i := 234) (by decide +kernel)
  exact List.mem_append_right _ (List.mem_append_left _ h)
set_option maxRecDepth 20000 in
theorem tw_aoV : (Jvm.Cond.arrayOver (Jvm.ClassFile.FieldType.object "PensionHouse$Value")) ∈ lw_tbl := by
  have h : (Jvm.Cond.arrayOver (Jvm.ClassFile.FieldType.object "PensionHouse$Value")) ∈ tables_1_2 := List.mem_of_getElem? (i := 3) (by decide +kernel)
  exact List.mem_append_right _ (List.mem_append_right _ (List.mem_append_left _ h))
set_option maxRecDepth 20000 in
theorem tw_aoJ : (Jvm.Cond.arrayOver (Jvm.ClassFile.FieldType.array Jvm.ClassFile.FieldType.long)) ∈ lw_tbl := by
  have h : (Jvm.Cond.arrayOver (Jvm.ClassFile.FieldType.array Jvm.ClassFile.FieldType.long)) ∈ tables_1_2 := List.mem_of_getElem? (i := 136) (by decide +kernel)
  exact List.mem_append_right _ (List.mem_append_right _ (List.mem_append_left _ h))
set_option maxRecDepth 20000 in
theorem tw_ac_boolean : (Jvm.Cond.arrayClass Jvm.ClassFile.FieldType.boolean) ∈ lw_tbl := by
  have h : (Jvm.Cond.arrayClass Jvm.ClassFile.FieldType.boolean) ∈ tables_1_1 := List.mem_of_getElem? (i := 69) (by decide +kernel)
  exact List.mem_append_right _ (List.mem_append_left _ h)
set_option maxRecDepth 20000 in
theorem tw_ac_int : (Jvm.Cond.arrayClass Jvm.ClassFile.FieldType.int) ∈ lw_tbl := by
  have h : (Jvm.Cond.arrayClass Jvm.ClassFile.FieldType.int) ∈ tables_1_1 := List.mem_of_getElem? (i := 70) (by decide +kernel)
  exact List.mem_append_right _ (List.mem_append_left _ h)
set_option maxRecDepth 20000 in
theorem tw_ac_long : (Jvm.Cond.arrayClass Jvm.ClassFile.FieldType.long) ∈ lw_tbl := by
  have h : (Jvm.Cond.arrayClass Jvm.ClassFile.FieldType.long) ∈ tables_1_1 := List.mem_of_getElem? (i := 71) (by decide +kernel)
  exact List.mem_append_right _ (List.mem_append_left _ h)
set_option maxRecDepth 20000 in
theorem tw_ac_byte : (Jvm.Cond.arrayClass Jvm.ClassFile.FieldType.byte) ∈ lw_tbl := by
  have h : (Jvm.Cond.arrayClass Jvm.ClassFile.FieldType.byte) ∈ tables_1_1 := List.mem_of_getElem? (i := 167) (by decide +kernel)
  exact List.mem_append_right _ (List.mem_append_left _ h)
set_option maxRecDepth 20000 in
theorem tw_ac_double : (Jvm.Cond.arrayClass Jvm.ClassFile.FieldType.double) ∈ lw_tbl := by
  have h : (Jvm.Cond.arrayClass Jvm.ClassFile.FieldType.double) ∈ tables_1_7 := List.mem_of_getElem? (i := 30) (by decide +kernel)
  exact List.mem_append_right _ (List.mem_append_right _ (List.mem_append_right _ (List.mem_append_right _ (List.mem_append_right _ (List.mem_append_right _ (List.mem_append_right _ (List.mem_append_left _ h)))))))
set_option maxRecDepth 20000 in
theorem tw_s0 : (Jvm.Cond.stringRef "PensionHouse$Tape" (64 : Nat) "best born ceil day else floor from if join last len max min near of real root rule sum then to try whole with zeros ") ∈ lw_tbl := by
  have h : (Jvm.Cond.stringRef "PensionHouse$Tape" (64 : Nat) "best born ceil day else floor from if join last len max min near of real root rule sum then to try whole with zeros ") ∈ tables_1_3 := List.mem_of_getElem? (i := 92) (by decide +kernel)
  exact List.mem_append_right _ (List.mem_append_right _ (List.mem_append_right _ (List.mem_append_left _ h)))
set_option maxRecDepth 20000 in
theorem tw_s1 : (Jvm.Cond.stringRef "PensionHouse$Tape" (81 : Nat) ";=+-*/%()[],<!") ∈ lw_tbl := by
  have h : (Jvm.Cond.stringRef "PensionHouse$Tape" (81 : Nat) ";=+-*/%()[],<!") ∈ tables_1_3 := List.mem_of_getElem? (i := 150) (by decide +kernel)
  exact List.mem_append_right _ (List.mem_append_right _ (List.mem_append_right _ (List.mem_append_left _ h)))
set_option maxRecDepth 20000 in
theorem tw_lc : (Jvm.Cond.laysStatic "java/lang/String" "COMPACT_STRINGS" "Z") ∈ lw_tbl := by
  have h : (Jvm.Cond.laysStatic "java/lang/String" "COMPACT_STRINGS" "Z") ∈ tables_1_3 := List.mem_of_getElem? (i := 102) (by decide +kernel)
  exact List.mem_append_right _ (List.mem_append_right _ (List.mem_append_right _ (List.mem_append_left _ h)))
set_option maxRecDepth 20000 in
theorem tw_lp : (Jvm.Cond.laysStatic "jdk/internal/util/Preconditions" "SIOOBE_FORMATTER" "Ljava/util/function/BiFunction;") ∈ lw_tbl := by
  have h : (Jvm.Cond.laysStatic "jdk/internal/util/Preconditions" "SIOOBE_FORMATTER" "Ljava/util/function/BiFunction;") ∈ tables_1_3 := List.mem_of_getElem? (i := 118) (by decide +kernel)
  exact List.mem_append_right _ (List.mem_append_right _ (List.mem_append_right _ (List.mem_append_left _ h)))
set_option maxRecDepth 20000 in
theorem tw_is : (Jvm.Cond.initialized "java/lang/String") ∈ lw_tbl := by
  have h : (Jvm.Cond.initialized "java/lang/String") ∈ tables_1_1 := List.mem_of_getElem? (i := 14) (by decide +kernel)
  exact List.mem_append_right _ (List.mem_append_left _ h)
set_option maxRecDepth 20000 in
theorem tw_ip : (Jvm.Cond.initialized "jdk/internal/util/Preconditions") ∈ lw_tbl := by
  have h : (Jvm.Cond.initialized "jdk/internal/util/Preconditions") ∈ tables_1_1 := List.mem_of_getElem? (i := 16) (by decide +kernel)
  exact List.mem_append_right _ (List.mem_append_left _ h)
set_option maxRecDepth 20000 in
theorem tw_in0 : (Jvm.Cond.instantiable "PensionHouse$Award" (6 : Nat)) ∈ lw_tbl := by
  have h : (Jvm.Cond.instantiable "PensionHouse$Award" (6 : Nat)) ∈ tables_1_2 := List.mem_of_getElem? (i := 111) (by decide +kernel)
  exact List.mem_append_right _ (List.mem_append_right _ (List.mem_append_left _ h))
set_option maxRecDepth 20000 in
theorem tw_in1 : (Jvm.Cond.instantiable "PensionHouse$Case" (11 : Nat)) ∈ lw_tbl := by
  have h : (Jvm.Cond.instantiable "PensionHouse$Case" (11 : Nat)) ∈ tables_1_2 := List.mem_of_getElem? (i := 49) (by decide +kernel)
  exact List.mem_append_right _ (List.mem_append_right _ (List.mem_append_left _ h))
set_option maxRecDepth 20000 in
theorem tw_in2 : (Jvm.Cond.instantiable "PensionHouse$Fact" (7 : Nat)) ∈ lw_tbl := by
  have h : (Jvm.Cond.instantiable "PensionHouse$Fact" (7 : Nat)) ∈ tables_1_1 := List.mem_of_getElem? (i := 38) (by decide +kernel)
  exact List.mem_append_right _ (List.mem_append_left _ h)
set_option maxRecDepth 20000 in
theorem tw_in3 : (Jvm.Cond.instantiable "PensionHouse$Parser" (7 : Nat)) ∈ lw_tbl := by
  have h : (Jvm.Cond.instantiable "PensionHouse$Parser" (7 : Nat)) ∈ tables_1_1 := List.mem_of_getElem? (i := 126) (by decide +kernel)
  exact List.mem_append_right _ (List.mem_append_left _ h)
set_option maxRecDepth 20000 in
theorem tw_in4 : (Jvm.Cond.instantiable "PensionHouse$Register" (5 : Nat)) ∈ lw_tbl := by
  have h : (Jvm.Cond.instantiable "PensionHouse$Register" (5 : Nat)) ∈ tables_1_1 := List.mem_of_getElem? (i := 31) (by decide +kernel)
  exact List.mem_append_right _ (List.mem_append_left _ h)
set_option maxRecDepth 20000 in
theorem tw_in5 : (Jvm.Cond.instantiable "PensionHouse$Tape" (8 : Nat)) ∈ lw_tbl := by
  have h : (Jvm.Cond.instantiable "PensionHouse$Tape" (8 : Nat)) ∈ tables_1_1 := List.mem_of_getElem? (i := 132) (by decide +kernel)
  exact List.mem_append_right _ (List.mem_append_left _ h)
set_option maxRecDepth 20000 in
theorem tw_in6 : (Jvm.Cond.instantiable "PensionHouse$Text" (8 : Nat)) ∈ lw_tbl := by
  have h : (Jvm.Cond.instantiable "PensionHouse$Text" (8 : Nat)) ∈ tables_1_1 := List.mem_of_getElem? (i := 169) (by decide +kernel)
  exact List.mem_append_right _ (List.mem_append_left _ h)
set_option maxRecDepth 20000 in
theorem tw_in7 : (Jvm.Cond.instantiable "PensionHouse$Value" (3 : Nat)) ∈ lw_tbl := by
  have h : (Jvm.Cond.instantiable "PensionHouse$Value" (3 : Nat)) ∈ tables_1_1 := List.mem_of_getElem? (i := 44) (by decide +kernel)
  exact List.mem_append_right _ (List.mem_append_left _ h)
set_option maxRecDepth 20000 in
theorem tw_in8 : (Jvm.Cond.instantiable "PensionHouse$Worker" (14 : Nat)) ∈ lw_tbl := by
  have h : (Jvm.Cond.instantiable "PensionHouse$Worker" (14 : Nat)) ∈ tables_1_1 := List.mem_of_getElem? (i := 237) (by decide +kernel)
  exact List.mem_append_right _ (List.mem_append_left _ h)
set_option maxRecDepth 20000 in
theorem tw_in9 : (Jvm.Cond.instantiable "PensionHouse" (19 : Nat)) ∈ lw_tbl := by
  have h : (Jvm.Cond.instantiable "PensionHouse" (19 : Nat)) ∈ tables_1_1 := List.mem_of_getElem? (i := 23) (by decide +kernel)
  exact List.mem_append_right _ (List.mem_append_left _ h)
set_option maxRecDepth 20000 in
theorem tw_in10 : (Jvm.Cond.instantiable "PensionHouseModel" (89 : Nat)) ∈ lw_tbl := by
  have h : (Jvm.Cond.instantiable "PensionHouseModel" (89 : Nat)) ∈ tables_1_5 := List.mem_of_getElem? (i := 237) (by decide +kernel)
  exact List.mem_append_right _ (List.mem_append_right _ (List.mem_append_right _ (List.mem_append_right _ (List.mem_append_right _ (List.mem_append_left _ h)))))
def jtm (i : Nat) : Term := .string "PensionHouse$Tape" (if i = 0 then 64 else 81)
def jT0 : Cond := Jvm.Cond.and given_1 narrow_1
theorem jtx_0 : (List.range 116).all (fun j => decide ((flatC jT0)[57 + j]? = some (Cond.eq (.elem (.field (jtm 0) "java/lang/String" "value" "[B") (.int (Int32.ofNat j))) (.int ((jbyt.getD 0 []).getD j 0))))) = true := by decide +kernel
theorem jtex_0 : Cond.exactly (jtm 0) "java/lang/String" ∈ flatC jT0 := List.mem_of_getElem? (i := 53) (by decide +kernel)
theorem jtco_0 : Cond.eq (.field (jtm 0) "java/lang/String" "coder" "B") (.int 0) ∈ flatC jT0 := List.mem_of_getElem? (i := 54) (by decide +kernel)
theorem jtar_0 : Cond.arrayOf (.field (jtm 0) "java/lang/String" "value" "[B") .byte ∈ flatC jT0 := List.mem_of_getElem? (i := 55) (by decide +kernel)
theorem jtle_0 : Cond.eq (.length (.field (jtm 0) "java/lang/String" "value" "[B")) (.int (Int32.ofNat (jlens.getD 0 0))) ∈ flatC jT0 := List.mem_of_getElem? (i := 56) (by decide +kernel)
theorem jtx_1 : (List.range 14).all (fun j => decide ((flatC jT0)[177 + j]? = some (Cond.eq (.elem (.field (jtm 1) "java/lang/String" "value" "[B") (.int (Int32.ofNat j))) (.int ((jbyt.getD 1 []).getD j 0))))) = true := by decide +kernel
theorem jtex_1 : Cond.exactly (jtm 1) "java/lang/String" ∈ flatC jT0 := List.mem_of_getElem? (i := 173) (by decide +kernel)
theorem jtco_1 : Cond.eq (.field (jtm 1) "java/lang/String" "coder" "B") (.int 0) ∈ flatC jT0 := List.mem_of_getElem? (i := 174) (by decide +kernel)
theorem jtar_1 : Cond.arrayOf (.field (jtm 1) "java/lang/String" "value" "[B") .byte ∈ flatC jT0 := List.mem_of_getElem? (i := 175) (by decide +kernel)
theorem jtle_1 : Cond.eq (.length (.field (jtm 1) "java/lang/String" "value" "[B")) (.int (Int32.ofNat (jlens.getD 1 0))) ∈ flatC jT0 := List.mem_of_getElem? (i := 176) (by decide +kernel)
theorem jtne : Cond.not (Cond.eq (jtm 0) (jtm 1)) ∈ flatC jT0 := List.mem_of_getElem? (i := 191) (by decide +kernel)
theorem jtcs : Cond.eq (.static "java/lang/String" "COMPACT_STRINGS" "Z") (.int 1) ∈ flatC jT0 := List.mem_of_getElem? (i := 4) (by decide +kernel)
theorem jtpr : Cond.isRef (.static "jdk/internal/util/Preconditions" "SIOOBE_FORMATTER" "Ljava/util/function/BiFunction;") ∈ flatC jT0 := List.mem_of_getElem? (i := 5) (by decide +kernel)
set_option maxRecDepth 100000 in
set_option maxHeartbeats 4000000 in
/-- what holds at the law's entry, in the words of the rows -/
theorem jstart {p : Program} {s : State} {m : MethodId} {meth : Method} {c : Code} {b L : Nat} {xs : Nat → Int32} (C0 : lw_At p s m meth c b L xs) : ∃ g : jG, g.2.2 = s.heap.size ∧ jEnv p s m #[Value.ref b] meth c cL_law "PensionHouseLaw" (some .boolean) 4 g ∧ jAO s := by
  obtain ⟨hx, hb, hr, hml, hown, hts, hX, hbl, hlocks, hgv⟩ := C0
  have hs := flat_of_before _ hgv
  have hjw : ∀ w ∈ jw, w.before #[Value.ref b] s = true := fun w h => hts w (jw_in h)
  have hA : ∀ a : Nat, a < s.heap.size → ¬ (fun q : Nat => s.heap.size ≤ q) a := fun a h => Nat.not_le.mpr h
  obtain ⟨c0, i0, hKn0⟩ := u_known (C := RX0) (T := TX0) (N := 6) (n := 6) hjw (inlX0) (hts _ tw_in0)
  obtain ⟨c1, i1, hKn1⟩ := u_known (C := RX1) (T := TX1) (N := 11) (n := 11) hjw (inlX1) (hts _ tw_in1)
  obtain ⟨c2, i2, hKn2⟩ := u_known (C := RX2) (T := TX2) (N := 7) (n := 7) hjw (inlX2) (hts _ tw_in2)
  obtain ⟨c3, i3, hKn3⟩ := u_known (C := RX4) (T := TX4) (N := 7) (n := 7) hjw (inlX4) (hts _ tw_in3)
  obtain ⟨c4, i4, hKn4⟩ := u_known (C := RX6) (T := TX6) (N := 5) (n := 5) hjw (inlX6) (hts _ tw_in4)
  obtain ⟨c5, i5, hKn5⟩ := u_known (C := RX7) (T := TX7) (N := 8) (n := 8) hjw (inlX7) (hts _ tw_in5)
  obtain ⟨c6, i6, hKn6⟩ := u_known (C := RX8) (T := TX8) (N := 8) (n := 8) hjw (inlX8) (hts _ tw_in6)
  obtain ⟨c7, i7, hKn7⟩ := u_known (C := RX9) (T := TX9) (N := 3) (n := 3) hjw (inlX9) (hts _ tw_in7)
  obtain ⟨c8, i8, hKn8⟩ := u_known (C := RX10) (T := TX10) (N := 14) (n := 14) hjw (inlX10) (hts _ tw_in8)
  obtain ⟨c9, i9, hKn9⟩ := u_known (C := RX11) (T := TX11) (N := 19) (n := 19) hjw (inlX11) (hts _ tw_in9)
  obtain ⟨c10, i10, hKn10⟩ := u_known (C := RX12) (T := TX12) (N := 89) (n := 89) hjw (inlX12) (hts _ tw_in10)
  obtain ⟨e11, k11, p11, f11, g11, h11⟩ := Cond.arrayClass_spec (hts _ tw_ac_byte)
  obtain ⟨e12, k12, p12, f12, g12, h12⟩ := Cond.arrayClass_spec (hts _ tw_ac_double)
  obtain ⟨e13, k13, p13, f13, g13, h13⟩ := Cond.arrayClass_spec (hts _ tw_ac_int)
  obtain ⟨e14, k14, p14, f14, g14, h14⟩ := Cond.arrayClass_spec (hts _ tw_ac_long)
  obtain ⟨e15, k15, p15, f15, g15, h15⟩ := Cond.arrayClass_spec (hts _ tw_ac_boolean)
  obtain ⟨p16, e16, k16, f16, -, g16, h16, j16⟩ := Cond.arrayOver_spec (hts _ tw_aoA)
  obtain ⟨p17, e17, k17, f17, -, g17, h17, j17⟩ := Cond.arrayOver_spec (hts _ tw_aoF)
  obtain ⟨p18, e18, k18, f18, -, g18, h18, j18⟩ := Cond.arrayOver_spec (hts _ tw_aoT)
  obtain ⟨p19, e19, k19, f19, -, g19, h19, j19⟩ := Cond.arrayOver_spec (hts _ tw_aoV)
  obtain ⟨p20, e20, k20, f20, g20, h20, j20⟩ := Cond.arrayOver_specA (hts _ tw_aoJ)
  obtain ⟨adK, adV, hstr, hev⟩ := vk_Sof (args := #[Value.ref b]) (s := s) (N := 2) (tm := jtm) (len := jlens) (byt := jbyt) (A := fun q : Nat => s.heap.size ≤ q)
    (fun i hi => by rcases (show i = 0 ∨ i = 1 by omega) with rfl | rfl <;> decide)
    (fun i hi => by
      rcases (show i = 0 ∨ i = 1 by omega) with rfl | rfl
      · exact hs _ jtex_0
      · exact hs _ jtex_1)
    (fun i hi => by
      rcases (show i = 0 ∨ i = 1 by omega) with rfl | rfl
      · exact hs _ jtco_0
      · exact hs _ jtco_1)
    (fun i hi => by
      rcases (show i = 0 ∨ i = 1 by omega) with rfl | rfl
      · exact hs _ jtar_0
      · exact hs _ jtar_1)
    (fun i hi => by
      rcases (show i = 0 ∨ i = 1 by omega) with rfl | rfl
      · exact hs _ jtle_0
      · exact hs _ jtle_1)
    (fun i hi j hj => by
      rcases (show i = 0 ∨ i = 1 by omega) with rfl | rfl
      · exact hs _ (List.mem_of_getElem? (of_decide_eq_true (List.all_eq_true.mp jtx_0 j (List.mem_range.mpr hj))))
      · exact hs _ (List.mem_of_getElem? (of_decide_eq_true (List.all_eq_true.mp jtx_1 j (List.mem_range.mpr hj)))))
    (fun i j hi hj hij => by
      rcases (show i = 0 ∨ i = 1 by omega) with rfl | rfl <;> rcases (show j = 0 ∨ j = 1 by omega) with rfl | rfl
      · exact absurd rfl hij
      · exact .inl (hs _ jtne)
      · exact .inr (hs _ jtne)
      · exact absurd rfl hij) hA
  have hZ1 := va_Zof (v := .int 1) (A := fun q : Nat => s.heap.size ≤ q) (hts _ tw_lc) (hts _ tw_is) (va_eqi (hs _ jtcs)) hA
  have hZ2 := va_Zqof (A := fun q : Nat => s.heap.size ≤ q) (hts _ tw_lp) (hts _ tw_ip) (hs _ jtpr) hA
  obtain ⟨z300, hZ3⟩ : ∃ z : Nat, va_Z "jdk/internal/util/Preconditions" "SIOOBE_FORMATTER" "Ljava/util/function/BiFunction;" (va_rf (if z = 0 then none else some (z - 1))) (fun q : Nat => s.heap.size ≤ q) s s.heap := by
    rcases hZ2 with h | ⟨t, h⟩
    · exact ⟨0, h⟩
    · exact ⟨t + 1, by rw [if_neg (by omega), Nat.add_sub_cancel]; exact h⟩
  refine ⟨((fun k => if k = 0 then c0 else if k = 1 then c1 else if k = 2 then c2 else if k = 3 then c3 else if k = 4 then c4 else if k = 5 then c5 else if k = 6 then c6 else if k = 7 then c7 else if k = 8 then c8 else if k = 9 then c9 else c10, fun k => if k = 0 then i0 else if k = 1 then i1 else if k = 2 then i2 else if k = 3 then i3 else if k = 4 then i4 else if k = 5 then i5 else if k = 6 then i6 else if k = 7 then i7 else if k = 8 then i8 else if k = 9 then i9 else i10), (fun k => if k = 11 then e11 else if k = 12 then e12 else if k = 13 then e13 else if k = 14 then e14 else if k = 15 then e15 else if k = 16 then e16 else if k = 17 then e17 else if k = 18 then e18 else if k = 19 then e19 else if k = 20 then e20 else if k = 100 then adK 0 else if k = 101 then adK 1 else if k = 200 then adV 0 else if k = 201 then adV 1 else z300), s.heap.size), rfl, ⟨hx, hb, hml, hr, hjw, hown, ⟨?_, ?_⟩, hlocks, ?_⟩, hts _ tw_aoA, hts _ tw_aoF, hts _ tw_aoT, hts _ tw_aoV, ?_⟩
  · intro k q hq
    match k, hq with
    | 0, hq => cases hq; exact hKn0
    | 1, hq => cases hq; exact hKn1
    | 2, hq => cases hq; exact hKn2
    | 3, hq => cases hq; exact hKn3
    | 4, hq => cases hq; exact hKn4
    | 5, hq => cases hq; exact hKn5
    | 6, hq => cases hq; exact hKn6
    | 7, hq => cases hq; exact hKn7
    | 8, hq => cases hq; exact hKn8
    | 9, hq => cases hq; exact hKn9
    | 10, hq => cases hq; exact hKn10
    | k + 11, hq => simp [vwCl] at hq
  · intro k q h
    match k, h with
    | 0, h => cases h; exact ⟨fun N z => ⟨(fun k h => by cases h), k11, g11, p11, h11⟩, f11⟩
    | 1, h => cases h; exact ⟨fun N z => ⟨(fun k h => by cases h), k12, g12, p12, h12⟩, f12⟩
    | 2, h => cases h; exact ⟨fun N z => ⟨(fun k h => by cases h), k13, g13, p13, h13⟩, f13⟩
    | 3, h => cases h; exact ⟨fun N z => ⟨(fun k h => by cases h), k14, g14, p14, h14⟩, f14⟩
    | 4, h => cases h; exact ⟨fun N z => ⟨(fun k h => by cases h), k15, g15, p15, h15⟩, f15⟩
    | 5, h => cases h; exact ⟨fun N z => ⟨(fun k h => by cases h), k16, g16, p16, h16⟩, k16, p16, g16, h16, f16, j16⟩
    | 6, h => cases h; exact ⟨fun N z => ⟨(fun k h => by cases h), k17, g17, p17, h17⟩, k17, p17, g17, h17, f17, j17⟩
    | 7, h => cases h; exact ⟨fun N z => ⟨(fun k h => by cases h), k18, g18, p18, h18⟩, k18, p18, g18, h18, f18, j18⟩
    | 8, h => cases h; exact ⟨fun N z => ⟨(fun k h => by cases h), k19, g19, p19, h19⟩, k19, p19, g19, h19, f19, j19⟩
    | 9, h => cases h; exact ⟨fun N z => ⟨(fun k h => by cases h), k20, g20, p20, h20⟩, j20⟩
    | k + 10, h => simp [jtys] at h
  · refine ⟨?_, hZ1, hZ3, vk_R.of (hts _ tw_s0) (hev 0 (by decide)), vk_R.of (hts _ tw_s1) (hev 1 (by decide))⟩
    refine ⟨fun i hi => ?_, fun i j hi hj => ?_⟩
    · rcases (show i = 0 ∨ i = 1 by omega) with rfl | rfl
      · exact hstr.1 0 (by decide)
      · exact hstr.1 1 (by decide)
    · rcases (show i = 0 ∨ i = 1 by omega) with rfl | rfl <;> rcases (show j = 0 ∨ j = 1 by omega) with rfl | rfl
      · exact fun _ => rfl
      · exact fun h => hstr.2 0 1 (by decide) (by decide) h
      · exact fun h => hstr.2 1 0 (by decide) (by decide) h
      · exact fun _ => rfl
  · exact hts _ tw_aoJ
