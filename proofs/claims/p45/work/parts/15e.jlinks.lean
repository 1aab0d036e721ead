/-! links of the JDK's members -/
theorem fJ5_15 : fl_ RJ5 15 1 0 false (.array .byte) := ⟨RJ4, TJ4, 4, tyJ4, rfl, by decide, guJ4, (gc3 137 (by decide +kernel) rfl), tyJ4_ok, nmJ4, rfl, by decide +kernel⟩
theorem fJ5_22 : fl_ RJ5 22 1 1 false .byte := ⟨RJ4, TJ4, 4, tyJ4, rfl, by decide, guJ4, (gc3 138 (by decide +kernel) rfl), tyJ4_ok, nmJ4, rfl, by decide +kernel⟩
theorem fJ5_79 : fl_ RJ5 79 1 3 false .int := ⟨RJ4, TJ4, 4, tyJ4, rfl, by decide, guJ4, (gc3 140 (by decide +kernel) rfl), tyJ4_ok, nmJ4, rfl, by decide +kernel⟩
theorem uJ5_104 : ul_ RJ5 104 mJ5_newCapacity_0f7a4 1 := ⟨wJ5_newCapacity_0f7a4, rfl, (gc3 165 (by decide +kernel) rfl), (gc3 167 (by decide +kernel) rfl), (gc1 22 (by decide +kernel) rfl), ⟨by decide, by decide⟩, by decide +kernel, by decide +kernel, (gc7 101 (by decide +kernel) rfl), Or.inl (gd_x 0 rfl rfl)⟩
theorem uJ5_83 : ul_ RJ5 83 mJ5_isLatin1_aae02 0 := ⟨wJ5_isLatin1_aae02, rfl, (gc3 192 (by decide +kernel) rfl), (gc3 193 (by decide +kernel) rfl), (gc1 22 (by decide +kernel) rfl), ⟨by decide, by decide⟩, by decide +kernel, by decide +kernel, (gc3 194 (by decide +kernel) rfl), Or.inl (gc3 195 (by decide +kernel) rfl)⟩
theorem uJ5_100 : ul_ RJ5 100 mJ5_ensureCapacityInternal_d00df 1 := ⟨wJ5_ensureCapacityInternal_d00df, rfl, (gc3 161 (by decide +kernel) rfl), (gc3 163 (by decide +kernel) rfl), (gc1 22 (by decide +kernel) rfl), ⟨by decide, by decide⟩, by decide +kernel, by decide +kernel, (gc7 100 (by decide +kernel) rfl), Or.inl (gd_x 1 rfl rfl)⟩
theorem uJ5_208 : ul_ RJ5 208 mJ5_putStringAt_47b60 2 := ⟨wJ5_putStringAt_47b60, rfl, (gc3 232 (by decide +kernel) rfl), (gc3 234 (by decide +kernel) rfl), (gc1 22 (by decide +kernel) rfl), ⟨by decide, by decide⟩, by decide +kernel, by decide +kernel, (gc7 102 (by decide +kernel) rfl), Or.inl (gd_x 2 rfl rfl)⟩
theorem uJ5_397 : ul_ RJ5 397 mJ5_inflateIfNeededFor_a7421 1 := ⟨wJ5_inflateIfNeededFor_a7421, rfl, (gc3 236 (by decide +kernel) rfl), (gc3 238 (by decide +kernel) rfl), (gc1 22 (by decide +kernel) rfl), ⟨by decide, by decide⟩, by decide +kernel, by decide +kernel, (gc7 103 (by decide +kernel) rfl), Or.inl (gd_x 3 rfl rfl)⟩
theorem uJ0_552 : ul_ RJ0 552 mJ5_getValue_6d5f1 0 := ⟨wJ5_getValue_6d5f1, rfl, (gc4 79 (by decide +kernel) rfl), (gc4 80 (by decide +kernel) rfl), (gc1 22 (by decide +kernel) rfl), ⟨by decide, by decide⟩, by decide +kernel, by decide +kernel, (gc4 81 (by decide +kernel) rfl), Or.inl (gc4 82 (by decide +kernel) rfl)⟩
theorem uJ0_1047 : ul_ RJ0 1047 mJ5_isLatin1_aae02 0 := ⟨wJ5_isLatin1_aae02, rfl, (gc4 92 (by decide +kernel) rfl), (gc3 193 (by decide +kernel) rfl), (gc1 22 (by decide +kernel) rfl), ⟨by decide, by decide⟩, by decide +kernel, by decide +kernel, (gc3 194 (by decide +kernel) rfl), Or.inl (gc3 195 (by decide +kernel) rfl)⟩
theorem oJ4_29 : ol_ RJ4 29 mJ5_append_cf1ce 1 := ⟨wJ5_append_cf1ce, rfl, gd_list [634, 1538, 629, 635, 22] (by decide +kernel) (by decide +kernel), ⟨by decide, by decide +kernel⟩, by decide +kernel⟩
theorem oJ4_50 : ol_ RJ4 50 mJ5_append_3fe6f 1 := ⟨wJ5_append_3fe6f, rfl, gd_list [778, 1545, 629, 779, 22] (by decide +kernel) (by decide +kernel), ⟨by decide, by decide +kernel⟩, by decide +kernel⟩
theorem oJ4_53 : ol_ RJ4 53 mJ5_append_c97b9 1 := ⟨wJ5_append_c97b9, rfl, gd_list [829, 1546, 629, 830, 22] (by decide +kernel) (by decide +kernel), ⟨by decide, by decide +kernel⟩, by decide +kernel⟩
theorem oJ4_343 : ol_ RJ4 343 mJ5_length_8abf5 0 := ⟨wJ5_length_8abf5, rfl, gd_list [810, 806, 629, 805, 22] (by decide +kernel) (by decide +kernel), ⟨by decide, by decide +kernel⟩, by decide +kernel⟩
theorem voJ0_549 : vo_ RJ0 549 yJ5_length_8abf5 mJ4_length_8abf5 0 := ⟨wJ4_length_8abf5, rfl, gd_list [804, 806, 805, 807, 808, 23] (by decide +kernel) (by decide +kernel), ⟨by decide, by decide, by decide +kernel⟩, by decide +kernel, cJ5_length_8abf5, 1, some .int, (gc4 91 (by decide +kernel) rfl)⟩
theorem iL_176 : il_ RL 176 mJ4_init_da8c8 0 := ⟨wJ4_init_da8c8, rfl, (gc3 121 (by decide +kernel) rfl), (gc3 122 (by decide +kernel) rfl), (gc1 23 (by decide +kernel) rfl), by decide +kernel, by decide +kernel, by decide +kernel, by decide +kernel, rfl, rfl⟩
theorem iJ4_1 : il_ RJ4 1 mJ5_init_d00df 1 := ⟨wJ5_init_d00df, rfl, (gc3 124 (by decide +kernel) rfl), (gc3 125 (by decide +kernel) rfl), (gc1 22 (by decide +kernel) rfl), by decide +kernel, by decide +kernel, by decide +kernel, by decide +kernel, rfl, rfl⟩
theorem iJ4_137 : il_ RJ4 137 mJ0_init_81219 1 := ⟨wJ0_init_81219, rfl, (gc4 72 (by decide +kernel) rfl), (gc4 73 (by decide +kernel) rfl), (gc1 16 (by decide +kernel) rfl), by decide +kernel, by decide +kernel, by decide +kernel, by decide +kernel, rfl, rfl⟩
theorem iJ0_489 : il_ RJ0 489 mJ0_init_db425 2 := ⟨wJ0_init_db425, rfl, (gc4 75 (by decide +kernel) rfl), (gc4 76 (by decide +kernel) rfl), (gc1 16 (by decide +kernel) rfl), by decide +kernel, by decide +kernel, by decide +kernel, by decide +kernel, rfl, rfl⟩
theorem iJ1_112 : il_ RJ1 112 mJ0_init_031fb 2 := ⟨wJ0_init_031fb, rfl, (gc6 229 (by decide +kernel) rfl), (gc6 230 (by decide +kernel) rfl), (gc1 16 (by decide +kernel) rfl), by decide +kernel, by decide +kernel, by decide +kernel, by decide +kernel, rfl, rfl⟩
abbrev df_J4 : List Value := [.null, .int 0, .int 0, .int 0]
abbrev df_J0 : List Value := [.null, .int 0, .int 0, .int 0]
theorem dv_J4 : ∀ j, j < 4 → defaultValue (tyJ4 j) = vp_V df_J4 j := by decide +kernel
theorem dv_J0 : ∀ j, j < 4 → defaultValue (tyJ0 j) = vp_V df_J0 j := by decide +kernel
theorem mk_L_174 : mk_ RL 174 1 df_J4 := ⟨RJ4, TJ4, 4, tyJ4, rfl, guJ4, tyJ4_ok, (gc3 119 (by decide +kernel) rfl), (gc3 120 (by decide +kernel) rfl), (gc1 23 (by decide +kernel) rfl), dv_J4, by decide⟩
theorem mk_J4_18 : mk_ RJ4 18 0 df_J0 := ⟨RJ0, TJ0, 4, tyJ0, rfl, guJ0, tyJ0_ok, (gc4 71 (by decide +kernel) rfl), (gc2 125 (by decide +kernel) rfl), (gc1 16 (by decide +kernel) rfl), dv_J0, by decide⟩
theorem mk_J1_1 : mk_ RJ1 1 0 df_J0 := ⟨RJ0, TJ0, 4, tyJ0, rfl, guJ0, tyJ0_ok, (gc6 227 (by decide +kernel) rfl), (gc2 125 (by decide +kernel) rfl), (gc1 16 (by decide +kernel) rfl), dv_J0, by decide⟩
theorem oi_2 : Cond.instanceMethod Lib.objectInit ∈ gd_ := gc1 44 (by decide +kernel) rfl
theorem oi_3 : Cond.code Lib.objectInit ⟨#[0xb1]⟩ 1 none ∈ gd_ := gc1 45 (by decide +kernel) rfl
theorem ob_J5 : Cond.methodLink RJ5 3 Lib.objectInit ∈ gd_ := gc3 127 (by decide +kernel) rfl
theorem ob_J0 : Cond.methodLink RJ0 1 Lib.objectInit ∈ gd_ := gc4 78 (by decide +kernel) rfl
theorem csJ5_18 : Cond.fieldLink RJ5 18 "java/lang/String" "COMPACT_STRINGS" "Z" ∈ gd_ := gc3 128 (by decide +kernel) rfl
theorem csJ0_38 : Cond.fieldLink RJ0 38 "java/lang/String" "COMPACT_STRINGS" "Z" ∈ gd_ := gc3 231 (by decide +kernel) rfl
theorem csJ0_1053 : Cond.fieldLink RJ0 1053 "jdk/internal/util/Preconditions" "SIOOBE_FORMATTER" "Ljava/util/function/BiFunction;" ∈ gd_ := gc3 209 (by decide +kernel) rfl
theorem csJ6_83 : Cond.fieldLink RJ6 83 "java/lang/Integer" "DigitOnes" "[B" ∈ gd_ := gc4 118 (by decide +kernel) rfl
theorem csJ6_87 : Cond.fieldLink RJ6 87 "java/lang/Integer" "DigitTens" "[B" ∈ gd_ := gc4 120 (by decide +kernel) rfl
theorem ctJ5_39 : Cond.constant RJ5 39 2147483647 ∈ gd_ := gc3 179 (by decide +kernel) rfl
theorem ctJ8_200 : Cond.constant RJ8 200 2147483639 ∈ gd_ := gc3 175 (by decide +kernel) rfl
theorem ctL_7 : Cond.constant RL 7 40503 ∈ gd_ := gc2 44 (by decide +kernel) rfl
theorem ctL_284 : Cond.constant RL 284 100000 ∈ gd_ := gc6 68 (by decide +kernel) rfl
theorem ctL_331 : Cond.constantLong RL 331 7 ∈ gd_ := gc6 204 (by decide +kernel) rfl
theorem ctL_333 : Cond.constantLong RL 333 31 ∈ gd_ := gc6 205 (by decide +kernel) rfl
theorem ctL_335 : Cond.constantLong RL 335 37 ∈ gd_ := gc6 206 (by decide +kernel) rfl
theorem ctL_337 : Cond.constantLong RL 337 41 ∈ gd_ := gc6 207 (by decide +kernel) rfl
theorem ctL_339 : Cond.constantLong RL 339 43 ∈ gd_ := gc6 208 (by decide +kernel) rfl
theorem ctL_341 : Cond.constantLong RL 341 47 ∈ gd_ := gc6 209 (by decide +kernel) rfl
theorem ac_i : Cond.arrayClass (newarray.typeOf .int) ∈ gd_ := gc1 124 (by decide +kernel) rfl
theorem ra_i : ∀ (U : State) (c1 c2 : ClassId), va_RA U c1 .int → va_RA U c2 .int → c1 = c2 := fun U c1 c2 h1 h2 => Option.some.inj ((show U.vm.findClass _ = some c1 from h1).symm.trans h2)
theorem ac_b : Cond.arrayClass (newarray.typeOf .byte) ∈ gd_ := gc2 126 (by decide +kernel) rfl
theorem ra_b : ∀ (U : State) (c1 c2 : ClassId), va_RA U c1 .byte → va_RA U c2 .byte → c1 = c2 := fun U c1 c2 h1 h2 => Option.some.inj ((show U.vm.findClass _ = some c1 from h1).symm.trans h2)
theorem ac_l : Cond.arrayClass (newarray.typeOf .long) ∈ gd_ := gc7 96 (by decide +kernel) rfl
theorem ra_l : ∀ (U : State) (c1 c2 : ClassId), va_RA U c1 .long → va_RA U c2 .long → c1 = c2 := fun U c1 c2 h1 h2 => Option.some.inj ((show U.vm.findClass _ = some c1 from h1).symm.trans h2)
