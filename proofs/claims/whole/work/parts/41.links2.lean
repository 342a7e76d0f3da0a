/-! The words of the handlers' classes and of the calls of methods with handlers. By program (wip/whole/links2.py). -/
set_option maxRecDepth 20000 in
theorem kl_Law_13 : Cond.classLink R_Law 13 "java/lang/IndexOutOfBoundsException" ∈ tbg := tb_mem (N := 111) rfl rfl
set_option maxRecDepth 20000 in
theorem kl_Law_19 : Cond.classLink R_Law 19 "java/lang/IllegalArgumentException" ∈ tbg := tb_mem (N := 187) rfl rfl
set_option maxRecDepth 20000 in
theorem kl_Law_25 : Cond.classLink R_Law 25 "java/lang/UnsupportedOperationException" ∈ tbg := tb_mem (N := 210) rfl rfl
set_option maxRecDepth 20000 in
theorem kl_Law_39 : Cond.classLink R_Law 39 "java/util/NoSuchElementException" ∈ tbg := tb_mem (N := 368) rfl rfl
set_option maxRecDepth 20000 in
theorem kl_Ref_75 : Cond.classLink R_Ref 75 "java/lang/UnsupportedOperationException" ∈ tbg := tb_mem (N := 513) rfl rfl
set_option maxRecDepth 20000 in
theorem ks_IndexOutOfBoundsException : Cond.castable "java/lang/IndexOutOfBoundsException" "java/lang/IndexOutOfBoundsException" ∈ tbg := tb_mem (N := 118) rfl rfl
set_option maxRecDepth 20000 in
theorem ks_IllegalArgumentException : Cond.castable "java/lang/IllegalArgumentException" "java/lang/IllegalArgumentException" ∈ tbg := tb_mem (N := 194) rfl rfl
set_option maxRecDepth 20000 in
theorem ks_UnsupportedOperationException : Cond.castable "java/lang/UnsupportedOperationException" "java/lang/UnsupportedOperationException" ∈ tbg := tb_mem (N := 260) rfl rfl
set_option maxRecDepth 20000 in
theorem ks_NoSuchElementException : Cond.castable "java/util/NoSuchElementException" "java/util/NoSuchElementException" ∈ tbg := tb_mem (N := 375) rfl rfl
set_option maxRecDepth 20000 in
theorem k_Law_52 : tS R_Law 52 y_Law_feed c_Law_feed 8 (some .int) [(0, 16, 19, 13)] 7 := ⟨tb_mem (N := 108) rfl rfl, tb_mem (N := 109) rfl rfl, tb_mem (N := 0) rfl rfl, tb_mem (N := 110) rfl rfl, ⟨by decide, by decide, by decide +kernel⟩⟩
set_option maxRecDepth 20000 in
theorem k_Law_62 : tS R_Law 62 y_Law_end c_Law_end 4 (some .int) [(0, 9, 12, 19)] 3 := ⟨tb_mem (N := 184) rfl rfl, tb_mem (N := 185) rfl rfl, tb_mem (N := 0) rfl rfl, tb_mem (N := 186) rfl rfl, ⟨by decide, by decide, by decide +kernel⟩⟩
set_option maxRecDepth 20000 in
theorem k_Law_66 : tS R_Law 66 y_Law_zone c_Law_zone 3 (some .int) [(0, 5, 8, 19), (0, 5, 11, 25)] 2 := ⟨tb_mem (N := 207) rfl rfl, tb_mem (N := 208) rfl rfl, tb_mem (N := 0) rfl rfl, tb_mem (N := 209) rfl rfl, ⟨by decide, by decide, by decide +kernel⟩⟩
set_option maxRecDepth 20000 in
theorem k_Law_72 : tS R_Law 72 y_Law_local c_Law_local 6 (some .int) [(0, 10, 13, 19)] 4 := ⟨tb_mem (N := 281) rfl rfl, tb_mem (N := 282) rfl rfl, tb_mem (N := 0) rfl rfl, tb_mem (N := 283) rfl rfl, ⟨by decide, by decide, by decide +kernel⟩⟩
set_option maxRecDepth 20000 in
theorem k_Law_76 : tS R_Law 76 y_Law_many c_Law_many 6 (some .int) [(0, 11, 14, 19)] 4 := ⟨tb_mem (N := 341) rfl rfl, tb_mem (N := 342) rfl rfl, tb_mem (N := 0) rfl rfl, tb_mem (N := 343) rfl rfl, ⟨by decide, by decide, by decide +kernel⟩⟩
set_option maxRecDepth 20000 in
theorem k_Law_79 : tS R_Law 79 y_Law_universal c_Law_universal 7 (some .int) [(0, 12, 15, 19), (0, 12, 19, 39)] 5 := ⟨tb_mem (N := 365) rfl rfl, tb_mem (N := 366) rfl rfl, tb_mem (N := 0) rfl rfl, tb_mem (N := 367) rfl rfl, ⟨by decide, by decide, by decide +kernel⟩⟩
set_option maxRecDepth 20000 in
theorem k_Law_83 : tS R_Law 83 y_Law_change c_Law_change 7 (some .int) [(0, 12, 15, 19)] 5 := ⟨tb_mem (N := 390) rfl rfl, tb_mem (N := 391) rfl rfl, tb_mem (N := 0) rfl rfl, tb_mem (N := 392) rfl rfl, ⟨by decide, by decide, by decide +kernel⟩⟩
set_option maxRecDepth 20000 in
theorem k_Law_86 : tS R_Law 86 y_Law_field c_Law_field 7 (some .int) [(0, 13, 16, 19)] 5 := ⟨tb_mem (N := 423) rfl rfl, tb_mem (N := 424) rfl rfl, tb_mem (N := 0) rfl rfl, tb_mem (N := 425) rfl rfl, ⟨by decide, by decide, by decide +kernel⟩⟩
set_option maxRecDepth 20000 in
theorem k_Law_69 : tV R_Law 69 y_Ref_zone c_Ref_zone 3 none [(28, 33, 36, 75)] 1 := ⟨tb_mem (N := 509) rfl rfl, tb_mem (N := 510) rfl rfl, tb_mem (N := 511) rfl rfl, tb_mem (N := 5) rfl rfl, tb_mem (N := 512) rfl rfl, ⟨by decide, by decide, by decide +kernel⟩⟩
