/-! The words of the constructors. By program (wip/whole/links3.py). -/
set_option maxRecDepth 20000 in
theorem ko_inst : Cond.instanceMethod Lib.objectInit ∈ tbg := tb_mem (N := 21) rfl rfl
set_option maxRecDepth 20000 in
theorem ko_code : Cond.code Lib.objectInit ⟨#[0xb1]⟩ 1 none ∈ tbg := tb_mem (N := 22) rfl rfl
set_option maxRecDepth 20000 in
theorem kin_Clk : Cond.instantiable R_Clk 4 ∈ tbg := tb_mem (N := 16) rfl rfl
set_option maxRecDepth 20000 in
theorem kit_Clk : Cond.initialized R_Clk ∈ tbg := tb_mem (N := 1) rfl rfl
set_option maxRecDepth 20000 in
theorem kin_Tape : Cond.instantiable R_Tape 4 ∈ tbg := tb_mem (N := 24) rfl rfl
set_option maxRecDepth 20000 in
theorem kit_Tape : Cond.initialized R_Tape ∈ tbg := tb_mem (N := 2) rfl rfl
set_option maxRecDepth 20000 in
theorem ka_byte : Cond.arrayClass .byte ∈ tbg := tb_mem (N := 43) rfl rfl
set_option maxRecDepth 20000 in
theorem kin_Zone : Cond.instantiable R_Zone 4 ∈ tbg := tb_mem (N := 45) rfl rfl
set_option maxRecDepth 20000 in
theorem kit_Zone : Cond.initialized R_Zone ∈ tbg := tb_mem (N := 3) rfl rfl
set_option maxRecDepth 20000 in
theorem kin_Rule : Cond.instantiable R_Rule 4 ∈ tbg := tb_mem (N := 51) rfl rfl
set_option maxRecDepth 20000 in
theorem kit_Rule : Cond.initialized R_Rule ∈ tbg := tb_mem (N := 4) rfl rfl
set_option maxRecDepth 20000 in
theorem kin_Ref : Cond.instantiable R_Ref 15 ∈ tbg := tb_mem (N := 447) rfl rfl
set_option maxRecDepth 20000 in
theorem kit_Ref : Cond.initialized R_Ref ∈ tbg := tb_mem (N := 5) rfl rfl
set_option maxRecDepth 20000 in
theorem ka_int : Cond.arrayClass .int ∈ tbg := tb_mem (N := 502) rfl rfl
set_option maxRecDepth 20000 in
theorem ka_long : Cond.arrayClass .long ∈ tbg := tb_mem (N := 503) rfl rfl
set_option maxRecDepth 20000 in
theorem ka_boolean : Cond.arrayClass .boolean ∈ tbg := tb_mem (N := 504) rfl rfl
set_option maxRecDepth 20000 in
theorem kn_Law_8 : Cond.classLink R_Law 8 "ZoneClock" ∈ tbg := tb_mem (N := 15) rfl rfl
set_option maxRecDepth 20000 in
theorem k_Law_48 : nCI R_Law 48 y_Clk_init c_Clk_init 2 := ⟨tb_mem (N := 17) rfl rfl, tb_mem (N := 18) rfl rfl, tb_mem (N := 1) rfl rfl, tb_mem (N := 19) rfl rfl, ⟨by decide, by decide, by decide +kernel⟩, rfl⟩
set_option maxRecDepth 20000 in
theorem ko_Clk_1 : Cond.methodLink R_Clk 1 Lib.objectInit ∈ tbg := tb_mem (N := 20) rfl rfl
set_option maxRecDepth 20000 in
theorem kn_Clk_7 : Cond.classLink R_Clk 7 "ZoneClock$Tape" ∈ tbg := tb_mem (N := 23) rfl rfl
set_option maxRecDepth 20000 in
theorem k_Clk_9 : nCN R_Clk "ZoneClock" 9 y_Tape_init c_Tape_init 1 := ⟨tb_mem (N := 25) rfl rfl, tb_mem (N := 26) rfl rfl, tb_mem (N := 2) rfl rfl, tb_mem (N := 27) rfl rfl, ⟨by decide, by decide, by decide +kernel⟩, rfl⟩
set_option maxRecDepth 20000 in
theorem ko_Tape_3 : Cond.methodLink R_Tape 3 Lib.objectInit ∈ tbg := tb_mem (N := 28) rfl rfl
set_option maxRecDepth 20000 in
theorem kn_Clk_16 : Cond.classLink R_Clk 16 "ZoneClock$Zone" ∈ tbg := tb_mem (N := 44) rfl rfl
set_option maxRecDepth 20000 in
theorem k_Clk_18 : nCN R_Clk "ZoneClock" 18 y_Zone_init c_Zone_init 1 := ⟨tb_mem (N := 46) rfl rfl, tb_mem (N := 47) rfl rfl, tb_mem (N := 3) rfl rfl, tb_mem (N := 48) rfl rfl, ⟨by decide, by decide, by decide +kernel⟩, rfl⟩
set_option maxRecDepth 20000 in
theorem ko_Zone_3 : Cond.methodLink R_Zone 3 Lib.objectInit ∈ tbg := tb_mem (N := 49) rfl rfl
set_option maxRecDepth 20000 in
theorem kn_Zone_9 : Cond.classLink R_Zone 9 "ZoneClock$Rule" ∈ tbg := tb_mem (N := 50) rfl rfl
set_option maxRecDepth 20000 in
theorem k_Zone_11 : nCN R_Zone "ZoneClock" 11 y_Rule_init c_Rule_init 1 := ⟨tb_mem (N := 52) rfl rfl, tb_mem (N := 53) rfl rfl, tb_mem (N := 4) rfl rfl, tb_mem (N := 54) rfl rfl, ⟨by decide, by decide, by decide +kernel⟩, rfl⟩
set_option maxRecDepth 20000 in
theorem ko_Rule_3 : Cond.methodLink R_Rule 3 Lib.objectInit ∈ tbg := tb_mem (N := 55) rfl rfl
set_option maxRecDepth 20000 in
theorem kn_Law_49 : Cond.classLink R_Law 49 "ZoneClockModel" ∈ tbg := tb_mem (N := 446) rfl rfl
set_option maxRecDepth 20000 in
theorem k_Law_51 : nCI R_Law 51 y_Ref_init c_Ref_init 1 := ⟨tb_mem (N := 448) rfl rfl, tb_mem (N := 449) rfl rfl, tb_mem (N := 5) rfl rfl, tb_mem (N := 450) rfl rfl, ⟨by decide, by decide, by decide +kernel⟩, rfl⟩
set_option maxRecDepth 20000 in
theorem ko_Ref_1 : Cond.methodLink R_Ref 1 Lib.objectInit ∈ tbg := tb_mem (N := 451) rfl rfl
set_option maxRecDepth 20000 in
theorem kn_Ref_24 : Cond.classLink R_Ref 24 "[[J" ∈ tbg := tb_mem (N := 452) rfl rfl
set_option maxRecDepth 20000 in
theorem kn_Ref_29 : Cond.classLink R_Ref 29 "[[Z" ∈ tbg := tb_mem (N := 454) rfl rfl
