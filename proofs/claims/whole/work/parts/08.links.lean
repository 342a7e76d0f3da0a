/-! What the pools name, by the claim's words. By program (wip/whole/links.py). -/
theorem fT_Rule : fT T_Rule 4 ty_Rule := ⟨ok_Rule, nm_Rule⟩
theorem fT_Tape : fT T_Tape 4 ty_Tape := ⟨ok_Tape, nm_Tape⟩
theorem fT_Zone : fT T_Zone 4 ty_Zone := ⟨ok_Zone, nm_Zone⟩
theorem fT_Clk : fT T_Clk 4 ty_Clk := ⟨ok_Clk, nm_Clk⟩
theorem fT_Ref : fT T_Ref 15 ty_Ref := ⟨ok_Ref, nm_Ref⟩
set_option maxRecDepth 20000 in
theorem f_Clk_10 : fG R_Clk 10 "ZoneClock" 3 R_Clk T_Clk 4 0 := ⟨rfl, by decide, in_Clk, tb_mem (N := 91) rfl rfl, rfl⟩
set_option maxRecDepth 20000 in
theorem f_Clk_19 : fG R_Clk 19 "ZoneClock" 3 R_Clk T_Clk 4 1 := ⟨rfl, by decide, in_Clk, tb_mem (N := 92) rfl rfl, rfl⟩
set_option maxRecDepth 20000 in
theorem f_Clk_23 : fG R_Clk 23 "ZoneClock" 3 R_Clk T_Clk 4 2 := ⟨rfl, by decide, in_Clk, tb_mem (N := 93) rfl rfl, rfl⟩
set_option maxRecDepth 20000 in
theorem f_Clk_27 : fG R_Clk 27 "ZoneClock" 3 R_Clk T_Clk 4 3 := ⟨rfl, by decide, in_Clk, tb_mem (N := 94) rfl rfl, rfl⟩
set_option maxRecDepth 20000 in
theorem f_Tape_9 : fG R_Tape 9 "ZoneClock$Tape" 1 R_Tape T_Tape 4 0 := ⟨rfl, by decide, in_Tape, tb_mem (N := 29) rfl rfl, rfl⟩
set_option maxRecDepth 20000 in
theorem f_Zone_12 : fG R_Zone 12 "ZoneClock$Zone" 2 R_Zone T_Zone 4 2 := ⟨rfl, by decide, in_Zone, tb_mem (N := 77) rfl rfl, rfl⟩
set_option maxRecDepth 20000 in
theorem f_Zone_18 : fG R_Zone 18 "ZoneClock$Zone" 2 R_Zone T_Zone 4 3 := ⟨rfl, by decide, in_Zone, tb_mem (N := 79) rfl rfl, rfl⟩
set_option maxRecDepth 20000 in
theorem k_Law_7 : kV R_Law 7 y_Clk_feed c_Clk_feed 6 (some .int) 5 := ⟨tb_mem (N := 112) rfl rfl, tb_mem (N := 113) rfl rfl, tb_mem (N := 114) rfl rfl, tb_mem (N := 1) rfl rfl, tb_mem (N := 115) rfl rfl, ⟨by decide, by decide, by decide +kernel⟩⟩
set_option maxRecDepth 20000 in
theorem f_Clk_31 : fN R_Clk "ZoneClock" 31 "ZoneClock$Tape" 1 R_Tape T_Tape 4 1 := ⟨rfl, by decide, in_Tape, tb_mem (N := 30) rfl rfl, rfl⟩
set_option maxRecDepth 20000 in
theorem k_Clk_37 : kV R_Clk 37 y_Tape_append c_Tape_append 3 none 1 := ⟨tb_mem (N := 180) rfl rfl, tb_mem (N := 181) rfl rfl, tb_mem (N := 182) rfl rfl, tb_mem (N := 2) rfl rfl, tb_mem (N := 183) rfl rfl, ⟨by decide, by decide, by decide +kernel⟩⟩
set_option maxRecDepth 20000 in
theorem f_Tape_15 : fG R_Tape 15 "ZoneClock$Tape" 1 R_Tape T_Tape 4 1 := ⟨rfl, by decide, in_Tape, tb_mem (N := 31) rfl rfl, rfl⟩
set_option maxRecDepth 20000 in
theorem k_Law_15 : kV R_Law 15 y_Clk_end c_Clk_end 2 (some .int) 1 := ⟨tb_mem (N := 188) rfl rfl, tb_mem (N := 189) rfl rfl, tb_mem (N := 190) rfl rfl, tb_mem (N := 1) rfl rfl, tb_mem (N := 191) rfl rfl, ⟨by decide, by decide, by decide +kernel⟩⟩
set_option maxRecDepth 20000 in
theorem k_Law_21 : kV R_Law 21 y_Clk_zone c_Clk_zone 3 none 1 := ⟨tb_mem (N := 211) rfl rfl, tb_mem (N := 212) rfl rfl, tb_mem (N := 213) rfl rfl, tb_mem (N := 1) rfl rfl, tb_mem (N := 214) rfl rfl, ⟨by decide, by decide, by decide +kernel⟩⟩
set_option maxRecDepth 20000 in
theorem k_Clk_44 : kV R_Clk 44 y_Clk_zoneAt c_Clk_zoneAt 2 (some (.object "ZoneClock$Zone")) 1 := ⟨tb_mem (N := 215) rfl rfl, tb_mem (N := 217) rfl rfl, tb_sel (N := 1) rfl rfl, tb_mem (N := 1) rfl rfl, tb_mem (N := 218) rfl rfl, ⟨by decide, by decide, by decide +kernel⟩⟩
set_option maxRecDepth 20000 in
theorem k_Clk_48 : kV R_Clk 48 y_Tape_readZone c_Tape_readZone 2 (some .int) 1 := ⟨tb_mem (N := 219) rfl rfl, tb_mem (N := 220) rfl rfl, tb_mem (N := 221) rfl rfl, tb_mem (N := 2) rfl rfl, tb_mem (N := 222) rfl rfl, ⟨by decide, by decide, by decide +kernel⟩⟩
set_option maxRecDepth 20000 in
theorem k_Clk_55 : kV R_Clk 55 y_Zone_become c_Zone_become 2 none 1 := ⟨tb_mem (N := 273) rfl rfl, tb_mem (N := 274) rfl rfl, tb_mem (N := 275) rfl rfl, tb_mem (N := 3) rfl rfl, tb_mem (N := 276) rfl rfl, ⟨by decide, by decide, by decide +kernel⟩⟩
set_option maxRecDepth 20000 in
theorem f_Tape_19 : fG R_Tape 19 "ZoneClock$Tape" 1 R_Tape T_Tape 4 2 := ⟨rfl, by decide, in_Tape, tb_mem (N := 32) rfl rfl, rfl⟩
set_option maxRecDepth 20000 in
theorem f_Tape_22 : fG R_Tape 22 "ZoneClock$Tape" 1 R_Tape T_Tape 4 3 := ⟨rfl, by decide, in_Tape, tb_mem (N := 33) rfl rfl, rfl⟩
set_option maxRecDepth 20000 in
theorem k_Tape_26 : kV R_Tape 26 y_Tape_readOffset c_Tape_readOffset 3 (some .int) 0 := ⟨tb_mem (N := 223) rfl rfl, tb_mem (N := 225) rfl rfl, tb_sel (N := 2) rfl rfl, tb_mem (N := 2) rfl rfl, tb_mem (N := 226) rfl rfl, ⟨by decide, by decide, by decide +kernel⟩⟩
set_option maxRecDepth 20000 in
theorem f_Tape_30 : fN R_Tape "ZoneClock" 30 "ZoneClock$Zone" 2 R_Zone T_Zone 4 0 := ⟨rfl, by decide, in_Zone, tb_mem (N := 74) rfl rfl, rfl⟩
set_option maxRecDepth 20000 in
theorem f_Tape_35 : fN R_Tape "ZoneClock" 35 "ZoneClock$Zone" 2 R_Zone T_Zone 4 1 := ⟨rfl, by decide, in_Zone, tb_mem (N := 76) rfl rfl, rfl⟩
set_option maxRecDepth 20000 in
theorem k_Tape_38 : kV R_Tape 38 y_Tape_readBlanks c_Tape_readBlanks 1 none 0 := ⟨tb_mem (N := 250) rfl rfl, tb_mem (N := 252) rfl rfl, tb_sel (N := 7) rfl rfl, tb_mem (N := 2) rfl rfl, tb_mem (N := 253) rfl rfl, ⟨by decide, by decide, by decide +kernel⟩⟩
set_option maxRecDepth 20000 in
theorem k_Tape_41 : kV R_Tape 41 y_Tape_readNumber c_Tape_readNumber 5 (some .int) 2 := ⟨tb_mem (N := 235) rfl rfl, tb_mem (N := 237) rfl rfl, tb_sel (N := 5) rfl rfl, tb_mem (N := 2) rfl rfl, tb_mem (N := 238) rfl rfl, ⟨by decide, by decide, by decide +kernel⟩⟩
set_option maxRecDepth 20000 in
theorem f_Tape_45 : fN R_Tape "ZoneClock" 45 "ZoneClock$Zone" 2 R_Zone T_Zone 4 2 := ⟨rfl, by decide, in_Zone, tb_mem (N := 78) rfl rfl, rfl⟩
set_option maxRecDepth 20000 in
theorem k_Tape_49 : kV R_Tape 49 y_Tape_readRule c_Tape_readRule 2 none 1 := ⟨tb_mem (N := 254) rfl rfl, tb_mem (N := 256) rfl rfl, tb_sel (N := 8) rfl rfl, tb_mem (N := 2) rfl rfl, tb_mem (N := 257) rfl rfl, ⟨by decide, by decide, by decide +kernel⟩⟩
set_option maxRecDepth 20000 in
theorem f_Tape_53 : fN R_Tape "ZoneClock" 53 "ZoneClock$Zone" 2 R_Zone T_Zone 4 3 := ⟨rfl, by decide, in_Zone, tb_mem (N := 80) rfl rfl, rfl⟩
set_option maxRecDepth 20000 in
theorem k_Tape_56 : kV R_Tape 56 y_Tape_nextByte c_Tape_nextByte 1 (some .int) 0 := ⟨tb_mem (N := 227) rfl rfl, tb_mem (N := 229) rfl rfl, tb_sel (N := 3) rfl rfl, tb_mem (N := 2) rfl rfl, tb_mem (N := 230) rfl rfl, ⟨by decide, by decide, by decide +kernel⟩⟩
set_option maxRecDepth 20000 in
theorem k_Tape_59 : kV R_Tape 59 y_Tape_readByte c_Tape_readByte 2 none 1 := ⟨tb_mem (N := 231) rfl rfl, tb_mem (N := 233) rfl rfl, tb_sel (N := 4) rfl rfl, tb_mem (N := 2) rfl rfl, tb_mem (N := 234) rfl rfl, ⟨by decide, by decide, by decide +kernel⟩⟩
set_option maxRecDepth 20000 in
theorem k_Tape_77 : kV R_Tape 77 y_Tape_readDigits c_Tape_readDigits 3 (some .int) 0 := ⟨tb_mem (N := 239) rfl rfl, tb_mem (N := 241) rfl rfl, tb_sel (N := 6) rfl rfl, tb_mem (N := 2) rfl rfl, tb_mem (N := 242) rfl rfl, ⟨by decide, by decide, by decide +kernel⟩⟩
set_option maxRecDepth 20000 in
theorem k_Tape_80 : kS R_Tape 80 y_Tape_isDigit c_Tape_isDigit 1 (some .boolean) 1 := ⟨tb_mem (N := 243) rfl rfl, tb_mem (N := 244) rfl rfl, tb_mem (N := 2) rfl rfl, tb_mem (N := 245) rfl rfl, ⟨by decide, by decide, by decide +kernel⟩⟩
set_option maxRecDepth 20000 in
theorem kc_Tape_84 : Cond.constant R_Tape 84 (iI (100000)) ∈ tbg := tb_mem (N := 246) rfl rfl
set_option maxRecDepth 20000 in
theorem k_Tape_85 : kS R_Tape 85 y_Math_minI c_Math_minI 2 (some .int) 2 := ⟨tb_mem (N := 247) rfl rfl, tb_mem (N := 248) rfl rfl, tb_mem (N := 11) rfl rfl, tb_mem (N := 249) rfl rfl, ⟨by decide, by decide, by decide +kernel⟩⟩
set_option maxRecDepth 20000 in
theorem f_Tape_63 : fN R_Tape "ZoneClock" 63 "ZoneClock$Rule" 0 R_Rule T_Rule 4 0 := ⟨rfl, by decide, in_Rule, tb_mem (N := 57) rfl rfl, rfl⟩
set_option maxRecDepth 20000 in
theorem f_Tape_68 : fN R_Tape "ZoneClock" 68 "ZoneClock$Rule" 0 R_Rule T_Rule 4 1 := ⟨rfl, by decide, in_Rule, tb_mem (N := 59) rfl rfl, rfl⟩
set_option maxRecDepth 20000 in
theorem f_Tape_71 : fN R_Tape "ZoneClock" 71 "ZoneClock$Rule" 0 R_Rule T_Rule 4 2 := ⟨rfl, by decide, in_Rule, tb_mem (N := 61) rfl rfl, rfl⟩
set_option maxRecDepth 20000 in
theorem f_Tape_74 : fN R_Tape "ZoneClock" 74 "ZoneClock$Rule" 0 R_Rule T_Rule 4 3 := ⟨rfl, by decide, in_Rule, tb_mem (N := 63) rfl rfl, rfl⟩
set_option maxRecDepth 20000 in
theorem f_Zone_21 : fG R_Zone 21 "ZoneClock$Zone" 2 R_Zone T_Zone 4 0 := ⟨rfl, by decide, in_Zone, tb_mem (N := 73) rfl rfl, rfl⟩
set_option maxRecDepth 20000 in
theorem f_Zone_25 : fG R_Zone 25 "ZoneClock$Zone" 2 R_Zone T_Zone 4 1 := ⟨rfl, by decide, in_Zone, tb_mem (N := 75) rfl rfl, rfl⟩
set_option maxRecDepth 20000 in
theorem k_Zone_28 : kV R_Zone 28 y_Rule_become c_Rule_become 2 none 1 := ⟨tb_mem (N := 277) rfl rfl, tb_mem (N := 278) rfl rfl, tb_mem (N := 279) rfl rfl, tb_mem (N := 4) rfl rfl, tb_mem (N := 280) rfl rfl, ⟨by decide, by decide, by decide +kernel⟩⟩
set_option maxRecDepth 20000 in
theorem f_Rule_9 : fG R_Rule 9 "ZoneClock$Rule" 0 R_Rule T_Rule 4 0 := ⟨rfl, by decide, in_Rule, tb_mem (N := 56) rfl rfl, rfl⟩
set_option maxRecDepth 20000 in
theorem f_Rule_15 : fG R_Rule 15 "ZoneClock$Rule" 0 R_Rule T_Rule 4 1 := ⟨rfl, by decide, in_Rule, tb_mem (N := 58) rfl rfl, rfl⟩
set_option maxRecDepth 20000 in
theorem f_Rule_18 : fG R_Rule 18 "ZoneClock$Rule" 0 R_Rule T_Rule 4 2 := ⟨rfl, by decide, in_Rule, tb_mem (N := 60) rfl rfl, rfl⟩
set_option maxRecDepth 20000 in
theorem f_Rule_21 : fG R_Rule 21 "ZoneClock$Rule" 0 R_Rule T_Rule 4 3 := ⟨rfl, by decide, in_Rule, tb_mem (N := 62) rfl rfl, rfl⟩
set_option maxRecDepth 20000 in
theorem k_Law_27 : kV R_Law 27 y_Clk_local c_Clk_local 5 (some .long) 2 := ⟨tb_mem (N := 284) rfl rfl, tb_mem (N := 285) rfl rfl, tb_mem (N := 286) rfl rfl, tb_mem (N := 1) rfl rfl, tb_mem (N := 287) rfl rfl, ⟨by decide, by decide, by decide +kernel⟩⟩
set_option maxRecDepth 20000 in
theorem k_Clk_59 : kS R_Clk 59 y_Clk_checkTime c_Clk_checkTime 2 none 1 := ⟨tb_mem (N := 288) rfl rfl, tb_mem (N := 289) rfl rfl, tb_mem (N := 1) rfl rfl, tb_mem (N := 290) rfl rfl, ⟨by decide, by decide, by decide +kernel⟩⟩
set_option maxRecDepth 20000 in
theorem k_Clk_63 : kV R_Clk 63 y_Zone_minutesAt c_Zone_minutesAt 3 (some .int) 1 := ⟨tb_mem (N := 292) rfl rfl, tb_mem (N := 293) rfl rfl, tb_mem (N := 294) rfl rfl, tb_mem (N := 3) rfl rfl, tb_mem (N := 295) rfl rfl, ⟨by decide, by decide, by decide +kernel⟩⟩
set_option maxRecDepth 20000 in
theorem kc_Clk_67 : Cond.constantLong R_Clk 67 (lL (60000)) ∈ tbg := tb_mem (N := 340) rfl rfl
set_option maxRecDepth 20000 in
theorem kc_Clk_105 : Cond.constantLong R_Clk 105 (lL (10413791999999)) ∈ tbg := tb_mem (N := 291) rfl rfl
set_option maxRecDepth 20000 in
theorem k_Zone_36 : kV R_Zone 36 y_Zone_isSummer c_Zone_isSummer 3 (some .boolean) 1 := ⟨tb_mem (N := 296) rfl rfl, tb_mem (N := 297) rfl rfl, tb_mem (N := 298) rfl rfl, tb_mem (N := 3) rfl rfl, tb_mem (N := 299) rfl rfl, ⟨by decide, by decide, by decide +kernel⟩⟩
set_option maxRecDepth 20000 in
theorem k_Zone_32 : kV R_Zone 32 y_Rule_lastUpTo c_Rule_lastUpTo 7 (some .long) 2 := ⟨tb_mem (N := 300) rfl rfl, tb_mem (N := 301) rfl rfl, tb_mem (N := 302) rfl rfl, tb_mem (N := 4) rfl rfl, tb_mem (N := 303) rfl rfl, ⟨by decide, by decide, by decide +kernel⟩⟩
set_option maxRecDepth 20000 in
theorem kc_Rule_24 : Cond.constantLong R_Rule 24 (lL (60000)) ∈ tbg := tb_mem (N := 304) rfl rfl
set_option maxRecDepth 20000 in
theorem k_Rule_26 : kS R_Rule 26 y_Cal_dayAt c_Cal_dayAt 2 (some .int) 1 := ⟨tb_mem (N := 305) rfl rfl, tb_mem (N := 306) rfl rfl, tb_mem (N := 13) rfl rfl, tb_mem (N := 307) rfl rfl, ⟨by decide, by decide, by decide +kernel⟩⟩
set_option maxRecDepth 20000 in
theorem k_Rule_32 : kS R_Rule 32 y_Cal_yearOf c_Cal_yearOf 2 (some .int) 1 := ⟨tb_mem (N := 312) rfl rfl, tb_mem (N := 313) rfl rfl, tb_mem (N := 13) rfl rfl, tb_mem (N := 314) rfl rfl, ⟨by decide, by decide, by decide +kernel⟩⟩
set_option maxRecDepth 20000 in
theorem k_Rule_36 : kS R_Rule 36 y_Math_minI c_Math_minI 2 (some .int) 2 := ⟨tb_mem (N := 324) rfl rfl, tb_mem (N := 248) rfl rfl, tb_mem (N := 11) rfl rfl, tb_mem (N := 249) rfl rfl, ⟨by decide, by decide, by decide +kernel⟩⟩
set_option maxRecDepth 20000 in
theorem k_Rule_42 : kV R_Rule 42 y_Rule_momentIn c_Rule_momentIn 5 (some .long) 1 := ⟨tb_mem (N := 325) rfl rfl, tb_mem (N := 327) rfl rfl, tb_sel (N := 9) rfl rfl, tb_mem (N := 4) rfl rfl, tb_mem (N := 328) rfl rfl, ⟨by decide, by decide, by decide +kernel⟩⟩
set_option maxRecDepth 20000 in
theorem kc_Rule_46 : Cond.constantLong R_Rule 46 (lL (-1000000000000000)) ∈ tbg := tb_mem (N := 339) rfl rfl
set_option maxRecDepth 20000 in
theorem kc_Cal_31 : Cond.constantLong R_Cal 31 (lL (86400000)) ∈ tbg := tb_mem (N := 308) rfl rfl
set_option maxRecDepth 20000 in
theorem k_Cal_43 : kS R_Cal 43 y_Math_floorDivJ c_Math_floorDivJ 6 (some .long) 2 := ⟨tb_mem (N := 309) rfl rfl, tb_mem (N := 310) rfl rfl, tb_mem (N := 11) rfl rfl, tb_mem (N := 311) rfl rfl, ⟨by decide, by decide, by decide +kernel⟩⟩
set_option maxRecDepth 20000 in
theorem k_Cal_48 : kS R_Cal 48 y_Math_floorDivI c_Math_floorDivI 3 (some .int) 2 := ⟨tb_mem (N := 315) rfl rfl, tb_mem (N := 316) rfl rfl, tb_mem (N := 11) rfl rfl, tb_mem (N := 317) rfl rfl, ⟨by decide, by decide, by decide +kernel⟩⟩
set_option maxRecDepth 20000 in
theorem k_Cal_37 : kS R_Cal 37 y_Cal_firstDayOf c_Cal_firstDayOf 6 (some .int) 2 := ⟨tb_mem (N := 318) rfl rfl, tb_mem (N := 319) rfl rfl, tb_mem (N := 13) rfl rfl, tb_mem (N := 320) rfl rfl, ⟨by decide, by decide, by decide +kernel⟩⟩
set_option maxRecDepth 20000 in
theorem k_Cal_50 : kS R_Cal 50 y_Cal_lengthOf c_Cal_lengthOf 2 (some .int) 2 := ⟨tb_mem (N := 321) rfl rfl, tb_mem (N := 322) rfl rfl, tb_mem (N := 13) rfl rfl, tb_mem (N := 323) rfl rfl, ⟨by decide, by decide, by decide +kernel⟩⟩
set_option maxRecDepth 20000 in
theorem k_Rule_53 : kS R_Rule 53 y_Cal_firstDayOf c_Cal_firstDayOf 6 (some .int) 2 := ⟨tb_mem (N := 329) rfl rfl, tb_mem (N := 319) rfl rfl, tb_mem (N := 13) rfl rfl, tb_mem (N := 320) rfl rfl, ⟨by decide, by decide, by decide +kernel⟩⟩
set_option maxRecDepth 20000 in
theorem k_Rule_56 : kS R_Rule 56 y_Cal_weekdayOf c_Cal_weekdayOf 1 (some .int) 1 := ⟨tb_mem (N := 330) rfl rfl, tb_mem (N := 331) rfl rfl, tb_mem (N := 13) rfl rfl, tb_mem (N := 332) rfl rfl, ⟨by decide, by decide, by decide +kernel⟩⟩
set_option maxRecDepth 20000 in
theorem k_Rule_59 : kS R_Rule 59 y_Math_floorModI c_Math_floorModI 3 (some .int) 2 := ⟨tb_mem (N := 336) rfl rfl, tb_mem (N := 334) rfl rfl, tb_mem (N := 11) rfl rfl, tb_mem (N := 335) rfl rfl, ⟨by decide, by decide, by decide +kernel⟩⟩
set_option maxRecDepth 20000 in
theorem k_Rule_62 : kS R_Rule 62 y_Cal_lengthOf c_Cal_lengthOf 2 (some .int) 2 := ⟨tb_mem (N := 337) rfl rfl, tb_mem (N := 322) rfl rfl, tb_mem (N := 13) rfl rfl, tb_mem (N := 323) rfl rfl, ⟨by decide, by decide, by decide +kernel⟩⟩
set_option maxRecDepth 20000 in
theorem kc_Rule_65 : Cond.constantLong R_Rule 65 (lL (86400000)) ∈ tbg := tb_mem (N := 338) rfl rfl
set_option maxRecDepth 20000 in
theorem k_Cal_46 : kS R_Cal 46 y_Math_floorModI c_Math_floorModI 3 (some .int) 2 := ⟨tb_mem (N := 333) rfl rfl, tb_mem (N := 334) rfl rfl, tb_mem (N := 11) rfl rfl, tb_mem (N := 335) rfl rfl, ⟨by decide, by decide, by decide +kernel⟩⟩
set_option maxRecDepth 20000 in
theorem k_Law_31 : kV R_Law 31 y_Clk_many c_Clk_many 7 (some .int) 2 := ⟨tb_mem (N := 344) rfl rfl, tb_mem (N := 345) rfl rfl, tb_mem (N := 346) rfl rfl, tb_mem (N := 1) rfl rfl, tb_mem (N := 347) rfl rfl, ⟨by decide, by decide, by decide +kernel⟩⟩
set_option maxRecDepth 20000 in
theorem k_Clk_69 : kV R_Clk 69 y_Zone_isReadInSummer c_Zone_isReadInSummer 3 (some .boolean) 1 := ⟨tb_mem (N := 348) rfl rfl, tb_mem (N := 349) rfl rfl, tb_mem (N := 350) rfl rfl, tb_mem (N := 3) rfl rfl, tb_mem (N := 351) rfl rfl, ⟨by decide, by decide, by decide +kernel⟩⟩
set_option maxRecDepth 20000 in
theorem k_Clk_73 : kV R_Clk 73 y_Zone_isReadOutsideSummer c_Zone_isReadOutsideSummer 3 (some .boolean) 1 := ⟨tb_mem (N := 357) rfl rfl, tb_mem (N := 358) rfl rfl, tb_mem (N := 359) rfl rfl, tb_mem (N := 3) rfl rfl, tb_mem (N := 360) rfl rfl, ⟨by decide, by decide, by decide +kernel⟩⟩
set_option maxRecDepth 20000 in
theorem k_Zone_46 : kV R_Zone 46 y_Zone_fromSummerReading c_Zone_fromSummerReading 3 (some .long) 1 := ⟨tb_mem (N := 352) rfl rfl, tb_mem (N := 353) rfl rfl, tb_mem (N := 354) rfl rfl, tb_mem (N := 3) rfl rfl, tb_mem (N := 355) rfl rfl, ⟨by decide, by decide, by decide +kernel⟩⟩
set_option maxRecDepth 20000 in
theorem kc_Zone_40 : Cond.constantLong R_Zone 40 (lL (60000)) ∈ tbg := tb_mem (N := 356) rfl rfl
set_option maxRecDepth 20000 in
theorem k_Zone_42 : kV R_Zone 42 y_Zone_fromPlainReading c_Zone_fromPlainReading 3 (some .long) 1 := ⟨tb_mem (N := 361) rfl rfl, tb_mem (N := 362) rfl rfl, tb_mem (N := 363) rfl rfl, tb_mem (N := 3) rfl rfl, tb_mem (N := 364) rfl rfl, ⟨by decide, by decide, by decide +kernel⟩⟩
set_option maxRecDepth 20000 in
theorem k_Law_35 : kV R_Law 35 y_Clk_universal c_Clk_universal 9 (some .long) 3 := ⟨tb_mem (N := 369) rfl rfl, tb_mem (N := 370) rfl rfl, tb_mem (N := 371) rfl rfl, tb_mem (N := 1) rfl rfl, tb_mem (N := 372) rfl rfl, ⟨by decide, by decide, by decide +kernel⟩⟩
set_option maxRecDepth 20000 in
theorem k_Clk_79 : kV R_Clk 79 y_Zone_fromSummerReading c_Zone_fromSummerReading 3 (some .long) 1 := ⟨tb_mem (N := 388) rfl rfl, tb_mem (N := 353) rfl rfl, tb_mem (N := 354) rfl rfl, tb_mem (N := 3) rfl rfl, tb_mem (N := 355) rfl rfl, ⟨by decide, by decide, by decide +kernel⟩⟩
set_option maxRecDepth 20000 in
theorem k_Clk_83 : kV R_Clk 83 y_Zone_fromPlainReading c_Zone_fromPlainReading 3 (some .long) 1 := ⟨tb_mem (N := 389) rfl rfl, tb_mem (N := 362) rfl rfl, tb_mem (N := 363) rfl rfl, tb_mem (N := 3) rfl rfl, tb_mem (N := 364) rfl rfl, ⟨by decide, by decide, by decide +kernel⟩⟩
set_option maxRecDepth 20000 in
theorem k_Law_41 : kV R_Law 41 y_Clk_change c_Clk_change 8 (some .long) 3 := ⟨tb_mem (N := 393) rfl rfl, tb_mem (N := 394) rfl rfl, tb_mem (N := 395) rfl rfl, tb_mem (N := 1) rfl rfl, tb_mem (N := 396) rfl rfl, ⟨by decide, by decide, by decide +kernel⟩⟩
set_option maxRecDepth 20000 in
theorem k_Clk_86 : kV R_Clk 86 y_Zone_lastChangeUpTo c_Zone_lastChangeUpTo 3 (some .long) 1 := ⟨tb_mem (N := 397) rfl rfl, tb_mem (N := 398) rfl rfl, tb_mem (N := 399) rfl rfl, tb_mem (N := 3) rfl rfl, tb_mem (N := 400) rfl rfl, ⟨by decide, by decide, by decide +kernel⟩⟩
set_option maxRecDepth 20000 in
theorem k_Clk_89 : kV R_Clk 89 y_Zone_firstChangeBehind c_Zone_firstChangeBehind 3 (some .long) 1 := ⟨tb_mem (N := 405) rfl rfl, tb_mem (N := 406) rfl rfl, tb_mem (N := 407) rfl rfl, tb_mem (N := 3) rfl rfl, tb_mem (N := 408) rfl rfl, ⟨by decide, by decide, by decide +kernel⟩⟩
set_option maxRecDepth 20000 in
theorem kc_Clk_92 : Cond.constantLong R_Clk 92 (lL (1000000000000000)) ∈ tbg := tb_mem (N := 421) rfl rfl
set_option maxRecDepth 20000 in
theorem kc_Clk_94 : Cond.constantLong R_Clk 94 (lL (-1)) ∈ tbg := tb_mem (N := 422) rfl rfl
set_option maxRecDepth 20000 in
theorem kc_Zone_49 : Cond.constantLong R_Zone 49 (lL (-1000000000000000)) ∈ tbg := tb_mem (N := 401) rfl rfl
set_option maxRecDepth 20000 in
theorem k_Zone_51 : kS R_Zone 51 y_Math_maxJ c_Math_maxJ 4 (some .long) 2 := ⟨tb_mem (N := 402) rfl rfl, tb_mem (N := 403) rfl rfl, tb_mem (N := 11) rfl rfl, tb_mem (N := 404) rfl rfl, ⟨by decide, by decide, by decide +kernel⟩⟩
set_option maxRecDepth 20000 in
theorem kc_Zone_57 : Cond.constantLong R_Zone 57 (lL (1000000000000000)) ∈ tbg := tb_mem (N := 409) rfl rfl
set_option maxRecDepth 20000 in
theorem k_Zone_59 : kV R_Zone 59 y_Rule_firstBehind c_Rule_firstBehind 7 (some .long) 2 := ⟨tb_mem (N := 410) rfl rfl, tb_mem (N := 411) rfl rfl, tb_mem (N := 412) rfl rfl, tb_mem (N := 4) rfl rfl, tb_mem (N := 413) rfl rfl, ⟨by decide, by decide, by decide +kernel⟩⟩
set_option maxRecDepth 20000 in
theorem k_Zone_62 : kS R_Zone 62 y_Math_minJ c_Math_minJ 4 (some .long) 2 := ⟨tb_mem (N := 418) rfl rfl, tb_mem (N := 419) rfl rfl, tb_mem (N := 11) rfl rfl, tb_mem (N := 420) rfl rfl, ⟨by decide, by decide, by decide +kernel⟩⟩
set_option maxRecDepth 20000 in
theorem k_Rule_48 : kS R_Rule 48 y_Math_maxI c_Math_maxI 2 (some .int) 2 := ⟨tb_mem (N := 414) rfl rfl, tb_mem (N := 415) rfl rfl, tb_mem (N := 11) rfl rfl, tb_mem (N := 416) rfl rfl, ⟨by decide, by decide, by decide +kernel⟩⟩
set_option maxRecDepth 20000 in
theorem kc_Rule_51 : Cond.constantLong R_Rule 51 (lL (1000000000000000)) ∈ tbg := tb_mem (N := 417) rfl rfl
set_option maxRecDepth 20000 in
theorem k_Law_44 : kV R_Law 44 y_Clk_field c_Clk_field 7 (some .int) 3 := ⟨tb_mem (N := 426) rfl rfl, tb_mem (N := 427) rfl rfl, tb_mem (N := 428) rfl rfl, tb_mem (N := 1) rfl rfl, tb_mem (N := 429) rfl rfl, ⟨by decide, by decide, by decide +kernel⟩⟩
set_option maxRecDepth 20000 in
theorem k_Clk_96 : kV R_Clk 96 y_Zone_isSummer c_Zone_isSummer 3 (some .boolean) 1 := ⟨tb_mem (N := 430) rfl rfl, tb_mem (N := 297) rfl rfl, tb_mem (N := 298) rfl rfl, tb_mem (N := 3) rfl rfl, tb_mem (N := 299) rfl rfl, ⟨by decide, by decide, by decide +kernel⟩⟩
set_option maxRecDepth 20000 in
theorem k_Clk_99 : kS R_Clk 99 y_Cal_partOf c_Cal_partOf 5 (some .int) 2 := ⟨tb_mem (N := 431) rfl rfl, tb_mem (N := 432) rfl rfl, tb_mem (N := 13) rfl rfl, tb_mem (N := 433) rfl rfl, ⟨by decide, by decide, by decide +kernel⟩⟩
set_option maxRecDepth 20000 in
theorem k_Cal_9 : kS R_Cal 9 y_Cal_dayAt c_Cal_dayAt 2 (some .int) 1 := ⟨tb_mem (N := 434) rfl rfl, tb_mem (N := 306) rfl rfl, tb_mem (N := 13) rfl rfl, tb_mem (N := 307) rfl rfl, ⟨by decide, by decide, by decide +kernel⟩⟩
set_option maxRecDepth 20000 in
theorem k_Cal_15 : kS R_Cal 15 y_Cal_yearOf c_Cal_yearOf 2 (some .int) 1 := ⟨tb_mem (N := 435) rfl rfl, tb_mem (N := 313) rfl rfl, tb_mem (N := 13) rfl rfl, tb_mem (N := 314) rfl rfl, ⟨by decide, by decide, by decide +kernel⟩⟩
set_option maxRecDepth 20000 in
theorem kc_Cal_19 : Cond.constantLong R_Cal 19 (lL (60000)) ∈ tbg := tb_mem (N := 436) rfl rfl
set_option maxRecDepth 20000 in
theorem k_Cal_21 : kS R_Cal 21 y_Math_floorModJ c_Math_floorModJ 6 (some .long) 2 := ⟨tb_mem (N := 437) rfl rfl, tb_mem (N := 438) rfl rfl, tb_mem (N := 11) rfl rfl, tb_mem (N := 439) rfl rfl, ⟨by decide, by decide, by decide +kernel⟩⟩
set_option maxRecDepth 20000 in
theorem kc_Cal_27 : Cond.constantLong R_Cal 27 (lL (1000)) ∈ tbg := tb_mem (N := 440) rfl rfl
set_option maxRecDepth 20000 in
theorem kc_Cal_29 : Cond.constantLong R_Cal 29 (lL (3600000)) ∈ tbg := tb_mem (N := 441) rfl rfl
set_option maxRecDepth 20000 in
theorem k_Cal_33 : kS R_Cal 33 y_Cal_monthOf c_Cal_monthOf 3 (some .int) 2 := ⟨tb_mem (N := 442) rfl rfl, tb_mem (N := 443) rfl rfl, tb_mem (N := 13) rfl rfl, tb_mem (N := 444) rfl rfl, ⟨by decide, by decide, by decide +kernel⟩⟩
set_option maxRecDepth 20000 in
theorem k_Cal_40 : kS R_Cal 40 y_Cal_weekdayOf c_Cal_weekdayOf 1 (some .int) 1 := ⟨tb_mem (N := 445) rfl rfl, tb_mem (N := 331) rfl rfl, tb_mem (N := 13) rfl rfl, tb_mem (N := 332) rfl rfl, ⟨by decide, by decide, by decide +kernel⟩⟩
set_option maxRecDepth 20000 in
theorem f_Ref_7 : fG R_Ref 7 "ZoneClockModel" 4 R_Ref T_Ref 15 1 := ⟨rfl, by decide, in_Ref, tb_mem (N := 457) rfl rfl, rfl⟩
set_option maxRecDepth 20000 in
theorem f_Ref_13 : fG R_Ref 13 "ZoneClockModel" 4 R_Ref T_Ref 15 3 := ⟨rfl, by decide, in_Ref, tb_mem (N := 459) rfl rfl, rfl⟩
set_option maxRecDepth 20000 in
theorem f_Ref_17 : fG R_Ref 17 "ZoneClockModel" 4 R_Ref T_Ref 15 8 := ⟨rfl, by decide, in_Ref, tb_mem (N := 464) rfl rfl, rfl⟩
set_option maxRecDepth 20000 in
theorem f_Ref_21 : fG R_Ref 21 "ZoneClockModel" 4 R_Ref T_Ref 15 9 := ⟨rfl, by decide, in_Ref, tb_mem (N := 465) rfl rfl, rfl⟩
set_option maxRecDepth 20000 in
theorem f_Ref_26 : fG R_Ref 26 "ZoneClockModel" 4 R_Ref T_Ref 15 10 := ⟨rfl, by decide, in_Ref, tb_mem (N := 466) rfl rfl, rfl⟩
set_option maxRecDepth 20000 in
theorem f_Ref_31 : fG R_Ref 31 "ZoneClockModel" 4 R_Ref T_Ref 15 11 := ⟨rfl, by decide, in_Ref, tb_mem (N := 467) rfl rfl, rfl⟩
set_option maxRecDepth 20000 in
theorem f_Ref_34 : fG R_Ref 34 "ZoneClockModel" 4 R_Ref T_Ref 15 12 := ⟨rfl, by decide, in_Ref, tb_mem (N := 468) rfl rfl, rfl⟩
set_option maxRecDepth 20000 in
theorem f_Ref_37 : fG R_Ref 37 "ZoneClockModel" 4 R_Ref T_Ref 15 13 := ⟨rfl, by decide, in_Ref, tb_mem (N := 469) rfl rfl, rfl⟩
set_option maxRecDepth 20000 in
theorem f_Ref_40 : fG R_Ref 40 "ZoneClockModel" 4 R_Ref T_Ref 15 14 := ⟨rfl, by decide, in_Ref, tb_mem (N := 470) rfl rfl, rfl⟩
set_option maxRecDepth 20000 in
theorem f_Ref_44 : fG R_Ref 44 "ZoneClockModel" 4 R_Ref T_Ref 15 0 := ⟨rfl, by decide, in_Ref, tb_mem (N := 456) rfl rfl, rfl⟩
set_option maxRecDepth 20000 in
theorem k_Ref_109 : kV R_Ref 109 y_Ref_readZone c_Ref_readZone 6 none 1 := ⟨tb_mem (N := 514) rfl rfl, tb_mem (N := 516) rfl rfl, tb_sel (N := 10) rfl rfl, tb_mem (N := 5) rfl rfl, tb_mem (N := 517) rfl rfl, ⟨by decide, by decide, by decide +kernel⟩⟩
set_option maxRecDepth 20000 in
theorem f_Ref_81 : fG R_Ref 81 "ZoneClockModel" 4 R_Ref T_Ref 15 2 := ⟨rfl, by decide, in_Ref, tb_mem (N := 458) rfl rfl, rfl⟩
set_option maxRecDepth 20000 in
theorem f_Ref_78 : fG R_Ref 78 "ZoneClockModel" 4 R_Ref T_Ref 15 7 := ⟨rfl, by decide, in_Ref, tb_mem (N := 463) rfl rfl, rfl⟩
set_option maxRecDepth 20000 in
theorem k_Ref_84 : kV R_Ref 84 y_Ref_peek c_Ref_peek 1 (some .int) 0 := ⟨tb_mem (N := 518) rfl rfl, tb_mem (N := 520) rfl rfl, tb_sel (N := 11) rfl rfl, tb_mem (N := 5) rfl rfl, tb_mem (N := 521) rfl rfl, ⟨by decide, by decide, by decide +kernel⟩⟩
set_option maxRecDepth 20000 in
theorem k_Ref_88 : kV R_Ref 88 y_Ref_bad c_Ref_bad 2 none 1 := ⟨tb_mem (N := 522) rfl rfl, tb_mem (N := 524) rfl rfl, tb_sel (N := 12) rfl rfl, tb_mem (N := 5) rfl rfl, tb_mem (N := 525) rfl rfl, ⟨by decide, by decide, by decide +kernel⟩⟩
set_option maxRecDepth 20000 in
theorem k_Ref_102 : kV R_Ref 102 y_Ref_ranged c_Ref_ranged 5 (some .int) 2 := ⟨tb_mem (N := 527) rfl rfl, tb_mem (N := 529) rfl rfl, tb_sel (N := 13) rfl rfl, tb_mem (N := 5) rfl rfl, tb_mem (N := 530) rfl rfl, ⟨by decide, by decide, by decide +kernel⟩⟩
set_option maxRecDepth 20000 in
theorem k_Ref_112 : kV R_Ref 112 y_Ref_blanks c_Ref_blanks 1 none 0 := ⟨tb_mem (N := 536) rfl rfl, tb_mem (N := 538) rfl rfl, tb_sel (N := 14) rfl rfl, tb_mem (N := 5) rfl rfl, tb_mem (N := 539) rfl rfl, ⟨by decide, by decide, by decide +kernel⟩⟩
set_option maxRecDepth 20000 in
theorem k_Ref_115 : kV R_Ref 115 y_Ref_rule c_Ref_rule 2 none 1 := ⟨tb_mem (N := 540) rfl rfl, tb_mem (N := 542) rfl rfl, tb_sel (N := 15) rfl rfl, tb_mem (N := 5) rfl rfl, tb_mem (N := 543) rfl rfl, ⟨by decide, by decide, by decide +kernel⟩⟩
set_option maxRecDepth 20000 in
theorem k_Ref_117 : kV R_Ref 117 y_Ref_ruleDay c_Ref_ruleDay 5 (some .int) 2 := ⟨tb_mem (N := 548) rfl rfl, tb_mem (N := 550) rfl rfl, tb_sel (N := 17) rfl rfl, tb_mem (N := 5) rfl rfl, tb_mem (N := 551) rfl rfl, ⟨by decide, by decide, by decide +kernel⟩⟩
set_option maxRecDepth 20000 in
theorem kc_Ref_120 : Cond.constantLong R_Ref 120 (lL (86400000)) ∈ tbg := tb_mem (N := 565) rfl rfl
set_option maxRecDepth 20000 in
theorem kc_Ref_122 : Cond.constantLong R_Ref 122 (lL (60000)) ∈ tbg := tb_mem (N := 566) rfl rfl
set_option maxRecDepth 20000 in
theorem k_Ref_124 : kV R_Ref 124 y_Ref_event c_Ref_event 6 none 3 := ⟨tb_mem (N := 567) rfl rfl, tb_mem (N := 569) rfl rfl, tb_sel (N := 18) rfl rfl, tb_mem (N := 5) rfl rfl, tb_mem (N := 570) rfl rfl, ⟨by decide, by decide, by decide +kernel⟩⟩
set_option maxRecDepth 20000 in
theorem k_Ref_92 : kS R_Ref 92 y_Ref_digit c_Ref_digit 1 (some .boolean) 1 := ⟨tb_mem (N := 531) rfl rfl, tb_mem (N := 532) rfl rfl, tb_mem (N := 5) rfl rfl, tb_mem (N := 533) rfl rfl, ⟨by decide, by decide, by decide +kernel⟩⟩
set_option maxRecDepth 20000 in
theorem kc_Ref_95 : Cond.constant R_Ref 95 (iI (100000)) ∈ tbg := tb_mem (N := 534) rfl rfl
set_option maxRecDepth 20000 in
theorem k_Ref_96 : kS R_Ref 96 y_Math_minI c_Math_minI 2 (some .int) 2 := ⟨tb_mem (N := 535) rfl rfl, tb_mem (N := 248) rfl rfl, tb_mem (N := 11) rfl rfl, tb_mem (N := 249) rfl rfl, ⟨by decide, by decide, by decide +kernel⟩⟩
set_option maxRecDepth 20000 in
theorem k_Ref_99 : kV R_Ref 99 y_Ref_expect c_Ref_expect 2 none 1 := ⟨tb_mem (N := 544) rfl rfl, tb_mem (N := 546) rfl rfl, tb_sel (N := 16) rfl rfl, tb_mem (N := 5) rfl rfl, tb_mem (N := 547) rfl rfl, ⟨by decide, by decide, by decide +kernel⟩⟩
set_option maxRecDepth 20000 in
theorem k_Ref_63 : kS R_Ref 63 y_Ref_number c_Ref_number 5 (some .int) 2 := ⟨tb_mem (N := 552) rfl rfl, tb_mem (N := 553) rfl rfl, tb_mem (N := 5) rfl rfl, tb_mem (N := 554) rfl rfl, ⟨by decide, by decide, by decide +kernel⟩⟩
set_option maxRecDepth 20000 in
theorem k_Ref_105 : kS R_Ref 105 y_Ref_weekday c_Ref_weekday 1 (some .int) 1 := ⟨tb_mem (N := 561) rfl rfl, tb_mem (N := 562) rfl rfl, tb_mem (N := 5) rfl rfl, tb_mem (N := 563) rfl rfl, ⟨by decide, by decide, by decide +kernel⟩⟩
set_option maxRecDepth 20000 in
theorem k_Ref_72 : kS R_Ref 72 y_Math_floorModI c_Math_floorModI 3 (some .int) 2 := ⟨tb_mem (N := 564) rfl rfl, tb_mem (N := 334) rfl rfl, tb_mem (N := 11) rfl rfl, tb_mem (N := 335) rfl rfl, ⟨by decide, by decide, by decide +kernel⟩⟩
set_option maxRecDepth 20000 in
theorem k_Ref_51 : kS R_Ref 51 y_Ref_length c_Ref_length 2 (some .int) 2 := ⟨tb_mem (N := 555) rfl rfl, tb_mem (N := 556) rfl rfl, tb_mem (N := 5) rfl rfl, tb_mem (N := 557) rfl rfl, ⟨by decide, by decide, by decide +kernel⟩⟩
set_option maxRecDepth 20000 in
theorem k_Ref_47 : kS R_Ref 47 y_Ref_leap c_Ref_leap 1 (some .boolean) 1 := ⟨tb_mem (N := 558) rfl rfl, tb_mem (N := 559) rfl rfl, tb_mem (N := 5) rfl rfl, tb_mem (N := 560) rfl rfl, ⟨by decide, by decide, by decide +kernel⟩⟩
set_option maxRecDepth 20000 in
theorem k_Ref_137 : kV R_Ref 137 y_Ref_out c_Ref_out 4 (some .boolean) 2 := ⟨tb_mem (N := 575) rfl rfl, tb_mem (N := 577) rfl rfl, tb_sel (N := 19) rfl rfl, tb_mem (N := 5) rfl rfl, tb_mem (N := 578) rfl rfl, ⟨by decide, by decide, by decide +kernel⟩⟩
set_option maxRecDepth 20000 in
theorem k_Ref_141 : kV R_Ref 141 y_Ref_fail c_Ref_fail 2 (some .int) 1 := ⟨tb_mem (N := 580) rfl rfl, tb_mem (N := 582) rfl rfl, tb_sel (N := 20) rfl rfl, tb_mem (N := 5) rfl rfl, tb_mem (N := 583) rfl rfl, ⟨by decide, by decide, by decide +kernel⟩⟩
set_option maxRecDepth 20000 in
theorem k_Ref_144 : kV R_Ref 144 y_Ref_localAt c_Ref_localAt 4 (some .long) 2 := ⟨tb_mem (N := 584) rfl rfl, tb_mem (N := 586) rfl rfl, tb_sel (N := 21) rfl rfl, tb_mem (N := 5) rfl rfl, tb_mem (N := 587) rfl rfl, ⟨by decide, by decide, by decide +kernel⟩⟩
set_option maxRecDepth 20000 in
theorem kc_Ref_135 : Cond.constantLong R_Ref 135 (lL (10413791999999)) ∈ tbg := tb_mem (N := 579) rfl rfl
set_option maxRecDepth 20000 in
theorem k_Ref_128 : kV R_Ref 128 y_Ref_passed c_Ref_passed 7 (some .int) 2 := ⟨tb_mem (N := 588) rfl rfl, tb_mem (N := 590) rfl rfl, tb_sel (N := 22) rfl rfl, tb_mem (N := 5) rfl rfl, tb_mem (N := 591) rfl rfl, ⟨by decide, by decide, by decide +kernel⟩⟩
set_option maxRecDepth 20000 in
theorem k_Ref_132 : kV R_Ref 132 y_Ref_minutes c_Ref_minutes 3 (some .int) 2 := ⟨tb_mem (N := 592) rfl rfl, tb_mem (N := 594) rfl rfl, tb_sel (N := 23) rfl rfl, tb_mem (N := 5) rfl rfl, tb_mem (N := 595) rfl rfl, ⟨by decide, by decide, by decide +kernel⟩⟩
set_option maxRecDepth 20000 in
theorem k_Ref_148 : kV R_Ref 148 y_Ref_find c_Ref_find 9 (some .int) 2 := ⟨tb_mem (N := 600) rfl rfl, tb_mem (N := 602) rfl rfl, tb_sel (N := 24) rfl rfl, tb_mem (N := 5) rfl rfl, tb_mem (N := 603) rfl rfl, ⟨by decide, by decide, by decide +kernel⟩⟩
set_option maxRecDepth 20000 in
theorem kc_Ref_151 : Cond.constantLong R_Ref 151 (lL (-1)) ∈ tbg := tb_mem (N := 612) rfl rfl
set_option maxRecDepth 20000 in
theorem kc_Ref_153 : Cond.constantLong R_Ref 153 (lL (1000)) ∈ tbg := tb_mem (N := 617) rfl rfl
set_option maxRecDepth 20000 in
theorem k_Ref_155 : kS R_Ref 155 y_Math_floorDivJ c_Math_floorDivJ 6 (some .long) 2 := ⟨tb_mem (N := 618) rfl rfl, tb_mem (N := 310) rfl rfl, tb_mem (N := 11) rfl rfl, tb_mem (N := 311) rfl rfl, ⟨by decide, by decide, by decide +kernel⟩⟩
set_option maxRecDepth 20000 in
theorem kc_Ref_158 : Cond.constantLong R_Ref 158 (lL (60)) ∈ tbg := tb_mem (N := 619) rfl rfl
set_option maxRecDepth 20000 in
theorem kc_Ref_160 : Cond.constantLong R_Ref 160 (lL (86400)) ∈ tbg := tb_mem (N := 620) rfl rfl
set_option maxRecDepth 20000 in
theorem k_Ref_162 : kS R_Ref 162 y_Math_floorModJ c_Math_floorModJ 6 (some .long) 2 := ⟨tb_mem (N := 621) rfl rfl, tb_mem (N := 438) rfl rfl, tb_mem (N := 11) rfl rfl, tb_mem (N := 439) rfl rfl, ⟨by decide, by decide, by decide +kernel⟩⟩
set_option maxRecDepth 20000 in
theorem k_Ref_164 : kV R_Ref 164 y_Ref_date c_Ref_date 3 none 1 := ⟨tb_mem (N := 622) rfl rfl, tb_mem (N := 624) rfl rfl, tb_sel (N := 25) rfl rfl, tb_mem (N := 5) rfl rfl, tb_mem (N := 625) rfl rfl, ⟨by decide, by decide, by decide +kernel⟩⟩
set_option maxRecDepth 20000 in
theorem f_Ref_69 : fG R_Ref 69 "ZoneClockModel" 4 R_Ref T_Ref 15 6 := ⟨rfl, by decide, in_Ref, tb_mem (N := 462) rfl rfl, rfl⟩
set_option maxRecDepth 20000 in
theorem f_Ref_66 : fG R_Ref 66 "ZoneClockModel" 4 R_Ref T_Ref 15 5 := ⟨rfl, by decide, in_Ref, tb_mem (N := 461) rfl rfl, rfl⟩
set_option maxRecDepth 20000 in
theorem f_Ref_60 : fG R_Ref 60 "ZoneClockModel" 4 R_Ref T_Ref 15 4 := ⟨rfl, by decide, in_Ref, tb_mem (N := 460) rfl rfl, rfl⟩
set_option maxRecDepth 20000 in
theorem k_Ref_167 : kV R_Ref 167 y_Ref_summer c_Ref_summer 3 (some .boolean) 2 := ⟨tb_mem (N := 627) rfl rfl, tb_mem (N := 629) rfl rfl, tb_sel (N := 26) rfl rfl, tb_mem (N := 5) rfl rfl, tb_mem (N := 630) rfl rfl, ⟨by decide, by decide, by decide +kernel⟩⟩
set_option maxRecDepth 20000 in
theorem k_Ref_55 : kS R_Ref 55 y_Math_floorDivI c_Math_floorDivI 3 (some .int) 2 := ⟨tb_mem (N := 626) rfl rfl, tb_mem (N := 316) rfl rfl, tb_mem (N := 11) rfl rfl, tb_mem (N := 317) rfl rfl, ⟨by decide, by decide, by decide +kernel⟩⟩
set_option maxRecDepth 20000 in
theorem k_Law_57 : kV R_Law 57 y_Ref_feed c_Ref_feed 8 (some .int) 5 := ⟨tb_mem (N := 635) rfl rfl, tb_mem (N := 636) rfl rfl, tb_mem (N := 637) rfl rfl, tb_mem (N := 5) rfl rfl, tb_mem (N := 638) rfl rfl, ⟨by decide, by decide, by decide +kernel⟩⟩
set_option maxRecDepth 20000 in
theorem k_Law_58 : kV R_Law 58 y_Ref_thrown c_Ref_thrown 1 (some .int) 0 := ⟨tb_mem (N := 505) rfl rfl, tb_mem (N := 506) rfl rfl, tb_mem (N := 507) rfl rfl, tb_mem (N := 5) rfl rfl, tb_mem (N := 508) rfl rfl, ⟨by decide, by decide, by decide +kernel⟩⟩
set_option maxRecDepth 20000 in
theorem k_Law_65 : kV R_Law 65 y_Ref_end c_Ref_end 2 (some .int) 1 := ⟨tb_mem (N := 639) rfl rfl, tb_mem (N := 640) rfl rfl, tb_mem (N := 641) rfl rfl, tb_mem (N := 5) rfl rfl, tb_mem (N := 642) rfl rfl, ⟨by decide, by decide, by decide +kernel⟩⟩
set_option maxRecDepth 20000 in
theorem kc_Law_70 : Cond.constantLong R_Law 70 (lL (4294967295)) ∈ tbg := tb_mem (N := 643) rfl rfl
set_option maxRecDepth 20000 in
theorem k_Law_75 : kV R_Law 75 y_Ref_local c_Ref_local 4 (some .long) 2 := ⟨tb_mem (N := 571) rfl rfl, tb_mem (N := 572) rfl rfl, tb_mem (N := 573) rfl rfl, tb_mem (N := 5) rfl rfl, tb_mem (N := 574) rfl rfl, ⟨by decide, by decide, by decide +kernel⟩⟩
set_option maxRecDepth 20000 in
theorem k_Law_78 : kV R_Law 78 y_Ref_many c_Ref_many 4 (some .int) 2 := ⟨tb_mem (N := 596) rfl rfl, tb_mem (N := 597) rfl rfl, tb_mem (N := 598) rfl rfl, tb_mem (N := 5) rfl rfl, tb_mem (N := 599) rfl rfl, ⟨by decide, by decide, by decide +kernel⟩⟩
set_option maxRecDepth 20000 in
theorem k_Law_82 : kV R_Law 82 y_Ref_universal c_Ref_universal 6 (some .long) 3 := ⟨tb_mem (N := 604) rfl rfl, tb_mem (N := 605) rfl rfl, tb_mem (N := 606) rfl rfl, tb_mem (N := 5) rfl rfl, tb_mem (N := 607) rfl rfl, ⟨by decide, by decide, by decide +kernel⟩⟩
set_option maxRecDepth 20000 in
theorem k_Law_85 : kV R_Law 85 y_Ref_change c_Ref_change 6 (some .long) 3 := ⟨tb_mem (N := 608) rfl rfl, tb_mem (N := 609) rfl rfl, tb_mem (N := 610) rfl rfl, tb_mem (N := 5) rfl rfl, tb_mem (N := 611) rfl rfl, ⟨by decide, by decide, by decide +kernel⟩⟩
set_option maxRecDepth 20000 in
theorem k_Law_89 : kV R_Law 89 y_Ref_field c_Ref_field 10 (some .int) 3 := ⟨tb_mem (N := 613) rfl rfl, tb_mem (N := 614) rfl rfl, tb_mem (N := 615) rfl rfl, tb_mem (N := 5) rfl rfl, tb_mem (N := 616) rfl rfl, ⟨by decide, by decide, by decide +kernel⟩⟩
set_option maxRecDepth 20000 in
theorem k_Law_90 : kV R_Law 90 y_Clk_place c_Clk_place 1 (some .int) 0 := ⟨tb_mem (N := 104) rfl rfl, tb_mem (N := 105) rfl rfl, tb_mem (N := 106) rfl rfl, tb_mem (N := 1) rfl rfl, tb_mem (N := 107) rfl rfl, ⟨by decide, by decide, by decide +kernel⟩⟩
set_option maxRecDepth 20000 in
theorem k_Law_93 : kV R_Law 93 y_Ref_place c_Ref_place 1 (some .int) 0 := ⟨tb_mem (N := 631) rfl rfl, tb_mem (N := 632) rfl rfl, tb_mem (N := 633) rfl rfl, tb_mem (N := 5) rfl rfl, tb_mem (N := 634) rfl rfl, ⟨by decide, by decide, by decide +kernel⟩⟩
