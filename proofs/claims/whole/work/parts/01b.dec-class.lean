/-! Decode rows. By program (wip/whole/names.py). -/
theorem d_Clk_init_0 : decode c_Clk_init 0 = .ok (.aload_n 0, 1) := by decide +kernel
theorem d_Clk_init_1 : decode c_Clk_init 1 = .ok (.invokespecial 1, 3) := by decide +kernel
theorem d_Clk_init_4 : decode c_Clk_init 4 = .ok (.aload_n 0, 1) := by decide +kernel
theorem d_Clk_init_5 : decode c_Clk_init 5 = .ok (.new 7, 3) := by decide +kernel
theorem d_Clk_init_8 : decode c_Clk_init 8 = .ok (.dup, 1) := by decide +kernel
theorem d_Clk_init_9 : decode c_Clk_init 9 = .ok (.invokespecial 9, 3) := by decide +kernel
theorem d_Clk_init_12 : decode c_Clk_init 12 = .ok (.putfield 10, 3) := by decide +kernel
theorem d_Clk_init_15 : decode c_Clk_init 15 = .ok (.aload_n 0, 1) := by decide +kernel
theorem d_Clk_init_16 : decode c_Clk_init 16 = .ok (.new 16, 3) := by decide +kernel
theorem d_Clk_init_19 : decode c_Clk_init 19 = .ok (.dup, 1) := by decide +kernel
theorem d_Clk_init_20 : decode c_Clk_init 20 = .ok (.invokespecial 18, 3) := by decide +kernel
theorem d_Clk_init_23 : decode c_Clk_init 23 = .ok (.putfield 19, 3) := by decide +kernel
theorem d_Clk_init_26 : decode c_Clk_init 26 = .ok (.aload_n 0, 1) := by decide +kernel
theorem d_Clk_init_27 : decode c_Clk_init 27 = .ok (.bipush 8, 2) := by decide +kernel
theorem d_Clk_init_29 : decode c_Clk_init 29 = .ok (.anewarray 16, 3) := by decide +kernel
theorem d_Clk_init_32 : decode c_Clk_init 32 = .ok (.putfield 23, 3) := by decide +kernel
theorem d_Clk_init_35 : decode c_Clk_init 35 = .ok (.iconst 0, 1) := by decide +kernel
theorem d_Clk_init_36 : decode c_Clk_init 36 = .ok (.istore_n 1, 1) := by decide +kernel
theorem d_Clk_init_37 : decode c_Clk_init 37 = .ok (.iload_n 1, 1) := by decide +kernel
theorem d_Clk_init_38 : decode c_Clk_init 38 = .ok (.bipush 8, 2) := by decide +kernel
theorem d_Clk_init_40 : decode c_Clk_init 40 = .ok (.if_icmp .ge 22, 3) := by decide +kernel
theorem d_Clk_init_43 : decode c_Clk_init 43 = .ok (.aload_n 0, 1) := by decide +kernel
theorem d_Clk_init_44 : decode c_Clk_init 44 = .ok (.getfield 23, 3) := by decide +kernel
theorem d_Clk_init_47 : decode c_Clk_init 47 = .ok (.iload_n 1, 1) := by decide +kernel
theorem d_Clk_init_48 : decode c_Clk_init 48 = .ok (.new 16, 3) := by decide +kernel
theorem d_Clk_init_51 : decode c_Clk_init 51 = .ok (.dup, 1) := by decide +kernel
theorem d_Clk_init_52 : decode c_Clk_init 52 = .ok (.invokespecial 18, 3) := by decide +kernel
theorem d_Clk_init_55 : decode c_Clk_init 55 = .ok (.aastore, 1) := by decide +kernel
theorem d_Clk_init_56 : decode c_Clk_init 56 = .ok (.iinc 1 1, 3) := by decide +kernel
theorem d_Clk_init_59 : decode c_Clk_init 59 = .ok (.goto (-22), 3) := by decide +kernel
theorem d_Clk_init_62 : decode c_Clk_init 62 = .ok (.aload_n 0, 1) := by decide +kernel
theorem d_Clk_init_63 : decode c_Clk_init 63 = .ok (.iconst (-1), 1) := by decide +kernel
theorem d_Clk_init_64 : decode c_Clk_init 64 = .ok (.putfield 27, 3) := by decide +kernel
theorem d_Clk_init_67 : decode c_Clk_init 67 = .ok (.return_, 1) := by decide +kernel
theorem d_Tape_init_0 : decode c_Tape_init 0 = .ok (.aload_n 0, 1) := by decide +kernel
theorem d_Tape_init_1 : decode c_Tape_init 1 = .ok (.invokespecial 3, 3) := by decide +kernel
theorem d_Tape_init_4 : decode c_Tape_init 4 = .ok (.aload_n 0, 1) := by decide +kernel
theorem d_Tape_init_5 : decode c_Tape_init 5 = .ok (.sipush 400, 3) := by decide +kernel
theorem d_Tape_init_8 : decode c_Tape_init 8 = .ok (.newarray .byte, 2) := by decide +kernel
theorem d_Tape_init_10 : decode c_Tape_init 10 = .ok (.putfield 9, 3) := by decide +kernel
theorem d_Tape_init_13 : decode c_Tape_init 13 = .ok (.return_, 1) := by decide +kernel
theorem d_Zone_init_0 : decode c_Zone_init 0 = .ok (.aload_n 0, 1) := by decide +kernel
theorem d_Zone_init_1 : decode c_Zone_init 1 = .ok (.invokespecial 3, 3) := by decide +kernel
theorem d_Zone_init_4 : decode c_Zone_init 4 = .ok (.aload_n 0, 1) := by decide +kernel
theorem d_Zone_init_5 : decode c_Zone_init 5 = .ok (.new 9, 3) := by decide +kernel
theorem d_Zone_init_8 : decode c_Zone_init 8 = .ok (.dup, 1) := by decide +kernel
theorem d_Zone_init_9 : decode c_Zone_init 9 = .ok (.invokespecial 11, 3) := by decide +kernel
theorem d_Zone_init_12 : decode c_Zone_init 12 = .ok (.putfield 12, 3) := by decide +kernel
theorem d_Zone_init_15 : decode c_Zone_init 15 = .ok (.aload_n 0, 1) := by decide +kernel
theorem d_Zone_init_16 : decode c_Zone_init 16 = .ok (.new 9, 3) := by decide +kernel
theorem d_Zone_init_19 : decode c_Zone_init 19 = .ok (.dup, 1) := by decide +kernel
theorem d_Zone_init_20 : decode c_Zone_init 20 = .ok (.invokespecial 11, 3) := by decide +kernel
theorem d_Zone_init_23 : decode c_Zone_init 23 = .ok (.putfield 18, 3) := by decide +kernel
theorem d_Zone_init_26 : decode c_Zone_init 26 = .ok (.return_, 1) := by decide +kernel
theorem d_Rule_init_0 : decode c_Rule_init 0 = .ok (.aload_n 0, 1) := by decide +kernel
theorem d_Rule_init_1 : decode c_Rule_init 1 = .ok (.invokespecial 3, 3) := by decide +kernel
theorem d_Rule_init_4 : decode c_Rule_init 4 = .ok (.return_, 1) := by decide +kernel
theorem d_Clk_place_0 : decode c_Clk_place 0 = .ok (.aload_n 0, 1) := by decide +kernel
theorem d_Clk_place_1 : decode c_Clk_place 1 = .ok (.getfield 27, 3) := by decide +kernel
theorem d_Clk_place_4 : decode c_Clk_place 4 = .ok (.ireturn, 1) := by decide +kernel
theorem d_Clk_feed_0 : decode c_Clk_feed 0 = .ok (.aload_n 0, 1) := by decide +kernel
theorem d_Clk_feed_1 : decode c_Clk_feed 1 = .ok (.getfield 10, 3) := by decide +kernel
theorem d_Clk_feed_4 : decode c_Clk_feed 4 = .ok (.getfield 31, 3) := by decide +kernel
theorem d_Clk_feed_7 : decode c_Clk_feed 7 = .ok (.sipush 380, 3) := by decide +kernel
theorem d_Clk_feed_10 : decode c_Clk_feed 10 = .ok (.if_icmp .le 11, 3) := by decide +kernel
theorem d_Clk_feed_13 : decode c_Clk_feed 13 = .ok (.new 34, 3) := by decide +kernel
theorem d_Clk_feed_16 : decode c_Clk_feed 16 = .ok (.dup, 1) := by decide +kernel
theorem d_Clk_feed_17 : decode c_Clk_feed 17 = .ok (.invokespecial 36, 3) := by decide +kernel
theorem d_Clk_feed_20 : decode c_Clk_feed 20 = .ok (.athrow, 1) := by decide +kernel
theorem d_Clk_feed_21 : decode c_Clk_feed 21 = .ok (.aload_n 0, 1) := by decide +kernel
theorem d_Clk_feed_22 : decode c_Clk_feed 22 = .ok (.getfield 10, 3) := by decide +kernel
theorem d_Clk_feed_25 : decode c_Clk_feed 25 = .ok (.iload_n 1, 1) := by decide +kernel
theorem d_Clk_feed_26 : decode c_Clk_feed 26 = .ok (.invokevirtual 37, 3) := by decide +kernel
theorem d_Clk_feed_29 : decode c_Clk_feed 29 = .ok (.aload_n 0, 1) := by decide +kernel
theorem d_Clk_feed_30 : decode c_Clk_feed 30 = .ok (.getfield 10, 3) := by decide +kernel
theorem d_Clk_feed_33 : decode c_Clk_feed 33 = .ok (.iload_n 2, 1) := by decide +kernel
theorem d_Clk_feed_34 : decode c_Clk_feed 34 = .ok (.invokevirtual 37, 3) := by decide +kernel
theorem d_Clk_feed_37 : decode c_Clk_feed 37 = .ok (.aload_n 0, 1) := by decide +kernel
theorem d_Clk_feed_38 : decode c_Clk_feed 38 = .ok (.getfield 10, 3) := by decide +kernel
theorem d_Clk_feed_41 : decode c_Clk_feed 41 = .ok (.iload_n 3, 1) := by decide +kernel
theorem d_Clk_feed_42 : decode c_Clk_feed 42 = .ok (.invokevirtual 37, 3) := by decide +kernel
theorem d_Clk_feed_45 : decode c_Clk_feed 45 = .ok (.aload_n 0, 1) := by decide +kernel
theorem d_Clk_feed_46 : decode c_Clk_feed 46 = .ok (.getfield 10, 3) := by decide +kernel
theorem d_Clk_feed_49 : decode c_Clk_feed 49 = .ok (.iload 4, 2) := by decide +kernel
theorem d_Clk_feed_51 : decode c_Clk_feed 51 = .ok (.invokevirtual 37, 3) := by decide +kernel
theorem d_Clk_feed_54 : decode c_Clk_feed 54 = .ok (.aload_n 0, 1) := by decide +kernel
theorem d_Clk_feed_55 : decode c_Clk_feed 55 = .ok (.getfield 10, 3) := by decide +kernel
theorem d_Clk_feed_58 : decode c_Clk_feed 58 = .ok (.iload 5, 2) := by decide +kernel
theorem d_Clk_feed_60 : decode c_Clk_feed 60 = .ok (.invokevirtual 37, 3) := by decide +kernel
theorem d_Clk_feed_63 : decode c_Clk_feed 63 = .ok (.aload_n 0, 1) := by decide +kernel
theorem d_Clk_feed_64 : decode c_Clk_feed 64 = .ok (.getfield 10, 3) := by decide +kernel
theorem d_Clk_feed_67 : decode c_Clk_feed 67 = .ok (.getfield 31, 3) := by decide +kernel
theorem d_Clk_feed_70 : decode c_Clk_feed 70 = .ok (.ireturn, 1) := by decide +kernel
theorem d_Tape_append_0 : decode c_Tape_append 0 = .ok (.bipush 24, 2) := by decide +kernel
theorem d_Tape_append_2 : decode c_Tape_append 2 = .ok (.istore_n 2, 1) := by decide +kernel
theorem d_Tape_append_3 : decode c_Tape_append 3 = .ok (.iload_n 2, 1) := by decide +kernel
theorem d_Tape_append_4 : decode c_Tape_append 4 = .ok (.ifCond .lt 44, 3) := by decide +kernel
theorem d_Tape_append_7 : decode c_Tape_append 7 = .ok (.aload_n 0, 1) := by decide +kernel
theorem d_Tape_append_8 : decode c_Tape_append 8 = .ok (.getfield 15, 3) := by decide +kernel
theorem d_Tape_append_11 : decode c_Tape_append 11 = .ok (.aload_n 0, 1) := by decide +kernel
theorem d_Tape_append_12 : decode c_Tape_append 12 = .ok (.getfield 9, 3) := by decide +kernel
theorem d_Tape_append_15 : decode c_Tape_append 15 = .ok (.arraylength, 1) := by decide +kernel
theorem d_Tape_append_16 : decode c_Tape_append 16 = .ok (.if_icmp .ge 32, 3) := by decide +kernel
theorem d_Tape_append_19 : decode c_Tape_append 19 = .ok (.aload_n 0, 1) := by decide +kernel
theorem d_Tape_append_20 : decode c_Tape_append 20 = .ok (.getfield 9, 3) := by decide +kernel
theorem d_Tape_append_23 : decode c_Tape_append 23 = .ok (.aload_n 0, 1) := by decide +kernel
theorem d_Tape_append_24 : decode c_Tape_append 24 = .ok (.getfield 15, 3) := by decide +kernel
theorem d_Tape_append_27 : decode c_Tape_append 27 = .ok (.iload_n 1, 1) := by decide +kernel
theorem d_Tape_append_28 : decode c_Tape_append 28 = .ok (.iload_n 2, 1) := by decide +kernel
theorem d_Tape_append_29 : decode c_Tape_append 29 = .ok (.ishr, 1) := by decide +kernel
theorem d_Tape_append_30 : decode c_Tape_append 30 = .ok (.i2b, 1) := by decide +kernel
theorem d_Tape_append_31 : decode c_Tape_append 31 = .ok (.bastore, 1) := by decide +kernel
theorem d_Tape_append_32 : decode c_Tape_append 32 = .ok (.aload_n 0, 1) := by decide +kernel
theorem d_Tape_append_33 : decode c_Tape_append 33 = .ok (.dup, 1) := by decide +kernel
theorem d_Tape_append_34 : decode c_Tape_append 34 = .ok (.getfield 15, 3) := by decide +kernel
theorem d_Tape_append_37 : decode c_Tape_append 37 = .ok (.iconst 1, 1) := by decide +kernel
theorem d_Tape_append_38 : decode c_Tape_append 38 = .ok (.iadd, 1) := by decide +kernel
theorem d_Tape_append_39 : decode c_Tape_append 39 = .ok (.putfield 15, 3) := by decide +kernel
theorem d_Tape_append_42 : decode c_Tape_append 42 = .ok (.iinc 2 (-8), 3) := by decide +kernel
theorem d_Tape_append_45 : decode c_Tape_append 45 = .ok (.goto (-42), 3) := by decide +kernel
theorem d_Tape_append_48 : decode c_Tape_append 48 = .ok (.return_, 1) := by decide +kernel
theorem d_Clk_end_0 : decode c_Clk_end 0 = .ok (.iload_n 1, 1) := by decide +kernel
theorem d_Clk_end_1 : decode c_Clk_end 1 = .ok (.ifCond .lt 14, 3) := by decide +kernel
theorem d_Clk_end_4 : decode c_Clk_end 4 = .ok (.iload_n 1, 1) := by decide +kernel
theorem d_Clk_end_5 : decode c_Clk_end 5 = .ok (.aload_n 0, 1) := by decide +kernel
theorem d_Clk_end_6 : decode c_Clk_end 6 = .ok (.getfield 10, 3) := by decide +kernel
theorem d_Clk_end_9 : decode c_Clk_end 9 = .ok (.getfield 31, 3) := by decide +kernel
theorem d_Clk_end_12 : decode c_Clk_end 12 = .ok (.if_icmp .le 11, 3) := by decide +kernel
theorem d_Clk_end_15 : decode c_Clk_end 15 = .ok (.new 41, 3) := by decide +kernel
theorem d_Clk_end_18 : decode c_Clk_end 18 = .ok (.dup, 1) := by decide +kernel
theorem d_Clk_end_19 : decode c_Clk_end 19 = .ok (.invokespecial 43, 3) := by decide +kernel
theorem d_Clk_end_22 : decode c_Clk_end 22 = .ok (.athrow, 1) := by decide +kernel
theorem d_Clk_end_23 : decode c_Clk_end 23 = .ok (.aload_n 0, 1) := by decide +kernel
theorem d_Clk_end_24 : decode c_Clk_end 24 = .ok (.getfield 10, 3) := by decide +kernel
theorem d_Clk_end_27 : decode c_Clk_end 27 = .ok (.iload_n 1, 1) := by decide +kernel
theorem d_Clk_end_28 : decode c_Clk_end 28 = .ok (.putfield 31, 3) := by decide +kernel
theorem d_Clk_end_31 : decode c_Clk_end 31 = .ok (.iload_n 1, 1) := by decide +kernel
theorem d_Clk_end_32 : decode c_Clk_end 32 = .ok (.ireturn, 1) := by decide +kernel
theorem d_Clk_zone_0 : decode c_Clk_zone 0 = .ok (.aload_n 0, 1) := by decide +kernel
theorem d_Clk_zone_1 : decode c_Clk_zone 1 = .ok (.iload_n 1, 1) := by decide +kernel
theorem d_Clk_zone_2 : decode c_Clk_zone 2 = .ok (.invokevirtual 44, 3) := by decide +kernel
theorem d_Clk_zone_5 : decode c_Clk_zone 5 = .ok (.astore_n 2, 1) := by decide +kernel
theorem d_Clk_zone_6 : decode c_Clk_zone 6 = .ok (.aload_n 0, 1) := by decide +kernel
theorem d_Clk_zone_7 : decode c_Clk_zone 7 = .ok (.aload_n 0, 1) := by decide +kernel
theorem d_Clk_zone_8 : decode c_Clk_zone 8 = .ok (.getfield 10, 3) := by decide +kernel
theorem d_Clk_zone_11 : decode c_Clk_zone 11 = .ok (.aload_n 0, 1) := by decide +kernel
theorem d_Clk_zone_12 : decode c_Clk_zone 12 = .ok (.getfield 19, 3) := by decide +kernel
theorem d_Clk_zone_15 : decode c_Clk_zone 15 = .ok (.invokevirtual 48, 3) := by decide +kernel
theorem d_Clk_zone_18 : decode c_Clk_zone 18 = .ok (.putfield 27, 3) := by decide +kernel
theorem d_Clk_zone_21 : decode c_Clk_zone 21 = .ok (.aload_n 0, 1) := by decide +kernel
theorem d_Clk_zone_22 : decode c_Clk_zone 22 = .ok (.getfield 10, 3) := by decide +kernel
theorem d_Clk_zone_25 : decode c_Clk_zone 25 = .ok (.iconst 0, 1) := by decide +kernel
theorem d_Clk_zone_26 : decode c_Clk_zone 26 = .ok (.putfield 31, 3) := by decide +kernel
theorem d_Clk_zone_29 : decode c_Clk_zone 29 = .ok (.aload_n 0, 1) := by decide +kernel
theorem d_Clk_zone_30 : decode c_Clk_zone 30 = .ok (.getfield 27, 3) := by decide +kernel
theorem d_Clk_zone_33 : decode c_Clk_zone 33 = .ok (.iconst (-1), 1) := by decide +kernel
theorem d_Clk_zone_34 : decode c_Clk_zone 34 = .ok (.if_icmp .eq 11, 3) := by decide +kernel
theorem d_Clk_zone_37 : decode c_Clk_zone 37 = .ok (.new 52, 3) := by decide +kernel
theorem d_Clk_zone_40 : decode c_Clk_zone 40 = .ok (.dup, 1) := by decide +kernel
theorem d_Clk_zone_41 : decode c_Clk_zone 41 = .ok (.invokespecial 54, 3) := by decide +kernel
theorem d_Clk_zone_44 : decode c_Clk_zone 44 = .ok (.athrow, 1) := by decide +kernel
theorem d_Clk_zone_45 : decode c_Clk_zone 45 = .ok (.aload_n 2, 1) := by decide +kernel
theorem d_Clk_zone_46 : decode c_Clk_zone 46 = .ok (.aload_n 0, 1) := by decide +kernel
theorem d_Clk_zone_47 : decode c_Clk_zone 47 = .ok (.getfield 19, 3) := by decide +kernel
theorem d_Clk_zone_50 : decode c_Clk_zone 50 = .ok (.invokevirtual 55, 3) := by decide +kernel
theorem d_Clk_zone_53 : decode c_Clk_zone 53 = .ok (.return_, 1) := by decide +kernel
theorem d_Clk_zoneAt_0 : decode c_Clk_zoneAt 0 = .ok (.iload_n 1, 1) := by decide +kernel
theorem d_Clk_zoneAt_1 : decode c_Clk_zoneAt 1 = .ok (.ifCond .lt 12, 3) := by decide +kernel
theorem d_Clk_zoneAt_4 : decode c_Clk_zoneAt 4 = .ok (.iload_n 1, 1) := by decide +kernel
theorem d_Clk_zoneAt_5 : decode c_Clk_zoneAt 5 = .ok (.aload_n 0, 1) := by decide +kernel
theorem d_Clk_zoneAt_6 : decode c_Clk_zoneAt 6 = .ok (.getfield 23, 3) := by decide +kernel
theorem d_Clk_zoneAt_9 : decode c_Clk_zoneAt 9 = .ok (.arraylength, 1) := by decide +kernel
theorem d_Clk_zoneAt_10 : decode c_Clk_zoneAt 10 = .ok (.if_icmp .lt 11, 3) := by decide +kernel
theorem d_Clk_zoneAt_13 : decode c_Clk_zoneAt 13 = .ok (.new 41, 3) := by decide +kernel
theorem d_Clk_zoneAt_16 : decode c_Clk_zoneAt 16 = .ok (.dup, 1) := by decide +kernel
theorem d_Clk_zoneAt_17 : decode c_Clk_zoneAt 17 = .ok (.invokespecial 43, 3) := by decide +kernel
theorem d_Clk_zoneAt_20 : decode c_Clk_zoneAt 20 = .ok (.athrow, 1) := by decide +kernel
theorem d_Clk_zoneAt_21 : decode c_Clk_zoneAt 21 = .ok (.aload_n 0, 1) := by decide +kernel
theorem d_Clk_zoneAt_22 : decode c_Clk_zoneAt 22 = .ok (.getfield 23, 3) := by decide +kernel
theorem d_Clk_zoneAt_25 : decode c_Clk_zoneAt 25 = .ok (.iload_n 1, 1) := by decide +kernel
theorem d_Clk_zoneAt_26 : decode c_Clk_zoneAt 26 = .ok (.aaload, 1) := by decide +kernel
theorem d_Clk_zoneAt_27 : decode c_Clk_zoneAt 27 = .ok (.areturn, 1) := by decide +kernel
theorem d_Tape_readZone_0 : decode c_Tape_readZone 0 = .ok (.aload_n 0, 1) := by decide +kernel
theorem d_Tape_readZone_1 : decode c_Tape_readZone 1 = .ok (.iconst 0, 1) := by decide +kernel
theorem d_Tape_readZone_2 : decode c_Tape_readZone 2 = .ok (.putfield 19, 3) := by decide +kernel
theorem d_Tape_readZone_5 : decode c_Tape_readZone 5 = .ok (.aload_n 0, 1) := by decide +kernel
theorem d_Tape_readZone_6 : decode c_Tape_readZone 6 = .ok (.iconst 0, 1) := by decide +kernel
theorem d_Tape_readZone_7 : decode c_Tape_readZone 7 = .ok (.putfield 22, 3) := by decide +kernel
theorem d_Tape_readZone_10 : decode c_Tape_readZone 10 = .ok (.aload_n 1, 1) := by decide +kernel
theorem d_Tape_readZone_11 : decode c_Tape_readZone 11 = .ok (.aload_n 0, 1) := by decide +kernel
theorem d_Tape_readZone_12 : decode c_Tape_readZone 12 = .ok (.invokevirtual 26, 3) := by decide +kernel
theorem d_Tape_readZone_15 : decode c_Tape_readZone 15 = .ok (.putfield 30, 3) := by decide +kernel
theorem d_Tape_readZone_18 : decode c_Tape_readZone 18 = .ok (.aload_n 1, 1) := by decide +kernel
theorem d_Tape_readZone_19 : decode c_Tape_readZone 19 = .ok (.iconst 0, 1) := by decide +kernel
theorem d_Tape_readZone_20 : decode c_Tape_readZone 20 = .ok (.putfield 35, 3) := by decide +kernel
theorem d_Tape_readZone_23 : decode c_Tape_readZone 23 = .ok (.aload_n 0, 1) := by decide +kernel
theorem d_Tape_readZone_24 : decode c_Tape_readZone 24 = .ok (.getfield 19, 3) := by decide +kernel
theorem d_Tape_readZone_27 : decode c_Tape_readZone 27 = .ok (.aload_n 0, 1) := by decide +kernel
theorem d_Tape_readZone_28 : decode c_Tape_readZone 28 = .ok (.getfield 15, 3) := by decide +kernel
theorem d_Tape_readZone_31 : decode c_Tape_readZone 31 = .ok (.if_icmp .ge 42, 3) := by decide +kernel
theorem d_Tape_readZone_34 : decode c_Tape_readZone 34 = .ok (.aload_n 0, 1) := by decide +kernel
theorem d_Tape_readZone_35 : decode c_Tape_readZone 35 = .ok (.invokevirtual 38, 3) := by decide +kernel
theorem d_Tape_readZone_38 : decode c_Tape_readZone 38 = .ok (.aload_n 1, 1) := by decide +kernel
theorem d_Tape_readZone_39 : decode c_Tape_readZone 39 = .ok (.aload_n 0, 1) := by decide +kernel
theorem d_Tape_readZone_40 : decode c_Tape_readZone 40 = .ok (.iconst 1, 1) := by decide +kernel
theorem d_Tape_readZone_41 : decode c_Tape_readZone 41 = .ok (.bipush 120, 2) := by decide +kernel
theorem d_Tape_readZone_43 : decode c_Tape_readZone 43 = .ok (.invokevirtual 41, 3) := by decide +kernel
theorem d_Tape_readZone_46 : decode c_Tape_readZone 46 = .ok (.putfield 35, 3) := by decide +kernel
theorem d_Tape_readZone_49 : decode c_Tape_readZone 49 = .ok (.aload_n 0, 1) := by decide +kernel
theorem d_Tape_readZone_50 : decode c_Tape_readZone 50 = .ok (.invokevirtual 38, 3) := by decide +kernel
theorem d_Tape_readZone_53 : decode c_Tape_readZone 53 = .ok (.aload_n 0, 1) := by decide +kernel
theorem d_Tape_readZone_54 : decode c_Tape_readZone 54 = .ok (.aload_n 1, 1) := by decide +kernel
theorem d_Tape_readZone_55 : decode c_Tape_readZone 55 = .ok (.getfield 45, 3) := by decide +kernel
theorem d_Tape_readZone_58 : decode c_Tape_readZone 58 = .ok (.invokevirtual 49, 3) := by decide +kernel
theorem d_Tape_readZone_61 : decode c_Tape_readZone 61 = .ok (.aload_n 0, 1) := by decide +kernel
theorem d_Tape_readZone_62 : decode c_Tape_readZone 62 = .ok (.invokevirtual 38, 3) := by decide +kernel
theorem d_Tape_readZone_65 : decode c_Tape_readZone 65 = .ok (.aload_n 0, 1) := by decide +kernel
theorem d_Tape_readZone_66 : decode c_Tape_readZone 66 = .ok (.aload_n 1, 1) := by decide +kernel
theorem d_Tape_readZone_67 : decode c_Tape_readZone 67 = .ok (.getfield 53, 3) := by decide +kernel
theorem d_Tape_readZone_70 : decode c_Tape_readZone 70 = .ok (.invokevirtual 49, 3) := by decide +kernel
theorem d_Tape_readZone_73 : decode c_Tape_readZone 73 = .ok (.aload_n 0, 1) := by decide +kernel
theorem d_Tape_readZone_74 : decode c_Tape_readZone 74 = .ok (.getfield 19, 3) := by decide +kernel
theorem d_Tape_readZone_77 : decode c_Tape_readZone 77 = .ok (.aload_n 0, 1) := by decide +kernel
theorem d_Tape_readZone_78 : decode c_Tape_readZone 78 = .ok (.getfield 15, 3) := by decide +kernel
theorem d_Tape_readZone_81 : decode c_Tape_readZone 81 = .ok (.if_icmp .ge 8, 3) := by decide +kernel
theorem d_Tape_readZone_84 : decode c_Tape_readZone 84 = .ok (.aload_n 0, 1) := by decide +kernel
theorem d_Tape_readZone_85 : decode c_Tape_readZone 85 = .ok (.iconst 1, 1) := by decide +kernel
theorem d_Tape_readZone_86 : decode c_Tape_readZone 86 = .ok (.putfield 22, 3) := by decide +kernel
theorem d_Tape_readZone_89 : decode c_Tape_readZone 89 = .ok (.aload_n 0, 1) := by decide +kernel
theorem d_Tape_readZone_90 : decode c_Tape_readZone 90 = .ok (.getfield 22, 3) := by decide +kernel
theorem d_Tape_readZone_93 : decode c_Tape_readZone 93 = .ok (.ifCond .eq 10, 3) := by decide +kernel
theorem d_Tape_readZone_96 : decode c_Tape_readZone 96 = .ok (.aload_n 0, 1) := by decide +kernel
theorem d_Tape_readZone_97 : decode c_Tape_readZone 97 = .ok (.getfield 19, 3) := by decide +kernel
theorem d_Tape_readZone_100 : decode c_Tape_readZone 100 = .ok (.goto 4, 3) := by decide +kernel
theorem d_Tape_readZone_103 : decode c_Tape_readZone 103 = .ok (.iconst (-1), 1) := by decide +kernel
theorem d_Tape_readZone_104 : decode c_Tape_readZone 104 = .ok (.ireturn, 1) := by decide +kernel
theorem d_Tape_readOffset_0 : decode c_Tape_readOffset 0 = .ok (.aload_n 0, 1) := by decide +kernel
theorem d_Tape_readOffset_1 : decode c_Tape_readOffset 1 = .ok (.invokevirtual 56, 3) := by decide +kernel
theorem d_Tape_readOffset_4 : decode c_Tape_readOffset 4 = .ok (.bipush 45, 2) := by decide +kernel
theorem d_Tape_readOffset_6 : decode c_Tape_readOffset 6 = .ok (.if_icmp .ne 7, 3) := by decide +kernel
theorem d_Tape_readOffset_9 : decode c_Tape_readOffset 9 = .ok (.iconst 1, 1) := by decide +kernel
theorem d_Tape_readOffset_10 : decode c_Tape_readOffset 10 = .ok (.goto 4, 3) := by decide +kernel
theorem d_Tape_readOffset_13 : decode c_Tape_readOffset 13 = .ok (.iconst 0, 1) := by decide +kernel
theorem d_Tape_readOffset_14 : decode c_Tape_readOffset 14 = .ok (.istore_n 1, 1) := by decide +kernel
theorem d_Tape_readOffset_15 : decode c_Tape_readOffset 15 = .ok (.aload_n 0, 1) := by decide +kernel
theorem d_Tape_readOffset_16 : decode c_Tape_readOffset 16 = .ok (.iload_n 1, 1) := by decide +kernel
theorem d_Tape_readOffset_17 : decode c_Tape_readOffset 17 = .ok (.ifCond .eq 8, 3) := by decide +kernel
theorem d_Tape_readOffset_20 : decode c_Tape_readOffset 20 = .ok (.bipush 45, 2) := by decide +kernel
theorem d_Tape_readOffset_22 : decode c_Tape_readOffset 22 = .ok (.goto 5, 3) := by decide +kernel
theorem d_Tape_readOffset_25 : decode c_Tape_readOffset 25 = .ok (.bipush 43, 2) := by decide +kernel
theorem d_Tape_readOffset_27 : decode c_Tape_readOffset 27 = .ok (.invokevirtual 59, 3) := by decide +kernel
theorem d_Tape_readOffset_30 : decode c_Tape_readOffset 30 = .ok (.aload_n 0, 1) := by decide +kernel
theorem d_Tape_readOffset_31 : decode c_Tape_readOffset 31 = .ok (.iconst 0, 1) := by decide +kernel
theorem d_Tape_readOffset_32 : decode c_Tape_readOffset 32 = .ok (.sipush 840, 3) := by decide +kernel
theorem d_Tape_readOffset_35 : decode c_Tape_readOffset 35 = .ok (.invokevirtual 41, 3) := by decide +kernel
theorem d_Tape_readOffset_38 : decode c_Tape_readOffset 38 = .ok (.istore_n 2, 1) := by decide +kernel
theorem d_Tape_readOffset_39 : decode c_Tape_readOffset 39 = .ok (.iload_n 1, 1) := by decide +kernel
theorem d_Tape_readOffset_40 : decode c_Tape_readOffset 40 = .ok (.ifCond .eq 8, 3) := by decide +kernel
theorem d_Tape_readOffset_43 : decode c_Tape_readOffset 43 = .ok (.iload_n 2, 1) := by decide +kernel
theorem d_Tape_readOffset_44 : decode c_Tape_readOffset 44 = .ok (.ineg, 1) := by decide +kernel
theorem d_Tape_readOffset_45 : decode c_Tape_readOffset 45 = .ok (.goto 4, 3) := by decide +kernel
theorem d_Tape_readOffset_48 : decode c_Tape_readOffset 48 = .ok (.iload_n 2, 1) := by decide +kernel
theorem d_Tape_readOffset_49 : decode c_Tape_readOffset 49 = .ok (.ireturn, 1) := by decide +kernel
theorem d_Tape_nextByte_0 : decode c_Tape_nextByte 0 = .ok (.aload_n 0, 1) := by decide +kernel
theorem d_Tape_nextByte_1 : decode c_Tape_nextByte 1 = .ok (.getfield 19, 3) := by decide +kernel
theorem d_Tape_nextByte_4 : decode c_Tape_nextByte 4 = .ok (.ifCond .lt 26, 3) := by decide +kernel
theorem d_Tape_nextByte_7 : decode c_Tape_nextByte 7 = .ok (.aload_n 0, 1) := by decide +kernel
theorem d_Tape_nextByte_8 : decode c_Tape_nextByte 8 = .ok (.getfield 19, 3) := by decide +kernel
theorem d_Tape_nextByte_11 : decode c_Tape_nextByte 11 = .ok (.aload_n 0, 1) := by decide +kernel
theorem d_Tape_nextByte_12 : decode c_Tape_nextByte 12 = .ok (.getfield 15, 3) := by decide +kernel
theorem d_Tape_nextByte_15 : decode c_Tape_nextByte 15 = .ok (.if_icmp .ge 15, 3) := by decide +kernel
theorem d_Tape_nextByte_18 : decode c_Tape_nextByte 18 = .ok (.aload_n 0, 1) := by decide +kernel
theorem d_Tape_nextByte_19 : decode c_Tape_nextByte 19 = .ok (.getfield 19, 3) := by decide +kernel
theorem d_Tape_nextByte_22 : decode c_Tape_nextByte 22 = .ok (.aload_n 0, 1) := by decide +kernel
theorem d_Tape_nextByte_23 : decode c_Tape_nextByte 23 = .ok (.getfield 9, 3) := by decide +kernel
theorem d_Tape_nextByte_26 : decode c_Tape_nextByte 26 = .ok (.arraylength, 1) := by decide +kernel
theorem d_Tape_nextByte_27 : decode c_Tape_nextByte 27 = .ok (.if_icmp .lt 5, 3) := by decide +kernel
theorem d_Tape_nextByte_30 : decode c_Tape_nextByte 30 = .ok (.iconst (-1), 1) := by decide +kernel
theorem d_Tape_nextByte_31 : decode c_Tape_nextByte 31 = .ok (.ireturn, 1) := by decide +kernel
theorem d_Tape_nextByte_32 : decode c_Tape_nextByte 32 = .ok (.aload_n 0, 1) := by decide +kernel
theorem d_Tape_nextByte_33 : decode c_Tape_nextByte 33 = .ok (.getfield 9, 3) := by decide +kernel
theorem d_Tape_nextByte_36 : decode c_Tape_nextByte 36 = .ok (.aload_n 0, 1) := by decide +kernel
theorem d_Tape_nextByte_37 : decode c_Tape_nextByte 37 = .ok (.getfield 19, 3) := by decide +kernel
theorem d_Tape_nextByte_40 : decode c_Tape_nextByte 40 = .ok (.baload, 1) := by decide +kernel
theorem d_Tape_nextByte_41 : decode c_Tape_nextByte 41 = .ok (.sipush 255, 3) := by decide +kernel
theorem d_Tape_nextByte_44 : decode c_Tape_nextByte 44 = .ok (.iand, 1) := by decide +kernel
theorem d_Tape_nextByte_45 : decode c_Tape_nextByte 45 = .ok (.ireturn, 1) := by decide +kernel
theorem d_Tape_readByte_0 : decode c_Tape_readByte 0 = .ok (.aload_n 0, 1) := by decide +kernel
theorem d_Tape_readByte_1 : decode c_Tape_readByte 1 = .ok (.getfield 22, 3) := by decide +kernel
theorem d_Tape_readByte_4 : decode c_Tape_readByte 4 = .ok (.ifCond .eq 4, 3) := by decide +kernel
theorem d_Tape_readByte_7 : decode c_Tape_readByte 7 = .ok (.return_, 1) := by decide +kernel
theorem d_Tape_readByte_8 : decode c_Tape_readByte 8 = .ok (.aload_n 0, 1) := by decide +kernel
theorem d_Tape_readByte_9 : decode c_Tape_readByte 9 = .ok (.invokevirtual 56, 3) := by decide +kernel
theorem d_Tape_readByte_12 : decode c_Tape_readByte 12 = .ok (.iload_n 1, 1) := by decide +kernel
theorem d_Tape_readByte_13 : decode c_Tape_readByte 13 = .ok (.if_icmp .ne 16, 3) := by decide +kernel
theorem d_Tape_readByte_16 : decode c_Tape_readByte 16 = .ok (.aload_n 0, 1) := by decide +kernel
theorem d_Tape_readByte_17 : decode c_Tape_readByte 17 = .ok (.dup, 1) := by decide +kernel
theorem d_Tape_readByte_18 : decode c_Tape_readByte 18 = .ok (.getfield 19, 3) := by decide +kernel
theorem d_Tape_readByte_21 : decode c_Tape_readByte 21 = .ok (.iconst 1, 1) := by decide +kernel
theorem d_Tape_readByte_22 : decode c_Tape_readByte 22 = .ok (.iadd, 1) := by decide +kernel
theorem d_Tape_readByte_23 : decode c_Tape_readByte 23 = .ok (.putfield 19, 3) := by decide +kernel
theorem d_Tape_readByte_26 : decode c_Tape_readByte 26 = .ok (.goto 8, 3) := by decide +kernel
theorem d_Tape_readByte_29 : decode c_Tape_readByte 29 = .ok (.aload_n 0, 1) := by decide +kernel
theorem d_Tape_readByte_30 : decode c_Tape_readByte 30 = .ok (.iconst 1, 1) := by decide +kernel
theorem d_Tape_readByte_31 : decode c_Tape_readByte 31 = .ok (.putfield 22, 3) := by decide +kernel
theorem d_Tape_readByte_34 : decode c_Tape_readByte 34 = .ok (.return_, 1) := by decide +kernel
theorem d_Tape_readNumber_0 : decode c_Tape_readNumber 0 = .ok (.aload_n 0, 1) := by decide +kernel
theorem d_Tape_readNumber_1 : decode c_Tape_readNumber 1 = .ok (.getfield 22, 3) := by decide +kernel
theorem d_Tape_readNumber_4 : decode c_Tape_readNumber 4 = .ok (.ifCond .eq 5, 3) := by decide +kernel
theorem d_Tape_readNumber_7 : decode c_Tape_readNumber 7 = .ok (.iconst 0, 1) := by decide +kernel
theorem d_Tape_readNumber_8 : decode c_Tape_readNumber 8 = .ok (.ireturn, 1) := by decide +kernel
theorem d_Tape_readNumber_9 : decode c_Tape_readNumber 9 = .ok (.aload_n 0, 1) := by decide +kernel
theorem d_Tape_readNumber_10 : decode c_Tape_readNumber 10 = .ok (.getfield 19, 3) := by decide +kernel
theorem d_Tape_readNumber_13 : decode c_Tape_readNumber 13 = .ok (.istore_n 3, 1) := by decide +kernel
theorem d_Tape_readNumber_14 : decode c_Tape_readNumber 14 = .ok (.aload_n 0, 1) := by decide +kernel
theorem d_Tape_readNumber_15 : decode c_Tape_readNumber 15 = .ok (.invokevirtual 77, 3) := by decide +kernel
theorem d_Tape_readNumber_18 : decode c_Tape_readNumber 18 = .ok (.istore 4, 2) := by decide +kernel
theorem d_Tape_readNumber_20 : decode c_Tape_readNumber 20 = .ok (.iload 4, 2) := by decide +kernel
theorem d_Tape_readNumber_22 : decode c_Tape_readNumber 22 = .ok (.iload_n 1, 1) := by decide +kernel
theorem d_Tape_readNumber_23 : decode c_Tape_readNumber 23 = .ok (.if_icmp .lt 9, 3) := by decide +kernel
theorem d_Tape_readNumber_26 : decode c_Tape_readNumber 26 = .ok (.iload 4, 2) := by decide +kernel
theorem d_Tape_readNumber_28 : decode c_Tape_readNumber 28 = .ok (.iload_n 2, 1) := by decide +kernel
theorem d_Tape_readNumber_29 : decode c_Tape_readNumber 29 = .ok (.if_icmp .le 13, 3) := by decide +kernel
theorem d_Tape_readNumber_32 : decode c_Tape_readNumber 32 = .ok (.aload_n 0, 1) := by decide +kernel
theorem d_Tape_readNumber_33 : decode c_Tape_readNumber 33 = .ok (.iload_n 3, 1) := by decide +kernel
theorem d_Tape_readNumber_34 : decode c_Tape_readNumber 34 = .ok (.putfield 19, 3) := by decide +kernel
theorem d_Tape_readNumber_37 : decode c_Tape_readNumber 37 = .ok (.aload_n 0, 1) := by decide +kernel
theorem d_Tape_readNumber_38 : decode c_Tape_readNumber 38 = .ok (.iconst 1, 1) := by decide +kernel
theorem d_Tape_readNumber_39 : decode c_Tape_readNumber 39 = .ok (.putfield 22, 3) := by decide +kernel
theorem d_Tape_readNumber_42 : decode c_Tape_readNumber 42 = .ok (.iload 4, 2) := by decide +kernel
theorem d_Tape_readNumber_44 : decode c_Tape_readNumber 44 = .ok (.ireturn, 1) := by decide +kernel
theorem d_Tape_readDigits_0 : decode c_Tape_readDigits 0 = .ok (.aload_n 0, 1) := by decide +kernel
theorem d_Tape_readDigits_1 : decode c_Tape_readDigits 1 = .ok (.invokevirtual 56, 3) := by decide +kernel
theorem d_Tape_readDigits_4 : decode c_Tape_readDigits 4 = .ok (.istore_n 1, 1) := by decide +kernel
theorem d_Tape_readDigits_5 : decode c_Tape_readDigits 5 = .ok (.iload_n 1, 1) := by decide +kernel
theorem d_Tape_readDigits_6 : decode c_Tape_readDigits 6 = .ok (.invokestatic 80, 3) := by decide +kernel
theorem d_Tape_readDigits_9 : decode c_Tape_readDigits 9 = .ok (.ifCond .ne 5, 3) := by decide +kernel
theorem d_Tape_readDigits_12 : decode c_Tape_readDigits 12 = .ok (.iconst (-1), 1) := by decide +kernel
theorem d_Tape_readDigits_13 : decode c_Tape_readDigits 13 = .ok (.ireturn, 1) := by decide +kernel
theorem d_Tape_readDigits_14 : decode c_Tape_readDigits 14 = .ok (.aload_n 0, 1) := by decide +kernel
theorem d_Tape_readDigits_15 : decode c_Tape_readDigits 15 = .ok (.dup, 1) := by decide +kernel
theorem d_Tape_readDigits_16 : decode c_Tape_readDigits 16 = .ok (.getfield 19, 3) := by decide +kernel
theorem d_Tape_readDigits_19 : decode c_Tape_readDigits 19 = .ok (.iconst 1, 1) := by decide +kernel
theorem d_Tape_readDigits_20 : decode c_Tape_readDigits 20 = .ok (.iadd, 1) := by decide +kernel
theorem d_Tape_readDigits_21 : decode c_Tape_readDigits 21 = .ok (.putfield 19, 3) := by decide +kernel
theorem d_Tape_readDigits_24 : decode c_Tape_readDigits 24 = .ok (.iload_n 1, 1) := by decide +kernel
theorem d_Tape_readDigits_25 : decode c_Tape_readDigits 25 = .ok (.bipush 48, 2) := by decide +kernel
theorem d_Tape_readDigits_27 : decode c_Tape_readDigits 27 = .ok (.isub, 1) := by decide +kernel
theorem d_Tape_readDigits_28 : decode c_Tape_readDigits 28 = .ok (.istore_n 2, 1) := by decide +kernel
theorem d_Tape_readDigits_29 : decode c_Tape_readDigits 29 = .ok (.iload_n 2, 1) := by decide +kernel
theorem d_Tape_readDigits_30 : decode c_Tape_readDigits 30 = .ok (.ifCond .le 55, 3) := by decide +kernel
theorem d_Tape_readDigits_33 : decode c_Tape_readDigits 33 = .ok (.aload_n 0, 1) := by decide +kernel
theorem d_Tape_readDigits_34 : decode c_Tape_readDigits 34 = .ok (.getfield 19, 3) := by decide +kernel
theorem d_Tape_readDigits_37 : decode c_Tape_readDigits 37 = .ok (.aload_n 0, 1) := by decide +kernel
theorem d_Tape_readDigits_38 : decode c_Tape_readDigits 38 = .ok (.getfield 15, 3) := by decide +kernel
theorem d_Tape_readDigits_41 : decode c_Tape_readDigits 41 = .ok (.if_icmp .ge 44, 3) := by decide +kernel
theorem d_Tape_readDigits_44 : decode c_Tape_readDigits 44 = .ok (.aload_n 0, 1) := by decide +kernel
theorem d_Tape_readDigits_45 : decode c_Tape_readDigits 45 = .ok (.invokevirtual 56, 3) := by decide +kernel
theorem d_Tape_readDigits_48 : decode c_Tape_readDigits 48 = .ok (.invokestatic 80, 3) := by decide +kernel
theorem d_Tape_readDigits_51 : decode c_Tape_readDigits 51 = .ok (.ifCond .eq 34, 3) := by decide +kernel
theorem d_Tape_readDigits_54 : decode c_Tape_readDigits 54 = .ok (.iload_n 2, 1) := by decide +kernel
theorem d_Tape_readDigits_55 : decode c_Tape_readDigits 55 = .ok (.bipush 10, 2) := by decide +kernel
theorem d_Tape_readDigits_57 : decode c_Tape_readDigits 57 = .ok (.imul, 1) := by decide +kernel
theorem d_Tape_readDigits_58 : decode c_Tape_readDigits 58 = .ok (.aload_n 0, 1) := by decide +kernel
theorem d_Tape_readDigits_59 : decode c_Tape_readDigits 59 = .ok (.invokevirtual 56, 3) := by decide +kernel
theorem d_Tape_readDigits_62 : decode c_Tape_readDigits 62 = .ok (.iadd, 1) := by decide +kernel
theorem d_Tape_readDigits_63 : decode c_Tape_readDigits 63 = .ok (.bipush 48, 2) := by decide +kernel
theorem d_Tape_readDigits_65 : decode c_Tape_readDigits 65 = .ok (.isub, 1) := by decide +kernel
theorem d_Tape_readDigits_66 : decode c_Tape_readDigits 66 = .ok (.ldc 84, 2) := by decide +kernel
theorem d_Tape_readDigits_68 : decode c_Tape_readDigits 68 = .ok (.invokestatic 85, 3) := by decide +kernel
theorem d_Tape_readDigits_71 : decode c_Tape_readDigits 71 = .ok (.istore_n 2, 1) := by decide +kernel
theorem d_Tape_readDigits_72 : decode c_Tape_readDigits 72 = .ok (.aload_n 0, 1) := by decide +kernel
theorem d_Tape_readDigits_73 : decode c_Tape_readDigits 73 = .ok (.dup, 1) := by decide +kernel
theorem d_Tape_readDigits_74 : decode c_Tape_readDigits 74 = .ok (.getfield 19, 3) := by decide +kernel
theorem d_Tape_readDigits_77 : decode c_Tape_readDigits 77 = .ok (.iconst 1, 1) := by decide +kernel
theorem d_Tape_readDigits_78 : decode c_Tape_readDigits 78 = .ok (.iadd, 1) := by decide +kernel
theorem d_Tape_readDigits_79 : decode c_Tape_readDigits 79 = .ok (.putfield 19, 3) := by decide +kernel
theorem d_Tape_readDigits_82 : decode c_Tape_readDigits 82 = .ok (.goto (-53), 3) := by decide +kernel
theorem d_Tape_readDigits_85 : decode c_Tape_readDigits 85 = .ok (.iload_n 2, 1) := by decide +kernel
theorem d_Tape_readDigits_86 : decode c_Tape_readDigits 86 = .ok (.ireturn, 1) := by decide +kernel
theorem d_Tape_isDigit_0 : decode c_Tape_isDigit 0 = .ok (.iload_n 0, 1) := by decide +kernel
theorem d_Tape_isDigit_1 : decode c_Tape_isDigit 1 = .ok (.bipush 48, 2) := by decide +kernel
theorem d_Tape_isDigit_3 : decode c_Tape_isDigit 3 = .ok (.if_icmp .lt 13, 3) := by decide +kernel
theorem d_Tape_isDigit_6 : decode c_Tape_isDigit 6 = .ok (.iload_n 0, 1) := by decide +kernel
theorem d_Tape_isDigit_7 : decode c_Tape_isDigit 7 = .ok (.bipush 57, 2) := by decide +kernel
theorem d_Tape_isDigit_9 : decode c_Tape_isDigit 9 = .ok (.if_icmp .gt 7, 3) := by decide +kernel
theorem d_Tape_isDigit_12 : decode c_Tape_isDigit 12 = .ok (.iconst 1, 1) := by decide +kernel
theorem d_Tape_isDigit_13 : decode c_Tape_isDigit 13 = .ok (.goto 4, 3) := by decide +kernel
theorem d_Tape_isDigit_16 : decode c_Tape_isDigit 16 = .ok (.iconst 0, 1) := by decide +kernel
theorem d_Tape_isDigit_17 : decode c_Tape_isDigit 17 = .ok (.ireturn, 1) := by decide +kernel
theorem d_Math_minI_0 : decode c_Math_minI 0 = .ok (.iload_n 0, 1) := by decide +kernel
theorem d_Math_minI_1 : decode c_Math_minI 1 = .ok (.iload_n 1, 1) := by decide +kernel
theorem d_Math_minI_2 : decode c_Math_minI 2 = .ok (.if_icmp .gt 7, 3) := by decide +kernel
theorem d_Math_minI_5 : decode c_Math_minI 5 = .ok (.iload_n 0, 1) := by decide +kernel
theorem d_Math_minI_6 : decode c_Math_minI 6 = .ok (.goto 4, 3) := by decide +kernel
theorem d_Math_minI_9 : decode c_Math_minI 9 = .ok (.iload_n 1, 1) := by decide +kernel
theorem d_Math_minI_10 : decode c_Math_minI 10 = .ok (.ireturn, 1) := by decide +kernel
theorem d_Tape_readBlanks_0 : decode c_Tape_readBlanks 0 = .ok (.aload_n 0, 1) := by decide +kernel
theorem d_Tape_readBlanks_1 : decode c_Tape_readBlanks 1 = .ok (.bipush 32, 2) := by decide +kernel
theorem d_Tape_readBlanks_3 : decode c_Tape_readBlanks 3 = .ok (.invokevirtual 59, 3) := by decide +kernel
theorem d_Tape_readBlanks_6 : decode c_Tape_readBlanks 6 = .ok (.aload_n 0, 1) := by decide +kernel
theorem d_Tape_readBlanks_7 : decode c_Tape_readBlanks 7 = .ok (.getfield 22, 3) := by decide +kernel
theorem d_Tape_readBlanks_10 : decode c_Tape_readBlanks 10 = .ok (.ifCond .ne 36, 3) := by decide +kernel
theorem d_Tape_readBlanks_13 : decode c_Tape_readBlanks 13 = .ok (.aload_n 0, 1) := by decide +kernel
theorem d_Tape_readBlanks_14 : decode c_Tape_readBlanks 14 = .ok (.getfield 19, 3) := by decide +kernel
theorem d_Tape_readBlanks_17 : decode c_Tape_readBlanks 17 = .ok (.aload_n 0, 1) := by decide +kernel
theorem d_Tape_readBlanks_18 : decode c_Tape_readBlanks 18 = .ok (.getfield 15, 3) := by decide +kernel
theorem d_Tape_readBlanks_21 : decode c_Tape_readBlanks 21 = .ok (.if_icmp .ge 25, 3) := by decide +kernel
theorem d_Tape_readBlanks_24 : decode c_Tape_readBlanks 24 = .ok (.aload_n 0, 1) := by decide +kernel
theorem d_Tape_readBlanks_25 : decode c_Tape_readBlanks 25 = .ok (.invokevirtual 56, 3) := by decide +kernel
theorem d_Tape_readBlanks_28 : decode c_Tape_readBlanks 28 = .ok (.bipush 32, 2) := by decide +kernel
theorem d_Tape_readBlanks_30 : decode c_Tape_readBlanks 30 = .ok (.if_icmp .ne 16, 3) := by decide +kernel
theorem d_Tape_readBlanks_33 : decode c_Tape_readBlanks 33 = .ok (.aload_n 0, 1) := by decide +kernel
theorem d_Tape_readBlanks_34 : decode c_Tape_readBlanks 34 = .ok (.dup, 1) := by decide +kernel
theorem d_Tape_readBlanks_35 : decode c_Tape_readBlanks 35 = .ok (.getfield 19, 3) := by decide +kernel
theorem d_Tape_readBlanks_38 : decode c_Tape_readBlanks 38 = .ok (.iconst 1, 1) := by decide +kernel
theorem d_Tape_readBlanks_39 : decode c_Tape_readBlanks 39 = .ok (.iadd, 1) := by decide +kernel
theorem d_Tape_readBlanks_40 : decode c_Tape_readBlanks 40 = .ok (.putfield 19, 3) := by decide +kernel
theorem d_Tape_readBlanks_43 : decode c_Tape_readBlanks 43 = .ok (.goto (-37), 3) := by decide +kernel
theorem d_Tape_readBlanks_46 : decode c_Tape_readBlanks 46 = .ok (.return_, 1) := by decide +kernel
theorem d_Tape_readRule_0 : decode c_Tape_readRule 0 = .ok (.aload_n 0, 1) := by decide +kernel
theorem d_Tape_readRule_1 : decode c_Tape_readRule 1 = .ok (.bipush 77, 2) := by decide +kernel
theorem d_Tape_readRule_3 : decode c_Tape_readRule 3 = .ok (.invokevirtual 59, 3) := by decide +kernel
theorem d_Tape_readRule_6 : decode c_Tape_readRule 6 = .ok (.aload_n 1, 1) := by decide +kernel
theorem d_Tape_readRule_7 : decode c_Tape_readRule 7 = .ok (.aload_n 0, 1) := by decide +kernel
theorem d_Tape_readRule_8 : decode c_Tape_readRule 8 = .ok (.iconst 1, 1) := by decide +kernel
theorem d_Tape_readRule_9 : decode c_Tape_readRule 9 = .ok (.bipush 12, 2) := by decide +kernel
theorem d_Tape_readRule_11 : decode c_Tape_readRule 11 = .ok (.invokevirtual 41, 3) := by decide +kernel
theorem d_Tape_readRule_14 : decode c_Tape_readRule 14 = .ok (.putfield 63, 3) := by decide +kernel
theorem d_Tape_readRule_17 : decode c_Tape_readRule 17 = .ok (.aload_n 0, 1) := by decide +kernel
theorem d_Tape_readRule_18 : decode c_Tape_readRule 18 = .ok (.bipush 46, 2) := by decide +kernel
theorem d_Tape_readRule_20 : decode c_Tape_readRule 20 = .ok (.invokevirtual 59, 3) := by decide +kernel
theorem d_Tape_readRule_23 : decode c_Tape_readRule 23 = .ok (.aload_n 1, 1) := by decide +kernel
theorem d_Tape_readRule_24 : decode c_Tape_readRule 24 = .ok (.aload_n 0, 1) := by decide +kernel
theorem d_Tape_readRule_25 : decode c_Tape_readRule 25 = .ok (.iconst 1, 1) := by decide +kernel
theorem d_Tape_readRule_26 : decode c_Tape_readRule 26 = .ok (.iconst 5, 1) := by decide +kernel
theorem d_Tape_readRule_27 : decode c_Tape_readRule 27 = .ok (.invokevirtual 41, 3) := by decide +kernel
theorem d_Tape_readRule_30 : decode c_Tape_readRule 30 = .ok (.putfield 68, 3) := by decide +kernel
theorem d_Tape_readRule_33 : decode c_Tape_readRule 33 = .ok (.aload_n 0, 1) := by decide +kernel
theorem d_Tape_readRule_34 : decode c_Tape_readRule 34 = .ok (.bipush 46, 2) := by decide +kernel
theorem d_Tape_readRule_36 : decode c_Tape_readRule 36 = .ok (.invokevirtual 59, 3) := by decide +kernel
theorem d_Tape_readRule_39 : decode c_Tape_readRule 39 = .ok (.aload_n 1, 1) := by decide +kernel
theorem d_Tape_readRule_40 : decode c_Tape_readRule 40 = .ok (.aload_n 0, 1) := by decide +kernel
theorem d_Tape_readRule_41 : decode c_Tape_readRule 41 = .ok (.iconst 0, 1) := by decide +kernel
theorem d_Tape_readRule_42 : decode c_Tape_readRule 42 = .ok (.bipush 6, 2) := by decide +kernel
theorem d_Tape_readRule_44 : decode c_Tape_readRule 44 = .ok (.invokevirtual 41, 3) := by decide +kernel
theorem d_Tape_readRule_47 : decode c_Tape_readRule 47 = .ok (.putfield 71, 3) := by decide +kernel
theorem d_Tape_readRule_50 : decode c_Tape_readRule 50 = .ok (.aload_n 0, 1) := by decide +kernel
theorem d_Tape_readRule_51 : decode c_Tape_readRule 51 = .ok (.bipush 47, 2) := by decide +kernel
theorem d_Tape_readRule_53 : decode c_Tape_readRule 53 = .ok (.invokevirtual 59, 3) := by decide +kernel
theorem d_Tape_readRule_56 : decode c_Tape_readRule 56 = .ok (.aload_n 1, 1) := by decide +kernel
theorem d_Tape_readRule_57 : decode c_Tape_readRule 57 = .ok (.aload_n 0, 1) := by decide +kernel
theorem d_Tape_readRule_58 : decode c_Tape_readRule 58 = .ok (.iconst 0, 1) := by decide +kernel
theorem d_Tape_readRule_59 : decode c_Tape_readRule 59 = .ok (.sipush 1439, 3) := by decide +kernel
theorem d_Tape_readRule_62 : decode c_Tape_readRule 62 = .ok (.invokevirtual 41, 3) := by decide +kernel
theorem d_Tape_readRule_65 : decode c_Tape_readRule 65 = .ok (.putfield 74, 3) := by decide +kernel
theorem d_Tape_readRule_68 : decode c_Tape_readRule 68 = .ok (.return_, 1) := by decide +kernel
theorem d_Zone_become_0 : decode c_Zone_become 0 = .ok (.aload_n 0, 1) := by decide +kernel
theorem d_Zone_become_1 : decode c_Zone_become 1 = .ok (.aload_n 1, 1) := by decide +kernel
theorem d_Zone_become_2 : decode c_Zone_become 2 = .ok (.getfield 21, 3) := by decide +kernel
theorem d_Zone_become_5 : decode c_Zone_become 5 = .ok (.putfield 21, 3) := by decide +kernel
theorem d_Zone_become_8 : decode c_Zone_become 8 = .ok (.aload_n 0, 1) := by decide +kernel
theorem d_Zone_become_9 : decode c_Zone_become 9 = .ok (.aload_n 1, 1) := by decide +kernel
theorem d_Zone_become_10 : decode c_Zone_become 10 = .ok (.getfield 25, 3) := by decide +kernel
theorem d_Zone_become_13 : decode c_Zone_become 13 = .ok (.putfield 25, 3) := by decide +kernel
theorem d_Zone_become_16 : decode c_Zone_become 16 = .ok (.aload_n 0, 1) := by decide +kernel
theorem d_Zone_become_17 : decode c_Zone_become 17 = .ok (.getfield 12, 3) := by decide +kernel
theorem d_Zone_become_20 : decode c_Zone_become 20 = .ok (.aload_n 1, 1) := by decide +kernel
theorem d_Zone_become_21 : decode c_Zone_become 21 = .ok (.getfield 12, 3) := by decide +kernel
theorem d_Zone_become_24 : decode c_Zone_become 24 = .ok (.invokevirtual 28, 3) := by decide +kernel
theorem d_Zone_become_27 : decode c_Zone_become 27 = .ok (.aload_n 0, 1) := by decide +kernel
theorem d_Zone_become_28 : decode c_Zone_become 28 = .ok (.getfield 18, 3) := by decide +kernel
theorem d_Zone_become_31 : decode c_Zone_become 31 = .ok (.aload_n 1, 1) := by decide +kernel
theorem d_Zone_become_32 : decode c_Zone_become 32 = .ok (.getfield 18, 3) := by decide +kernel
theorem d_Zone_become_35 : decode c_Zone_become 35 = .ok (.invokevirtual 28, 3) := by decide +kernel
theorem d_Zone_become_38 : decode c_Zone_become 38 = .ok (.return_, 1) := by decide +kernel
theorem d_Rule_become_0 : decode c_Rule_become 0 = .ok (.aload_n 0, 1) := by decide +kernel
theorem d_Rule_become_1 : decode c_Rule_become 1 = .ok (.aload_n 1, 1) := by decide +kernel
theorem d_Rule_become_2 : decode c_Rule_become 2 = .ok (.getfield 9, 3) := by decide +kernel
theorem d_Rule_become_5 : decode c_Rule_become 5 = .ok (.putfield 9, 3) := by decide +kernel
theorem d_Rule_become_8 : decode c_Rule_become 8 = .ok (.aload_n 0, 1) := by decide +kernel
theorem d_Rule_become_9 : decode c_Rule_become 9 = .ok (.aload_n 1, 1) := by decide +kernel
theorem d_Rule_become_10 : decode c_Rule_become 10 = .ok (.getfield 15, 3) := by decide +kernel
theorem d_Rule_become_13 : decode c_Rule_become 13 = .ok (.putfield 15, 3) := by decide +kernel
theorem d_Rule_become_16 : decode c_Rule_become 16 = .ok (.aload_n 0, 1) := by decide +kernel
theorem d_Rule_become_17 : decode c_Rule_become 17 = .ok (.aload_n 1, 1) := by decide +kernel
theorem d_Rule_become_18 : decode c_Rule_become 18 = .ok (.getfield 18, 3) := by decide +kernel
theorem d_Rule_become_21 : decode c_Rule_become 21 = .ok (.putfield 18, 3) := by decide +kernel
theorem d_Rule_become_24 : decode c_Rule_become 24 = .ok (.aload_n 0, 1) := by decide +kernel
theorem d_Rule_become_25 : decode c_Rule_become 25 = .ok (.aload_n 1, 1) := by decide +kernel
theorem d_Rule_become_26 : decode c_Rule_become 26 = .ok (.getfield 21, 3) := by decide +kernel
theorem d_Rule_become_29 : decode c_Rule_become 29 = .ok (.putfield 21, 3) := by decide +kernel
theorem d_Rule_become_32 : decode c_Rule_become 32 = .ok (.return_, 1) := by decide +kernel
theorem d_Clk_local_0 : decode c_Clk_local 0 = .ok (.aload_n 0, 1) := by decide +kernel
theorem d_Clk_local_1 : decode c_Clk_local 1 = .ok (.iload_n 1, 1) := by decide +kernel
theorem d_Clk_local_2 : decode c_Clk_local 2 = .ok (.invokevirtual 44, 3) := by decide +kernel
theorem d_Clk_local_5 : decode c_Clk_local 5 = .ok (.astore 4, 2) := by decide +kernel
theorem d_Clk_local_7 : decode c_Clk_local 7 = .ok (.lload_n 2, 1) := by decide +kernel
theorem d_Clk_local_8 : decode c_Clk_local 8 = .ok (.invokestatic 59, 3) := by decide +kernel
theorem d_Clk_local_11 : decode c_Clk_local 11 = .ok (.lload_n 2, 1) := by decide +kernel
theorem d_Clk_local_12 : decode c_Clk_local 12 = .ok (.aload 4, 2) := by decide +kernel
theorem d_Clk_local_14 : decode c_Clk_local 14 = .ok (.lload_n 2, 1) := by decide +kernel
theorem d_Clk_local_15 : decode c_Clk_local 15 = .ok (.invokevirtual 63, 3) := by decide +kernel
theorem d_Clk_local_18 : decode c_Clk_local 18 = .ok (.i2l, 1) := by decide +kernel
theorem d_Clk_local_19 : decode c_Clk_local 19 = .ok (.ldc2_w 67, 3) := by decide +kernel
theorem d_Clk_local_22 : decode c_Clk_local 22 = .ok (.lmul, 1) := by decide +kernel
theorem d_Clk_local_23 : decode c_Clk_local 23 = .ok (.ladd, 1) := by decide +kernel
theorem d_Clk_local_24 : decode c_Clk_local 24 = .ok (.lreturn, 1) := by decide +kernel
theorem d_Clk_checkTime_0 : decode c_Clk_checkTime 0 = .ok (.lload_n 0, 1) := by decide +kernel
theorem d_Clk_checkTime_1 : decode c_Clk_checkTime 1 = .ok (.lconst 0, 1) := by decide +kernel
theorem d_Clk_checkTime_2 : decode c_Clk_checkTime 2 = .ok (.lcmp, 1) := by decide +kernel
theorem d_Clk_checkTime_3 : decode c_Clk_checkTime 3 = .ok (.ifCond .lt 11, 3) := by decide +kernel
theorem d_Clk_checkTime_6 : decode c_Clk_checkTime 6 = .ok (.lload_n 0, 1) := by decide +kernel
theorem d_Clk_checkTime_7 : decode c_Clk_checkTime 7 = .ok (.ldc2_w 105, 3) := by decide +kernel
theorem d_Clk_checkTime_10 : decode c_Clk_checkTime 10 = .ok (.lcmp, 1) := by decide +kernel
theorem d_Clk_checkTime_11 : decode c_Clk_checkTime 11 = .ok (.ifCond .le 11, 3) := by decide +kernel
theorem d_Clk_checkTime_14 : decode c_Clk_checkTime 14 = .ok (.new 41, 3) := by decide +kernel
theorem d_Clk_checkTime_17 : decode c_Clk_checkTime 17 = .ok (.dup, 1) := by decide +kernel
theorem d_Clk_checkTime_18 : decode c_Clk_checkTime 18 = .ok (.invokespecial 43, 3) := by decide +kernel
theorem d_Clk_checkTime_21 : decode c_Clk_checkTime 21 = .ok (.athrow, 1) := by decide +kernel
theorem d_Clk_checkTime_22 : decode c_Clk_checkTime 22 = .ok (.return_, 1) := by decide +kernel
theorem d_Zone_minutesAt_0 : decode c_Zone_minutesAt 0 = .ok (.aload_n 0, 1) := by decide +kernel
theorem d_Zone_minutesAt_1 : decode c_Zone_minutesAt 1 = .ok (.lload_n 1, 1) := by decide +kernel
theorem d_Zone_minutesAt_2 : decode c_Zone_minutesAt 2 = .ok (.invokevirtual 36, 3) := by decide +kernel
theorem d_Zone_minutesAt_5 : decode c_Zone_minutesAt 5 = .ok (.ifCond .eq 15, 3) := by decide +kernel
theorem d_Zone_minutesAt_8 : decode c_Zone_minutesAt 8 = .ok (.aload_n 0, 1) := by decide +kernel
theorem d_Zone_minutesAt_9 : decode c_Zone_minutesAt 9 = .ok (.getfield 21, 3) := by decide +kernel
theorem d_Zone_minutesAt_12 : decode c_Zone_minutesAt 12 = .ok (.aload_n 0, 1) := by decide +kernel
theorem d_Zone_minutesAt_13 : decode c_Zone_minutesAt 13 = .ok (.getfield 25, 3) := by decide +kernel
theorem d_Zone_minutesAt_16 : decode c_Zone_minutesAt 16 = .ok (.iadd, 1) := by decide +kernel
theorem d_Zone_minutesAt_17 : decode c_Zone_minutesAt 17 = .ok (.goto 7, 3) := by decide +kernel
theorem d_Zone_minutesAt_20 : decode c_Zone_minutesAt 20 = .ok (.aload_n 0, 1) := by decide +kernel
theorem d_Zone_minutesAt_21 : decode c_Zone_minutesAt 21 = .ok (.getfield 21, 3) := by decide +kernel
theorem d_Zone_minutesAt_24 : decode c_Zone_minutesAt 24 = .ok (.ireturn, 1) := by decide +kernel
theorem d_Zone_isSummer_0 : decode c_Zone_isSummer 0 = .ok (.aload_n 0, 1) := by decide +kernel
theorem d_Zone_isSummer_1 : decode c_Zone_isSummer 1 = .ok (.getfield 25, 3) := by decide +kernel
theorem d_Zone_isSummer_4 : decode c_Zone_isSummer 4 = .ok (.ifCond .le 40, 3) := by decide +kernel
theorem d_Zone_isSummer_7 : decode c_Zone_isSummer 7 = .ok (.aload_n 0, 1) := by decide +kernel
theorem d_Zone_isSummer_8 : decode c_Zone_isSummer 8 = .ok (.getfield 12, 3) := by decide +kernel
theorem d_Zone_isSummer_11 : decode c_Zone_isSummer 11 = .ok (.lload_n 1, 1) := by decide +kernel
theorem d_Zone_isSummer_12 : decode c_Zone_isSummer 12 = .ok (.aload_n 0, 1) := by decide +kernel
theorem d_Zone_isSummer_13 : decode c_Zone_isSummer 13 = .ok (.getfield 21, 3) := by decide +kernel
theorem d_Zone_isSummer_16 : decode c_Zone_isSummer 16 = .ok (.invokevirtual 32, 3) := by decide +kernel
theorem d_Zone_isSummer_19 : decode c_Zone_isSummer 19 = .ok (.aload_n 0, 1) := by decide +kernel
theorem d_Zone_isSummer_20 : decode c_Zone_isSummer 20 = .ok (.getfield 18, 3) := by decide +kernel
theorem d_Zone_isSummer_23 : decode c_Zone_isSummer 23 = .ok (.lload_n 1, 1) := by decide +kernel
theorem d_Zone_isSummer_24 : decode c_Zone_isSummer 24 = .ok (.aload_n 0, 1) := by decide +kernel
theorem d_Zone_isSummer_25 : decode c_Zone_isSummer 25 = .ok (.getfield 21, 3) := by decide +kernel
theorem d_Zone_isSummer_28 : decode c_Zone_isSummer 28 = .ok (.aload_n 0, 1) := by decide +kernel
theorem d_Zone_isSummer_29 : decode c_Zone_isSummer 29 = .ok (.getfield 25, 3) := by decide +kernel
theorem d_Zone_isSummer_32 : decode c_Zone_isSummer 32 = .ok (.iadd, 1) := by decide +kernel
theorem d_Zone_isSummer_33 : decode c_Zone_isSummer 33 = .ok (.invokevirtual 32, 3) := by decide +kernel
theorem d_Zone_isSummer_36 : decode c_Zone_isSummer 36 = .ok (.lcmp, 1) := by decide +kernel
theorem d_Zone_isSummer_37 : decode c_Zone_isSummer 37 = .ok (.ifCond .le 7, 3) := by decide +kernel
theorem d_Zone_isSummer_40 : decode c_Zone_isSummer 40 = .ok (.iconst 1, 1) := by decide +kernel
theorem d_Zone_isSummer_41 : decode c_Zone_isSummer 41 = .ok (.goto 4, 3) := by decide +kernel
theorem d_Zone_isSummer_44 : decode c_Zone_isSummer 44 = .ok (.iconst 0, 1) := by decide +kernel
theorem d_Zone_isSummer_45 : decode c_Zone_isSummer 45 = .ok (.ireturn, 1) := by decide +kernel
theorem d_Rule_lastUpTo_0 : decode c_Rule_lastUpTo 0 = .ok (.lload_n 1, 1) := by decide +kernel
theorem d_Rule_lastUpTo_1 : decode c_Rule_lastUpTo 1 = .ok (.iload_n 3, 1) := by decide +kernel
theorem d_Rule_lastUpTo_2 : decode c_Rule_lastUpTo 2 = .ok (.i2l, 1) := by decide +kernel
theorem d_Rule_lastUpTo_3 : decode c_Rule_lastUpTo 3 = .ok (.ldc2_w 24, 3) := by decide +kernel
theorem d_Rule_lastUpTo_6 : decode c_Rule_lastUpTo 6 = .ok (.lmul, 1) := by decide +kernel
theorem d_Rule_lastUpTo_7 : decode c_Rule_lastUpTo 7 = .ok (.ladd, 1) := by decide +kernel
theorem d_Rule_lastUpTo_8 : decode c_Rule_lastUpTo 8 = .ok (.lstore 4, 2) := by decide +kernel
theorem d_Rule_lastUpTo_10 : decode c_Rule_lastUpTo 10 = .ok (.lload 4, 2) := by decide +kernel
theorem d_Rule_lastUpTo_12 : decode c_Rule_lastUpTo 12 = .ok (.invokestatic 26, 3) := by decide +kernel
theorem d_Rule_lastUpTo_15 : decode c_Rule_lastUpTo 15 = .ok (.invokestatic 32, 3) := by decide +kernel
theorem d_Rule_lastUpTo_18 : decode c_Rule_lastUpTo 18 = .ok (.sipush 2299, 3) := by decide +kernel
theorem d_Rule_lastUpTo_21 : decode c_Rule_lastUpTo 21 = .ok (.invokestatic 36, 3) := by decide +kernel
theorem d_Rule_lastUpTo_24 : decode c_Rule_lastUpTo 24 = .ok (.istore 6, 2) := by decide +kernel
theorem d_Rule_lastUpTo_26 : decode c_Rule_lastUpTo 26 = .ok (.aload_n 0, 1) := by decide +kernel
theorem d_Rule_lastUpTo_27 : decode c_Rule_lastUpTo 27 = .ok (.iload 6, 2) := by decide +kernel
theorem d_Rule_lastUpTo_29 : decode c_Rule_lastUpTo 29 = .ok (.invokevirtual 42, 3) := by decide +kernel
theorem d_Rule_lastUpTo_32 : decode c_Rule_lastUpTo 32 = .ok (.lload 4, 2) := by decide +kernel
theorem d_Rule_lastUpTo_34 : decode c_Rule_lastUpTo 34 = .ok (.lcmp, 1) := by decide +kernel
theorem d_Rule_lastUpTo_35 : decode c_Rule_lastUpTo 35 = .ok (.ifCond .le 6, 3) := by decide +kernel
theorem d_Rule_lastUpTo_38 : decode c_Rule_lastUpTo 38 = .ok (.iinc 6 (-1), 3) := by decide +kernel
theorem d_Rule_lastUpTo_41 : decode c_Rule_lastUpTo 41 = .ok (.iload 6, 2) := by decide +kernel
theorem d_Rule_lastUpTo_43 : decode c_Rule_lastUpTo 43 = .ok (.sipush 1970, 3) := by decide +kernel
theorem d_Rule_lastUpTo_46 : decode c_Rule_lastUpTo 46 = .ok (.if_icmp .ge 9, 3) := by decide +kernel
theorem d_Rule_lastUpTo_49 : decode c_Rule_lastUpTo 49 = .ok (.ldc2_w 46, 3) := by decide +kernel
theorem d_Rule_lastUpTo_52 : decode c_Rule_lastUpTo 52 = .ok (.goto 16, 3) := by decide +kernel
theorem d_Rule_lastUpTo_55 : decode c_Rule_lastUpTo 55 = .ok (.aload_n 0, 1) := by decide +kernel
theorem d_Rule_lastUpTo_56 : decode c_Rule_lastUpTo 56 = .ok (.iload 6, 2) := by decide +kernel
theorem d_Rule_lastUpTo_58 : decode c_Rule_lastUpTo 58 = .ok (.invokevirtual 42, 3) := by decide +kernel
theorem d_Rule_lastUpTo_61 : decode c_Rule_lastUpTo 61 = .ok (.iload_n 3, 1) := by decide +kernel
theorem d_Rule_lastUpTo_62 : decode c_Rule_lastUpTo 62 = .ok (.i2l, 1) := by decide +kernel
theorem d_Rule_lastUpTo_63 : decode c_Rule_lastUpTo 63 = .ok (.ldc2_w 24, 3) := by decide +kernel
theorem d_Rule_lastUpTo_66 : decode c_Rule_lastUpTo 66 = .ok (.lmul, 1) := by decide +kernel
theorem d_Rule_lastUpTo_67 : decode c_Rule_lastUpTo 67 = .ok (.lsub, 1) := by decide +kernel
theorem d_Rule_lastUpTo_68 : decode c_Rule_lastUpTo 68 = .ok (.lreturn, 1) := by decide +kernel
theorem d_Cal_dayAt_0 : decode c_Cal_dayAt 0 = .ok (.lload_n 0, 1) := by decide +kernel
theorem d_Cal_dayAt_1 : decode c_Cal_dayAt 1 = .ok (.ldc2_w 31, 3) := by decide +kernel
theorem d_Cal_dayAt_4 : decode c_Cal_dayAt 4 = .ok (.invokestatic 43, 3) := by decide +kernel
theorem d_Cal_dayAt_7 : decode c_Cal_dayAt 7 = .ok (.l2i, 1) := by decide +kernel
theorem d_Cal_dayAt_8 : decode c_Cal_dayAt 8 = .ok (.ireturn, 1) := by decide +kernel
theorem d_Math_floorDivJ_0 : decode c_Math_floorDivJ 0 = .ok (.lload_n 0, 1) := by decide +kernel
theorem d_Math_floorDivJ_1 : decode c_Math_floorDivJ 1 = .ok (.lload_n 2, 1) := by decide +kernel
theorem d_Math_floorDivJ_2 : decode c_Math_floorDivJ 2 = .ok (.ldiv, 1) := by decide +kernel
theorem d_Math_floorDivJ_3 : decode c_Math_floorDivJ 3 = .ok (.lstore 4, 2) := by decide +kernel
theorem d_Math_floorDivJ_5 : decode c_Math_floorDivJ 5 = .ok (.lload_n 0, 1) := by decide +kernel
theorem d_Math_floorDivJ_6 : decode c_Math_floorDivJ 6 = .ok (.lload_n 2, 1) := by decide +kernel
theorem d_Math_floorDivJ_7 : decode c_Math_floorDivJ 7 = .ok (.lxor, 1) := by decide +kernel
theorem d_Math_floorDivJ_8 : decode c_Math_floorDivJ 8 = .ok (.lconst 0, 1) := by decide +kernel
theorem d_Math_floorDivJ_9 : decode c_Math_floorDivJ 9 = .ok (.lcmp, 1) := by decide +kernel
theorem d_Math_floorDivJ_10 : decode c_Math_floorDivJ 10 = .ok (.ifCond .ge 17, 3) := by decide +kernel
theorem d_Math_floorDivJ_13 : decode c_Math_floorDivJ 13 = .ok (.lload 4, 2) := by decide +kernel
theorem d_Math_floorDivJ_15 : decode c_Math_floorDivJ 15 = .ok (.lload_n 2, 1) := by decide +kernel
theorem d_Math_floorDivJ_16 : decode c_Math_floorDivJ 16 = .ok (.lmul, 1) := by decide +kernel
theorem d_Math_floorDivJ_17 : decode c_Math_floorDivJ 17 = .ok (.lload_n 0, 1) := by decide +kernel
theorem d_Math_floorDivJ_18 : decode c_Math_floorDivJ 18 = .ok (.lcmp, 1) := by decide +kernel
theorem d_Math_floorDivJ_19 : decode c_Math_floorDivJ 19 = .ok (.ifCond .eq 8, 3) := by decide +kernel
theorem d_Math_floorDivJ_22 : decode c_Math_floorDivJ 22 = .ok (.lload 4, 2) := by decide +kernel
theorem d_Math_floorDivJ_24 : decode c_Math_floorDivJ 24 = .ok (.lconst 1, 1) := by decide +kernel
theorem d_Math_floorDivJ_25 : decode c_Math_floorDivJ 25 = .ok (.lsub, 1) := by decide +kernel
theorem d_Math_floorDivJ_26 : decode c_Math_floorDivJ 26 = .ok (.lreturn, 1) := by decide +kernel
theorem d_Math_floorDivJ_27 : decode c_Math_floorDivJ 27 = .ok (.lload 4, 2) := by decide +kernel
theorem d_Math_floorDivJ_29 : decode c_Math_floorDivJ 29 = .ok (.lreturn, 1) := by decide +kernel
theorem d_Cal_yearOf_0 : decode c_Cal_yearOf 0 = .ok (.sipush 1970, 3) := by decide +kernel
theorem d_Cal_yearOf_3 : decode c_Cal_yearOf 3 = .ok (.iload_n 0, 1) := by decide +kernel
theorem d_Cal_yearOf_4 : decode c_Cal_yearOf 4 = .ok (.sipush 365, 3) := by decide +kernel
theorem d_Cal_yearOf_7 : decode c_Cal_yearOf 7 = .ok (.invokestatic 48, 3) := by decide +kernel
theorem d_Cal_yearOf_10 : decode c_Cal_yearOf 10 = .ok (.iadd, 1) := by decide +kernel
theorem d_Cal_yearOf_11 : decode c_Cal_yearOf 11 = .ok (.istore_n 1, 1) := by decide +kernel
theorem d_Cal_yearOf_12 : decode c_Cal_yearOf 12 = .ok (.iload_n 1, 1) := by decide +kernel
theorem d_Cal_yearOf_13 : decode c_Cal_yearOf 13 = .ok (.iconst 1, 1) := by decide +kernel
theorem d_Cal_yearOf_14 : decode c_Cal_yearOf 14 = .ok (.invokestatic 37, 3) := by decide +kernel
theorem d_Cal_yearOf_17 : decode c_Cal_yearOf 17 = .ok (.iload_n 0, 1) := by decide +kernel
theorem d_Cal_yearOf_18 : decode c_Cal_yearOf 18 = .ok (.if_icmp .le 9, 3) := by decide +kernel
theorem d_Cal_yearOf_21 : decode c_Cal_yearOf 21 = .ok (.iload_n 1, 1) := by decide +kernel
theorem d_Cal_yearOf_22 : decode c_Cal_yearOf 22 = .ok (.iconst 1, 1) := by decide +kernel
theorem d_Cal_yearOf_23 : decode c_Cal_yearOf 23 = .ok (.isub, 1) := by decide +kernel
theorem d_Cal_yearOf_24 : decode c_Cal_yearOf 24 = .ok (.goto 4, 3) := by decide +kernel
theorem d_Cal_yearOf_27 : decode c_Cal_yearOf 27 = .ok (.iload_n 1, 1) := by decide +kernel
theorem d_Cal_yearOf_28 : decode c_Cal_yearOf 28 = .ok (.ireturn, 1) := by decide +kernel
theorem d_Math_floorDivI_0 : decode c_Math_floorDivI 0 = .ok (.iload_n 0, 1) := by decide +kernel
theorem d_Math_floorDivI_1 : decode c_Math_floorDivI 1 = .ok (.iload_n 1, 1) := by decide +kernel
theorem d_Math_floorDivI_2 : decode c_Math_floorDivI 2 = .ok (.idiv, 1) := by decide +kernel
theorem d_Math_floorDivI_3 : decode c_Math_floorDivI 3 = .ok (.istore_n 2, 1) := by decide +kernel
theorem d_Math_floorDivI_4 : decode c_Math_floorDivI 4 = .ok (.iload_n 0, 1) := by decide +kernel
theorem d_Math_floorDivI_5 : decode c_Math_floorDivI 5 = .ok (.iload_n 1, 1) := by decide +kernel
theorem d_Math_floorDivI_6 : decode c_Math_floorDivI 6 = .ok (.ixor, 1) := by decide +kernel
theorem d_Math_floorDivI_7 : decode c_Math_floorDivI 7 = .ok (.ifCond .ge 14, 3) := by decide +kernel
theorem d_Math_floorDivI_10 : decode c_Math_floorDivI 10 = .ok (.iload_n 2, 1) := by decide +kernel
theorem d_Math_floorDivI_11 : decode c_Math_floorDivI 11 = .ok (.iload_n 1, 1) := by decide +kernel
theorem d_Math_floorDivI_12 : decode c_Math_floorDivI 12 = .ok (.imul, 1) := by decide +kernel
theorem d_Math_floorDivI_13 : decode c_Math_floorDivI 13 = .ok (.iload_n 0, 1) := by decide +kernel
theorem d_Math_floorDivI_14 : decode c_Math_floorDivI 14 = .ok (.if_icmp .eq 7, 3) := by decide +kernel
theorem d_Math_floorDivI_17 : decode c_Math_floorDivI 17 = .ok (.iload_n 2, 1) := by decide +kernel
theorem d_Math_floorDivI_18 : decode c_Math_floorDivI 18 = .ok (.iconst 1, 1) := by decide +kernel
theorem d_Math_floorDivI_19 : decode c_Math_floorDivI 19 = .ok (.isub, 1) := by decide +kernel
theorem d_Math_floorDivI_20 : decode c_Math_floorDivI 20 = .ok (.ireturn, 1) := by decide +kernel
theorem d_Math_floorDivI_21 : decode c_Math_floorDivI 21 = .ok (.iload_n 2, 1) := by decide +kernel
theorem d_Math_floorDivI_22 : decode c_Math_floorDivI 22 = .ok (.ireturn, 1) := by decide +kernel
theorem d_Cal_firstDayOf_0 : decode c_Cal_firstDayOf 0 = .ok (.iload_n 0, 1) := by decide +kernel
theorem d_Cal_firstDayOf_1 : decode c_Cal_firstDayOf 1 = .ok (.iconst 1, 1) := by decide +kernel
theorem d_Cal_firstDayOf_2 : decode c_Cal_firstDayOf 2 = .ok (.isub, 1) := by decide +kernel
theorem d_Cal_firstDayOf_3 : decode c_Cal_firstDayOf 3 = .ok (.istore_n 2, 1) := by decide +kernel
theorem d_Cal_firstDayOf_4 : decode c_Cal_firstDayOf 4 = .ok (.iload_n 2, 1) := by decide +kernel
theorem d_Cal_firstDayOf_5 : decode c_Cal_firstDayOf 5 = .ok (.iconst 4, 1) := by decide +kernel
theorem d_Cal_firstDayOf_6 : decode c_Cal_firstDayOf 6 = .ok (.idiv, 1) := by decide +kernel
theorem d_Cal_firstDayOf_7 : decode c_Cal_firstDayOf 7 = .ok (.iload_n 2, 1) := by decide +kernel
theorem d_Cal_firstDayOf_8 : decode c_Cal_firstDayOf 8 = .ok (.bipush 100, 2) := by decide +kernel
theorem d_Cal_firstDayOf_10 : decode c_Cal_firstDayOf 10 = .ok (.idiv, 1) := by decide +kernel
theorem d_Cal_firstDayOf_11 : decode c_Cal_firstDayOf 11 = .ok (.isub, 1) := by decide +kernel
theorem d_Cal_firstDayOf_12 : decode c_Cal_firstDayOf 12 = .ok (.iload_n 2, 1) := by decide +kernel
theorem d_Cal_firstDayOf_13 : decode c_Cal_firstDayOf 13 = .ok (.sipush 400, 3) := by decide +kernel
theorem d_Cal_firstDayOf_16 : decode c_Cal_firstDayOf 16 = .ok (.idiv, 1) := by decide +kernel
theorem d_Cal_firstDayOf_17 : decode c_Cal_firstDayOf 17 = .ok (.iadd, 1) := by decide +kernel
theorem d_Cal_firstDayOf_18 : decode c_Cal_firstDayOf 18 = .ok (.sipush 477, 3) := by decide +kernel
theorem d_Cal_firstDayOf_21 : decode c_Cal_firstDayOf 21 = .ok (.isub, 1) := by decide +kernel
theorem d_Cal_firstDayOf_22 : decode c_Cal_firstDayOf 22 = .ok (.istore_n 3, 1) := by decide +kernel
theorem d_Cal_firstDayOf_23 : decode c_Cal_firstDayOf 23 = .ok (.sipush 365, 3) := by decide +kernel
theorem d_Cal_firstDayOf_26 : decode c_Cal_firstDayOf 26 = .ok (.iload_n 0, 1) := by decide +kernel
theorem d_Cal_firstDayOf_27 : decode c_Cal_firstDayOf 27 = .ok (.sipush 1970, 3) := by decide +kernel
theorem d_Cal_firstDayOf_30 : decode c_Cal_firstDayOf 30 = .ok (.isub, 1) := by decide +kernel
theorem d_Cal_firstDayOf_31 : decode c_Cal_firstDayOf 31 = .ok (.imul, 1) := by decide +kernel
theorem d_Cal_firstDayOf_32 : decode c_Cal_firstDayOf 32 = .ok (.iload_n 3, 1) := by decide +kernel
theorem d_Cal_firstDayOf_33 : decode c_Cal_firstDayOf 33 = .ok (.iadd, 1) := by decide +kernel
theorem d_Cal_firstDayOf_34 : decode c_Cal_firstDayOf 34 = .ok (.istore 4, 2) := by decide +kernel
theorem d_Cal_firstDayOf_36 : decode c_Cal_firstDayOf 36 = .ok (.iconst 1, 1) := by decide +kernel
theorem d_Cal_firstDayOf_37 : decode c_Cal_firstDayOf 37 = .ok (.istore 5, 2) := by decide +kernel
theorem d_Cal_firstDayOf_39 : decode c_Cal_firstDayOf 39 = .ok (.iload 5, 2) := by decide +kernel
theorem d_Cal_firstDayOf_41 : decode c_Cal_firstDayOf 41 = .ok (.iload_n 1, 1) := by decide +kernel
theorem d_Cal_firstDayOf_42 : decode c_Cal_firstDayOf 42 = .ok (.if_icmp .ge 20, 3) := by decide +kernel
theorem d_Cal_firstDayOf_45 : decode c_Cal_firstDayOf 45 = .ok (.iload 4, 2) := by decide +kernel
theorem d_Cal_firstDayOf_47 : decode c_Cal_firstDayOf 47 = .ok (.iload_n 0, 1) := by decide +kernel
theorem d_Cal_firstDayOf_48 : decode c_Cal_firstDayOf 48 = .ok (.iload 5, 2) := by decide +kernel
theorem d_Cal_firstDayOf_50 : decode c_Cal_firstDayOf 50 = .ok (.invokestatic 50, 3) := by decide +kernel
theorem d_Cal_firstDayOf_53 : decode c_Cal_firstDayOf 53 = .ok (.iadd, 1) := by decide +kernel
theorem d_Cal_firstDayOf_54 : decode c_Cal_firstDayOf 54 = .ok (.istore 4, 2) := by decide +kernel
theorem d_Cal_firstDayOf_56 : decode c_Cal_firstDayOf 56 = .ok (.iinc 5 1, 3) := by decide +kernel
theorem d_Cal_firstDayOf_59 : decode c_Cal_firstDayOf 59 = .ok (.goto (-20), 3) := by decide +kernel
theorem d_Cal_firstDayOf_62 : decode c_Cal_firstDayOf 62 = .ok (.iload 4, 2) := by decide +kernel
theorem d_Cal_firstDayOf_64 : decode c_Cal_firstDayOf 64 = .ok (.ireturn, 1) := by decide +kernel
theorem d_Cal_lengthOf_0 : decode c_Cal_lengthOf 0 = .ok (.iload_n 1, 1) := by decide +kernel
theorem d_Cal_lengthOf_1 : decode c_Cal_lengthOf 1 = .ok (.tableswitch 87 2 11 #[55, 87, 84, 87, 84, 87, 87, 84, 87, 84], 55) := by decide +kernel
theorem d_Cal_lengthOf_56 : decode c_Cal_lengthOf 56 = .ok (.iload_n 0, 1) := by decide +kernel
theorem d_Cal_lengthOf_57 : decode c_Cal_lengthOf 57 = .ok (.iconst 4, 1) := by decide +kernel
theorem d_Cal_lengthOf_58 : decode c_Cal_lengthOf 58 = .ok (.irem, 1) := by decide +kernel
theorem d_Cal_lengthOf_59 : decode c_Cal_lengthOf 59 = .ok (.ifCond .ne 23, 3) := by decide +kernel
theorem d_Cal_lengthOf_62 : decode c_Cal_lengthOf 62 = .ok (.iload_n 0, 1) := by decide +kernel
theorem d_Cal_lengthOf_63 : decode c_Cal_lengthOf 63 = .ok (.bipush 100, 2) := by decide +kernel
theorem d_Cal_lengthOf_65 : decode c_Cal_lengthOf 65 = .ok (.irem, 1) := by decide +kernel
theorem d_Cal_lengthOf_66 : decode c_Cal_lengthOf 66 = .ok (.ifCond .ne 11, 3) := by decide +kernel
theorem d_Cal_lengthOf_69 : decode c_Cal_lengthOf 69 = .ok (.iload_n 0, 1) := by decide +kernel
theorem d_Cal_lengthOf_70 : decode c_Cal_lengthOf 70 = .ok (.sipush 400, 3) := by decide +kernel
theorem d_Cal_lengthOf_73 : decode c_Cal_lengthOf 73 = .ok (.irem, 1) := by decide +kernel
theorem d_Cal_lengthOf_74 : decode c_Cal_lengthOf 74 = .ok (.ifCond .ne 8, 3) := by decide +kernel
theorem d_Cal_lengthOf_77 : decode c_Cal_lengthOf 77 = .ok (.bipush 29, 2) := by decide +kernel
theorem d_Cal_lengthOf_79 : decode c_Cal_lengthOf 79 = .ok (.goto 5, 3) := by decide +kernel
theorem d_Cal_lengthOf_82 : decode c_Cal_lengthOf 82 = .ok (.bipush 28, 2) := by decide +kernel
theorem d_Cal_lengthOf_84 : decode c_Cal_lengthOf 84 = .ok (.ireturn, 1) := by decide +kernel
theorem d_Cal_lengthOf_85 : decode c_Cal_lengthOf 85 = .ok (.bipush 30, 2) := by decide +kernel
theorem d_Cal_lengthOf_87 : decode c_Cal_lengthOf 87 = .ok (.ireturn, 1) := by decide +kernel
theorem d_Cal_lengthOf_88 : decode c_Cal_lengthOf 88 = .ok (.bipush 31, 2) := by decide +kernel
theorem d_Cal_lengthOf_90 : decode c_Cal_lengthOf 90 = .ok (.ireturn, 1) := by decide +kernel
theorem d_Rule_momentIn_0 : decode c_Rule_momentIn 0 = .ok (.iload_n 1, 1) := by decide +kernel
theorem d_Rule_momentIn_1 : decode c_Rule_momentIn 1 = .ok (.aload_n 0, 1) := by decide +kernel
theorem d_Rule_momentIn_2 : decode c_Rule_momentIn 2 = .ok (.getfield 9, 3) := by decide +kernel
theorem d_Rule_momentIn_5 : decode c_Rule_momentIn 5 = .ok (.invokestatic 53, 3) := by decide +kernel
theorem d_Rule_momentIn_8 : decode c_Rule_momentIn 8 = .ok (.istore_n 2, 1) := by decide +kernel
theorem d_Rule_momentIn_9 : decode c_Rule_momentIn 9 = .ok (.aload_n 0, 1) := by decide +kernel
theorem d_Rule_momentIn_10 : decode c_Rule_momentIn 10 = .ok (.getfield 18, 3) := by decide +kernel
theorem d_Rule_momentIn_13 : decode c_Rule_momentIn 13 = .ok (.iload_n 2, 1) := by decide +kernel
theorem d_Rule_momentIn_14 : decode c_Rule_momentIn 14 = .ok (.invokestatic 56, 3) := by decide +kernel
theorem d_Rule_momentIn_17 : decode c_Rule_momentIn 17 = .ok (.isub, 1) := by decide +kernel
theorem d_Rule_momentIn_18 : decode c_Rule_momentIn 18 = .ok (.bipush 7, 2) := by decide +kernel
theorem d_Rule_momentIn_20 : decode c_Rule_momentIn 20 = .ok (.invokestatic 59, 3) := by decide +kernel
theorem d_Rule_momentIn_23 : decode c_Rule_momentIn 23 = .ok (.istore_n 3, 1) := by decide +kernel
theorem d_Rule_momentIn_24 : decode c_Rule_momentIn 24 = .ok (.iload_n 3, 1) := by decide +kernel
theorem d_Rule_momentIn_25 : decode c_Rule_momentIn 25 = .ok (.bipush 7, 2) := by decide +kernel
theorem d_Rule_momentIn_27 : decode c_Rule_momentIn 27 = .ok (.aload_n 0, 1) := by decide +kernel
theorem d_Rule_momentIn_28 : decode c_Rule_momentIn 28 = .ok (.getfield 15, 3) := by decide +kernel
theorem d_Rule_momentIn_31 : decode c_Rule_momentIn 31 = .ok (.iconst 1, 1) := by decide +kernel
theorem d_Rule_momentIn_32 : decode c_Rule_momentIn 32 = .ok (.isub, 1) := by decide +kernel
theorem d_Rule_momentIn_33 : decode c_Rule_momentIn 33 = .ok (.imul, 1) := by decide +kernel
theorem d_Rule_momentIn_34 : decode c_Rule_momentIn 34 = .ok (.iadd, 1) := by decide +kernel
theorem d_Rule_momentIn_35 : decode c_Rule_momentIn 35 = .ok (.istore 4, 2) := by decide +kernel
theorem d_Rule_momentIn_37 : decode c_Rule_momentIn 37 = .ok (.iload 4, 2) := by decide +kernel
theorem d_Rule_momentIn_39 : decode c_Rule_momentIn 39 = .ok (.iload_n 1, 1) := by decide +kernel
theorem d_Rule_momentIn_40 : decode c_Rule_momentIn 40 = .ok (.aload_n 0, 1) := by decide +kernel
theorem d_Rule_momentIn_41 : decode c_Rule_momentIn 41 = .ok (.getfield 9, 3) := by decide +kernel
theorem d_Rule_momentIn_44 : decode c_Rule_momentIn 44 = .ok (.invokestatic 62, 3) := by decide +kernel
theorem d_Rule_momentIn_47 : decode c_Rule_momentIn 47 = .ok (.if_icmp .lt 6, 3) := by decide +kernel
theorem d_Rule_momentIn_50 : decode c_Rule_momentIn 50 = .ok (.iinc 4 (-7), 3) := by decide +kernel
theorem d_Rule_momentIn_53 : decode c_Rule_momentIn 53 = .ok (.iload_n 2, 1) := by decide +kernel
theorem d_Rule_momentIn_54 : decode c_Rule_momentIn 54 = .ok (.iload 4, 2) := by decide +kernel
theorem d_Rule_momentIn_56 : decode c_Rule_momentIn 56 = .ok (.iadd, 1) := by decide +kernel
theorem d_Rule_momentIn_57 : decode c_Rule_momentIn 57 = .ok (.i2l, 1) := by decide +kernel
theorem d_Rule_momentIn_58 : decode c_Rule_momentIn 58 = .ok (.ldc2_w 65, 3) := by decide +kernel
theorem d_Rule_momentIn_61 : decode c_Rule_momentIn 61 = .ok (.lmul, 1) := by decide +kernel
theorem d_Rule_momentIn_62 : decode c_Rule_momentIn 62 = .ok (.aload_n 0, 1) := by decide +kernel
theorem d_Rule_momentIn_63 : decode c_Rule_momentIn 63 = .ok (.getfield 21, 3) := by decide +kernel
theorem d_Rule_momentIn_66 : decode c_Rule_momentIn 66 = .ok (.i2l, 1) := by decide +kernel
theorem d_Rule_momentIn_67 : decode c_Rule_momentIn 67 = .ok (.ldc2_w 24, 3) := by decide +kernel
theorem d_Rule_momentIn_70 : decode c_Rule_momentIn 70 = .ok (.lmul, 1) := by decide +kernel
theorem d_Rule_momentIn_71 : decode c_Rule_momentIn 71 = .ok (.ladd, 1) := by decide +kernel
theorem d_Rule_momentIn_72 : decode c_Rule_momentIn 72 = .ok (.lreturn, 1) := by decide +kernel
theorem d_Cal_weekdayOf_0 : decode c_Cal_weekdayOf 0 = .ok (.iload_n 0, 1) := by decide +kernel
theorem d_Cal_weekdayOf_1 : decode c_Cal_weekdayOf 1 = .ok (.iconst 4, 1) := by decide +kernel
theorem d_Cal_weekdayOf_2 : decode c_Cal_weekdayOf 2 = .ok (.iadd, 1) := by decide +kernel
theorem d_Cal_weekdayOf_3 : decode c_Cal_weekdayOf 3 = .ok (.bipush 7, 2) := by decide +kernel
theorem d_Cal_weekdayOf_5 : decode c_Cal_weekdayOf 5 = .ok (.invokestatic 46, 3) := by decide +kernel
theorem d_Cal_weekdayOf_8 : decode c_Cal_weekdayOf 8 = .ok (.ireturn, 1) := by decide +kernel
theorem d_Math_floorModI_0 : decode c_Math_floorModI 0 = .ok (.iload_n 0, 1) := by decide +kernel
theorem d_Math_floorModI_1 : decode c_Math_floorModI 1 = .ok (.iload_n 1, 1) := by decide +kernel
theorem d_Math_floorModI_2 : decode c_Math_floorModI 2 = .ok (.irem, 1) := by decide +kernel
theorem d_Math_floorModI_3 : decode c_Math_floorModI 3 = .ok (.istore_n 2, 1) := by decide +kernel
theorem d_Math_floorModI_4 : decode c_Math_floorModI 4 = .ok (.iload_n 0, 1) := by decide +kernel
theorem d_Math_floorModI_5 : decode c_Math_floorModI 5 = .ok (.iload_n 1, 1) := by decide +kernel
theorem d_Math_floorModI_6 : decode c_Math_floorModI 6 = .ok (.ixor, 1) := by decide +kernel
theorem d_Math_floorModI_7 : decode c_Math_floorModI 7 = .ok (.ifCond .ge 11, 3) := by decide +kernel
theorem d_Math_floorModI_10 : decode c_Math_floorModI 10 = .ok (.iload_n 2, 1) := by decide +kernel
theorem d_Math_floorModI_11 : decode c_Math_floorModI 11 = .ok (.ifCond .eq 7, 3) := by decide +kernel
theorem d_Math_floorModI_14 : decode c_Math_floorModI 14 = .ok (.iload_n 2, 1) := by decide +kernel
theorem d_Math_floorModI_15 : decode c_Math_floorModI 15 = .ok (.iload_n 1, 1) := by decide +kernel
theorem d_Math_floorModI_16 : decode c_Math_floorModI 16 = .ok (.iadd, 1) := by decide +kernel
theorem d_Math_floorModI_17 : decode c_Math_floorModI 17 = .ok (.ireturn, 1) := by decide +kernel
theorem d_Math_floorModI_18 : decode c_Math_floorModI 18 = .ok (.iload_n 2, 1) := by decide +kernel
theorem d_Math_floorModI_19 : decode c_Math_floorModI 19 = .ok (.ireturn, 1) := by decide +kernel
theorem d_Clk_many_0 : decode c_Clk_many 0 = .ok (.aload_n 0, 1) := by decide +kernel
theorem d_Clk_many_1 : decode c_Clk_many 1 = .ok (.iload_n 1, 1) := by decide +kernel
theorem d_Clk_many_2 : decode c_Clk_many 2 = .ok (.invokevirtual 44, 3) := by decide +kernel
theorem d_Clk_many_5 : decode c_Clk_many 5 = .ok (.astore 4, 2) := by decide +kernel
theorem d_Clk_many_7 : decode c_Clk_many 7 = .ok (.lload_n 2, 1) := by decide +kernel
theorem d_Clk_many_8 : decode c_Clk_many 8 = .ok (.invokestatic 59, 3) := by decide +kernel
theorem d_Clk_many_11 : decode c_Clk_many 11 = .ok (.aload 4, 2) := by decide +kernel
theorem d_Clk_many_13 : decode c_Clk_many 13 = .ok (.lload_n 2, 1) := by decide +kernel
theorem d_Clk_many_14 : decode c_Clk_many 14 = .ok (.invokevirtual 69, 3) := by decide +kernel
theorem d_Clk_many_17 : decode c_Clk_many 17 = .ok (.ifCond .eq 7, 3) := by decide +kernel
theorem d_Clk_many_20 : decode c_Clk_many 20 = .ok (.iconst 1, 1) := by decide +kernel
theorem d_Clk_many_21 : decode c_Clk_many 21 = .ok (.goto 4, 3) := by decide +kernel
theorem d_Clk_many_24 : decode c_Clk_many 24 = .ok (.iconst 0, 1) := by decide +kernel
theorem d_Clk_many_25 : decode c_Clk_many 25 = .ok (.istore 5, 2) := by decide +kernel
theorem d_Clk_many_27 : decode c_Clk_many 27 = .ok (.aload 4, 2) := by decide +kernel
theorem d_Clk_many_29 : decode c_Clk_many 29 = .ok (.lload_n 2, 1) := by decide +kernel
theorem d_Clk_many_30 : decode c_Clk_many 30 = .ok (.invokevirtual 73, 3) := by decide +kernel
theorem d_Clk_many_33 : decode c_Clk_many 33 = .ok (.ifCond .eq 7, 3) := by decide +kernel
theorem d_Clk_many_36 : decode c_Clk_many 36 = .ok (.iconst 1, 1) := by decide +kernel
theorem d_Clk_many_37 : decode c_Clk_many 37 = .ok (.goto 4, 3) := by decide +kernel
theorem d_Clk_many_40 : decode c_Clk_many 40 = .ok (.iconst 0, 1) := by decide +kernel
theorem d_Clk_many_41 : decode c_Clk_many 41 = .ok (.istore 6, 2) := by decide +kernel
theorem d_Clk_many_43 : decode c_Clk_many 43 = .ok (.iload 5, 2) := by decide +kernel
theorem d_Clk_many_45 : decode c_Clk_many 45 = .ok (.iload 6, 2) := by decide +kernel
theorem d_Clk_many_47 : decode c_Clk_many 47 = .ok (.iadd, 1) := by decide +kernel
theorem d_Clk_many_48 : decode c_Clk_many 48 = .ok (.ireturn, 1) := by decide +kernel
theorem d_Zone_isReadInSummer_0 : decode c_Zone_isReadInSummer 0 = .ok (.aload_n 0, 1) := by decide +kernel
theorem d_Zone_isReadInSummer_1 : decode c_Zone_isReadInSummer 1 = .ok (.aload_n 0, 1) := by decide +kernel
theorem d_Zone_isReadInSummer_2 : decode c_Zone_isReadInSummer 2 = .ok (.lload_n 1, 1) := by decide +kernel
theorem d_Zone_isReadInSummer_3 : decode c_Zone_isReadInSummer 3 = .ok (.invokevirtual 46, 3) := by decide +kernel
theorem d_Zone_isReadInSummer_6 : decode c_Zone_isReadInSummer 6 = .ok (.invokevirtual 36, 3) := by decide +kernel
theorem d_Zone_isReadInSummer_9 : decode c_Zone_isReadInSummer 9 = .ok (.ireturn, 1) := by decide +kernel
theorem d_Zone_fromSummerReading_0 : decode c_Zone_fromSummerReading 0 = .ok (.lload_n 1, 1) := by decide +kernel
theorem d_Zone_fromSummerReading_1 : decode c_Zone_fromSummerReading 1 = .ok (.aload_n 0, 1) := by decide +kernel
theorem d_Zone_fromSummerReading_2 : decode c_Zone_fromSummerReading 2 = .ok (.getfield 21, 3) := by decide +kernel
theorem d_Zone_fromSummerReading_5 : decode c_Zone_fromSummerReading 5 = .ok (.aload_n 0, 1) := by decide +kernel
theorem d_Zone_fromSummerReading_6 : decode c_Zone_fromSummerReading 6 = .ok (.getfield 25, 3) := by decide +kernel
theorem d_Zone_fromSummerReading_9 : decode c_Zone_fromSummerReading 9 = .ok (.iadd, 1) := by decide +kernel
theorem d_Zone_fromSummerReading_10 : decode c_Zone_fromSummerReading 10 = .ok (.i2l, 1) := by decide +kernel
theorem d_Zone_fromSummerReading_11 : decode c_Zone_fromSummerReading 11 = .ok (.ldc2_w 40, 3) := by decide +kernel
theorem d_Zone_fromSummerReading_14 : decode c_Zone_fromSummerReading 14 = .ok (.lmul, 1) := by decide +kernel
theorem d_Zone_fromSummerReading_15 : decode c_Zone_fromSummerReading 15 = .ok (.lsub, 1) := by decide +kernel
theorem d_Zone_fromSummerReading_16 : decode c_Zone_fromSummerReading 16 = .ok (.lreturn, 1) := by decide +kernel
theorem d_Zone_isReadOutsideSummer_0 : decode c_Zone_isReadOutsideSummer 0 = .ok (.aload_n 0, 1) := by decide +kernel
theorem d_Zone_isReadOutsideSummer_1 : decode c_Zone_isReadOutsideSummer 1 = .ok (.aload_n 0, 1) := by decide +kernel
theorem d_Zone_isReadOutsideSummer_2 : decode c_Zone_isReadOutsideSummer 2 = .ok (.lload_n 1, 1) := by decide +kernel
theorem d_Zone_isReadOutsideSummer_3 : decode c_Zone_isReadOutsideSummer 3 = .ok (.invokevirtual 42, 3) := by decide +kernel
theorem d_Zone_isReadOutsideSummer_6 : decode c_Zone_isReadOutsideSummer 6 = .ok (.invokevirtual 36, 3) := by decide +kernel
theorem d_Zone_isReadOutsideSummer_9 : decode c_Zone_isReadOutsideSummer 9 = .ok (.ifCond .ne 7, 3) := by decide +kernel
theorem d_Zone_isReadOutsideSummer_12 : decode c_Zone_isReadOutsideSummer 12 = .ok (.iconst 1, 1) := by decide +kernel
theorem d_Zone_isReadOutsideSummer_13 : decode c_Zone_isReadOutsideSummer 13 = .ok (.goto 4, 3) := by decide +kernel
theorem d_Zone_isReadOutsideSummer_16 : decode c_Zone_isReadOutsideSummer 16 = .ok (.iconst 0, 1) := by decide +kernel
theorem d_Zone_isReadOutsideSummer_17 : decode c_Zone_isReadOutsideSummer 17 = .ok (.ireturn, 1) := by decide +kernel
theorem d_Zone_fromPlainReading_0 : decode c_Zone_fromPlainReading 0 = .ok (.lload_n 1, 1) := by decide +kernel
theorem d_Zone_fromPlainReading_1 : decode c_Zone_fromPlainReading 1 = .ok (.aload_n 0, 1) := by decide +kernel
theorem d_Zone_fromPlainReading_2 : decode c_Zone_fromPlainReading 2 = .ok (.getfield 21, 3) := by decide +kernel
theorem d_Zone_fromPlainReading_5 : decode c_Zone_fromPlainReading 5 = .ok (.i2l, 1) := by decide +kernel
theorem d_Zone_fromPlainReading_6 : decode c_Zone_fromPlainReading 6 = .ok (.ldc2_w 40, 3) := by decide +kernel
theorem d_Zone_fromPlainReading_9 : decode c_Zone_fromPlainReading 9 = .ok (.lmul, 1) := by decide +kernel
theorem d_Zone_fromPlainReading_10 : decode c_Zone_fromPlainReading 10 = .ok (.lsub, 1) := by decide +kernel
theorem d_Zone_fromPlainReading_11 : decode c_Zone_fromPlainReading 11 = .ok (.lreturn, 1) := by decide +kernel
theorem d_Clk_universal_0 : decode c_Clk_universal 0 = .ok (.aload_n 0, 1) := by decide +kernel
theorem d_Clk_universal_1 : decode c_Clk_universal 1 = .ok (.iload_n 1, 1) := by decide +kernel
theorem d_Clk_universal_2 : decode c_Clk_universal 2 = .ok (.invokevirtual 44, 3) := by decide +kernel
theorem d_Clk_universal_5 : decode c_Clk_universal 5 = .ok (.astore 5, 2) := by decide +kernel
theorem d_Clk_universal_7 : decode c_Clk_universal 7 = .ok (.lload_n 2, 1) := by decide +kernel
theorem d_Clk_universal_8 : decode c_Clk_universal 8 = .ok (.invokestatic 59, 3) := by decide +kernel
theorem d_Clk_universal_11 : decode c_Clk_universal 11 = .ok (.aload 5, 2) := by decide +kernel
theorem d_Clk_universal_13 : decode c_Clk_universal 13 = .ok (.lload_n 2, 1) := by decide +kernel
theorem d_Clk_universal_14 : decode c_Clk_universal 14 = .ok (.invokevirtual 69, 3) := by decide +kernel
theorem d_Clk_universal_17 : decode c_Clk_universal 17 = .ok (.istore 6, 2) := by decide +kernel
theorem d_Clk_universal_19 : decode c_Clk_universal 19 = .ok (.aload 5, 2) := by decide +kernel
theorem d_Clk_universal_21 : decode c_Clk_universal 21 = .ok (.lload_n 2, 1) := by decide +kernel
theorem d_Clk_universal_22 : decode c_Clk_universal 22 = .ok (.invokevirtual 73, 3) := by decide +kernel
theorem d_Clk_universal_25 : decode c_Clk_universal 25 = .ok (.istore 7, 2) := by decide +kernel
theorem d_Clk_universal_27 : decode c_Clk_universal 27 = .ok (.iload 6, 2) := by decide +kernel
theorem d_Clk_universal_29 : decode c_Clk_universal 29 = .ok (.ifCond .ne 16, 3) := by decide +kernel
theorem d_Clk_universal_32 : decode c_Clk_universal 32 = .ok (.iload 7, 2) := by decide +kernel
theorem d_Clk_universal_34 : decode c_Clk_universal 34 = .ok (.ifCond .ne 11, 3) := by decide +kernel
theorem d_Clk_universal_37 : decode c_Clk_universal 37 = .ok (.new 76, 3) := by decide +kernel
theorem d_Clk_universal_40 : decode c_Clk_universal 40 = .ok (.dup, 1) := by decide +kernel
theorem d_Clk_universal_41 : decode c_Clk_universal 41 = .ok (.invokespecial 78, 3) := by decide +kernel
theorem d_Clk_universal_44 : decode c_Clk_universal 44 = .ok (.athrow, 1) := by decide +kernel
theorem d_Clk_universal_45 : decode c_Clk_universal 45 = .ok (.iload 6, 2) := by decide +kernel
theorem d_Clk_universal_47 : decode c_Clk_universal 47 = .ok (.ifCond .eq 17, 3) := by decide +kernel
theorem d_Clk_universal_50 : decode c_Clk_universal 50 = .ok (.iload 4, 2) := by decide +kernel
theorem d_Clk_universal_52 : decode c_Clk_universal 52 = .ok (.ifCond .eq 8, 3) := by decide +kernel
theorem d_Clk_universal_55 : decode c_Clk_universal 55 = .ok (.iload 7, 2) := by decide +kernel
theorem d_Clk_universal_57 : decode c_Clk_universal 57 = .ok (.ifCond .ne 7, 3) := by decide +kernel
theorem d_Clk_universal_60 : decode c_Clk_universal 60 = .ok (.iconst 1, 1) := by decide +kernel
theorem d_Clk_universal_61 : decode c_Clk_universal 61 = .ok (.goto 4, 3) := by decide +kernel
theorem d_Clk_universal_64 : decode c_Clk_universal 64 = .ok (.iconst 0, 1) := by decide +kernel
theorem d_Clk_universal_65 : decode c_Clk_universal 65 = .ok (.istore 8, 2) := by decide +kernel
theorem d_Clk_universal_67 : decode c_Clk_universal 67 = .ok (.iload 8, 2) := by decide +kernel
theorem d_Clk_universal_69 : decode c_Clk_universal 69 = .ok (.ifCond .eq 12, 3) := by decide +kernel
theorem d_Clk_universal_72 : decode c_Clk_universal 72 = .ok (.aload 5, 2) := by decide +kernel
theorem d_Clk_universal_74 : decode c_Clk_universal 74 = .ok (.lload_n 2, 1) := by decide +kernel
theorem d_Clk_universal_75 : decode c_Clk_universal 75 = .ok (.invokevirtual 79, 3) := by decide +kernel
theorem d_Clk_universal_78 : decode c_Clk_universal 78 = .ok (.goto 9, 3) := by decide +kernel
theorem d_Clk_universal_81 : decode c_Clk_universal 81 = .ok (.aload 5, 2) := by decide +kernel
theorem d_Clk_universal_83 : decode c_Clk_universal 83 = .ok (.lload_n 2, 1) := by decide +kernel
theorem d_Clk_universal_84 : decode c_Clk_universal 84 = .ok (.invokevirtual 83, 3) := by decide +kernel
theorem d_Clk_universal_87 : decode c_Clk_universal 87 = .ok (.lreturn, 1) := by decide +kernel
theorem d_Clk_change_0 : decode c_Clk_change 0 = .ok (.aload_n 0, 1) := by decide +kernel
theorem d_Clk_change_1 : decode c_Clk_change 1 = .ok (.iload_n 1, 1) := by decide +kernel
theorem d_Clk_change_2 : decode c_Clk_change 2 = .ok (.invokevirtual 44, 3) := by decide +kernel
theorem d_Clk_change_5 : decode c_Clk_change 5 = .ok (.astore 5, 2) := by decide +kernel
theorem d_Clk_change_7 : decode c_Clk_change 7 = .ok (.lload_n 2, 1) := by decide +kernel
theorem d_Clk_change_8 : decode c_Clk_change 8 = .ok (.invokestatic 59, 3) := by decide +kernel
theorem d_Clk_change_11 : decode c_Clk_change 11 = .ok (.iload 4, 2) := by decide +kernel
theorem d_Clk_change_13 : decode c_Clk_change 13 = .ok (.ifCond .eq 12, 3) := by decide +kernel
theorem d_Clk_change_16 : decode c_Clk_change 16 = .ok (.aload 5, 2) := by decide +kernel
theorem d_Clk_change_18 : decode c_Clk_change 18 = .ok (.lload_n 2, 1) := by decide +kernel
theorem d_Clk_change_19 : decode c_Clk_change 19 = .ok (.invokevirtual 86, 3) := by decide +kernel
theorem d_Clk_change_22 : decode c_Clk_change 22 = .ok (.goto 9, 3) := by decide +kernel
theorem d_Clk_change_25 : decode c_Clk_change 25 = .ok (.aload 5, 2) := by decide +kernel
theorem d_Clk_change_27 : decode c_Clk_change 27 = .ok (.lload_n 2, 1) := by decide +kernel
theorem d_Clk_change_28 : decode c_Clk_change 28 = .ok (.invokevirtual 89, 3) := by decide +kernel
theorem d_Clk_change_31 : decode c_Clk_change 31 = .ok (.lstore 6, 2) := by decide +kernel
theorem d_Clk_change_33 : decode c_Clk_change 33 = .ok (.lload 6, 2) := by decide +kernel
theorem d_Clk_change_35 : decode c_Clk_change 35 = .ok (.lconst 0, 1) := by decide +kernel
theorem d_Clk_change_36 : decode c_Clk_change 36 = .ok (.lcmp, 1) := by decide +kernel
theorem d_Clk_change_37 : decode c_Clk_change 37 = .ok (.ifCond .lt 12, 3) := by decide +kernel
theorem d_Clk_change_40 : decode c_Clk_change 40 = .ok (.lload 6, 2) := by decide +kernel
theorem d_Clk_change_42 : decode c_Clk_change 42 = .ok (.ldc2_w 92, 3) := by decide +kernel
theorem d_Clk_change_45 : decode c_Clk_change 45 = .ok (.lcmp, 1) := by decide +kernel
theorem d_Clk_change_46 : decode c_Clk_change 46 = .ok (.ifCond .ne 9, 3) := by decide +kernel
theorem d_Clk_change_49 : decode c_Clk_change 49 = .ok (.ldc2_w 94, 3) := by decide +kernel
theorem d_Clk_change_52 : decode c_Clk_change 52 = .ok (.goto 5, 3) := by decide +kernel
theorem d_Clk_change_55 : decode c_Clk_change 55 = .ok (.lload 6, 2) := by decide +kernel
theorem d_Clk_change_57 : decode c_Clk_change 57 = .ok (.lreturn, 1) := by decide +kernel
theorem d_Zone_lastChangeUpTo_0 : decode c_Zone_lastChangeUpTo 0 = .ok (.aload_n 0, 1) := by decide +kernel
theorem d_Zone_lastChangeUpTo_1 : decode c_Zone_lastChangeUpTo 1 = .ok (.getfield 25, 3) := by decide +kernel
theorem d_Zone_lastChangeUpTo_4 : decode c_Zone_lastChangeUpTo 4 = .ok (.ifCond .ne 7, 3) := by decide +kernel
theorem d_Zone_lastChangeUpTo_7 : decode c_Zone_lastChangeUpTo 7 = .ok (.ldc2_w 49, 3) := by decide +kernel
theorem d_Zone_lastChangeUpTo_10 : decode c_Zone_lastChangeUpTo 10 = .ok (.lreturn, 1) := by decide +kernel
theorem d_Zone_lastChangeUpTo_11 : decode c_Zone_lastChangeUpTo 11 = .ok (.aload_n 0, 1) := by decide +kernel
theorem d_Zone_lastChangeUpTo_12 : decode c_Zone_lastChangeUpTo 12 = .ok (.getfield 12, 3) := by decide +kernel
theorem d_Zone_lastChangeUpTo_15 : decode c_Zone_lastChangeUpTo 15 = .ok (.lload_n 1, 1) := by decide +kernel
theorem d_Zone_lastChangeUpTo_16 : decode c_Zone_lastChangeUpTo 16 = .ok (.aload_n 0, 1) := by decide +kernel
theorem d_Zone_lastChangeUpTo_17 : decode c_Zone_lastChangeUpTo 17 = .ok (.getfield 21, 3) := by decide +kernel
theorem d_Zone_lastChangeUpTo_20 : decode c_Zone_lastChangeUpTo 20 = .ok (.invokevirtual 32, 3) := by decide +kernel
theorem d_Zone_lastChangeUpTo_23 : decode c_Zone_lastChangeUpTo 23 = .ok (.aload_n 0, 1) := by decide +kernel
theorem d_Zone_lastChangeUpTo_24 : decode c_Zone_lastChangeUpTo 24 = .ok (.getfield 18, 3) := by decide +kernel
theorem d_Zone_lastChangeUpTo_27 : decode c_Zone_lastChangeUpTo 27 = .ok (.lload_n 1, 1) := by decide +kernel
theorem d_Zone_lastChangeUpTo_28 : decode c_Zone_lastChangeUpTo 28 = .ok (.aload_n 0, 1) := by decide +kernel
theorem d_Zone_lastChangeUpTo_29 : decode c_Zone_lastChangeUpTo 29 = .ok (.getfield 21, 3) := by decide +kernel
theorem d_Zone_lastChangeUpTo_32 : decode c_Zone_lastChangeUpTo 32 = .ok (.aload_n 0, 1) := by decide +kernel
theorem d_Zone_lastChangeUpTo_33 : decode c_Zone_lastChangeUpTo 33 = .ok (.getfield 25, 3) := by decide +kernel
theorem d_Zone_lastChangeUpTo_36 : decode c_Zone_lastChangeUpTo 36 = .ok (.iadd, 1) := by decide +kernel
theorem d_Zone_lastChangeUpTo_37 : decode c_Zone_lastChangeUpTo 37 = .ok (.invokevirtual 32, 3) := by decide +kernel
theorem d_Zone_lastChangeUpTo_40 : decode c_Zone_lastChangeUpTo 40 = .ok (.invokestatic 51, 3) := by decide +kernel
theorem d_Zone_lastChangeUpTo_43 : decode c_Zone_lastChangeUpTo 43 = .ok (.lreturn, 1) := by decide +kernel
theorem d_Math_maxJ_0 : decode c_Math_maxJ 0 = .ok (.lload_n 0, 1) := by decide +kernel
theorem d_Math_maxJ_1 : decode c_Math_maxJ 1 = .ok (.lload_n 2, 1) := by decide +kernel
theorem d_Math_maxJ_2 : decode c_Math_maxJ 2 = .ok (.lcmp, 1) := by decide +kernel
theorem d_Math_maxJ_3 : decode c_Math_maxJ 3 = .ok (.ifCond .lt 7, 3) := by decide +kernel
theorem d_Math_maxJ_6 : decode c_Math_maxJ 6 = .ok (.lload_n 0, 1) := by decide +kernel
theorem d_Math_maxJ_7 : decode c_Math_maxJ 7 = .ok (.goto 4, 3) := by decide +kernel
theorem d_Math_maxJ_10 : decode c_Math_maxJ 10 = .ok (.lload_n 2, 1) := by decide +kernel
theorem d_Math_maxJ_11 : decode c_Math_maxJ 11 = .ok (.lreturn, 1) := by decide +kernel
theorem d_Zone_firstChangeBehind_0 : decode c_Zone_firstChangeBehind 0 = .ok (.aload_n 0, 1) := by decide +kernel
theorem d_Zone_firstChangeBehind_1 : decode c_Zone_firstChangeBehind 1 = .ok (.getfield 25, 3) := by decide +kernel
theorem d_Zone_firstChangeBehind_4 : decode c_Zone_firstChangeBehind 4 = .ok (.ifCond .ne 7, 3) := by decide +kernel
theorem d_Zone_firstChangeBehind_7 : decode c_Zone_firstChangeBehind 7 = .ok (.ldc2_w 57, 3) := by decide +kernel
theorem d_Zone_firstChangeBehind_10 : decode c_Zone_firstChangeBehind 10 = .ok (.lreturn, 1) := by decide +kernel
theorem d_Zone_firstChangeBehind_11 : decode c_Zone_firstChangeBehind 11 = .ok (.aload_n 0, 1) := by decide +kernel
theorem d_Zone_firstChangeBehind_12 : decode c_Zone_firstChangeBehind 12 = .ok (.getfield 12, 3) := by decide +kernel
theorem d_Zone_firstChangeBehind_15 : decode c_Zone_firstChangeBehind 15 = .ok (.lload_n 1, 1) := by decide +kernel
theorem d_Zone_firstChangeBehind_16 : decode c_Zone_firstChangeBehind 16 = .ok (.aload_n 0, 1) := by decide +kernel
theorem d_Zone_firstChangeBehind_17 : decode c_Zone_firstChangeBehind 17 = .ok (.getfield 21, 3) := by decide +kernel
theorem d_Zone_firstChangeBehind_20 : decode c_Zone_firstChangeBehind 20 = .ok (.invokevirtual 59, 3) := by decide +kernel
theorem d_Zone_firstChangeBehind_23 : decode c_Zone_firstChangeBehind 23 = .ok (.aload_n 0, 1) := by decide +kernel
theorem d_Zone_firstChangeBehind_24 : decode c_Zone_firstChangeBehind 24 = .ok (.getfield 18, 3) := by decide +kernel
theorem d_Zone_firstChangeBehind_27 : decode c_Zone_firstChangeBehind 27 = .ok (.lload_n 1, 1) := by decide +kernel
theorem d_Zone_firstChangeBehind_28 : decode c_Zone_firstChangeBehind 28 = .ok (.aload_n 0, 1) := by decide +kernel
theorem d_Zone_firstChangeBehind_29 : decode c_Zone_firstChangeBehind 29 = .ok (.getfield 21, 3) := by decide +kernel
theorem d_Zone_firstChangeBehind_32 : decode c_Zone_firstChangeBehind 32 = .ok (.aload_n 0, 1) := by decide +kernel
theorem d_Zone_firstChangeBehind_33 : decode c_Zone_firstChangeBehind 33 = .ok (.getfield 25, 3) := by decide +kernel
theorem d_Zone_firstChangeBehind_36 : decode c_Zone_firstChangeBehind 36 = .ok (.iadd, 1) := by decide +kernel
theorem d_Zone_firstChangeBehind_37 : decode c_Zone_firstChangeBehind 37 = .ok (.invokevirtual 59, 3) := by decide +kernel
theorem d_Zone_firstChangeBehind_40 : decode c_Zone_firstChangeBehind 40 = .ok (.invokestatic 62, 3) := by decide +kernel
theorem d_Zone_firstChangeBehind_43 : decode c_Zone_firstChangeBehind 43 = .ok (.lreturn, 1) := by decide +kernel
theorem d_Rule_firstBehind_0 : decode c_Rule_firstBehind 0 = .ok (.lload_n 1, 1) := by decide +kernel
theorem d_Rule_firstBehind_1 : decode c_Rule_firstBehind 1 = .ok (.iload_n 3, 1) := by decide +kernel
theorem d_Rule_firstBehind_2 : decode c_Rule_firstBehind 2 = .ok (.i2l, 1) := by decide +kernel
theorem d_Rule_firstBehind_3 : decode c_Rule_firstBehind 3 = .ok (.ldc2_w 24, 3) := by decide +kernel
theorem d_Rule_firstBehind_6 : decode c_Rule_firstBehind 6 = .ok (.lmul, 1) := by decide +kernel
theorem d_Rule_firstBehind_7 : decode c_Rule_firstBehind 7 = .ok (.ladd, 1) := by decide +kernel
theorem d_Rule_firstBehind_8 : decode c_Rule_firstBehind 8 = .ok (.lstore 4, 2) := by decide +kernel
theorem d_Rule_firstBehind_10 : decode c_Rule_firstBehind 10 = .ok (.lload 4, 2) := by decide +kernel
theorem d_Rule_firstBehind_12 : decode c_Rule_firstBehind 12 = .ok (.invokestatic 26, 3) := by decide +kernel
theorem d_Rule_firstBehind_15 : decode c_Rule_firstBehind 15 = .ok (.invokestatic 32, 3) := by decide +kernel
theorem d_Rule_firstBehind_18 : decode c_Rule_firstBehind 18 = .ok (.sipush 1970, 3) := by decide +kernel
theorem d_Rule_firstBehind_21 : decode c_Rule_firstBehind 21 = .ok (.invokestatic 48, 3) := by decide +kernel
theorem d_Rule_firstBehind_24 : decode c_Rule_firstBehind 24 = .ok (.istore 6, 2) := by decide +kernel
theorem d_Rule_firstBehind_26 : decode c_Rule_firstBehind 26 = .ok (.aload_n 0, 1) := by decide +kernel
theorem d_Rule_firstBehind_27 : decode c_Rule_firstBehind 27 = .ok (.iload 6, 2) := by decide +kernel
theorem d_Rule_firstBehind_29 : decode c_Rule_firstBehind 29 = .ok (.invokevirtual 42, 3) := by decide +kernel
theorem d_Rule_firstBehind_32 : decode c_Rule_firstBehind 32 = .ok (.lload 4, 2) := by decide +kernel
theorem d_Rule_firstBehind_34 : decode c_Rule_firstBehind 34 = .ok (.lcmp, 1) := by decide +kernel
theorem d_Rule_firstBehind_35 : decode c_Rule_firstBehind 35 = .ok (.ifCond .gt 6, 3) := by decide +kernel
theorem d_Rule_firstBehind_38 : decode c_Rule_firstBehind 38 = .ok (.iinc 6 1, 3) := by decide +kernel
theorem d_Rule_firstBehind_41 : decode c_Rule_firstBehind 41 = .ok (.iload 6, 2) := by decide +kernel
theorem d_Rule_firstBehind_43 : decode c_Rule_firstBehind 43 = .ok (.sipush 2299, 3) := by decide +kernel
theorem d_Rule_firstBehind_46 : decode c_Rule_firstBehind 46 = .ok (.if_icmp .le 9, 3) := by decide +kernel
theorem d_Rule_firstBehind_49 : decode c_Rule_firstBehind 49 = .ok (.ldc2_w 51, 3) := by decide +kernel
theorem d_Rule_firstBehind_52 : decode c_Rule_firstBehind 52 = .ok (.goto 16, 3) := by decide +kernel
theorem d_Rule_firstBehind_55 : decode c_Rule_firstBehind 55 = .ok (.aload_n 0, 1) := by decide +kernel
theorem d_Rule_firstBehind_56 : decode c_Rule_firstBehind 56 = .ok (.iload 6, 2) := by decide +kernel
theorem d_Rule_firstBehind_58 : decode c_Rule_firstBehind 58 = .ok (.invokevirtual 42, 3) := by decide +kernel
theorem d_Rule_firstBehind_61 : decode c_Rule_firstBehind 61 = .ok (.iload_n 3, 1) := by decide +kernel
theorem d_Rule_firstBehind_62 : decode c_Rule_firstBehind 62 = .ok (.i2l, 1) := by decide +kernel
theorem d_Rule_firstBehind_63 : decode c_Rule_firstBehind 63 = .ok (.ldc2_w 24, 3) := by decide +kernel
theorem d_Rule_firstBehind_66 : decode c_Rule_firstBehind 66 = .ok (.lmul, 1) := by decide +kernel
theorem d_Rule_firstBehind_67 : decode c_Rule_firstBehind 67 = .ok (.lsub, 1) := by decide +kernel
theorem d_Rule_firstBehind_68 : decode c_Rule_firstBehind 68 = .ok (.lreturn, 1) := by decide +kernel
theorem d_Math_maxI_0 : decode c_Math_maxI 0 = .ok (.iload_n 0, 1) := by decide +kernel
theorem d_Math_maxI_1 : decode c_Math_maxI 1 = .ok (.iload_n 1, 1) := by decide +kernel
theorem d_Math_maxI_2 : decode c_Math_maxI 2 = .ok (.if_icmp .lt 7, 3) := by decide +kernel
theorem d_Math_maxI_5 : decode c_Math_maxI 5 = .ok (.iload_n 0, 1) := by decide +kernel
theorem d_Math_maxI_6 : decode c_Math_maxI 6 = .ok (.goto 4, 3) := by decide +kernel
theorem d_Math_maxI_9 : decode c_Math_maxI 9 = .ok (.iload_n 1, 1) := by decide +kernel
theorem d_Math_maxI_10 : decode c_Math_maxI 10 = .ok (.ireturn, 1) := by decide +kernel
theorem d_Math_minJ_0 : decode c_Math_minJ 0 = .ok (.lload_n 0, 1) := by decide +kernel
theorem d_Math_minJ_1 : decode c_Math_minJ 1 = .ok (.lload_n 2, 1) := by decide +kernel
theorem d_Math_minJ_2 : decode c_Math_minJ 2 = .ok (.lcmp, 1) := by decide +kernel
theorem d_Math_minJ_3 : decode c_Math_minJ 3 = .ok (.ifCond .gt 7, 3) := by decide +kernel
theorem d_Math_minJ_6 : decode c_Math_minJ 6 = .ok (.lload_n 0, 1) := by decide +kernel
theorem d_Math_minJ_7 : decode c_Math_minJ 7 = .ok (.goto 4, 3) := by decide +kernel
theorem d_Math_minJ_10 : decode c_Math_minJ 10 = .ok (.lload_n 2, 1) := by decide +kernel
theorem d_Math_minJ_11 : decode c_Math_minJ 11 = .ok (.lreturn, 1) := by decide +kernel
theorem d_Clk_field_0 : decode c_Clk_field 0 = .ok (.aload_n 0, 1) := by decide +kernel
theorem d_Clk_field_1 : decode c_Clk_field 1 = .ok (.iload_n 1, 1) := by decide +kernel
theorem d_Clk_field_2 : decode c_Clk_field 2 = .ok (.invokevirtual 44, 3) := by decide +kernel
theorem d_Clk_field_5 : decode c_Clk_field 5 = .ok (.astore 5, 2) := by decide +kernel
theorem d_Clk_field_7 : decode c_Clk_field 7 = .ok (.lload_n 2, 1) := by decide +kernel
theorem d_Clk_field_8 : decode c_Clk_field 8 = .ok (.invokestatic 59, 3) := by decide +kernel
theorem d_Clk_field_11 : decode c_Clk_field 11 = .ok (.iload 4, 2) := by decide +kernel
theorem d_Clk_field_13 : decode c_Clk_field 13 = .ok (.ifCond .lt 10, 3) := by decide +kernel
theorem d_Clk_field_16 : decode c_Clk_field 16 = .ok (.iload 4, 2) := by decide +kernel
theorem d_Clk_field_18 : decode c_Clk_field 18 = .ok (.bipush 8, 2) := by decide +kernel
theorem d_Clk_field_20 : decode c_Clk_field 20 = .ok (.if_icmp .le 11, 3) := by decide +kernel
theorem d_Clk_field_23 : decode c_Clk_field 23 = .ok (.new 41, 3) := by decide +kernel
theorem d_Clk_field_26 : decode c_Clk_field 26 = .ok (.dup, 1) := by decide +kernel
theorem d_Clk_field_27 : decode c_Clk_field 27 = .ok (.invokespecial 43, 3) := by decide +kernel
theorem d_Clk_field_30 : decode c_Clk_field 30 = .ok (.athrow, 1) := by decide +kernel
theorem d_Clk_field_31 : decode c_Clk_field 31 = .ok (.iload 4, 2) := by decide +kernel
theorem d_Clk_field_33 : decode c_Clk_field 33 = .ok (.bipush 8, 2) := by decide +kernel
theorem d_Clk_field_35 : decode c_Clk_field 35 = .ok (.if_icmp .ne 18, 3) := by decide +kernel
theorem d_Clk_field_38 : decode c_Clk_field 38 = .ok (.aload 5, 2) := by decide +kernel
theorem d_Clk_field_40 : decode c_Clk_field 40 = .ok (.lload_n 2, 1) := by decide +kernel
theorem d_Clk_field_41 : decode c_Clk_field 41 = .ok (.invokevirtual 96, 3) := by decide +kernel
theorem d_Clk_field_44 : decode c_Clk_field 44 = .ok (.ifCond .eq 7, 3) := by decide +kernel
theorem d_Clk_field_47 : decode c_Clk_field 47 = .ok (.iconst 1, 1) := by decide +kernel
theorem d_Clk_field_48 : decode c_Clk_field 48 = .ok (.goto 4, 3) := by decide +kernel
theorem d_Clk_field_51 : decode c_Clk_field 51 = .ok (.iconst 0, 1) := by decide +kernel
theorem d_Clk_field_52 : decode c_Clk_field 52 = .ok (.ireturn, 1) := by decide +kernel
theorem d_Clk_field_53 : decode c_Clk_field 53 = .ok (.aload 5, 2) := by decide +kernel
theorem d_Clk_field_55 : decode c_Clk_field 55 = .ok (.lload_n 2, 1) := by decide +kernel
theorem d_Clk_field_56 : decode c_Clk_field 56 = .ok (.invokevirtual 63, 3) := by decide +kernel
theorem d_Clk_field_59 : decode c_Clk_field 59 = .ok (.istore 6, 2) := by decide +kernel
theorem d_Clk_field_61 : decode c_Clk_field 61 = .ok (.iload 4, 2) := by decide +kernel
theorem d_Clk_field_63 : decode c_Clk_field 63 = .ok (.bipush 7, 2) := by decide +kernel
theorem d_Clk_field_65 : decode c_Clk_field 65 = .ok (.if_icmp .ne 6, 3) := by decide +kernel
theorem d_Clk_field_68 : decode c_Clk_field 68 = .ok (.iload 6, 2) := by decide +kernel
theorem d_Clk_field_70 : decode c_Clk_field 70 = .ok (.ireturn, 1) := by decide +kernel
theorem d_Clk_field_71 : decode c_Clk_field 71 = .ok (.lload_n 2, 1) := by decide +kernel
theorem d_Clk_field_72 : decode c_Clk_field 72 = .ok (.iload 6, 2) := by decide +kernel
theorem d_Clk_field_74 : decode c_Clk_field 74 = .ok (.i2l, 1) := by decide +kernel
theorem d_Clk_field_75 : decode c_Clk_field 75 = .ok (.ldc2_w 67, 3) := by decide +kernel
theorem d_Clk_field_78 : decode c_Clk_field 78 = .ok (.lmul, 1) := by decide +kernel
theorem d_Clk_field_79 : decode c_Clk_field 79 = .ok (.ladd, 1) := by decide +kernel
theorem d_Clk_field_80 : decode c_Clk_field 80 = .ok (.iload 4, 2) := by decide +kernel
theorem d_Clk_field_82 : decode c_Clk_field 82 = .ok (.invokestatic 99, 3) := by decide +kernel
theorem d_Clk_field_85 : decode c_Clk_field 85 = .ok (.ireturn, 1) := by decide +kernel
theorem d_Cal_partOf_0 : decode c_Cal_partOf 0 = .ok (.lload_n 0, 1) := by decide +kernel
theorem d_Cal_partOf_1 : decode c_Cal_partOf 1 = .ok (.invokestatic 9, 3) := by decide +kernel
theorem d_Cal_partOf_4 : decode c_Cal_partOf 4 = .ok (.istore_n 3, 1) := by decide +kernel
theorem d_Cal_partOf_5 : decode c_Cal_partOf 5 = .ok (.iload_n 3, 1) := by decide +kernel
theorem d_Cal_partOf_6 : decode c_Cal_partOf 6 = .ok (.invokestatic 15, 3) := by decide +kernel
theorem d_Cal_partOf_9 : decode c_Cal_partOf 9 = .ok (.istore 4, 2) := by decide +kernel
theorem d_Cal_partOf_11 : decode c_Cal_partOf 11 = .ok (.iload_n 2, 1) := by decide +kernel
theorem d_Cal_partOf_12 : decode c_Cal_partOf 12 = .ok (.tableswitch 105 0 5 #[40, 53, 66, 79, 95, 102], 40) := by decide +kernel
theorem d_Cal_partOf_52 : decode c_Cal_partOf 52 = .ok (.lload_n 0, 1) := by decide +kernel
theorem d_Cal_partOf_53 : decode c_Cal_partOf 53 = .ok (.ldc2_w 19, 3) := by decide +kernel
theorem d_Cal_partOf_56 : decode c_Cal_partOf 56 = .ok (.invokestatic 21, 3) := by decide +kernel
theorem d_Cal_partOf_59 : decode c_Cal_partOf 59 = .ok (.ldc2_w 27, 3) := by decide +kernel
theorem d_Cal_partOf_62 : decode c_Cal_partOf 62 = .ok (.ldiv, 1) := by decide +kernel
theorem d_Cal_partOf_63 : decode c_Cal_partOf 63 = .ok (.l2i, 1) := by decide +kernel
theorem d_Cal_partOf_64 : decode c_Cal_partOf 64 = .ok (.ireturn, 1) := by decide +kernel
theorem d_Cal_partOf_65 : decode c_Cal_partOf 65 = .ok (.lload_n 0, 1) := by decide +kernel
theorem d_Cal_partOf_66 : decode c_Cal_partOf 66 = .ok (.ldc2_w 29, 3) := by decide +kernel
theorem d_Cal_partOf_69 : decode c_Cal_partOf 69 = .ok (.invokestatic 21, 3) := by decide +kernel
theorem d_Cal_partOf_72 : decode c_Cal_partOf 72 = .ok (.ldc2_w 19, 3) := by decide +kernel
theorem d_Cal_partOf_75 : decode c_Cal_partOf 75 = .ok (.ldiv, 1) := by decide +kernel
theorem d_Cal_partOf_76 : decode c_Cal_partOf 76 = .ok (.l2i, 1) := by decide +kernel
theorem d_Cal_partOf_77 : decode c_Cal_partOf 77 = .ok (.ireturn, 1) := by decide +kernel
theorem d_Cal_partOf_78 : decode c_Cal_partOf 78 = .ok (.lload_n 0, 1) := by decide +kernel
theorem d_Cal_partOf_79 : decode c_Cal_partOf 79 = .ok (.ldc2_w 31, 3) := by decide +kernel
theorem d_Cal_partOf_82 : decode c_Cal_partOf 82 = .ok (.invokestatic 21, 3) := by decide +kernel
theorem d_Cal_partOf_85 : decode c_Cal_partOf 85 = .ok (.ldc2_w 29, 3) := by decide +kernel
theorem d_Cal_partOf_88 : decode c_Cal_partOf 88 = .ok (.ldiv, 1) := by decide +kernel
theorem d_Cal_partOf_89 : decode c_Cal_partOf 89 = .ok (.l2i, 1) := by decide +kernel
theorem d_Cal_partOf_90 : decode c_Cal_partOf 90 = .ok (.ireturn, 1) := by decide +kernel
theorem d_Cal_partOf_91 : decode c_Cal_partOf 91 = .ok (.iload_n 3, 1) := by decide +kernel
theorem d_Cal_partOf_92 : decode c_Cal_partOf 92 = .ok (.iload 4, 2) := by decide +kernel
theorem d_Cal_partOf_94 : decode c_Cal_partOf 94 = .ok (.iload 4, 2) := by decide +kernel
theorem d_Cal_partOf_96 : decode c_Cal_partOf 96 = .ok (.iload_n 3, 1) := by decide +kernel
theorem d_Cal_partOf_97 : decode c_Cal_partOf 97 = .ok (.invokestatic 33, 3) := by decide +kernel
theorem d_Cal_partOf_100 : decode c_Cal_partOf 100 = .ok (.invokestatic 37, 3) := by decide +kernel
theorem d_Cal_partOf_103 : decode c_Cal_partOf 103 = .ok (.isub, 1) := by decide +kernel
theorem d_Cal_partOf_104 : decode c_Cal_partOf 104 = .ok (.iconst 1, 1) := by decide +kernel
theorem d_Cal_partOf_105 : decode c_Cal_partOf 105 = .ok (.iadd, 1) := by decide +kernel
theorem d_Cal_partOf_106 : decode c_Cal_partOf 106 = .ok (.ireturn, 1) := by decide +kernel
theorem d_Cal_partOf_107 : decode c_Cal_partOf 107 = .ok (.iload 4, 2) := by decide +kernel
theorem d_Cal_partOf_109 : decode c_Cal_partOf 109 = .ok (.iload_n 3, 1) := by decide +kernel
theorem d_Cal_partOf_110 : decode c_Cal_partOf 110 = .ok (.invokestatic 33, 3) := by decide +kernel
theorem d_Cal_partOf_113 : decode c_Cal_partOf 113 = .ok (.ireturn, 1) := by decide +kernel
theorem d_Cal_partOf_114 : decode c_Cal_partOf 114 = .ok (.iload 4, 2) := by decide +kernel
theorem d_Cal_partOf_116 : decode c_Cal_partOf 116 = .ok (.ireturn, 1) := by decide +kernel
theorem d_Cal_partOf_117 : decode c_Cal_partOf 117 = .ok (.iload_n 3, 1) := by decide +kernel
theorem d_Cal_partOf_118 : decode c_Cal_partOf 118 = .ok (.invokestatic 40, 3) := by decide +kernel
theorem d_Cal_partOf_121 : decode c_Cal_partOf 121 = .ok (.iconst 1, 1) := by decide +kernel
theorem d_Cal_partOf_122 : decode c_Cal_partOf 122 = .ok (.iadd, 1) := by decide +kernel
theorem d_Cal_partOf_123 : decode c_Cal_partOf 123 = .ok (.ireturn, 1) := by decide +kernel
theorem d_Math_floorModJ_0 : decode c_Math_floorModJ 0 = .ok (.lload_n 0, 1) := by decide +kernel
theorem d_Math_floorModJ_1 : decode c_Math_floorModJ 1 = .ok (.lload_n 2, 1) := by decide +kernel
theorem d_Math_floorModJ_2 : decode c_Math_floorModJ 2 = .ok (.lrem, 1) := by decide +kernel
theorem d_Math_floorModJ_3 : decode c_Math_floorModJ 3 = .ok (.lstore 4, 2) := by decide +kernel
theorem d_Math_floorModJ_5 : decode c_Math_floorModJ 5 = .ok (.lload_n 0, 1) := by decide +kernel
theorem d_Math_floorModJ_6 : decode c_Math_floorModJ 6 = .ok (.lload_n 2, 1) := by decide +kernel
theorem d_Math_floorModJ_7 : decode c_Math_floorModJ 7 = .ok (.lxor, 1) := by decide +kernel
theorem d_Math_floorModJ_8 : decode c_Math_floorModJ 8 = .ok (.lconst 0, 1) := by decide +kernel
theorem d_Math_floorModJ_9 : decode c_Math_floorModJ 9 = .ok (.lcmp, 1) := by decide +kernel
theorem d_Math_floorModJ_10 : decode c_Math_floorModJ 10 = .ok (.ifCond .ge 15, 3) := by decide +kernel
theorem d_Math_floorModJ_13 : decode c_Math_floorModJ 13 = .ok (.lload 4, 2) := by decide +kernel
theorem d_Math_floorModJ_15 : decode c_Math_floorModJ 15 = .ok (.lconst 0, 1) := by decide +kernel
theorem d_Math_floorModJ_16 : decode c_Math_floorModJ 16 = .ok (.lcmp, 1) := by decide +kernel
theorem d_Math_floorModJ_17 : decode c_Math_floorModJ 17 = .ok (.ifCond .eq 8, 3) := by decide +kernel
theorem d_Math_floorModJ_20 : decode c_Math_floorModJ 20 = .ok (.lload 4, 2) := by decide +kernel
theorem d_Math_floorModJ_22 : decode c_Math_floorModJ 22 = .ok (.lload_n 2, 1) := by decide +kernel
theorem d_Math_floorModJ_23 : decode c_Math_floorModJ 23 = .ok (.ladd, 1) := by decide +kernel
theorem d_Math_floorModJ_24 : decode c_Math_floorModJ 24 = .ok (.lreturn, 1) := by decide +kernel
theorem d_Math_floorModJ_25 : decode c_Math_floorModJ 25 = .ok (.lload 4, 2) := by decide +kernel
theorem d_Math_floorModJ_27 : decode c_Math_floorModJ 27 = .ok (.lreturn, 1) := by decide +kernel
theorem d_Cal_monthOf_0 : decode c_Cal_monthOf 0 = .ok (.iconst 1, 1) := by decide +kernel
theorem d_Cal_monthOf_1 : decode c_Cal_monthOf 1 = .ok (.istore_n 2, 1) := by decide +kernel
theorem d_Cal_monthOf_2 : decode c_Cal_monthOf 2 = .ok (.iload_n 2, 1) := by decide +kernel
theorem d_Cal_monthOf_3 : decode c_Cal_monthOf 3 = .ok (.bipush 12, 2) := by decide +kernel
theorem d_Cal_monthOf_5 : decode c_Cal_monthOf 5 = .ok (.if_icmp .ge 20, 3) := by decide +kernel
theorem d_Cal_monthOf_8 : decode c_Cal_monthOf 8 = .ok (.iload_n 0, 1) := by decide +kernel
theorem d_Cal_monthOf_9 : decode c_Cal_monthOf 9 = .ok (.iload_n 2, 1) := by decide +kernel
theorem d_Cal_monthOf_10 : decode c_Cal_monthOf 10 = .ok (.iconst 1, 1) := by decide +kernel
theorem d_Cal_monthOf_11 : decode c_Cal_monthOf 11 = .ok (.iadd, 1) := by decide +kernel
theorem d_Cal_monthOf_12 : decode c_Cal_monthOf 12 = .ok (.invokestatic 37, 3) := by decide +kernel
theorem d_Cal_monthOf_15 : decode c_Cal_monthOf 15 = .ok (.iload_n 1, 1) := by decide +kernel
theorem d_Cal_monthOf_16 : decode c_Cal_monthOf 16 = .ok (.if_icmp .gt 9, 3) := by decide +kernel
theorem d_Cal_monthOf_19 : decode c_Cal_monthOf 19 = .ok (.iinc 2 1, 3) := by decide +kernel
theorem d_Cal_monthOf_22 : decode c_Cal_monthOf 22 = .ok (.goto (-20), 3) := by decide +kernel
theorem d_Cal_monthOf_25 : decode c_Cal_monthOf 25 = .ok (.iload_n 2, 1) := by decide +kernel
theorem d_Cal_monthOf_26 : decode c_Cal_monthOf 26 = .ok (.ireturn, 1) := by decide +kernel
